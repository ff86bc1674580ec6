/-! laid by wip/whole/dec.py -/
noncomputable def f_X6_thrown (G : gG) (a0 : Nat) (S : gS) : Option Int32 := gd (gis G 3 a0) <| some (gI S 30 a0)
set_option maxRecDepth 100000 in
set_option maxHeartbeats 4000000 in
theorem k_X6_thrown {ad : Nat → Nat} {G : gG} {a0 : Nat} {S : gS} {T : gT} {r : Int32} (h : f_X6_thrown G a0 S = some r) : Ct ad yX6_thrown (Cond.code yX6_thrown cX6_thrown 1 (some .int) :: gTb) 0 0 0 [.ref a0] G S T (some (.int r)) G S T := by
  refine Ct.ofB rfl (Nat.le_of_ble_eq_true rfl) rfl (fun K g e hK => ?_)
  obtain ⟨rfl, -⟩ := hK
  show Xj K [] G 0 [some (.ref a0)] [] S T 0 0
  unfold f_X6_thrown at h
  refine x_aload_n 0 g dX6_thrown_0 rfl rfl ?_
  obtain ⟨q_1, h⟩ := gd_e h
  refine x_geti g dX6_thrown_1 gXX6 0 30 rfl (by decide) rfl lf_X6_1 q_1 ?_
  cases h
  exact x_iretS g e dX6_thrown_4 rfl rfl
noncomputable def f_X6_fails (G : gG) (a0 : Nat) (a1 : Int32) (S : gS) : Option (Int32 × gS) := gd (gis G 3 a0) <| glt (sI S 30 a0 a1) fun (S_2 : gS) => some (0, S_2)
set_option maxRecDepth 100000 in
set_option maxHeartbeats 4000000 in
theorem k_X6_fails {ad : Nat → Nat} {G : gG} {a0 : Nat} {a1 : Int32} {S S1 : gS} {T : gT} {r : Int32} (h : f_X6_fails G a0 a1 S = some (r, S1)) : Ct ad yX6_fails (Cond.code yX6_fails cX6_fails 2 (some .int) :: gTb) 0 0 0 [.ref a0, .int a1] G S T (some (.int r)) G S1 T := by
  refine Ct.ofB rfl (Nat.le_of_ble_eq_true rfl) rfl (fun K g e hK => ?_)
  obtain ⟨rfl, -⟩ := hK
  show Xj K [] G 0 [some (.ref a0), some (.int a1)] [] S T 0 0
  unfold f_X6_fails at h
  refine x_aload_n 0 g dX6_fails_0 rfl rfl ?_
  refine x_iload_n 1 g dX6_fails_1 rfl rfl ?_
  obtain ⟨q_1, h⟩ := gd_e h
  refine x_puti g dX6_fails_2 gXX6 0 30 rfl (by decide) rfl rfl lf_X6_1 rfl rfl q_1 ?_
  refine x_nS (fun S_2 e_3 => ?_)
  have h := glt_e e_3 h
  refine x_iconst (v := 0) g dX6_fails_5 (by decide) ?_
  cases h
  exact x_iretS g e dX6_fails_6 rfl rfl
noncomputable def f_X6_isBetween (a0 : Int32) (a1 : Int32) (a2 : Int32) : Option Bool := if a0 < a1 then (some false) else (if a2 < a0 then (some false) else (some true))
set_option maxRecDepth 100000 in
set_option maxHeartbeats 4000000 in
theorem k_X6_isBetween {ad : Nat → Nat} {G : gG} {a0 : Int32} {a1 : Int32} {a2 : Int32} {S : gS} {T : gT} {r : Bool} (h : f_X6_isBetween a0 a1 a2 = some r) : Ct ad yX6_isBetween (Cond.code yX6_isBetween cX6_isBetween 3 (some .boolean) :: gTb) 0 0 0 [.int a0, .int a1, .int a2] G S T (some (.int (gz r))) G S T := by
  refine Ct.ofB rfl (Nat.le_of_ble_eq_true rfl) rfl (fun K g e hK => ?_)
  obtain ⟨rfl, -⟩ := hK
  show Xj K [] G 0 [some (.int a0), some (.int a1), some (.int a2)] [] S T 0 0
  unfold f_X6_isBetween at h
  refine x_iload_n 1 g dX6_isBetween_0 rfl rfl ?_
  refine x_iload_n 0 g dX6_isBetween_1 rfl rfl ?_
  refine x_icmp_gt 14 g dX6_isBetween_2 (by decide) (fun c_1 => ?_) (fun c_1 => ?_)
  · have h := ite_t c_1 h
    refine x_iconst (v := 0) g dX6_isBetween_14 (by decide) ?_
    cases h
    exact x_zretS (b := false) g e dX6_isBetween_15 rfl rfl rfl
  · have h := ite_f c_1 h
    refine x_iload_n 0 g dX6_isBetween_5 rfl rfl ?_
    refine x_iload_n 2 g dX6_isBetween_6 rfl rfl ?_
    refine x_icmp_gt 14 g dX6_isBetween_7 (by decide) (fun c_2 => ?_) (fun c_2 => ?_)
    · have h := ite_t c_2 h
      refine x_iconst (v := 0) g dX6_isBetween_14 (by decide) ?_
      cases h
      exact x_zretS (b := false) g e dX6_isBetween_15 rfl rfl rfl
    · have h := ite_f c_2 h
      refine x_iconst (v := 1) g dX6_isBetween_10 (by decide) ?_
      refine x_goto 15 g dX6_isBetween_11 (by decide) ?_
      cases h
      exact x_zretS (b := true) g e dX6_isBetween_15 rfl rfl rfl
noncomputable def f_X6_copies_L2 (G : gG) (a0 : Nat) : Nat → Int32 → gS → Option gS
  | 0, _, _ => none
  | n2 + 1, x1, S => if 176 ≤ x1 then (some S) else (gd (gis G 3 a0) <| gb (gP S 13 a0) fun (b_3 : Nat) => gb (gP S 10 a0) fun (b_5 : Nat) => gd (gis G 7 b_5) <| gd (vp_in x1 (gn G b_5)) <| gd (gis G 7 b_3) <| gd (vp_in x1 (gn G b_3)) <| glt (sr S b_3 (Int32.toNatClampNeg x1) (gr S b_5 (Int32.toNatClampNeg x1))) fun (S_11 : gS) => glt (x1 + 1) fun (x1_13 : Int32) => f_X6_copies_L2 G a0 n2 x1_13 S_11)
noncomputable def f_X6_copies (G : gG) (a0 : Nat) (S : gS) : Option gS := f_X6_copies_L2 G a0 gN 0 S
set_option maxRecDepth 100000 in
set_option maxHeartbeats 4000000 in
theorem k_X6_copies {ad : Nat → Nat} {G : gG} {a0 : Nat} {S S1 : gS} {T : gT} (h : f_X6_copies G a0 S = some S1) : Ct ad yX6_copies (Cond.code yX6_copies cX6_copies 2 none :: gTb) 0 0 0 [.ref a0] G S T none G S1 T := by
  refine Ct.ofB rfl (Nat.le_of_ble_eq_true rfl) rfl (fun K g e hK => ?_)
  obtain ⟨rfl, -⟩ := hK
  show Xj K [] G 0 [some (.ref a0), none] [] S T 0 0
  unfold f_X6_copies at h
  refine x_iconst (v := 0) g dX6_copies_0 (by decide) ?_
  refine x_istore_n 1 g dX6_copies_1 rfl (Nat.le_of_ble_eq_true rfl) rfl ?_
  have L2 : ∀ (n2 : Nat) (x1 : Int32) (S : gS), f_X6_copies_L2 G a0 n2 x1 S = some S1 → Xj K [] G 2 [some (.ref a0), some (.int x1)] [] S T 0 0 := by
    intro n2
    induction n2 with
    | zero =>
      intro x1 S h
      rw [f_X6_copies_L2] at h
      cases h
    | succ n2 ih =>
      intro x1 S h
      rw [f_X6_copies_L2] at h
      refine x_iload_n 1 g dX6_copies_2 rfl rfl ?_
      refine x_sipush (v := 176) g dX6_copies_3 (by decide) ?_
      refine x_icmp_ge 27 g dX6_copies_6 (by decide) (fun c_1 => ?_) (fun c_1 => ?_)
      · have h := ite_t c_1 h
        cases h
        exact x_vretS g e dX6_copies_27 rfl
      · have h := ite_f c_1 h
        refine x_aload_n 0 g dX6_copies_9 rfl rfl ?_
        obtain ⟨q_2, h⟩ := gd_e h
        obtain ⟨b_3, e_4, h⟩ := gb_e h
        refine x_getr g dX6_copies_10 gXX6 4 13 rfl (by decide) rfl lf_X6_23 q_2 e_4 ?_
        refine x_iload_n 1 g dX6_copies_13 rfl rfl ?_
        refine x_aload_n 0 g dX6_copies_14 rfl rfl ?_
        obtain ⟨b_5, e_6, h⟩ := gb_e h
        refine x_getr g dX6_copies_15 gXX6 1 10 rfl (by decide) rfl lf_X6_13 q_2 e_6 ?_
        refine x_iload_n 1 g dX6_copies_18 rfl rfl ?_
        obtain ⟨q_7, h⟩ := gd_e h
        obtain ⟨q_8, h⟩ := gd_e h
        refine x_iald g dX6_copies_19 q_7 q_8 ?_
        obtain ⟨q_9, h⟩ := gd_e h
        obtain ⟨q_10, h⟩ := gd_e h
        refine x_iast g dX6_copies_20 q_9 q_10 ?_
        refine x_nS (fun S_11 e_12 => ?_)
        have h := glt_e e_12 h
        obtain ⟨x1_13, e_14⟩ : ∃ z : Int32, z = x1 + 1 := ⟨_, rfl⟩
        have h := glt_e e_14 h
        refine x_iinc (v := x1_13) g dX6_copies_21 rfl (by rw [e_14]; rfl) rfl ?_
        refine x_goto 2 g dX6_copies_24 (by decide) ?_
        exact ih _ _ h
  exact L2 gN _ _ h
noncomputable def f_X6_goesBack_L2 (G : gG) (a0 : Nat) : Nat → Int32 → gS → Option gS
  | 0, _, _ => none
  | n2 + 1, x1, S => if 176 ≤ x1 then (some S) else (gd (gis G 3 a0) <| gb (gP S 10 a0) fun (b_3 : Nat) => gb (gP S 13 a0) fun (b_5 : Nat) => gd (gis G 7 b_5) <| gd (vp_in x1 (gn G b_5)) <| gd (gis G 7 b_3) <| gd (vp_in x1 (gn G b_3)) <| glt (sr S b_3 (Int32.toNatClampNeg x1) (gr S b_5 (Int32.toNatClampNeg x1))) fun (S_11 : gS) => glt (x1 + 1) fun (x1_13 : Int32) => f_X6_goesBack_L2 G a0 n2 x1_13 S_11)
noncomputable def f_X6_goesBack (G : gG) (a0 : Nat) (S : gS) : Option gS := f_X6_goesBack_L2 G a0 gN 0 S
set_option maxRecDepth 100000 in
set_option maxHeartbeats 4000000 in
theorem k_X6_goesBack {ad : Nat → Nat} {G : gG} {a0 : Nat} {S S1 : gS} {T : gT} (h : f_X6_goesBack G a0 S = some S1) : Ct ad yX6_goesBack (Cond.code yX6_goesBack cX6_goesBack 2 none :: gTb) 0 0 0 [.ref a0] G S T none G S1 T := by
  refine Ct.ofB rfl (Nat.le_of_ble_eq_true rfl) rfl (fun K g e hK => ?_)
  obtain ⟨rfl, -⟩ := hK
  show Xj K [] G 0 [some (.ref a0), none] [] S T 0 0
  unfold f_X6_goesBack at h
  refine x_iconst (v := 0) g dX6_goesBack_0 (by decide) ?_
  refine x_istore_n 1 g dX6_goesBack_1 rfl (Nat.le_of_ble_eq_true rfl) rfl ?_
  have L2 : ∀ (n2 : Nat) (x1 : Int32) (S : gS), f_X6_goesBack_L2 G a0 n2 x1 S = some S1 → Xj K [] G 2 [some (.ref a0), some (.int x1)] [] S T 0 0 := by
    intro n2
    induction n2 with
    | zero =>
      intro x1 S h
      rw [f_X6_goesBack_L2] at h
      cases h
    | succ n2 ih =>
      intro x1 S h
      rw [f_X6_goesBack_L2] at h
      refine x_iload_n 1 g dX6_goesBack_2 rfl rfl ?_
      refine x_sipush (v := 176) g dX6_goesBack_3 (by decide) ?_
      refine x_icmp_ge 27 g dX6_goesBack_6 (by decide) (fun c_1 => ?_) (fun c_1 => ?_)
      · have h := ite_t c_1 h
        cases h
        exact x_vretS g e dX6_goesBack_27 rfl
      · have h := ite_f c_1 h
        refine x_aload_n 0 g dX6_goesBack_9 rfl rfl ?_
        obtain ⟨q_2, h⟩ := gd_e h
        obtain ⟨b_3, e_4, h⟩ := gb_e h
        refine x_getr g dX6_goesBack_10 gXX6 1 10 rfl (by decide) rfl lf_X6_13 q_2 e_4 ?_
        refine x_iload_n 1 g dX6_goesBack_13 rfl rfl ?_
        refine x_aload_n 0 g dX6_goesBack_14 rfl rfl ?_
        obtain ⟨b_5, e_6, h⟩ := gb_e h
        refine x_getr g dX6_goesBack_15 gXX6 4 13 rfl (by decide) rfl lf_X6_23 q_2 e_6 ?_
        refine x_iload_n 1 g dX6_goesBack_18 rfl rfl ?_
        obtain ⟨q_7, h⟩ := gd_e h
        obtain ⟨q_8, h⟩ := gd_e h
        refine x_iald g dX6_goesBack_19 q_7 q_8 ?_
        obtain ⟨q_9, h⟩ := gd_e h
        obtain ⟨q_10, h⟩ := gd_e h
        refine x_iast g dX6_goesBack_20 q_9 q_10 ?_
        refine x_nS (fun S_11 e_12 => ?_)
        have h := glt_e e_12 h
        obtain ⟨x1_13, e_14⟩ : ∃ z : Int32, z = x1 + 1 := ⟨_, rfl⟩
        have h := glt_e e_14 h
        refine x_iinc (v := x1_13) g dX6_goesBack_21 rfl (by rw [e_14]; rfl) rfl ?_
        refine x_goto 2 g dX6_goesBack_24 (by decide) ?_
        exact ih _ _ h
  exact L2 gN _ _ h
noncomputable def f_X6_keeps_L47 (G : gG) (a0 : Nat) : Nat → Int32 → Int32 → gS → Option gS
  | 0, _, _, _ => none
  | n47 + 1, x1, x2, S => if 176 ≤ x2 then (gd (gis G 3 a0) <| glt (sI S 31 a0 ((gI S 31 a0) + 1)) fun (S_7 : gS) => some S_7) else (gd (gis G 3 a0) <| gb (gP S 11 a0) fun (b_10 : Nat) => gb (gP S 13 a0) fun (b_12 : Nat) => gd (gis G 7 b_12) <| gd (vp_in x2 (gn G b_12)) <| gd (gis G 7 b_10) <| gd (vp_in ((176 * x1) + x2) (gn G b_10)) <| glt (sr S b_10 (Int32.toNatClampNeg ((176 * x1) + x2)) (gr S b_12 (Int32.toNatClampNeg x2))) fun (S_18 : gS) => glt (x2 + 1) fun (x2_20 : Int32) => f_X6_keeps_L47 G a0 n47 x1 x2_20 S_18)
noncomputable def f_X6_keeps (G : gG) (a0 : Nat) (S : gS) : Option gS := gd (gis G 3 a0) <| if (gI S 31 a0) = 8 then (glt (sI S 32 a0 (((gI S 32 a0) + 1) - ((gI S 32 a0) + 1) / 8 * 8)) fun (S_22 : gS) => glt (sI S_22 31 a0 ((gI S_22 31 a0) - 1)) fun (S_24 : gS) => glt (((gI S_24 32 a0) + (gI S_24 31 a0)) - ((gI S_24 32 a0) + (gI S_24 31 a0)) / 8 * 8) fun (x1_26 : Int32) => f_X6_keeps_L47 G a0 gN x1_26 0 S_24) else (glt (((gI S 32 a0) + (gI S 31 a0)) - ((gI S 32 a0) + (gI S 31 a0)) / 8 * 8) fun (x1_3 : Int32) => f_X6_keeps_L47 G a0 gN x1_3 0 S)
set_option maxRecDepth 100000 in
set_option maxHeartbeats 4000000 in
theorem k_X6_keeps {ad : Nat → Nat} {G : gG} {a0 : Nat} {S S1 : gS} {T : gT} (h : f_X6_keeps G a0 S = some S1) : Ct ad yX6_keeps (Cond.code yX6_keeps cX6_keeps 3 none :: gTb) 0 0 0 [.ref a0] G S T none G S1 T := by
  refine Ct.ofB rfl (Nat.le_of_ble_eq_true rfl) rfl (fun K g e hK => ?_)
  obtain ⟨rfl, -⟩ := hK
  show Xj K [] G 0 [some (.ref a0), none, none] [] S T 0 0
  unfold f_X6_keeps at h
  refine x_aload_n 0 g dX6_keeps_0 rfl rfl ?_
  obtain ⟨q_1, h⟩ := gd_e h
  refine x_geti g dX6_keeps_1 gXX6 5 31 rfl (by decide) rfl lf_X6_42 q_1 ?_
  refine x_bipush (v := 8) g dX6_keeps_4 (by decide) ?_
  refine x_icmp_ne 32 g dX6_keeps_6 (by decide) (fun c_2 => ?_) (fun c_2 => ?_)
  · have h := ite_f c_2 h
    refine x_aload_n 0 g dX6_keeps_32 rfl rfl ?_
    refine x_geti g dX6_keeps_33 gXX6 6 32 rfl (by decide) rfl lf_X6_45 q_1 ?_
    refine x_aload_n 0 g dX6_keeps_36 rfl rfl ?_
    refine x_geti g dX6_keeps_37 gXX6 5 31 rfl (by decide) rfl lf_X6_42 q_1 ?_
    refine x_iadd g dX6_keeps_40 ?_
    refine x_bipush (v := 8) g dX6_keeps_41 (by decide) ?_
    refine x_irem g dX6_keeps_43 (by decide) ?_
    refine x_nI (fun x1_3 e_4 => ?_)
    have h := glt_e e_4 h
    refine x_istore_n 1 g dX6_keeps_44 rfl (Nat.le_of_ble_eq_true rfl) rfl ?_
    refine x_iconst (v := 0) g dX6_keeps_45 (by decide) ?_
    refine x_istore_n 2 g dX6_keeps_46 rfl (Nat.le_of_ble_eq_true rfl) rfl ?_
    have L47 : ∀ (n47 : Nat) (x1 : Int32) (x2 : Int32) (S : gS), f_X6_keeps_L47 G a0 n47 x1 x2 S = some S1 → Xj K [] G 47 [some (.ref a0), some (.int x1), some (.int x2)] [] S T 0 0 := by
      intro n47
      induction n47 with
      | zero =>
        intro x1 x2 S h
        rw [f_X6_keeps_L47] at h
        cases h
      | succ n47 ih =>
        intro x1 x2 S h
        rw [f_X6_keeps_L47] at h
        refine x_iload_n 2 g dX6_keeps_47 rfl rfl ?_
        refine x_sipush (v := 176) g dX6_keeps_48 (by decide) ?_
        refine x_icmp_ge 78 g dX6_keeps_51 (by decide) (fun c_5 => ?_) (fun c_5 => ?_)
        · have h := ite_t c_5 h
          refine x_aload_n 0 g dX6_keeps_78 rfl rfl ?_
          refine x_dup g dX6_keeps_79 rfl ?_
          obtain ⟨q_6, h⟩ := gd_e h
          refine x_geti g dX6_keeps_80 gXX6 5 31 rfl (by decide) rfl lf_X6_42 q_6 ?_
          refine x_iconst (v := 1) g dX6_keeps_83 (by decide) ?_
          refine x_iadd g dX6_keeps_84 ?_
          refine x_puti g dX6_keeps_85 gXX6 5 31 rfl (by decide) rfl rfl lf_X6_42 rfl rfl q_6 ?_
          refine x_nS (fun S_7 e_8 => ?_)
          have h := glt_e e_8 h
          cases h
          exact x_vretS g e dX6_keeps_88 rfl
        · have h := ite_f c_5 h
          refine x_aload_n 0 g dX6_keeps_54 rfl rfl ?_
          obtain ⟨q_9, h⟩ := gd_e h
          obtain ⟨b_10, e_11, h⟩ := gb_e h
          refine x_getr g dX6_keeps_55 gXX6 2 11 rfl (by decide) rfl lf_X6_17 q_9 e_11 ?_
          refine x_sipush (v := 176) g dX6_keeps_58 (by decide) ?_
          refine x_iload_n 1 g dX6_keeps_61 rfl rfl ?_
          refine x_imul g dX6_keeps_62 ?_
          refine x_iload_n 2 g dX6_keeps_63 rfl rfl ?_
          refine x_iadd g dX6_keeps_64 ?_
          refine x_aload_n 0 g dX6_keeps_65 rfl rfl ?_
          obtain ⟨b_12, e_13, h⟩ := gb_e h
          refine x_getr g dX6_keeps_66 gXX6 4 13 rfl (by decide) rfl lf_X6_23 q_9 e_13 ?_
          refine x_iload_n 2 g dX6_keeps_69 rfl rfl ?_
          obtain ⟨q_14, h⟩ := gd_e h
          obtain ⟨q_15, h⟩ := gd_e h
          refine x_iald g dX6_keeps_70 q_14 q_15 ?_
          obtain ⟨q_16, h⟩ := gd_e h
          obtain ⟨q_17, h⟩ := gd_e h
          refine x_iast g dX6_keeps_71 q_16 q_17 ?_
          refine x_nS (fun S_18 e_19 => ?_)
          have h := glt_e e_19 h
          obtain ⟨x2_20, e_21⟩ : ∃ z : Int32, z = x2 + 1 := ⟨_, rfl⟩
          have h := glt_e e_21 h
          refine x_iinc (v := x2_20) g dX6_keeps_72 rfl (by rw [e_21]; rfl) rfl ?_
          refine x_goto 47 g dX6_keeps_75 (by decide) ?_
          exact ih _ _ _ h
    exact L47 gN _ _ _ h
  · have h := ite_t c_2 h
    refine x_aload_n 0 g dX6_keeps_9 rfl rfl ?_
    refine x_aload_n 0 g dX6_keeps_10 rfl rfl ?_
    refine x_geti g dX6_keeps_11 gXX6 6 32 rfl (by decide) rfl lf_X6_45 q_1 ?_
    refine x_iconst (v := 1) g dX6_keeps_14 (by decide) ?_
    refine x_iadd g dX6_keeps_15 ?_
    refine x_bipush (v := 8) g dX6_keeps_16 (by decide) ?_
    refine x_irem g dX6_keeps_18 (by decide) ?_
    refine x_puti g dX6_keeps_19 gXX6 6 32 rfl (by decide) rfl rfl lf_X6_45 rfl rfl q_1 ?_
    refine x_nS (fun S_22 e_23 => ?_)
    have h := glt_e e_23 h
    refine x_aload_n 0 g dX6_keeps_22 rfl rfl ?_
    refine x_dup g dX6_keeps_23 rfl ?_
    refine x_geti g dX6_keeps_24 gXX6 5 31 rfl (by decide) rfl lf_X6_42 q_1 ?_
    refine x_iconst (v := 1) g dX6_keeps_27 (by decide) ?_
    refine x_isub g dX6_keeps_28 ?_
    refine x_puti g dX6_keeps_29 gXX6 5 31 rfl (by decide) rfl rfl lf_X6_42 rfl rfl q_1 ?_
    refine x_nS (fun S_24 e_25 => ?_)
    have h := glt_e e_25 h
    refine x_aload_n 0 g dX6_keeps_32 rfl rfl ?_
    refine x_geti g dX6_keeps_33 gXX6 6 32 rfl (by decide) rfl lf_X6_45 q_1 ?_
    refine x_aload_n 0 g dX6_keeps_36 rfl rfl ?_
    refine x_geti g dX6_keeps_37 gXX6 5 31 rfl (by decide) rfl lf_X6_42 q_1 ?_
    refine x_iadd g dX6_keeps_40 ?_
    refine x_bipush (v := 8) g dX6_keeps_41 (by decide) ?_
    refine x_irem g dX6_keeps_43 (by decide) ?_
    refine x_nI (fun x1_26 e_27 => ?_)
    have h := glt_e e_27 h
    refine x_istore_n 1 g dX6_keeps_44 rfl (Nat.le_of_ble_eq_true rfl) rfl ?_
    refine x_iconst (v := 0) g dX6_keeps_45 (by decide) ?_
    refine x_istore_n 2 g dX6_keeps_46 rfl (Nat.le_of_ble_eq_true rfl) rfl ?_
    have L47 : ∀ (n47 : Nat) (x1 : Int32) (x2 : Int32) (S : gS), f_X6_keeps_L47 G a0 n47 x1 x2 S = some S1 → Xj K [] G 47 [some (.ref a0), some (.int x1), some (.int x2)] [] S T 0 0 := by
      intro n47
      induction n47 with
      | zero =>
        intro x1 x2 S h
        rw [f_X6_keeps_L47] at h
        cases h
      | succ n47 ih =>
        intro x1 x2 S h
        rw [f_X6_keeps_L47] at h
        refine x_iload_n 2 g dX6_keeps_47 rfl rfl ?_
        refine x_sipush (v := 176) g dX6_keeps_48 (by decide) ?_
        refine x_icmp_ge 78 g dX6_keeps_51 (by decide) (fun c_28 => ?_) (fun c_28 => ?_)
        · have h := ite_t c_28 h
          refine x_aload_n 0 g dX6_keeps_78 rfl rfl ?_
          refine x_dup g dX6_keeps_79 rfl ?_
          obtain ⟨q_29, h⟩ := gd_e h
          refine x_geti g dX6_keeps_80 gXX6 5 31 rfl (by decide) rfl lf_X6_42 q_29 ?_
          refine x_iconst (v := 1) g dX6_keeps_83 (by decide) ?_
          refine x_iadd g dX6_keeps_84 ?_
          refine x_puti g dX6_keeps_85 gXX6 5 31 rfl (by decide) rfl rfl lf_X6_42 rfl rfl q_29 ?_
          refine x_nS (fun S_30 e_31 => ?_)
          have h := glt_e e_31 h
          cases h
          exact x_vretS g e dX6_keeps_88 rfl
        · have h := ite_f c_28 h
          refine x_aload_n 0 g dX6_keeps_54 rfl rfl ?_
          obtain ⟨q_32, h⟩ := gd_e h
          obtain ⟨b_33, e_34, h⟩ := gb_e h
          refine x_getr g dX6_keeps_55 gXX6 2 11 rfl (by decide) rfl lf_X6_17 q_32 e_34 ?_
          refine x_sipush (v := 176) g dX6_keeps_58 (by decide) ?_
          refine x_iload_n 1 g dX6_keeps_61 rfl rfl ?_
          refine x_imul g dX6_keeps_62 ?_
          refine x_iload_n 2 g dX6_keeps_63 rfl rfl ?_
          refine x_iadd g dX6_keeps_64 ?_
          refine x_aload_n 0 g dX6_keeps_65 rfl rfl ?_
          obtain ⟨b_35, e_36, h⟩ := gb_e h
          refine x_getr g dX6_keeps_66 gXX6 4 13 rfl (by decide) rfl lf_X6_23 q_32 e_36 ?_
          refine x_iload_n 2 g dX6_keeps_69 rfl rfl ?_
          obtain ⟨q_37, h⟩ := gd_e h
          obtain ⟨q_38, h⟩ := gd_e h
          refine x_iald g dX6_keeps_70 q_37 q_38 ?_
          obtain ⟨q_39, h⟩ := gd_e h
          obtain ⟨q_40, h⟩ := gd_e h
          refine x_iast g dX6_keeps_71 q_39 q_40 ?_
          refine x_nS (fun S_41 e_42 => ?_)
          have h := glt_e e_42 h
          obtain ⟨x2_43, e_44⟩ : ∃ z : Int32, z = x2 + 1 := ⟨_, rfl⟩
          have h := glt_e e_44 h
          refine x_iinc (v := x2_43) g dX6_keeps_72 rfl (by rw [e_44]; rfl) rfl ?_
          refine x_goto 47 g dX6_keeps_75 (by decide) ?_
          exact ih _ _ _ h
    exact L47 gN _ _ _ h
noncomputable def f_X6_remembers (G : gG) (a0 : Nat) (S : gS) : Option gS := gd (gis G 3 a0) <| gb (f_X6_copies G a0 S) fun (S_3 : gS) => gb (f_X6_keeps G a0 S_3) fun (S_5 : gS) => some S_5
set_option maxRecDepth 100000 in
set_option maxHeartbeats 4000000 in
theorem k_X6_remembers {ad : Nat → Nat} {G : gG} {a0 : Nat} {S S1 : gS} {T : gT} (h : f_X6_remembers G a0 S = some S1) : Ct ad yX6_remembers (Cond.code yX6_remembers cX6_remembers 1 none :: gTb) 1 0 0 [.ref a0] G S T none G S1 T := by
  refine Ct.ofB rfl (Nat.le_of_ble_eq_true rfl) rfl (fun K g e hK => ?_)
  obtain ⟨rfl, -⟩ := hK
  show Xj K [] G 0 [some (.ref a0)] [] S T 0 0
  unfold f_X6_remembers at h
  refine x_aload_n 0 g dX6_remembers_0 rfl rfl ?_
  obtain ⟨q_1, h⟩ := gd_e h
  obtain ⟨S_3, q_2, h⟩ := gb_e h
  refine x_cV [] g (k_X6_copies q_2) ca_X6_copies in_X6_copies se_X6_copies lm_X6_48 gXX6 q_1 (Nat.le_of_ble_eq_true rfl) rfl rfl (Nat.le_of_ble_eq_true rfl) dX6_remembers_1 rfl ?_
  refine x_aload_n 0 g dX6_remembers_4 rfl rfl ?_
  obtain ⟨S_5, q_4, h⟩ := gb_e h
  refine x_cV [] g (k_X6_keeps q_4) ca_X6_keeps in_X6_keeps se_X6_keeps lm_X6_51 gXX6 q_1 (Nat.le_of_ble_eq_true rfl) rfl rfl (Nat.le_of_ble_eq_true rfl) dX6_remembers_5 rfl ?_
  cases h
  exact x_vretS g e dX6_remembers_8 rfl
noncomputable def f_X6_isUmbrella (G : gG) (a0 : Nat) (a1 : Int32) (S : gS) : Option Bool := gd (gis G 3 a0) <| gb (gP S 10 a0) fun (b_2 : Nat) => gd (gis G 7 b_2) <| gd (vp_in 0 (gn G b_2)) <| gb (f_X6_isBetween a1 0 ((gr S b_2 (Int32.toNatClampNeg 0)) - 1)) fun (r_7 : Bool) => some r_7
set_option maxRecDepth 100000 in
set_option maxHeartbeats 4000000 in
theorem k_X6_isUmbrella {ad : Nat → Nat} {G : gG} {a0 : Nat} {a1 : Int32} {S : gS} {T : gT} {r : Bool} (h : f_X6_isUmbrella G a0 a1 S = some r) : Ct ad yX6_isUmbrella (Cond.code yX6_isUmbrella cX6_isUmbrella 2 (some .boolean) :: gTb) 1 0 0 [.ref a0, .int a1] G S T (some (.int (gz r))) G S T := by
  refine Ct.ofB rfl (Nat.le_of_ble_eq_true rfl) rfl (fun K g e hK => ?_)
  obtain ⟨rfl, -⟩ := hK
  show Xj K [] G 0 [some (.ref a0), some (.int a1)] [] S T 0 0
  unfold f_X6_isUmbrella at h
  refine x_iload_n 1 g dX6_isUmbrella_0 rfl rfl ?_
  refine x_iconst (v := 0) g dX6_isUmbrella_1 (by decide) ?_
  refine x_aload_n 0 g dX6_isUmbrella_2 rfl rfl ?_
  obtain ⟨q_1, h⟩ := gd_e h
  obtain ⟨b_2, e_3, h⟩ := gb_e h
  refine x_getr g dX6_isUmbrella_3 gXX6 1 10 rfl (by decide) rfl lf_X6_13 q_1 e_3 ?_
  refine x_iconst (v := 0) g dX6_isUmbrella_6 (by decide) ?_
  obtain ⟨q_4, h⟩ := gd_e h
  obtain ⟨q_5, h⟩ := gd_e h
  refine x_iald g dX6_isUmbrella_7 q_4 q_5 ?_
  refine x_iconst (v := 1) g dX6_isUmbrella_8 (by decide) ?_
  refine x_isub g dX6_isUmbrella_9 ?_
  obtain ⟨r_7, q_6, h⟩ := gb_e h
  refine x_cS [.int (gz r_7)] g (k_X6_isBetween q_6) ca_X6_isBetween st_X6_isBetween lm_X6_54 (Nat.le_of_ble_eq_true rfl) rfl rfl (Nat.le_of_ble_eq_true rfl) dX6_isUmbrella_10 rfl ?_
  cases h
  exact x_zretS g e dX6_isUmbrella_13 rfl rfl rfl
noncomputable def f_X6_of (G : gG) (a0 : Nat) (a1 : Int32) (a2 : Int32) (S : gS) : Option Int32 := gd (gis G 3 a0) <| gb (gP S 10 a0) fun (b_2 : Nat) => gd (gis G 7 b_2) <| gd (vp_in ((8 + (28 * a1)) + a2) (gn G b_2)) <| some (gr S b_2 (Int32.toNatClampNeg ((8 + (28 * a1)) + a2)))
set_option maxRecDepth 100000 in
set_option maxHeartbeats 4000000 in
theorem k_X6_of {ad : Nat → Nat} {G : gG} {a0 : Nat} {a1 : Int32} {a2 : Int32} {S : gS} {T : gT} {r : Int32} (h : f_X6_of G a0 a1 a2 S = some r) : Ct ad yX6_of (Cond.code yX6_of cX6_of 3 (some .int) :: gTb) 0 0 0 [.ref a0, .int a1, .int a2] G S T (some (.int r)) G S T := by
  refine Ct.ofB rfl (Nat.le_of_ble_eq_true rfl) rfl (fun K g e hK => ?_)
  obtain ⟨rfl, -⟩ := hK
  show Xj K [] G 0 [some (.ref a0), some (.int a1), some (.int a2)] [] S T 0 0
  unfold f_X6_of at h
  refine x_aload_n 0 g dX6_of_0 rfl rfl ?_
  obtain ⟨q_1, h⟩ := gd_e h
  obtain ⟨b_2, e_3, h⟩ := gb_e h
  refine x_getr g dX6_of_1 gXX6 1 10 rfl (by decide) rfl lf_X6_13 q_1 e_3 ?_
  refine x_bipush (v := 8) g dX6_of_4 (by decide) ?_
  refine x_bipush (v := 28) g dX6_of_6 (by decide) ?_
  refine x_iload_n 1 g dX6_of_8 rfl rfl ?_
  refine x_imul g dX6_of_9 ?_
  refine x_iadd g dX6_of_10 ?_
  refine x_iload_n 2 g dX6_of_11 rfl rfl ?_
  refine x_iadd g dX6_of_12 ?_
  obtain ⟨q_4, h⟩ := gd_e h
  obtain ⟨q_5, h⟩ := gd_e h
  refine x_iald g dX6_of_13 q_4 q_5 ?_
  cases h
  exact x_iretS g e dX6_of_14 rfl rfl
noncomputable def f_X6_puts (G : gG) (a0 : Nat) (a1 : Int32) (a2 : Int32) (a3 : Int32) (S : gS) : Option gS := gd (gis G 3 a0) <| gb (gP S 10 a0) fun (b_2 : Nat) => gd (gis G 7 b_2) <| gd (vp_in ((8 + (28 * a1)) + a2) (gn G b_2)) <| glt (sr S b_2 (Int32.toNatClampNeg ((8 + (28 * a1)) + a2)) a3) fun (S_6 : gS) => some S_6
set_option maxRecDepth 100000 in
set_option maxHeartbeats 4000000 in
theorem k_X6_puts {ad : Nat → Nat} {G : gG} {a0 : Nat} {a1 : Int32} {a2 : Int32} {a3 : Int32} {S S1 : gS} {T : gT} (h : f_X6_puts G a0 a1 a2 a3 S = some S1) : Ct ad yX6_puts (Cond.code yX6_puts cX6_puts 4 none :: gTb) 0 0 0 [.ref a0, .int a1, .int a2, .int a3] G S T none G S1 T := by
  refine Ct.ofB rfl (Nat.le_of_ble_eq_true rfl) rfl (fun K g e hK => ?_)
  obtain ⟨rfl, -⟩ := hK
  show Xj K [] G 0 [some (.ref a0), some (.int a1), some (.int a2), some (.int a3)] [] S T 0 0
  unfold f_X6_puts at h
  refine x_aload_n 0 g dX6_puts_0 rfl rfl ?_
  obtain ⟨q_1, h⟩ := gd_e h
  obtain ⟨b_2, e_3, h⟩ := gb_e h
  refine x_getr g dX6_puts_1 gXX6 1 10 rfl (by decide) rfl lf_X6_13 q_1 e_3 ?_
  refine x_bipush (v := 8) g dX6_puts_4 (by decide) ?_
  refine x_bipush (v := 28) g dX6_puts_6 (by decide) ?_
  refine x_iload_n 1 g dX6_puts_8 rfl rfl ?_
  refine x_imul g dX6_puts_9 ?_
  refine x_iadd g dX6_puts_10 ?_
  refine x_iload_n 2 g dX6_puts_11 rfl rfl ?_
  refine x_iadd g dX6_puts_12 ?_
  refine x_iload_n 3 g dX6_puts_13 rfl rfl ?_
  obtain ⟨q_4, h⟩ := gd_e h
  obtain ⟨q_5, h⟩ := gd_e h
  refine x_iast g dX6_puts_14 q_4 q_5 ?_
  refine x_nS (fun S_6 e_7 => ?_)
  have h := glt_e e_7 h
  cases h
  exact x_vretS g e dX6_puts_15 rfl
noncomputable def f_X6_adds (G : gG) (a0 : Nat) (a1 : Int32) (a2 : Int32) (a3 : Int32) (S : gS) : Option gS := gd (gis G 3 a0) <| gb (gP S 10 a0) fun (b_2 : Nat) => gd (gis G 7 b_2) <| gd (vp_in ((8 + (28 * a1)) + a2) (gn G b_2)) <| gd (vp_in ((8 + (28 * a1)) + a2) (gn G b_2)) <| glt (sr S b_2 (Int32.toNatClampNeg ((8 + (28 * a1)) + a2)) ((gr S b_2 (Int32.toNatClampNeg ((8 + (28 * a1)) + a2))) + a3)) fun (S_7 : gS) => some S_7
set_option maxRecDepth 100000 in
set_option maxHeartbeats 4000000 in
theorem k_X6_adds {ad : Nat → Nat} {G : gG} {a0 : Nat} {a1 : Int32} {a2 : Int32} {a3 : Int32} {S S1 : gS} {T : gT} (h : f_X6_adds G a0 a1 a2 a3 S = some S1) : Ct ad yX6_adds (Cond.code yX6_adds cX6_adds 4 none :: gTb) 0 0 0 [.ref a0, .int a1, .int a2, .int a3] G S T none G S1 T := by
  refine Ct.ofB rfl (Nat.le_of_ble_eq_true rfl) rfl (fun K g e hK => ?_)
  obtain ⟨rfl, -⟩ := hK
  show Xj K [] G 0 [some (.ref a0), some (.int a1), some (.int a2), some (.int a3)] [] S T 0 0
  unfold f_X6_adds at h
  refine x_aload_n 0 g dX6_adds_0 rfl rfl ?_
  obtain ⟨q_1, h⟩ := gd_e h
  obtain ⟨b_2, e_3, h⟩ := gb_e h
  refine x_getr g dX6_adds_1 gXX6 1 10 rfl (by decide) rfl lf_X6_13 q_1 e_3 ?_
  refine x_bipush (v := 8) g dX6_adds_4 (by decide) ?_
  refine x_bipush (v := 28) g dX6_adds_6 (by decide) ?_
  refine x_iload_n 1 g dX6_adds_8 rfl rfl ?_
  refine x_imul g dX6_adds_9 ?_
  refine x_iadd g dX6_adds_10 ?_
  refine x_iload_n 2 g dX6_adds_11 rfl rfl ?_
  refine x_iadd g dX6_adds_12 ?_
  refine x_dup2 g dX6_adds_13 rfl rfl ?_
  obtain ⟨q_4, h⟩ := gd_e h
  obtain ⟨q_5, h⟩ := gd_e h
  refine x_iald g dX6_adds_14 q_4 q_5 ?_
  refine x_iload_n 3 g dX6_adds_15 rfl rfl ?_
  refine x_iadd g dX6_adds_16 ?_
  obtain ⟨q_6, h⟩ := gd_e h
  refine x_iast g dX6_adds_17 q_4 q_6 ?_
  refine x_nS (fun S_7 e_8 => ?_)
  have h := glt_e e_8 h
  cases h
  exact x_vretS g e dX6_adds_18 rfl
noncomputable def f_X6_trialOf (a0 : Int32) (a1 : Int32) (a2 : Int32) (a3 : Int32) : Option Int32 := some (((a0 + (4 * a1)) + (16 * a2)) + (32 * (a3 + 64)))
set_option maxRecDepth 100000 in
set_option maxHeartbeats 4000000 in
theorem k_X6_trialOf {ad : Nat → Nat} {G : gG} {a0 : Int32} {a1 : Int32} {a2 : Int32} {a3 : Int32} {S : gS} {T : gT} {r : Int32} (h : f_X6_trialOf a0 a1 a2 a3 = some r) : Ct ad yX6_trialOf (Cond.code yX6_trialOf cX6_trialOf 4 (some .int) :: gTb) 0 0 0 [.int a0, .int a1, .int a2, .int a3] G S T (some (.int r)) G S T := by
  refine Ct.ofB rfl (Nat.le_of_ble_eq_true rfl) rfl (fun K g e hK => ?_)
  obtain ⟨rfl, -⟩ := hK
  show Xj K [] G 0 [some (.int a0), some (.int a1), some (.int a2), some (.int a3)] [] S T 0 0
  unfold f_X6_trialOf at h
  refine x_iload_n 0 g dX6_trialOf_0 rfl rfl ?_
  refine x_iconst (v := 4) g dX6_trialOf_1 (by decide) ?_
  refine x_iload_n 1 g dX6_trialOf_2 rfl rfl ?_
  refine x_imul g dX6_trialOf_3 ?_
  refine x_iadd g dX6_trialOf_4 ?_
  refine x_bipush (v := 16) g dX6_trialOf_5 (by decide) ?_
  refine x_iload_n 2 g dX6_trialOf_7 rfl rfl ?_
  refine x_imul g dX6_trialOf_8 ?_
  refine x_iadd g dX6_trialOf_9 ?_
  refine x_bipush (v := 32) g dX6_trialOf_10 (by decide) ?_
  refine x_iload_n 3 g dX6_trialOf_12 rfl rfl ?_
  refine x_bipush (v := 64) g dX6_trialOf_13 (by decide) ?_
  refine x_iadd g dX6_trialOf_15 ?_
  refine x_imul g dX6_trialOf_16 ?_
  refine x_iadd g dX6_trialOf_17 ?_
  cases h
  exact x_iretS g e dX6_trialOf_18 rfl rfl
noncomputable def f_X6_rainOf (a0 : Int32) : Option Int32 := some (a0 - a0 / 4 * 4)
set_option maxRecDepth 100000 in
set_option maxHeartbeats 4000000 in
theorem k_X6_rainOf {ad : Nat → Nat} {G : gG} {a0 : Int32} {S : gS} {T : gT} {r : Int32} (h : f_X6_rainOf a0 = some r) : Ct ad yX6_rainOf (Cond.code yX6_rainOf cX6_rainOf 1 (some .int) :: gTb) 0 0 0 [.int a0] G S T (some (.int r)) G S T := by
  refine Ct.ofB rfl (Nat.le_of_ble_eq_true rfl) rfl (fun K g e hK => ?_)
  obtain ⟨rfl, -⟩ := hK
  show Xj K [] G 0 [some (.int a0)] [] S T 0 0
  unfold f_X6_rainOf at h
  refine x_iload_n 0 g dX6_rainOf_0 rfl rfl ?_
  refine x_iconst (v := 4) g dX6_rainOf_1 (by decide) ?_
  refine x_irem g dX6_rainOf_2 (by decide) ?_
  cases h
  exact x_iretS g e dX6_rainOf_3 rfl rfl
noncomputable def f_X6_rewardOf (a0 : Int32) : Option Int32 := some ((a0 / 32) - 64)
set_option maxRecDepth 100000 in
set_option maxHeartbeats 4000000 in
theorem k_X6_rewardOf {ad : Nat → Nat} {G : gG} {a0 : Int32} {S : gS} {T : gT} {r : Int32} (h : f_X6_rewardOf a0 = some r) : Ct ad yX6_rewardOf (Cond.code yX6_rewardOf cX6_rewardOf 1 (some .int) :: gTb) 0 0 0 [.int a0] G S T (some (.int r)) G S T := by
  refine Ct.ofB rfl (Nat.le_of_ble_eq_true rfl) rfl (fun K g e hK => ?_)
  obtain ⟨rfl, -⟩ := hK
  show Xj K [] G 0 [some (.int a0)] [] S T 0 0
  unfold f_X6_rewardOf at h
  refine x_iload_n 0 g dX6_rewardOf_0 rfl rfl ?_
  refine x_bipush (v := 32) g dX6_rewardOf_1 (by decide) ?_
  refine x_idiv g dX6_rewardOf_3 (by decide) ?_
  refine x_bipush (v := 64) g dX6_rewardOf_4 (by decide) ?_
  refine x_isub g dX6_rewardOf_6 ?_
  cases h
  exact x_iretS g e dX6_rewardOf_7 rfl rfl
noncomputable def f_X6_isSituation (a0 : Int32) (a1 : Int32) : Option Bool := gb (f_X6_isBetween a0 0 3) fun (r_2 : Bool) => if (gz r_2) = 0 then (some false) else (gb (f_X6_isBetween a1 0 3) fun (r_5 : Bool) => if (gz r_5) = 0 then (some false) else (some true))
set_option maxRecDepth 100000 in
set_option maxHeartbeats 4000000 in
theorem k_X6_isSituation {ad : Nat → Nat} {G : gG} {a0 : Int32} {a1 : Int32} {S : gS} {T : gT} {r : Bool} (h : f_X6_isSituation a0 a1 = some r) : Ct ad yX6_isSituation (Cond.code yX6_isSituation cX6_isSituation 2 (some .boolean) :: gTb) 1 0 0 [.int a0, .int a1] G S T (some (.int (gz r))) G S T := by
  refine Ct.ofB rfl (Nat.le_of_ble_eq_true rfl) rfl (fun K g e hK => ?_)
  obtain ⟨rfl, -⟩ := hK
  show Xj K [] G 0 [some (.int a0), some (.int a1)] [] S T 0 0
  unfold f_X6_isSituation at h
  refine x_iload_n 0 g dX6_isSituation_0 rfl rfl ?_
  refine x_iconst (v := 0) g dX6_isSituation_1 (by decide) ?_
  refine x_iconst (v := 3) g dX6_isSituation_2 (by decide) ?_
  obtain ⟨r_2, q_1, h⟩ := gb_e h
  refine x_cS [.int (gz r_2)] g (k_X6_isBetween q_1) ca_X6_isBetween st_X6_isBetween lm_X6_54 (Nat.le_of_ble_eq_true rfl) rfl rfl (Nat.le_of_ble_eq_true rfl) dX6_isSituation_3 rfl ?_
  refine x_if_eq 22 g dX6_isSituation_6 (by decide) (fun c_3 => ?_) (fun c_3 => ?_)
  · have h := ite_t c_3 h
    refine x_iconst (v := 0) g dX6_isSituation_22 (by decide) ?_
    cases h
    exact x_zretS (b := false) g e dX6_isSituation_23 rfl rfl rfl
  · have h := ite_f c_3 h
    refine x_iload_n 1 g dX6_isSituation_9 rfl rfl ?_
    refine x_iconst (v := 0) g dX6_isSituation_10 (by decide) ?_
    refine x_iconst (v := 3) g dX6_isSituation_11 (by decide) ?_
    obtain ⟨r_5, q_4, h⟩ := gb_e h
    refine x_cS [.int (gz r_5)] g (k_X6_isBetween q_4) ca_X6_isBetween st_X6_isBetween lm_X6_54 (Nat.le_of_ble_eq_true rfl) rfl rfl (Nat.le_of_ble_eq_true rfl) dX6_isSituation_12 rfl ?_
    refine x_if_eq 22 g dX6_isSituation_15 (by decide) (fun c_6 => ?_) (fun c_6 => ?_)
    · have h := ite_t c_6 h
      refine x_iconst (v := 0) g dX6_isSituation_22 (by decide) ?_
      cases h
      exact x_zretS (b := false) g e dX6_isSituation_23 rfl rfl rfl
    · have h := ite_f c_6 h
      refine x_iconst (v := 1) g dX6_isSituation_18 (by decide) ?_
      refine x_goto 23 g dX6_isSituation_19 (by decide) ?_
      cases h
      exact x_zretS (b := true) g e dX6_isSituation_23 rfl rfl rfl
noncomputable def f_X6_rewardNow (G : gG) (a0 : Nat) (a1 : Int32) (a2 : Int32) (a3 : Int32) (S : gS) : Option Int32 := if a3 = 1 then (gd (gis G 3 a0) <| gb (gP S 10 a0) fun (b_8 : Nat) => gd (gis G 7 b_8) <| gd (vp_in 2 (gn G b_8)) <| some ((4 * a1) - ((gr S b_8 (Int32.toNatClampNeg 2)) * a2))) else (gd (gis G 3 a0) <| gb (gP S 10 a0) fun (b_3 : Nat) => gd (gis G 7 b_3) <| gd (vp_in 1 (gn G b_3)) <| some ((-(gr S b_3 (Int32.toNatClampNeg 1))) * a1))
set_option maxRecDepth 100000 in
set_option maxHeartbeats 4000000 in
theorem k_X6_rewardNow {ad : Nat → Nat} {G : gG} {a0 : Nat} {a1 : Int32} {a2 : Int32} {a3 : Int32} {S : gS} {T : gT} {r : Int32} (h : f_X6_rewardNow G a0 a1 a2 a3 S = some r) : Ct ad yX6_rewardNow (Cond.code yX6_rewardNow cX6_rewardNow 4 (some .int) :: gTb) 0 0 0 [.ref a0, .int a1, .int a2, .int a3] G S T (some (.int r)) G S T := by
  refine Ct.ofB rfl (Nat.le_of_ble_eq_true rfl) rfl (fun K g e hK => ?_)
  obtain ⟨rfl, -⟩ := hK
  show Xj K [] G 0 [some (.ref a0), some (.int a1), some (.int a2), some (.int a3)] [] S T 0 0
  unfold f_X6_rewardNow at h
  refine x_iload_n 3 g dX6_rewardNow_0 rfl rfl ?_
  refine x_iconst (v := 1) g dX6_rewardNow_1 (by decide) ?_
  refine x_icmp_ne 20 g dX6_rewardNow_2 (by decide) (fun c_1 => ?_) (fun c_1 => ?_)
  · have h := ite_f c_1 h
    refine x_aload_n 0 g dX6_rewardNow_20 rfl rfl ?_
    obtain ⟨q_2, h⟩ := gd_e h
    obtain ⟨b_3, e_4, h⟩ := gb_e h
    refine x_getr g dX6_rewardNow_21 gXX6 1 10 rfl (by decide) rfl lf_X6_13 q_2 e_4 ?_
    refine x_iconst (v := 1) g dX6_rewardNow_24 (by decide) ?_
    obtain ⟨q_5, h⟩ := gd_e h
    obtain ⟨q_6, h⟩ := gd_e h
    refine x_iald g dX6_rewardNow_25 q_5 q_6 ?_
    refine x_ineg g dX6_rewardNow_26 ?_
    refine x_iload_n 1 g dX6_rewardNow_27 rfl rfl ?_
    refine x_imul g dX6_rewardNow_28 ?_
    cases h
    exact x_iretS g e dX6_rewardNow_29 rfl rfl
  · have h := ite_t c_1 h
    refine x_iconst (v := 4) g dX6_rewardNow_5 (by decide) ?_
    refine x_iload_n 1 g dX6_rewardNow_6 rfl rfl ?_
    refine x_imul g dX6_rewardNow_7 ?_
    refine x_aload_n 0 g dX6_rewardNow_8 rfl rfl ?_
    obtain ⟨q_7, h⟩ := gd_e h
    obtain ⟨b_8, e_9, h⟩ := gb_e h
    refine x_getr g dX6_rewardNow_9 gXX6 1 10 rfl (by decide) rfl lf_X6_13 q_7 e_9 ?_
    refine x_iconst (v := 2) g dX6_rewardNow_12 (by decide) ?_
    obtain ⟨q_10, h⟩ := gd_e h
    obtain ⟨q_11, h⟩ := gd_e h
    refine x_iald g dX6_rewardNow_13 q_10 q_11 ?_
    refine x_iload_n 2 g dX6_rewardNow_14 rfl rfl ?_
    refine x_imul g dX6_rewardNow_15 ?_
    refine x_isub g dX6_rewardNow_16 ?_
    refine x_goto 29 g dX6_rewardNow_17 (by decide) ?_
    cases h
    exact x_iretS g e dX6_rewardNow_29 rfl rfl
noncomputable def f_X6_isRightToOpen (G : gG) (a0 : Nat) (a1 : Int32) (a2 : Int32) (S : gS) : Option Bool := gd (gis G 3 a0) <| gb (f_X6_rewardNow G a0 a1 a2 1 S) fun (r_3 : Int32) => gb (f_X6_rewardNow G a0 a1 a2 0 S) fun (r_5 : Int32) => if r_3 ≤ r_5 then (some false) else (some true)
set_option maxRecDepth 100000 in
set_option maxHeartbeats 4000000 in
theorem k_X6_isRightToOpen {ad : Nat → Nat} {G : gG} {a0 : Nat} {a1 : Int32} {a2 : Int32} {S : gS} {T : gT} {r : Bool} (h : f_X6_isRightToOpen G a0 a1 a2 S = some r) : Ct ad yX6_isRightToOpen (Cond.code yX6_isRightToOpen cX6_isRightToOpen 3 (some .boolean) :: gTb) 1 0 0 [.ref a0, .int a1, .int a2] G S T (some (.int (gz r))) G S T := by
  refine Ct.ofB rfl (Nat.le_of_ble_eq_true rfl) rfl (fun K g e hK => ?_)
  obtain ⟨rfl, -⟩ := hK
  show Xj K [] G 0 [some (.ref a0), some (.int a1), some (.int a2)] [] S T 0 0
  unfold f_X6_isRightToOpen at h
  refine x_aload_n 0 g dX6_isRightToOpen_0 rfl rfl ?_
  refine x_iload_n 1 g dX6_isRightToOpen_1 rfl rfl ?_
  refine x_iload_n 2 g dX6_isRightToOpen_2 rfl rfl ?_
  refine x_iconst (v := 1) g dX6_isRightToOpen_3 (by decide) ?_
  obtain ⟨q_1, h⟩ := gd_e h
  obtain ⟨r_3, q_2, h⟩ := gb_e h
  refine x_cV [.int r_3] g (k_X6_rewardNow q_2) ca_X6_rewardNow in_X6_rewardNow se_X6_rewardNow lm_X6_58 gXX6 q_1 (Nat.le_of_ble_eq_true rfl) rfl rfl (Nat.le_of_ble_eq_true rfl) dX6_isRightToOpen_4 rfl ?_
  refine x_aload_n 0 g dX6_isRightToOpen_7 rfl rfl ?_
  refine x_iload_n 1 g dX6_isRightToOpen_8 rfl rfl ?_
  refine x_iload_n 2 g dX6_isRightToOpen_9 rfl rfl ?_
  refine x_iconst (v := 0) g dX6_isRightToOpen_10 (by decide) ?_
  obtain ⟨r_5, q_4, h⟩ := gb_e h
  refine x_cV [.int r_5, .int r_3] g (k_X6_rewardNow q_4) ca_X6_rewardNow in_X6_rewardNow se_X6_rewardNow lm_X6_58 gXX6 q_1 (Nat.le_of_ble_eq_true rfl) rfl rfl (Nat.le_of_ble_eq_true rfl) dX6_isRightToOpen_11 rfl ?_
  refine x_icmp_le 21 g dX6_isRightToOpen_14 (by decide) (fun c_6 => ?_) (fun c_6 => ?_)
  · have h := ite_t c_6 h
    refine x_iconst (v := 0) g dX6_isRightToOpen_21 (by decide) ?_
    cases h
    exact x_zretS (b := false) g e dX6_isRightToOpen_22 rfl rfl rfl
  · have h := ite_f c_6 h
    refine x_iconst (v := 1) g dX6_isRightToOpen_17 (by decide) ?_
    refine x_goto 22 g dX6_isRightToOpen_18 (by decide) ?_
    cases h
    exact x_zretS (b := true) g e dX6_isRightToOpen_22 rfl rfl rfl
noncomputable def f_X6_triedTimes_L6 (G : gG) (a0 : Nat) (a1 : Int32) (a2 : Int32) (a3 : Int32) (a4 : Int32) (S : gS) : Nat → Int32 → Int32 → Option Int32
  | 0, _, _ => none
  | n6 + 1, x5, x6 => gd (gis G 3 a0) <| gb (f_X6_of G a0 a1 3 S) fun (r_3 : Int32) => if r_3 ≤ x6 then (some x5) else (gb (f_X6_of G a0 a1 (8 + x6) S) fun (r_6 : Int32) => if (r_6 - r_6 / 32 * 32) = ((a2 + (4 * a3)) + (16 * a4)) then (glt (x5 + 1) fun (x5_12 : Int32) => glt (x6 + 1) fun (x6_14 : Int32) => f_X6_triedTimes_L6 G a0 a1 a2 a3 a4 S n6 x5_12 x6_14) else (glt (x5 + 0) fun (x5_8 : Int32) => glt (x6 + 1) fun (x6_10 : Int32) => f_X6_triedTimes_L6 G a0 a1 a2 a3 a4 S n6 x5_8 x6_10))
noncomputable def f_X6_triedTimes (G : gG) (a0 : Nat) (a1 : Int32) (a2 : Int32) (a3 : Int32) (a4 : Int32) (S : gS) : Option Int32 := f_X6_triedTimes_L6 G a0 a1 a2 a3 a4 S gN 0 0
set_option maxRecDepth 100000 in
set_option maxHeartbeats 4000000 in
theorem k_X6_triedTimes {ad : Nat → Nat} {G : gG} {a0 : Nat} {a1 : Int32} {a2 : Int32} {a3 : Int32} {a4 : Int32} {S : gS} {T : gT} {r : Int32} (h : f_X6_triedTimes G a0 a1 a2 a3 a4 S = some r) : Ct ad yX6_triedTimes (Cond.code yX6_triedTimes cX6_triedTimes 7 (some .int) :: gTb) 1 0 0 [.ref a0, .int a1, .int a2, .int a3, .int a4] G S T (some (.int r)) G S T := by
  refine Ct.ofB rfl (Nat.le_of_ble_eq_true rfl) rfl (fun K g e hK => ?_)
  obtain ⟨rfl, -⟩ := hK
  show Xj K [] G 0 [some (.ref a0), some (.int a1), some (.int a2), some (.int a3), some (.int a4), none, none] [] S T 0 0
  unfold f_X6_triedTimes at h
  refine x_iconst (v := 0) g dX6_triedTimes_0 (by decide) ?_
  refine x_istore (i := 5) g dX6_triedTimes_1 (Nat.le_of_ble_eq_true rfl) rfl ?_
  refine x_iconst (v := 0) g dX6_triedTimes_3 (by decide) ?_
  refine x_istore (i := 6) g dX6_triedTimes_4 (Nat.le_of_ble_eq_true rfl) rfl ?_
  have L6 : ∀ (n6 : Nat) (x5 : Int32) (x6 : Int32), f_X6_triedTimes_L6 G a0 a1 a2 a3 a4 S n6 x5 x6 = some r → Xj K [] G 6 [some (.ref a0), some (.int a1), some (.int a2), some (.int a3), some (.int a4), some (.int x5), some (.int x6)] [] S T 0 0 := by
    intro n6
    induction n6 with
    | zero =>
      intro x5 x6 h
      rw [f_X6_triedTimes_L6] at h
      cases h
    | succ n6 ih =>
      intro x5 x6 h
      rw [f_X6_triedTimes_L6] at h
      refine x_iload (i := 6) g dX6_triedTimes_6 rfl ?_
      refine x_aload_n 0 g dX6_triedTimes_8 rfl rfl ?_
      refine x_iload_n 1 g dX6_triedTimes_9 rfl rfl ?_
      refine x_iconst (v := 3) g dX6_triedTimes_10 (by decide) ?_
      obtain ⟨q_1, h⟩ := gd_e h
      obtain ⟨r_3, q_2, h⟩ := gb_e h
      refine x_cV [.int r_3, .int x6] g (k_X6_of q_2) ca_X6_of in_X6_of se_X6_of lm_X6_62 gXX6 q_1 (Nat.le_of_ble_eq_true rfl) rfl rfl (Nat.le_of_ble_eq_true rfl) dX6_triedTimes_11 rfl ?_
      refine x_icmp_ge 60 g dX6_triedTimes_14 (by decide) (fun c_4 => ?_) (fun c_4 => ?_)
      · have h := ite_t c_4 h
        refine x_iload (i := 5) g dX6_triedTimes_60 rfl ?_
        cases h
        exact x_iretS g e dX6_triedTimes_62 rfl rfl
      · have h := ite_f c_4 h
        refine x_iload (i := 5) g dX6_triedTimes_17 rfl ?_
        refine x_aload_n 0 g dX6_triedTimes_19 rfl rfl ?_
        refine x_iload_n 1 g dX6_triedTimes_20 rfl rfl ?_
        refine x_bipush (v := 8) g dX6_triedTimes_21 (by decide) ?_
        refine x_iload (i := 6) g dX6_triedTimes_23 rfl ?_
        refine x_iadd g dX6_triedTimes_25 ?_
        obtain ⟨r_6, q_5, h⟩ := gb_e h
        refine x_cV [.int r_6, .int x5] g (k_X6_of q_5) ca_X6_of in_X6_of se_X6_of lm_X6_62 gXX6 q_1 (Nat.le_of_ble_eq_true rfl) rfl rfl (Nat.le_of_ble_eq_true rfl) dX6_triedTimes_26 rfl ?_
        refine x_bipush (v := 32) g dX6_triedTimes_29 (by decide) ?_
        refine x_irem g dX6_triedTimes_31 (by decide) ?_
        refine x_iload_n 2 g dX6_triedTimes_32 rfl rfl ?_
        refine x_iconst (v := 4) g dX6_triedTimes_33 (by decide) ?_
        refine x_iload_n 3 g dX6_triedTimes_34 rfl rfl ?_
        refine x_imul g dX6_triedTimes_35 ?_
        refine x_iadd g dX6_triedTimes_36 ?_
        refine x_bipush (v := 16) g dX6_triedTimes_37 (by decide) ?_
        refine x_iload (i := 4) g dX6_triedTimes_39 rfl ?_
        refine x_imul g dX6_triedTimes_41 ?_
        refine x_iadd g dX6_triedTimes_42 ?_
        refine x_icmp_ne 50 g dX6_triedTimes_43 (by decide) (fun c_7 => ?_) (fun c_7 => ?_)
        · have h := ite_f c_7 h
          refine x_iconst (v := 0) g dX6_triedTimes_50 (by decide) ?_
          refine x_iadd g dX6_triedTimes_51 ?_
          refine x_nI (fun x5_8 e_9 => ?_)
          have h := glt_e e_9 h
          refine x_istore (i := 5) g dX6_triedTimes_52 (Nat.le_of_ble_eq_true rfl) rfl ?_
          obtain ⟨x6_10, e_11⟩ : ∃ z : Int32, z = x6 + 1 := ⟨_, rfl⟩
          have h := glt_e e_11 h
          refine x_iinc (v := x6_10) g dX6_triedTimes_54 rfl (by rw [e_11]; rfl) rfl ?_
          refine x_goto 6 g dX6_triedTimes_57 (by decide) ?_
          exact ih _ _ h
        · have h := ite_t c_7 h
          refine x_iconst (v := 1) g dX6_triedTimes_46 (by decide) ?_
          refine x_goto 51 g dX6_triedTimes_47 (by decide) ?_
          refine x_iadd g dX6_triedTimes_51 ?_
          refine x_nI (fun x5_12 e_13 => ?_)
          have h := glt_e e_13 h
          refine x_istore (i := 5) g dX6_triedTimes_52 (Nat.le_of_ble_eq_true rfl) rfl ?_
          obtain ⟨x6_14, e_15⟩ : ∃ z : Int32, z = x6 + 1 := ⟨_, rfl⟩
          have h := glt_e e_15 h
          refine x_iinc (v := x6_14) g dX6_triedTimes_54 rfl (by rw [e_15]; rfl) rfl ?_
          refine x_goto 6 g dX6_triedTimes_57 (by decide) ?_
          exact ih _ _ h
  exact L6 gN _ _ h
noncomputable def f_X6_sumOf_L6 (G : gG) (a0 : Nat) (a1 : Int32) (a2 : Int32) (a3 : Int32) (a4 : Int32) (S : gS) : Nat → Int32 → Int32 → Option Int32
  | 0, _, _ => none
  | n6 + 1, x5, x6 => gd (gis G 3 a0) <| gb (f_X6_of G a0 a1 3 S) fun (r_3 : Int32) => if r_3 ≤ x6 then (some x5) else (gb (f_X6_of G a0 a1 (8 + x6) S) fun (r_6 : Int32) => if (r_6 - r_6 / 32 * 32) = ((a2 + (4 * a3)) + (16 * a4)) then (gb (f_X6_of G a0 a1 (8 + x6) S) fun (r_11 : Int32) => gb (f_X6_rewardOf r_11) fun (r_13 : Int32) => glt (x5 + r_13) fun (x5_14 : Int32) => glt (x6 + 1) fun (x6_16 : Int32) => f_X6_sumOf_L6 G a0 a1 a2 a3 a4 S n6 x5_14 x6_16) else (glt (x6 + 1) fun (x6_8 : Int32) => f_X6_sumOf_L6 G a0 a1 a2 a3 a4 S n6 x5 x6_8))
noncomputable def f_X6_sumOf (G : gG) (a0 : Nat) (a1 : Int32) (a2 : Int32) (a3 : Int32) (a4 : Int32) (S : gS) : Option Int32 := f_X6_sumOf_L6 G a0 a1 a2 a3 a4 S gN 0 0
set_option maxRecDepth 100000 in
set_option maxHeartbeats 4000000 in
theorem k_X6_sumOf {ad : Nat → Nat} {G : gG} {a0 : Nat} {a1 : Int32} {a2 : Int32} {a3 : Int32} {a4 : Int32} {S : gS} {T : gT} {r : Int32} (h : f_X6_sumOf G a0 a1 a2 a3 a4 S = some r) : Ct ad yX6_sumOf (Cond.code yX6_sumOf cX6_sumOf 7 (some .int) :: gTb) 1 0 0 [.ref a0, .int a1, .int a2, .int a3, .int a4] G S T (some (.int r)) G S T := by
  refine Ct.ofB rfl (Nat.le_of_ble_eq_true rfl) rfl (fun K g e hK => ?_)
  obtain ⟨rfl, -⟩ := hK
  show Xj K [] G 0 [some (.ref a0), some (.int a1), some (.int a2), some (.int a3), some (.int a4), none, none] [] S T 0 0
  unfold f_X6_sumOf at h
  refine x_iconst (v := 0) g dX6_sumOf_0 (by decide) ?_
  refine x_istore (i := 5) g dX6_sumOf_1 (Nat.le_of_ble_eq_true rfl) rfl ?_
  refine x_iconst (v := 0) g dX6_sumOf_3 (by decide) ?_
  refine x_istore (i := 6) g dX6_sumOf_4 (Nat.le_of_ble_eq_true rfl) rfl ?_
  have L6 : ∀ (n6 : Nat) (x5 : Int32) (x6 : Int32), f_X6_sumOf_L6 G a0 a1 a2 a3 a4 S n6 x5 x6 = some r → Xj K [] G 6 [some (.ref a0), some (.int a1), some (.int a2), some (.int a3), some (.int a4), some (.int x5), some (.int x6)] [] S T 0 0 := by
    intro n6
    induction n6 with
    | zero =>
      intro x5 x6 h
      rw [f_X6_sumOf_L6] at h
      cases h
    | succ n6 ih =>
      intro x5 x6 h
      rw [f_X6_sumOf_L6] at h
      refine x_iload (i := 6) g dX6_sumOf_6 rfl ?_
      refine x_aload_n 0 g dX6_sumOf_8 rfl rfl ?_
      refine x_iload_n 1 g dX6_sumOf_9 rfl rfl ?_
      refine x_iconst (v := 3) g dX6_sumOf_10 (by decide) ?_
      obtain ⟨q_1, h⟩ := gd_e h
      obtain ⟨r_3, q_2, h⟩ := gb_e h
      refine x_cV [.int r_3, .int x6] g (k_X6_of q_2) ca_X6_of in_X6_of se_X6_of lm_X6_62 gXX6 q_1 (Nat.le_of_ble_eq_true rfl) rfl rfl (Nat.le_of_ble_eq_true rfl) dX6_sumOf_11 rfl ?_
      refine x_icmp_ge 68 g dX6_sumOf_14 (by decide) (fun c_4 => ?_) (fun c_4 => ?_)
      · have h := ite_t c_4 h
        refine x_iload (i := 5) g dX6_sumOf_68 rfl ?_
        cases h
        exact x_iretS g e dX6_sumOf_70 rfl rfl
      · have h := ite_f c_4 h
        refine x_aload_n 0 g dX6_sumOf_17 rfl rfl ?_
        refine x_iload_n 1 g dX6_sumOf_18 rfl rfl ?_
        refine x_bipush (v := 8) g dX6_sumOf_19 (by decide) ?_
        refine x_iload (i := 6) g dX6_sumOf_21 rfl ?_
        refine x_iadd g dX6_sumOf_23 ?_
        obtain ⟨r_6, q_5, h⟩ := gb_e h
        refine x_cV [.int r_6] g (k_X6_of q_5) ca_X6_of in_X6_of se_X6_of lm_X6_62 gXX6 q_1 (Nat.le_of_ble_eq_true rfl) rfl rfl (Nat.le_of_ble_eq_true rfl) dX6_sumOf_24 rfl ?_
        refine x_bipush (v := 32) g dX6_sumOf_27 (by decide) ?_
        refine x_irem g dX6_sumOf_29 (by decide) ?_
        refine x_iload_n 2 g dX6_sumOf_30 rfl rfl ?_
        refine x_iconst (v := 4) g dX6_sumOf_31 (by decide) ?_
        refine x_iload_n 3 g dX6_sumOf_32 rfl rfl ?_
        refine x_imul g dX6_sumOf_33 ?_
        refine x_iadd g dX6_sumOf_34 ?_
        refine x_bipush (v := 16) g dX6_sumOf_35 (by decide) ?_
        refine x_iload (i := 4) g dX6_sumOf_37 rfl ?_
        refine x_imul g dX6_sumOf_39 ?_
        refine x_iadd g dX6_sumOf_40 ?_
        refine x_icmp_ne 62 g dX6_sumOf_41 (by decide) (fun c_7 => ?_) (fun c_7 => ?_)
        · have h := ite_f c_7 h
          obtain ⟨x6_8, e_9⟩ : ∃ z : Int32, z = x6 + 1 := ⟨_, rfl⟩
          have h := glt_e e_9 h
          refine x_iinc (v := x6_8) g dX6_sumOf_62 rfl (by rw [e_9]; rfl) rfl ?_
          refine x_goto 6 g dX6_sumOf_65 (by decide) ?_
          exact ih _ _ h
        · have h := ite_t c_7 h
          refine x_iload (i := 5) g dX6_sumOf_44 rfl ?_
          refine x_aload_n 0 g dX6_sumOf_46 rfl rfl ?_
          refine x_iload_n 1 g dX6_sumOf_47 rfl rfl ?_
          refine x_bipush (v := 8) g dX6_sumOf_48 (by decide) ?_
          refine x_iload (i := 6) g dX6_sumOf_50 rfl ?_
          refine x_iadd g dX6_sumOf_52 ?_
          obtain ⟨r_11, q_10, h⟩ := gb_e h
          refine x_cV [.int r_11, .int x5] g (k_X6_of q_10) ca_X6_of in_X6_of se_X6_of lm_X6_62 gXX6 q_1 (Nat.le_of_ble_eq_true rfl) rfl rfl (Nat.le_of_ble_eq_true rfl) dX6_sumOf_53 rfl ?_
          obtain ⟨r_13, q_12, h⟩ := gb_e h
          refine x_cS [.int r_13, .int x5] g (k_X6_rewardOf q_12) ca_X6_rewardOf st_X6_rewardOf lm_X6_66 (Nat.le_of_ble_eq_true rfl) rfl rfl (Nat.le_of_ble_eq_true rfl) dX6_sumOf_56 rfl ?_
          refine x_iadd g dX6_sumOf_59 ?_
          refine x_nI (fun x5_14 e_15 => ?_)
          have h := glt_e e_15 h
          refine x_istore (i := 5) g dX6_sumOf_60 (Nat.le_of_ble_eq_true rfl) rfl ?_
          obtain ⟨x6_16, e_17⟩ : ∃ z : Int32, z = x6 + 1 := ⟨_, rfl⟩
          have h := glt_e e_17 h
          refine x_iinc (v := x6_16) g dX6_sumOf_62 rfl (by rw [e_17]; rfl) rfl ?_
          refine x_goto 6 g dX6_sumOf_65 (by decide) ?_
          exact ih _ _ h
  exact L6 gN _ _ h
noncomputable def f_X6_habit (G : gG) (a0 : Nat) (a1 : Int32) (a2 : Int32) (a3 : Int32) (S : gS) : Option Int32 := gd (gis G 3 a0) <| gb (f_X6_triedTimes G a0 a1 a2 a3 1 S) fun (r_3 : Int32) => gb (f_X6_triedTimes G a0 a1 a2 a3 0 S) fun (r_5 : Int32) => if r_3 = 0 then (some 0) else (if r_5 = 0 then (some 1) else (gb (f_X6_sumOf G a0 a1 a2 a3 1 S) fun (r_9 : Int32) => gb (f_X6_sumOf G a0 a1 a2 a3 0 S) fun (r_11 : Int32) => if (r_9 * r_5) ≤ (r_11 * r_3) then (some 0) else (some 1)))
set_option maxRecDepth 100000 in
set_option maxHeartbeats 4000000 in
theorem k_X6_habit {ad : Nat → Nat} {G : gG} {a0 : Nat} {a1 : Int32} {a2 : Int32} {a3 : Int32} {S : gS} {T : gT} {r : Int32} (h : f_X6_habit G a0 a1 a2 a3 S = some r) : Ct ad yX6_habit (Cond.code yX6_habit cX6_habit 6 (some .int) :: gTb) 2 0 0 [.ref a0, .int a1, .int a2, .int a3] G S T (some (.int r)) G S T := by
  refine Ct.ofB rfl (Nat.le_of_ble_eq_true rfl) rfl (fun K g e hK => ?_)
  obtain ⟨rfl, -⟩ := hK
  show Xj K [] G 0 [some (.ref a0), some (.int a1), some (.int a2), some (.int a3), none, none] [] S T 0 0
  unfold f_X6_habit at h
  refine x_aload_n 0 g dX6_habit_0 rfl rfl ?_
  refine x_iload_n 1 g dX6_habit_1 rfl rfl ?_
  refine x_iload_n 2 g dX6_habit_2 rfl rfl ?_
  refine x_iload_n 3 g dX6_habit_3 rfl rfl ?_
  refine x_iconst (v := 1) g dX6_habit_4 (by decide) ?_
  obtain ⟨q_1, h⟩ := gd_e h
  obtain ⟨r_3, q_2, h⟩ := gb_e h
  refine x_cV [.int r_3] g (k_X6_triedTimes q_2) ca_X6_triedTimes in_X6_triedTimes se_X6_triedTimes lm_X6_70 gXX6 q_1 (Nat.le_of_ble_eq_true rfl) rfl rfl (Nat.le_of_ble_eq_true rfl) dX6_habit_5 rfl ?_
  refine x_istore (i := 4) g dX6_habit_8 (Nat.le_of_ble_eq_true rfl) rfl ?_
  refine x_aload_n 0 g dX6_habit_10 rfl rfl ?_
  refine x_iload_n 1 g dX6_habit_11 rfl rfl ?_
  refine x_iload_n 2 g dX6_habit_12 rfl rfl ?_
  refine x_iload_n 3 g dX6_habit_13 rfl rfl ?_
  refine x_iconst (v := 0) g dX6_habit_14 (by decide) ?_
  obtain ⟨r_5, q_4, h⟩ := gb_e h
  refine x_cV [.int r_5] g (k_X6_triedTimes q_4) ca_X6_triedTimes in_X6_triedTimes se_X6_triedTimes lm_X6_70 gXX6 q_1 (Nat.le_of_ble_eq_true rfl) rfl rfl (Nat.le_of_ble_eq_true rfl) dX6_habit_15 rfl ?_
  refine x_istore (i := 5) g dX6_habit_18 (Nat.le_of_ble_eq_true rfl) rfl ?_
  refine x_iload (i := 4) g dX6_habit_20 rfl ?_
  refine x_if_ne 27 g dX6_habit_22 (by decide) (fun c_6 => ?_) (fun c_6 => ?_)
  · have h := ite_f c_6 h
    refine x_iload (i := 5) g dX6_habit_27 rfl ?_
    refine x_if_ne 34 g dX6_habit_29 (by decide) (fun c_7 => ?_) (fun c_7 => ?_)
    · have h := ite_f c_7 h
      refine x_aload_n 0 g dX6_habit_34 rfl rfl ?_
      refine x_iload_n 1 g dX6_habit_35 rfl rfl ?_
      refine x_iload_n 2 g dX6_habit_36 rfl rfl ?_
      refine x_iload_n 3 g dX6_habit_37 rfl rfl ?_
      refine x_iconst (v := 1) g dX6_habit_38 (by decide) ?_
      obtain ⟨r_9, q_8, h⟩ := gb_e h
      refine x_cV [.int r_9] g (k_X6_sumOf q_8) ca_X6_sumOf in_X6_sumOf se_X6_sumOf lm_X6_74 gXX6 q_1 (Nat.le_of_ble_eq_true rfl) rfl rfl (Nat.le_of_ble_eq_true rfl) dX6_habit_39 rfl ?_
      refine x_iload (i := 5) g dX6_habit_42 rfl ?_
      refine x_imul g dX6_habit_44 ?_
      refine x_aload_n 0 g dX6_habit_45 rfl rfl ?_
      refine x_iload_n 1 g dX6_habit_46 rfl rfl ?_
      refine x_iload_n 2 g dX6_habit_47 rfl rfl ?_
      refine x_iload_n 3 g dX6_habit_48 rfl rfl ?_
      refine x_iconst (v := 0) g dX6_habit_49 (by decide) ?_
      obtain ⟨r_11, q_10, h⟩ := gb_e h
      refine x_cV [.int r_11, .int (r_9 * r_5)] g (k_X6_sumOf q_10) ca_X6_sumOf in_X6_sumOf se_X6_sumOf lm_X6_74 gXX6 q_1 (Nat.le_of_ble_eq_true rfl) rfl rfl (Nat.le_of_ble_eq_true rfl) dX6_habit_50 rfl ?_
      refine x_iload (i := 4) g dX6_habit_53 rfl ?_
      refine x_imul g dX6_habit_55 ?_
      refine x_icmp_le 63 g dX6_habit_56 (by decide) (fun c_12 => ?_) (fun c_12 => ?_)
      · have h := ite_t c_12 h
        refine x_iconst (v := 0) g dX6_habit_63 (by decide) ?_
        cases h
        exact x_iretS g e dX6_habit_64 rfl rfl
      · have h := ite_f c_12 h
        refine x_iconst (v := 1) g dX6_habit_59 (by decide) ?_
        refine x_goto 64 g dX6_habit_60 (by decide) ?_
        cases h
        exact x_iretS g e dX6_habit_64 rfl rfl
    · have h := ite_t c_7 h
      refine x_iconst (v := 1) g dX6_habit_32 (by decide) ?_
      cases h
      exact x_iretS g e dX6_habit_33 rfl rfl
  · have h := ite_t c_6 h
    refine x_iconst (v := 0) g dX6_habit_25 (by decide) ?_
    cases h
    exact x_iretS g e dX6_habit_26 rfl rfl
noncomputable def f_X6_notAdd (G : gG) (a0 : Nat) (a1 : Int32) (S : gS) : Option Int32 := gb (f_X6_isBetween a1 3 20) fun (r_2 : Bool) => if (gz r_2) = 0 then (some 1) else (gd (gis G 3 a0) <| gb (gP S 10 a0) fun (b_5 : Nat) => gd (gis G 7 b_5) <| gd (vp_in 0 (gn G b_5)) <| if (gr S b_5 (Int32.toNatClampNeg 0)) = 6 then (some 2) else (some 0))
set_option maxRecDepth 100000 in
set_option maxHeartbeats 4000000 in
theorem k_X6_notAdd {ad : Nat → Nat} {G : gG} {a0 : Nat} {a1 : Int32} {S : gS} {T : gT} {r : Int32} (h : f_X6_notAdd G a0 a1 S = some r) : Ct ad yX6_notAdd (Cond.code yX6_notAdd cX6_notAdd 2 (some .int) :: gTb) 1 0 0 [.ref a0, .int a1] G S T (some (.int r)) G S T := by
  refine Ct.ofB rfl (Nat.le_of_ble_eq_true rfl) rfl (fun K g e hK => ?_)
  obtain ⟨rfl, -⟩ := hK
  show Xj K [] G 0 [some (.ref a0), some (.int a1)] [] S T 0 0
  unfold f_X6_notAdd at h
  refine x_iload_n 1 g dX6_notAdd_0 rfl rfl ?_
  refine x_iconst (v := 3) g dX6_notAdd_1 (by decide) ?_
  refine x_bipush (v := 20) g dX6_notAdd_2 (by decide) ?_
  obtain ⟨r_2, q_1, h⟩ := gb_e h
  refine x_cS [.int (gz r_2)] g (k_X6_isBetween q_1) ca_X6_isBetween st_X6_isBetween lm_X6_54 (Nat.le_of_ble_eq_true rfl) rfl rfl (Nat.le_of_ble_eq_true rfl) dX6_notAdd_4 rfl ?_
  refine x_if_ne 12 g dX6_notAdd_7 (by decide) (fun c_3 => ?_) (fun c_3 => ?_)
  · have h := ite_f c_3 h
    refine x_aload_n 0 g dX6_notAdd_12 rfl rfl ?_
    obtain ⟨q_4, h⟩ := gd_e h
    obtain ⟨b_5, e_6, h⟩ := gb_e h
    refine x_getr g dX6_notAdd_13 gXX6 1 10 rfl (by decide) rfl lf_X6_13 q_4 e_6 ?_
    refine x_iconst (v := 0) g dX6_notAdd_16 (by decide) ?_
    obtain ⟨q_7, h⟩ := gd_e h
    obtain ⟨q_8, h⟩ := gd_e h
    refine x_iald g dX6_notAdd_17 q_7 q_8 ?_
    refine x_bipush (v := 6) g dX6_notAdd_18 (by decide) ?_
    refine x_icmp_ne 27 g dX6_notAdd_20 (by decide) (fun c_9 => ?_) (fun c_9 => ?_)
    · have h := ite_f c_9 h
      refine x_iconst (v := 0) g dX6_notAdd_27 (by decide) ?_
      cases h
      exact x_iretS g e dX6_notAdd_28 rfl rfl
    · have h := ite_t c_9 h
      refine x_iconst (v := 2) g dX6_notAdd_23 (by decide) ?_
      refine x_goto 28 g dX6_notAdd_24 (by decide) ?_
      cases h
      exact x_iretS g e dX6_notAdd_28 rfl rfl
  · have h := ite_t c_3 h
    refine x_iconst (v := 1) g dX6_notAdd_10 (by decide) ?_
    cases h
    exact x_iretS g e dX6_notAdd_11 rfl rfl
noncomputable def f_X6_addsUmbrella_L19 (G : gG) (a0 : Nat) (a1 : Int32) : Nat → Int32 → Int32 → gS → Option (Int32 × gS)
  | 0, _, _, _ => none
  | n19 + 1, x2, x3, S => if 28 ≤ x3 then (gd (gis G 3 a0) <| gb (f_X6_puts G a0 x2 0 a1 S) fun (S_18 : gS) => some (x2, S_18)) else (gd (gis G 3 a0) <| gb (f_X6_puts G a0 x2 x3 0 S) fun (S_21 : gS) => glt (x3 + 1) fun (x3_22 : Int32) => f_X6_addsUmbrella_L19 G a0 a1 n19 x2 x3_22 S_21)
noncomputable def f_X6_addsUmbrella (G : gG) (a0 : Nat) (a1 : Int32) (S : gS) : Option (Int32 × gS) := gd (gis G 3 a0) <| gb (gP S 10 a0) fun (b_2 : Nat) => gd (gis G 7 b_2) <| gd (vp_in 0 (gn G b_2)) <| glt (gr S b_2 (Int32.toNatClampNeg 0)) fun (x2_6 : Int32) => gb (gP S 10 a0) fun (b_8 : Nat) => gd (gis G 7 b_8) <| gd (vp_in 0 (gn G b_8)) <| gd (vp_in 0 (gn G b_8)) <| glt (sr S b_8 (Int32.toNatClampNeg 0) ((gr S b_8 (Int32.toNatClampNeg 0)) + 1)) fun (S_13 : gS) => f_X6_addsUmbrella_L19 G a0 a1 gN x2_6 0 S_13
set_option maxRecDepth 100000 in
set_option maxHeartbeats 4000000 in
theorem k_X6_addsUmbrella {ad : Nat → Nat} {G : gG} {a0 : Nat} {a1 : Int32} {S S1 : gS} {T : gT} {r : Int32} (h : f_X6_addsUmbrella G a0 a1 S = some (r, S1)) : Ct ad yX6_addsUmbrella (Cond.code yX6_addsUmbrella cX6_addsUmbrella 4 (some .int) :: gTb) 1 0 0 [.ref a0, .int a1] G S T (some (.int r)) G S1 T := by
  refine Ct.ofB rfl (Nat.le_of_ble_eq_true rfl) rfl (fun K g e hK => ?_)
  obtain ⟨rfl, -⟩ := hK
  show Xj K [] G 0 [some (.ref a0), some (.int a1), none, none] [] S T 0 0
  unfold f_X6_addsUmbrella at h
  refine x_aload_n 0 g dX6_addsUmbrella_0 rfl rfl ?_
  obtain ⟨q_1, h⟩ := gd_e h
  obtain ⟨b_2, e_3, h⟩ := gb_e h
  refine x_getr g dX6_addsUmbrella_1 gXX6 1 10 rfl (by decide) rfl lf_X6_13 q_1 e_3 ?_
  refine x_iconst (v := 0) g dX6_addsUmbrella_4 (by decide) ?_
  obtain ⟨q_4, h⟩ := gd_e h
  obtain ⟨q_5, h⟩ := gd_e h
  refine x_iald g dX6_addsUmbrella_5 q_4 q_5 ?_
  refine x_nI (fun x2_6 e_7 => ?_)
  have h := glt_e e_7 h
  refine x_istore_n 2 g dX6_addsUmbrella_6 rfl (Nat.le_of_ble_eq_true rfl) rfl ?_
  refine x_aload_n 0 g dX6_addsUmbrella_7 rfl rfl ?_
  obtain ⟨b_8, e_9, h⟩ := gb_e h
  refine x_getr g dX6_addsUmbrella_8 gXX6 1 10 rfl (by decide) rfl lf_X6_13 q_1 e_9 ?_
  refine x_iconst (v := 0) g dX6_addsUmbrella_11 (by decide) ?_
  refine x_dup2 g dX6_addsUmbrella_12 rfl rfl ?_
  obtain ⟨q_10, h⟩ := gd_e h
  obtain ⟨q_11, h⟩ := gd_e h
  refine x_iald g dX6_addsUmbrella_13 q_10 q_11 ?_
  refine x_iconst (v := 1) g dX6_addsUmbrella_14 (by decide) ?_
  refine x_iadd g dX6_addsUmbrella_15 ?_
  obtain ⟨q_12, h⟩ := gd_e h
  refine x_iast g dX6_addsUmbrella_16 q_10 q_12 ?_
  refine x_nS (fun S_13 e_14 => ?_)
  have h := glt_e e_14 h
  refine x_iconst (v := 0) g dX6_addsUmbrella_17 (by decide) ?_
  refine x_istore_n 3 g dX6_addsUmbrella_18 rfl (Nat.le_of_ble_eq_true rfl) rfl ?_
  have L19 : ∀ (n19 : Nat) (x2 : Int32) (x3 : Int32) (S : gS), f_X6_addsUmbrella_L19 G a0 a1 n19 x2 x3 S = some (r, S1) → Xj K [] G 19 [some (.ref a0), some (.int a1), some (.int x2), some (.int x3)] [] S T 0 0 := by
    intro n19
    induction n19 with
    | zero =>
      intro x2 x3 S h
      rw [f_X6_addsUmbrella_L19] at h
      cases h
    | succ n19 ih =>
      intro x2 x3 S h
      rw [f_X6_addsUmbrella_L19] at h
      refine x_iload_n 3 g dX6_addsUmbrella_19 rfl rfl ?_
      refine x_bipush (v := 28) g dX6_addsUmbrella_20 (by decide) ?_
      refine x_icmp_ge 38 g dX6_addsUmbrella_22 (by decide) (fun c_15 => ?_) (fun c_15 => ?_)
      · have h := ite_t c_15 h
        refine x_aload_n 0 g dX6_addsUmbrella_38 rfl rfl ?_
        refine x_iload_n 2 g dX6_addsUmbrella_39 rfl rfl ?_
        refine x_iconst (v := 0) g dX6_addsUmbrella_40 (by decide) ?_
        refine x_iload_n 1 g dX6_addsUmbrella_41 rfl rfl ?_
        obtain ⟨q_16, h⟩ := gd_e h
        obtain ⟨S_18, q_17, h⟩ := gb_e h
        refine x_cV [] g (k_X6_puts q_17) ca_X6_puts in_X6_puts se_X6_puts lm_X6_77 gXX6 q_16 (Nat.le_of_ble_eq_true rfl) rfl rfl (Nat.le_of_ble_eq_true rfl) dX6_addsUmbrella_42 rfl ?_
        refine x_iload_n 2 g dX6_addsUmbrella_45 rfl rfl ?_
        cases h
        exact x_iretS g e dX6_addsUmbrella_46 rfl rfl
      · have h := ite_f c_15 h
        refine x_aload_n 0 g dX6_addsUmbrella_25 rfl rfl ?_
        refine x_iload_n 2 g dX6_addsUmbrella_26 rfl rfl ?_
        refine x_iload_n 3 g dX6_addsUmbrella_27 rfl rfl ?_
        refine x_iconst (v := 0) g dX6_addsUmbrella_28 (by decide) ?_
        obtain ⟨q_19, h⟩ := gd_e h
        obtain ⟨S_21, q_20, h⟩ := gb_e h
        refine x_cV [] g (k_X6_puts q_20) ca_X6_puts in_X6_puts se_X6_puts lm_X6_77 gXX6 q_19 (Nat.le_of_ble_eq_true rfl) rfl rfl (Nat.le_of_ble_eq_true rfl) dX6_addsUmbrella_29 rfl ?_
        obtain ⟨x3_22, e_23⟩ : ∃ z : Int32, z = x3 + 1 := ⟨_, rfl⟩
        have h := glt_e e_23 h
        refine x_iinc (v := x3_22) g dX6_addsUmbrella_32 rfl (by rw [e_23]; rfl) rfl ?_
        refine x_goto 19 g dX6_addsUmbrella_35 (by decide) ?_
        exact ih _ _ _ h
  exact L19 gN _ _ _ h
noncomputable def f_X6_addUmbrella (G : gG) (a0 : Nat) (a1 : Int32) (S : gS) : Option (Int32 × gS) := gd (gis G 3 a0) <| glt (sI S 30 a0 0) fun (S_2 : gS) => gb (f_X6_notAdd G a0 a1 S_2) fun (r_5 : Int32) => if r_5 = 0 then (gb (f_X6_remembers G a0 S_2) fun (S_8 : gS) => gb2 (f_X6_addsUmbrella G a0 a1 S_8) fun (r_10 : Int32) (S_11 : gS) => some (r_10, S_11)) else (gb2 (f_X6_fails G a0 r_5 S_2) fun (r_13 : Int32) (S_14 : gS) => some (r_13, S_14))
set_option maxRecDepth 100000 in
set_option maxHeartbeats 4000000 in
theorem k_X6_addUmbrella {ad : Nat → Nat} {G : gG} {a0 : Nat} {a1 : Int32} {S S1 : gS} {T : gT} {r : Int32} (h : f_X6_addUmbrella G a0 a1 S = some (r, S1)) : Ct ad yX6_addUmbrella (Cond.code yX6_addUmbrella cX6_addUmbrella 3 (some .int) :: gTb) 2 0 0 [.ref a0, .int a1] G S T (some (.int r)) G S1 T := by
  refine Ct.ofB rfl (Nat.le_of_ble_eq_true rfl) rfl (fun K g e hK => ?_)
  obtain ⟨rfl, -⟩ := hK
  show Xj K [] G 0 [some (.ref a0), some (.int a1), none] [] S T 0 0
  unfold f_X6_addUmbrella at h
  refine x_aload_n 0 g dX6_addUmbrella_0 rfl rfl ?_
  refine x_iconst (v := 0) g dX6_addUmbrella_1 (by decide) ?_
  obtain ⟨q_1, h⟩ := gd_e h
  refine x_puti g dX6_addUmbrella_2 gXX6 0 30 rfl (by decide) rfl rfl lf_X6_1 rfl rfl q_1 ?_
  refine x_nS (fun S_2 e_3 => ?_)
  have h := glt_e e_3 h
  refine x_aload_n 0 g dX6_addUmbrella_5 rfl rfl ?_
  refine x_iload_n 1 g dX6_addUmbrella_6 rfl rfl ?_
  obtain ⟨r_5, q_4, h⟩ := gb_e h
  refine x_cV [.int r_5] g (k_X6_notAdd q_4) ca_X6_notAdd in_X6_notAdd se_X6_notAdd lm_X6_81 gXX6 q_1 (Nat.le_of_ble_eq_true rfl) rfl rfl (Nat.le_of_ble_eq_true rfl) dX6_addUmbrella_7 rfl ?_
  refine x_istore_n 2 g dX6_addUmbrella_10 rfl (Nat.le_of_ble_eq_true rfl) rfl ?_
  refine x_iload_n 2 g dX6_addUmbrella_11 rfl rfl ?_
  refine x_if_eq 21 g dX6_addUmbrella_12 (by decide) (fun c_6 => ?_) (fun c_6 => ?_)
  · have h := ite_t c_6 h
    refine x_aload_n 0 g dX6_addUmbrella_21 rfl rfl ?_
    obtain ⟨S_8, q_7, h⟩ := gb_e h
    refine x_cV [] g (k_X6_remembers q_7) ca_X6_remembers in_X6_remembers se_X6_remembers lm_X6_87 gXX6 q_1 (Nat.le_of_ble_eq_true rfl) rfl rfl (Nat.le_of_ble_eq_true rfl) dX6_addUmbrella_22 rfl ?_
    refine x_aload_n 0 g dX6_addUmbrella_25 rfl rfl ?_
    refine x_iload_n 1 g dX6_addUmbrella_26 rfl rfl ?_
    obtain ⟨r_10, S_11, q_9, h⟩ := gb2_e h
    refine x_cV [.int r_10] g (k_X6_addsUmbrella q_9) ca_X6_addsUmbrella in_X6_addsUmbrella se_X6_addsUmbrella lm_X6_90 gXX6 q_1 (Nat.le_of_ble_eq_true rfl) rfl rfl (Nat.le_of_ble_eq_true rfl) dX6_addUmbrella_27 rfl ?_
    cases h
    exact x_iretS g e dX6_addUmbrella_30 rfl rfl
  · have h := ite_f c_6 h
    refine x_aload_n 0 g dX6_addUmbrella_15 rfl rfl ?_
    refine x_iload_n 2 g dX6_addUmbrella_16 rfl rfl ?_
    obtain ⟨r_13, S_14, q_12, h⟩ := gb2_e h
    refine x_cV [.int r_13] g (k_X6_fails q_12) ca_X6_fails in_X6_fails se_X6_fails lm_X6_84 gXX6 q_1 (Nat.le_of_ble_eq_true rfl) rfl rfl (Nat.le_of_ble_eq_true rfl) dX6_addUmbrella_17 rfl ?_
    cases h
    exact x_iretS g e dX6_addUmbrella_20 rfl rfl
noncomputable def f_X6_explores (G : gG) (a0 : Nat) (a1 : Int32) (S : gS) : Option Bool := gd (gis G 3 a0) <| gb (f_X6_of G a0 a1 1 S) fun (r_3 : Int32) => if r_3 ≤ 0 then (some false) else (gb (f_X6_of G a0 a1 2 S) fun (r_6 : Int32) => gb (f_X6_of G a0 a1 1 S) fun (r_8 : Int32) => gd (¬ r_8 = (0 : Int32)) <| if ((r_6 + 1) - (r_6 + 1) / r_8 * r_8) = 0 then (some true) else (some false))
set_option maxRecDepth 100000 in
set_option maxHeartbeats 4000000 in
theorem k_X6_explores {ad : Nat → Nat} {G : gG} {a0 : Nat} {a1 : Int32} {S : gS} {T : gT} {r : Bool} (h : f_X6_explores G a0 a1 S = some r) : Ct ad yX6_explores (Cond.code yX6_explores cX6_explores 2 (some .boolean) :: gTb) 1 0 0 [.ref a0, .int a1] G S T (some (.int (gz r))) G S T := by
  refine Ct.ofB rfl (Nat.le_of_ble_eq_true rfl) rfl (fun K g e hK => ?_)
  obtain ⟨rfl, -⟩ := hK
  show Xj K [] G 0 [some (.ref a0), some (.int a1)] [] S T 0 0
  unfold f_X6_explores at h
  refine x_aload_n 0 g dX6_explores_0 rfl rfl ?_
  refine x_iload_n 1 g dX6_explores_1 rfl rfl ?_
  refine x_iconst (v := 1) g dX6_explores_2 (by decide) ?_
  obtain ⟨q_1, h⟩ := gd_e h
  obtain ⟨r_3, q_2, h⟩ := gb_e h
  refine x_cV [.int r_3] g (k_X6_of q_2) ca_X6_of in_X6_of se_X6_of lm_X6_62 gXX6 q_1 (Nat.le_of_ble_eq_true rfl) rfl rfl (Nat.le_of_ble_eq_true rfl) dX6_explores_3 rfl ?_
  refine x_if_le 31 g dX6_explores_6 (by decide) (fun c_4 => ?_) (fun c_4 => ?_)
  · have h := ite_t c_4 h
    refine x_iconst (v := 0) g dX6_explores_31 (by decide) ?_
    cases h
    exact x_zretS (b := false) g e dX6_explores_32 rfl rfl rfl
  · have h := ite_f c_4 h
    refine x_aload_n 0 g dX6_explores_9 rfl rfl ?_
    refine x_iload_n 1 g dX6_explores_10 rfl rfl ?_
    refine x_iconst (v := 2) g dX6_explores_11 (by decide) ?_
    obtain ⟨r_6, q_5, h⟩ := gb_e h
    refine x_cV [.int r_6] g (k_X6_of q_5) ca_X6_of in_X6_of se_X6_of lm_X6_62 gXX6 q_1 (Nat.le_of_ble_eq_true rfl) rfl rfl (Nat.le_of_ble_eq_true rfl) dX6_explores_12 rfl ?_
    refine x_iconst (v := 1) g dX6_explores_15 (by decide) ?_
    refine x_iadd g dX6_explores_16 ?_
    refine x_aload_n 0 g dX6_explores_17 rfl rfl ?_
    refine x_iload_n 1 g dX6_explores_18 rfl rfl ?_
    refine x_iconst (v := 1) g dX6_explores_19 (by decide) ?_
    obtain ⟨r_8, q_7, h⟩ := gb_e h
    refine x_cV [.int r_8, .int (r_6 + 1)] g (k_X6_of q_7) ca_X6_of in_X6_of se_X6_of lm_X6_62 gXX6 q_1 (Nat.le_of_ble_eq_true rfl) rfl rfl (Nat.le_of_ble_eq_true rfl) dX6_explores_20 rfl ?_
    obtain ⟨q_9, h⟩ := gd_e h
    refine x_irem g dX6_explores_23 q_9 ?_
    refine x_if_ne 31 g dX6_explores_24 (by decide) (fun c_10 => ?_) (fun c_10 => ?_)
    · have h := ite_f c_10 h
      refine x_iconst (v := 0) g dX6_explores_31 (by decide) ?_
      cases h
      exact x_zretS (b := false) g e dX6_explores_32 rfl rfl rfl
    · have h := ite_t c_10 h
      refine x_iconst (v := 1) g dX6_explores_27 (by decide) ?_
      refine x_goto 32 g dX6_explores_28 (by decide) ?_
      cases h
      exact x_zretS (b := true) g e dX6_explores_32 rfl rfl rfl
noncomputable def f_X6_learns_L24 (G : gG) (a0 : Nat) (a1 : Int32) (a2 : Int32) : Nat → Int32 → gS → Option gS
  | 0, _, _ => none
  | n24 + 1, x3, S => gd (gis G 3 a0) <| gb (f_X6_of G a0 a1 3 S) fun (r_17 : Int32) => if r_17 ≤ x3 then (gb (f_X6_of G a0 a1 3 S) fun (r_20 : Int32) => gb (f_X6_puts G a0 a1 (8 + r_20) a2 S) fun (S_22 : gS) => gb (f_X6_adds G a0 a1 3 1 S_22) fun (S_24 : gS) => some S_24) else (gb (f_X6_of G a0 a1 ((8 + x3) + 1) S) fun (r_26 : Int32) => gb (f_X6_puts G a0 a1 (8 + x3) r_26 S) fun (S_28 : gS) => glt (x3 + 1) fun (x3_29 : Int32) => f_X6_learns_L24 G a0 a1 a2 n24 x3_29 S_28)
noncomputable def f_X6_learns (G : gG) (a0 : Nat) (a1 : Int32) (a2 : Int32) (S : gS) : Option gS := gd (gis G 3 a0) <| gb (f_X6_of G a0 a1 3 S) fun (r_3 : Int32) => gb (f_X6_of G a0 a1 0 S) fun (r_5 : Int32) => if r_3 = r_5 then (gb (f_X6_adds G a0 a1 3 (-1) S) fun (S_14 : gS) => f_X6_learns_L24 G a0 a1 a2 gN 0 S_14) else (gb (f_X6_of G a0 a1 3 S) fun (r_8 : Int32) => gb (f_X6_puts G a0 a1 (8 + r_8) a2 S) fun (S_10 : gS) => gb (f_X6_adds G a0 a1 3 1 S_10) fun (S_12 : gS) => some S_12)
set_option maxRecDepth 100000 in
set_option maxHeartbeats 4000000 in
theorem k_X6_learns {ad : Nat → Nat} {G : gG} {a0 : Nat} {a1 : Int32} {a2 : Int32} {S S1 : gS} {T : gT} (h : f_X6_learns G a0 a1 a2 S = some S1) : Ct ad yX6_learns (Cond.code yX6_learns cX6_learns 4 none :: gTb) 1 0 0 [.ref a0, .int a1, .int a2] G S T none G S1 T := by
  refine Ct.ofB rfl (Nat.le_of_ble_eq_true rfl) rfl (fun K g e hK => ?_)
  obtain ⟨rfl, -⟩ := hK
  show Xj K [] G 0 [some (.ref a0), some (.int a1), some (.int a2), none] [] S T 0 0
  unfold f_X6_learns at h
  refine x_aload_n 0 g dX6_learns_0 rfl rfl ?_
  refine x_iload_n 1 g dX6_learns_1 rfl rfl ?_
  refine x_iconst (v := 3) g dX6_learns_2 (by decide) ?_
  obtain ⟨q_1, h⟩ := gd_e h
  obtain ⟨r_3, q_2, h⟩ := gb_e h
  refine x_cV [.int r_3] g (k_X6_of q_2) ca_X6_of in_X6_of se_X6_of lm_X6_62 gXX6 q_1 (Nat.le_of_ble_eq_true rfl) rfl rfl (Nat.le_of_ble_eq_true rfl) dX6_learns_3 rfl ?_
  refine x_aload_n 0 g dX6_learns_6 rfl rfl ?_
  refine x_iload_n 1 g dX6_learns_7 rfl rfl ?_
  refine x_iconst (v := 0) g dX6_learns_8 (by decide) ?_
  obtain ⟨r_5, q_4, h⟩ := gb_e h
  refine x_cV [.int r_5, .int r_3] g (k_X6_of q_4) ca_X6_of in_X6_of se_X6_of lm_X6_62 gXX6 q_1 (Nat.le_of_ble_eq_true rfl) rfl rfl (Nat.le_of_ble_eq_true rfl) dX6_learns_9 rfl ?_
  refine x_icmp_ne 60 g dX6_learns_12 (by decide) (fun c_6 => ?_) (fun c_6 => ?_)
  · have h := ite_f c_6 h
    refine x_aload_n 0 g dX6_learns_60 rfl rfl ?_
    refine x_iload_n 1 g dX6_learns_61 rfl rfl ?_
    refine x_bipush (v := 8) g dX6_learns_62 (by decide) ?_
    refine x_aload_n 0 g dX6_learns_64 rfl rfl ?_
    refine x_iload_n 1 g dX6_learns_65 rfl rfl ?_
    refine x_iconst (v := 3) g dX6_learns_66 (by decide) ?_
    obtain ⟨r_8, q_7, h⟩ := gb_e h
    refine x_cV [.int r_8, .int 8, .int a1, .ref a0] g (k_X6_of q_7) ca_X6_of in_X6_of se_X6_of lm_X6_62 gXX6 q_1 (Nat.le_of_ble_eq_true rfl) rfl rfl (Nat.le_of_ble_eq_true rfl) dX6_learns_67 rfl ?_
    refine x_iadd g dX6_learns_70 ?_
    refine x_iload_n 2 g dX6_learns_71 rfl rfl ?_
    obtain ⟨S_10, q_9, h⟩ := gb_e h
    refine x_cV [] g (k_X6_puts q_9) ca_X6_puts in_X6_puts se_X6_puts lm_X6_77 gXX6 q_1 (Nat.le_of_ble_eq_true rfl) rfl rfl (Nat.le_of_ble_eq_true rfl) dX6_learns_72 rfl ?_
    refine x_aload_n 0 g dX6_learns_75 rfl rfl ?_
    refine x_iload_n 1 g dX6_learns_76 rfl rfl ?_
    refine x_iconst (v := 3) g dX6_learns_77 (by decide) ?_
    refine x_iconst (v := 1) g dX6_learns_78 (by decide) ?_
    obtain ⟨S_12, q_11, h⟩ := gb_e h
    refine x_cV [] g (k_X6_adds q_11) ca_X6_adds in_X6_adds se_X6_adds lm_X6_93 gXX6 q_1 (Nat.le_of_ble_eq_true rfl) rfl rfl (Nat.le_of_ble_eq_true rfl) dX6_learns_79 rfl ?_
    cases h
    exact x_vretS g e dX6_learns_82 rfl
  · have h := ite_t c_6 h
    refine x_aload_n 0 g dX6_learns_15 rfl rfl ?_
    refine x_iload_n 1 g dX6_learns_16 rfl rfl ?_
    refine x_iconst (v := 3) g dX6_learns_17 (by decide) ?_
    refine x_iconst (v := (-1)) g dX6_learns_18 (by decide) ?_
    obtain ⟨S_14, q_13, h⟩ := gb_e h
    refine x_cV [] g (k_X6_adds q_13) ca_X6_adds in_X6_adds se_X6_adds lm_X6_93 gXX6 q_1 (Nat.le_of_ble_eq_true rfl) rfl rfl (Nat.le_of_ble_eq_true rfl) dX6_learns_19 rfl ?_
    refine x_iconst (v := 0) g dX6_learns_22 (by decide) ?_
    refine x_istore_n 3 g dX6_learns_23 rfl (Nat.le_of_ble_eq_true rfl) rfl ?_
    have L24 : ∀ (n24 : Nat) (x3 : Int32) (S : gS), f_X6_learns_L24 G a0 a1 a2 n24 x3 S = some S1 → Xj K [] G 24 [some (.ref a0), some (.int a1), some (.int a2), some (.int x3)] [] S T 0 0 := by
      intro n24
      induction n24 with
      | zero =>
        intro x3 S h
        rw [f_X6_learns_L24] at h
        cases h
      | succ n24 ih =>
        intro x3 S h
        rw [f_X6_learns_L24] at h
        refine x_iload_n 3 g dX6_learns_24 rfl rfl ?_
        refine x_aload_n 0 g dX6_learns_25 rfl rfl ?_
        refine x_iload_n 1 g dX6_learns_26 rfl rfl ?_
        refine x_iconst (v := 3) g dX6_learns_27 (by decide) ?_
        obtain ⟨q_15, h⟩ := gd_e h
        obtain ⟨r_17, q_16, h⟩ := gb_e h
        refine x_cV [.int r_17, .int x3] g (k_X6_of q_16) ca_X6_of in_X6_of se_X6_of lm_X6_62 gXX6 q_15 (Nat.le_of_ble_eq_true rfl) rfl rfl (Nat.le_of_ble_eq_true rfl) dX6_learns_28 rfl ?_
        refine x_icmp_ge 60 g dX6_learns_31 (by decide) (fun c_18 => ?_) (fun c_18 => ?_)
        · have h := ite_t c_18 h
          refine x_aload_n 0 g dX6_learns_60 rfl rfl ?_
          refine x_iload_n 1 g dX6_learns_61 rfl rfl ?_
          refine x_bipush (v := 8) g dX6_learns_62 (by decide) ?_
          refine x_aload_n 0 g dX6_learns_64 rfl rfl ?_
          refine x_iload_n 1 g dX6_learns_65 rfl rfl ?_
          refine x_iconst (v := 3) g dX6_learns_66 (by decide) ?_
          obtain ⟨r_20, q_19, h⟩ := gb_e h
          refine x_cV [.int r_20, .int 8, .int a1, .ref a0] g (k_X6_of q_19) ca_X6_of in_X6_of se_X6_of lm_X6_62 gXX6 q_15 (Nat.le_of_ble_eq_true rfl) rfl rfl (Nat.le_of_ble_eq_true rfl) dX6_learns_67 rfl ?_
          refine x_iadd g dX6_learns_70 ?_
          refine x_iload_n 2 g dX6_learns_71 rfl rfl ?_
          obtain ⟨S_22, q_21, h⟩ := gb_e h
          refine x_cV [] g (k_X6_puts q_21) ca_X6_puts in_X6_puts se_X6_puts lm_X6_77 gXX6 q_15 (Nat.le_of_ble_eq_true rfl) rfl rfl (Nat.le_of_ble_eq_true rfl) dX6_learns_72 rfl ?_
          refine x_aload_n 0 g dX6_learns_75 rfl rfl ?_
          refine x_iload_n 1 g dX6_learns_76 rfl rfl ?_
          refine x_iconst (v := 3) g dX6_learns_77 (by decide) ?_
          refine x_iconst (v := 1) g dX6_learns_78 (by decide) ?_
          obtain ⟨S_24, q_23, h⟩ := gb_e h
          refine x_cV [] g (k_X6_adds q_23) ca_X6_adds in_X6_adds se_X6_adds lm_X6_93 gXX6 q_15 (Nat.le_of_ble_eq_true rfl) rfl rfl (Nat.le_of_ble_eq_true rfl) dX6_learns_79 rfl ?_
          cases h
          exact x_vretS g e dX6_learns_82 rfl
        · have h := ite_f c_18 h
          refine x_aload_n 0 g dX6_learns_34 rfl rfl ?_
          refine x_iload_n 1 g dX6_learns_35 rfl rfl ?_
          refine x_bipush (v := 8) g dX6_learns_36 (by decide) ?_
          refine x_iload_n 3 g dX6_learns_38 rfl rfl ?_
          refine x_iadd g dX6_learns_39 ?_
          refine x_aload_n 0 g dX6_learns_40 rfl rfl ?_
          refine x_iload_n 1 g dX6_learns_41 rfl rfl ?_
          refine x_bipush (v := 8) g dX6_learns_42 (by decide) ?_
          refine x_iload_n 3 g dX6_learns_44 rfl rfl ?_
          refine x_iadd g dX6_learns_45 ?_
          refine x_iconst (v := 1) g dX6_learns_46 (by decide) ?_
          refine x_iadd g dX6_learns_47 ?_
          obtain ⟨r_26, q_25, h⟩ := gb_e h
          refine x_cV [.int r_26, .int (8 + x3), .int a1, .ref a0] g (k_X6_of q_25) ca_X6_of in_X6_of se_X6_of lm_X6_62 gXX6 q_15 (Nat.le_of_ble_eq_true rfl) rfl rfl (Nat.le_of_ble_eq_true rfl) dX6_learns_48 rfl ?_
          obtain ⟨S_28, q_27, h⟩ := gb_e h
          refine x_cV [] g (k_X6_puts q_27) ca_X6_puts in_X6_puts se_X6_puts lm_X6_77 gXX6 q_15 (Nat.le_of_ble_eq_true rfl) rfl rfl (Nat.le_of_ble_eq_true rfl) dX6_learns_51 rfl ?_
          obtain ⟨x3_29, e_30⟩ : ∃ z : Int32, z = x3 + 1 := ⟨_, rfl⟩
          have h := glt_e e_30 h
          refine x_iinc (v := x3_29) g dX6_learns_54 rfl (by rw [e_30]; rfl) rfl ?_
          refine x_goto 24 g dX6_learns_57 (by decide) ?_
          exact ih _ _ h
    exact L24 gN _ _ h
noncomputable def f_X6_tries (G : gG) (a0 : Nat) (a1 : Int32) (a2 : Int32) (a3 : Int32) (S : gS) : Option (Int32 × gS) := gd (gis G 3 a0) <| gb (f_X6_habit G a0 a1 a2 a3 S) fun (r_3 : Int32) => gb (f_X6_explores G a0 a1 S) fun (r_5 : Bool) => if (gz r_5) = 0 then (gb (f_X6_rewardNow G a0 a2 a3 r_3 S) fun (r_8 : Int32) => gb (f_X6_trialOf a2 a3 r_3 r_8) fun (r_10 : Int32) => gb (f_X6_learns G a0 a1 r_10 S) fun (S_12 : gS) => gb (f_X6_adds G a0 a1 2 1 S_12) fun (S_14 : gS) => gb (f_X6_adds G a0 a1 4 r_8 S_14) fun (S_16 : gS) => gb (f_X6_adds G a0 a1 5 r_8 S_16) fun (S_18 : gS) => gb (gP S_18 10 a0) fun (b_19 : Nat) => if r_3 = 1 then (gd (gis G 7 b_19) <| gd (vp_in 4 (gn G b_19)) <| gd (vp_in 4 (gn G b_19)) <| glt (sr S_18 b_19 (Int32.toNatClampNeg 4) ((gr S_18 b_19 (Int32.toNatClampNeg 4)) + r_8)) fun (S_44 : gS) => gb (gP S_44 10 a0) fun (b_46 : Nat) => gd (gis G 7 b_46) <| gd (vp_in 6 (gn G b_46)) <| gd (vp_in 6 (gn G b_46)) <| glt (sr S_44 b_46 (Int32.toNatClampNeg 6) ((gr S_44 b_46 (Int32.toNatClampNeg 6)) + r_3)) fun (S_51 : gS) => gb (gP S_51 10 a0) fun (b_53 : Nat) => gd (gis G 7 b_53) <| gd (vp_in 7 (gn G b_53)) <| gd (vp_in 7 (gn G b_53)) <| glt (sr S_51 b_53 (Int32.toNatClampNeg 7) ((gr S_51 b_53 (Int32.toNatClampNeg 7)) + 1)) fun (S_58 : gS) => some (r_8, S_58)) else (gd (gis G 7 b_19) <| gd (vp_in 5 (gn G b_19)) <| gd (vp_in 5 (gn G b_19)) <| glt (sr S_18 b_19 (Int32.toNatClampNeg 5) ((gr S_18 b_19 (Int32.toNatClampNeg 5)) + r_8)) fun (S_25 : gS) => gb (gP S_25 10 a0) fun (b_27 : Nat) => gd (gis G 7 b_27) <| gd (vp_in 6 (gn G b_27)) <| gd (vp_in 6 (gn G b_27)) <| glt (sr S_25 b_27 (Int32.toNatClampNeg 6) ((gr S_25 b_27 (Int32.toNatClampNeg 6)) + r_3)) fun (S_32 : gS) => gb (gP S_32 10 a0) fun (b_34 : Nat) => gd (gis G 7 b_34) <| gd (vp_in 7 (gn G b_34)) <| gd (vp_in 7 (gn G b_34)) <| glt (sr S_32 b_34 (Int32.toNatClampNeg 7) ((gr S_32 b_34 (Int32.toNatClampNeg 7)) + 1)) fun (S_39 : gS) => some (r_8, S_39))) else (glt (1 - r_3) fun (x4_60 : Int32) => gb (f_X6_rewardNow G a0 a2 a3 x4_60 S) fun (r_63 : Int32) => gb (f_X6_trialOf a2 a3 x4_60 r_63) fun (r_65 : Int32) => gb (f_X6_learns G a0 a1 r_65 S) fun (S_67 : gS) => gb (f_X6_adds G a0 a1 2 1 S_67) fun (S_69 : gS) => gb (f_X6_adds G a0 a1 4 r_63 S_69) fun (S_71 : gS) => gb (f_X6_adds G a0 a1 5 r_63 S_71) fun (S_73 : gS) => gb (gP S_73 10 a0) fun (b_74 : Nat) => if x4_60 = 1 then (gd (gis G 7 b_74) <| gd (vp_in 4 (gn G b_74)) <| gd (vp_in 4 (gn G b_74)) <| glt (sr S_73 b_74 (Int32.toNatClampNeg 4) ((gr S_73 b_74 (Int32.toNatClampNeg 4)) + r_63)) fun (S_99 : gS) => gb (gP S_99 10 a0) fun (b_101 : Nat) => gd (gis G 7 b_101) <| gd (vp_in 6 (gn G b_101)) <| gd (vp_in 6 (gn G b_101)) <| glt (sr S_99 b_101 (Int32.toNatClampNeg 6) ((gr S_99 b_101 (Int32.toNatClampNeg 6)) + x4_60)) fun (S_106 : gS) => gb (gP S_106 10 a0) fun (b_108 : Nat) => gd (gis G 7 b_108) <| gd (vp_in 7 (gn G b_108)) <| gd (vp_in 7 (gn G b_108)) <| glt (sr S_106 b_108 (Int32.toNatClampNeg 7) ((gr S_106 b_108 (Int32.toNatClampNeg 7)) + 1)) fun (S_113 : gS) => some (r_63, S_113)) else (gd (gis G 7 b_74) <| gd (vp_in 5 (gn G b_74)) <| gd (vp_in 5 (gn G b_74)) <| glt (sr S_73 b_74 (Int32.toNatClampNeg 5) ((gr S_73 b_74 (Int32.toNatClampNeg 5)) + r_63)) fun (S_80 : gS) => gb (gP S_80 10 a0) fun (b_82 : Nat) => gd (gis G 7 b_82) <| gd (vp_in 6 (gn G b_82)) <| gd (vp_in 6 (gn G b_82)) <| glt (sr S_80 b_82 (Int32.toNatClampNeg 6) ((gr S_80 b_82 (Int32.toNatClampNeg 6)) + x4_60)) fun (S_87 : gS) => gb (gP S_87 10 a0) fun (b_89 : Nat) => gd (gis G 7 b_89) <| gd (vp_in 7 (gn G b_89)) <| gd (vp_in 7 (gn G b_89)) <| glt (sr S_87 b_89 (Int32.toNatClampNeg 7) ((gr S_87 b_89 (Int32.toNatClampNeg 7)) + 1)) fun (S_94 : gS) => some (r_63, S_94)))
set_option maxRecDepth 100000 in
set_option maxHeartbeats 4000000 in
theorem k_X6_tries {ad : Nat → Nat} {G : gG} {a0 : Nat} {a1 : Int32} {a2 : Int32} {a3 : Int32} {S S1 : gS} {T : gT} {r : Int32} (h : f_X6_tries G a0 a1 a2 a3 S = some (r, S1)) : Ct ad yX6_tries (Cond.code yX6_tries cX6_tries 6 (some .int) :: gTb) 3 0 0 [.ref a0, .int a1, .int a2, .int a3] G S T (some (.int r)) G S1 T := by
  refine Ct.ofB rfl (Nat.le_of_ble_eq_true rfl) rfl (fun K g e hK => ?_)
  obtain ⟨rfl, -⟩ := hK
  show Xj K [] G 0 [some (.ref a0), some (.int a1), some (.int a2), some (.int a3), none, none] [] S T 0 0
  unfold f_X6_tries at h
  refine x_aload_n 0 g dX6_tries_0 rfl rfl ?_
  refine x_iload_n 1 g dX6_tries_1 rfl rfl ?_
  refine x_iload_n 2 g dX6_tries_2 rfl rfl ?_
  refine x_iload_n 3 g dX6_tries_3 rfl rfl ?_
  obtain ⟨q_1, h⟩ := gd_e h
  obtain ⟨r_3, q_2, h⟩ := gb_e h
  refine x_cV [.int r_3] g (k_X6_habit q_2) ca_X6_habit in_X6_habit se_X6_habit lm_X6_96 gXX6 q_1 (Nat.le_of_ble_eq_true rfl) rfl rfl (Nat.le_of_ble_eq_true rfl) dX6_tries_4 rfl ?_
  refine x_istore (i := 4) g dX6_tries_7 (Nat.le_of_ble_eq_true rfl) rfl ?_
  refine x_aload_n 0 g dX6_tries_9 rfl rfl ?_
  refine x_iload_n 1 g dX6_tries_10 rfl rfl ?_
  obtain ⟨r_5, q_4, h⟩ := gb_e h
  refine x_cV [.int (gz r_5)] g (k_X6_explores q_4) ca_X6_explores in_X6_explores se_X6_explores lm_X6_99 gXX6 q_1 (Nat.le_of_ble_eq_true rfl) rfl rfl (Nat.le_of_ble_eq_true rfl) dX6_tries_11 rfl ?_
  refine x_if_eq 23 g dX6_tries_14 (by decide) (fun c_6 => ?_) (fun c_6 => ?_)
  · have h := ite_t c_6 h
    refine x_aload_n 0 g dX6_tries_23 rfl rfl ?_
    refine x_iload_n 2 g dX6_tries_24 rfl rfl ?_
    refine x_iload_n 3 g dX6_tries_25 rfl rfl ?_
    refine x_iload (i := 4) g dX6_tries_26 rfl ?_
    obtain ⟨r_8, q_7, h⟩ := gb_e h
    refine x_cV [.int r_8] g (k_X6_rewardNow q_7) ca_X6_rewardNow in_X6_rewardNow se_X6_rewardNow lm_X6_58 gXX6 q_1 (Nat.le_of_ble_eq_true rfl) rfl rfl (Nat.le_of_ble_eq_true rfl) dX6_tries_28 rfl ?_
    refine x_istore (i := 5) g dX6_tries_31 (Nat.le_of_ble_eq_true rfl) rfl ?_
    refine x_aload_n 0 g dX6_tries_33 rfl rfl ?_
    refine x_iload_n 1 g dX6_tries_34 rfl rfl ?_
    refine x_iload_n 2 g dX6_tries_35 rfl rfl ?_
    refine x_iload_n 3 g dX6_tries_36 rfl rfl ?_
    refine x_iload (i := 4) g dX6_tries_37 rfl ?_
    refine x_iload (i := 5) g dX6_tries_39 rfl ?_
    obtain ⟨r_10, q_9, h⟩ := gb_e h
    refine x_cS [.int r_10, .int a1, .ref a0] g (k_X6_trialOf q_9) ca_X6_trialOf st_X6_trialOf lm_X6_103 (Nat.le_of_ble_eq_true rfl) rfl rfl (Nat.le_of_ble_eq_true rfl) dX6_tries_41 rfl ?_
    obtain ⟨S_12, q_11, h⟩ := gb_e h
    refine x_cV [] g (k_X6_learns q_11) ca_X6_learns in_X6_learns se_X6_learns lm_X6_106 gXX6 q_1 (Nat.le_of_ble_eq_true rfl) rfl rfl (Nat.le_of_ble_eq_true rfl) dX6_tries_44 rfl ?_
    refine x_aload_n 0 g dX6_tries_47 rfl rfl ?_
    refine x_iload_n 1 g dX6_tries_48 rfl rfl ?_
    refine x_iconst (v := 2) g dX6_tries_49 (by decide) ?_
    refine x_iconst (v := 1) g dX6_tries_50 (by decide) ?_
    obtain ⟨S_14, q_13, h⟩ := gb_e h
    refine x_cV [] g (k_X6_adds q_13) ca_X6_adds in_X6_adds se_X6_adds lm_X6_93 gXX6 q_1 (Nat.le_of_ble_eq_true rfl) rfl rfl (Nat.le_of_ble_eq_true rfl) dX6_tries_51 rfl ?_
    refine x_aload_n 0 g dX6_tries_54 rfl rfl ?_
    refine x_iload_n 1 g dX6_tries_55 rfl rfl ?_
    refine x_iconst (v := 4) g dX6_tries_56 (by decide) ?_
    refine x_iload (i := 5) g dX6_tries_57 rfl ?_
    obtain ⟨S_16, q_15, h⟩ := gb_e h
    refine x_cV [] g (k_X6_adds q_15) ca_X6_adds in_X6_adds se_X6_adds lm_X6_93 gXX6 q_1 (Nat.le_of_ble_eq_true rfl) rfl rfl (Nat.le_of_ble_eq_true rfl) dX6_tries_59 rfl ?_
    refine x_aload_n 0 g dX6_tries_62 rfl rfl ?_
    refine x_iload_n 1 g dX6_tries_63 rfl rfl ?_
    refine x_iconst (v := 5) g dX6_tries_64 (by decide) ?_
    refine x_iload (i := 5) g dX6_tries_65 rfl ?_
    obtain ⟨S_18, q_17, h⟩ := gb_e h
    refine x_cV [] g (k_X6_adds q_17) ca_X6_adds in_X6_adds se_X6_adds lm_X6_93 gXX6 q_1 (Nat.le_of_ble_eq_true rfl) rfl rfl (Nat.le_of_ble_eq_true rfl) dX6_tries_67 rfl ?_
    refine x_aload_n 0 g dX6_tries_70 rfl rfl ?_
    obtain ⟨b_19, e_20, h⟩ := gb_e h
    refine x_getr g dX6_tries_71 gXX6 1 10 rfl (by decide) rfl lf_X6_13 q_1 e_20 ?_
    refine x_iload (i := 4) g dX6_tries_74 rfl ?_
    refine x_iconst (v := 1) g dX6_tries_76 (by decide) ?_
    refine x_icmp_ne 84 g dX6_tries_77 (by decide) (fun c_21 => ?_) (fun c_21 => ?_)
    · have h := ite_f c_21 h
      refine x_iconst (v := 5) g dX6_tries_84 (by decide) ?_
      refine x_dup2 g dX6_tries_85 rfl rfl ?_
      obtain ⟨q_22, h⟩ := gd_e h
      obtain ⟨q_23, h⟩ := gd_e h
      refine x_iald g dX6_tries_86 q_22 q_23 ?_
      refine x_iload (i := 5) g dX6_tries_87 rfl ?_
      refine x_iadd g dX6_tries_89 ?_
      obtain ⟨q_24, h⟩ := gd_e h
      refine x_iast g dX6_tries_90 q_22 q_24 ?_
      refine x_nS (fun S_25 e_26 => ?_)
      have h := glt_e e_26 h
      refine x_aload_n 0 g dX6_tries_91 rfl rfl ?_
      obtain ⟨b_27, e_28, h⟩ := gb_e h
      refine x_getr g dX6_tries_92 gXX6 1 10 rfl (by decide) rfl lf_X6_13 q_1 e_28 ?_
      refine x_bipush (v := 6) g dX6_tries_95 (by decide) ?_
      refine x_dup2 g dX6_tries_97 rfl rfl ?_
      obtain ⟨q_29, h⟩ := gd_e h
      obtain ⟨q_30, h⟩ := gd_e h
      refine x_iald g dX6_tries_98 q_29 q_30 ?_
      refine x_iload (i := 4) g dX6_tries_99 rfl ?_
      refine x_iadd g dX6_tries_101 ?_
      obtain ⟨q_31, h⟩ := gd_e h
      refine x_iast g dX6_tries_102 q_29 q_31 ?_
      refine x_nS (fun S_32 e_33 => ?_)
      have h := glt_e e_33 h
      refine x_aload_n 0 g dX6_tries_103 rfl rfl ?_
      obtain ⟨b_34, e_35, h⟩ := gb_e h
      refine x_getr g dX6_tries_104 gXX6 1 10 rfl (by decide) rfl lf_X6_13 q_1 e_35 ?_
      refine x_bipush (v := 7) g dX6_tries_107 (by decide) ?_
      refine x_dup2 g dX6_tries_109 rfl rfl ?_
      obtain ⟨q_36, h⟩ := gd_e h
      obtain ⟨q_37, h⟩ := gd_e h
      refine x_iald g dX6_tries_110 q_36 q_37 ?_
      refine x_iconst (v := 1) g dX6_tries_111 (by decide) ?_
      refine x_iadd g dX6_tries_112 ?_
      obtain ⟨q_38, h⟩ := gd_e h
      refine x_iast g dX6_tries_113 q_36 q_38 ?_
      refine x_nS (fun S_39 e_40 => ?_)
      have h := glt_e e_40 h
      refine x_iload (i := 5) g dX6_tries_114 rfl ?_
      cases h
      exact x_iretS g e dX6_tries_116 rfl rfl
    · have h := ite_t c_21 h
      refine x_iconst (v := 4) g dX6_tries_80 (by decide) ?_
      refine x_goto 85 g dX6_tries_81 (by decide) ?_
      refine x_dup2 g dX6_tries_85 rfl rfl ?_
      obtain ⟨q_41, h⟩ := gd_e h
      obtain ⟨q_42, h⟩ := gd_e h
      refine x_iald g dX6_tries_86 q_41 q_42 ?_
      refine x_iload (i := 5) g dX6_tries_87 rfl ?_
      refine x_iadd g dX6_tries_89 ?_
      obtain ⟨q_43, h⟩ := gd_e h
      refine x_iast g dX6_tries_90 q_41 q_43 ?_
      refine x_nS (fun S_44 e_45 => ?_)
      have h := glt_e e_45 h
      refine x_aload_n 0 g dX6_tries_91 rfl rfl ?_
      obtain ⟨b_46, e_47, h⟩ := gb_e h
      refine x_getr g dX6_tries_92 gXX6 1 10 rfl (by decide) rfl lf_X6_13 q_1 e_47 ?_
      refine x_bipush (v := 6) g dX6_tries_95 (by decide) ?_
      refine x_dup2 g dX6_tries_97 rfl rfl ?_
      obtain ⟨q_48, h⟩ := gd_e h
      obtain ⟨q_49, h⟩ := gd_e h
      refine x_iald g dX6_tries_98 q_48 q_49 ?_
      refine x_iload (i := 4) g dX6_tries_99 rfl ?_
      refine x_iadd g dX6_tries_101 ?_
      obtain ⟨q_50, h⟩ := gd_e h
      refine x_iast g dX6_tries_102 q_48 q_50 ?_
      refine x_nS (fun S_51 e_52 => ?_)
      have h := glt_e e_52 h
      refine x_aload_n 0 g dX6_tries_103 rfl rfl ?_
      obtain ⟨b_53, e_54, h⟩ := gb_e h
      refine x_getr g dX6_tries_104 gXX6 1 10 rfl (by decide) rfl lf_X6_13 q_1 e_54 ?_
      refine x_bipush (v := 7) g dX6_tries_107 (by decide) ?_
      refine x_dup2 g dX6_tries_109 rfl rfl ?_
      obtain ⟨q_55, h⟩ := gd_e h
      obtain ⟨q_56, h⟩ := gd_e h
      refine x_iald g dX6_tries_110 q_55 q_56 ?_
      refine x_iconst (v := 1) g dX6_tries_111 (by decide) ?_
      refine x_iadd g dX6_tries_112 ?_
      obtain ⟨q_57, h⟩ := gd_e h
      refine x_iast g dX6_tries_113 q_55 q_57 ?_
      refine x_nS (fun S_58 e_59 => ?_)
      have h := glt_e e_59 h
      refine x_iload (i := 5) g dX6_tries_114 rfl ?_
      cases h
      exact x_iretS g e dX6_tries_116 rfl rfl
  · have h := ite_f c_6 h
    refine x_iconst (v := 1) g dX6_tries_17 (by decide) ?_
    refine x_iload (i := 4) g dX6_tries_18 rfl ?_
    refine x_isub g dX6_tries_20 ?_
    refine x_nI (fun x4_60 e_61 => ?_)
    have h := glt_e e_61 h
    refine x_istore (i := 4) g dX6_tries_21 (Nat.le_of_ble_eq_true rfl) rfl ?_
    refine x_aload_n 0 g dX6_tries_23 rfl rfl ?_
    refine x_iload_n 2 g dX6_tries_24 rfl rfl ?_
    refine x_iload_n 3 g dX6_tries_25 rfl rfl ?_
    refine x_iload (i := 4) g dX6_tries_26 rfl ?_
    obtain ⟨r_63, q_62, h⟩ := gb_e h
    refine x_cV [.int r_63] g (k_X6_rewardNow q_62) ca_X6_rewardNow in_X6_rewardNow se_X6_rewardNow lm_X6_58 gXX6 q_1 (Nat.le_of_ble_eq_true rfl) rfl rfl (Nat.le_of_ble_eq_true rfl) dX6_tries_28 rfl ?_
    refine x_istore (i := 5) g dX6_tries_31 (Nat.le_of_ble_eq_true rfl) rfl ?_
    refine x_aload_n 0 g dX6_tries_33 rfl rfl ?_
    refine x_iload_n 1 g dX6_tries_34 rfl rfl ?_
    refine x_iload_n 2 g dX6_tries_35 rfl rfl ?_
    refine x_iload_n 3 g dX6_tries_36 rfl rfl ?_
    refine x_iload (i := 4) g dX6_tries_37 rfl ?_
    refine x_iload (i := 5) g dX6_tries_39 rfl ?_
    obtain ⟨r_65, q_64, h⟩ := gb_e h
    refine x_cS [.int r_65, .int a1, .ref a0] g (k_X6_trialOf q_64) ca_X6_trialOf st_X6_trialOf lm_X6_103 (Nat.le_of_ble_eq_true rfl) rfl rfl (Nat.le_of_ble_eq_true rfl) dX6_tries_41 rfl ?_
    obtain ⟨S_67, q_66, h⟩ := gb_e h
    refine x_cV [] g (k_X6_learns q_66) ca_X6_learns in_X6_learns se_X6_learns lm_X6_106 gXX6 q_1 (Nat.le_of_ble_eq_true rfl) rfl rfl (Nat.le_of_ble_eq_true rfl) dX6_tries_44 rfl ?_
    refine x_aload_n 0 g dX6_tries_47 rfl rfl ?_
    refine x_iload_n 1 g dX6_tries_48 rfl rfl ?_
    refine x_iconst (v := 2) g dX6_tries_49 (by decide) ?_
    refine x_iconst (v := 1) g dX6_tries_50 (by decide) ?_
    obtain ⟨S_69, q_68, h⟩ := gb_e h
    refine x_cV [] g (k_X6_adds q_68) ca_X6_adds in_X6_adds se_X6_adds lm_X6_93 gXX6 q_1 (Nat.le_of_ble_eq_true rfl) rfl rfl (Nat.le_of_ble_eq_true rfl) dX6_tries_51 rfl ?_
    refine x_aload_n 0 g dX6_tries_54 rfl rfl ?_
    refine x_iload_n 1 g dX6_tries_55 rfl rfl ?_
    refine x_iconst (v := 4) g dX6_tries_56 (by decide) ?_
    refine x_iload (i := 5) g dX6_tries_57 rfl ?_
    obtain ⟨S_71, q_70, h⟩ := gb_e h
    refine x_cV [] g (k_X6_adds q_70) ca_X6_adds in_X6_adds se_X6_adds lm_X6_93 gXX6 q_1 (Nat.le_of_ble_eq_true rfl) rfl rfl (Nat.le_of_ble_eq_true rfl) dX6_tries_59 rfl ?_
    refine x_aload_n 0 g dX6_tries_62 rfl rfl ?_
    refine x_iload_n 1 g dX6_tries_63 rfl rfl ?_
    refine x_iconst (v := 5) g dX6_tries_64 (by decide) ?_
    refine x_iload (i := 5) g dX6_tries_65 rfl ?_
    obtain ⟨S_73, q_72, h⟩ := gb_e h
    refine x_cV [] g (k_X6_adds q_72) ca_X6_adds in_X6_adds se_X6_adds lm_X6_93 gXX6 q_1 (Nat.le_of_ble_eq_true rfl) rfl rfl (Nat.le_of_ble_eq_true rfl) dX6_tries_67 rfl ?_
    refine x_aload_n 0 g dX6_tries_70 rfl rfl ?_
    obtain ⟨b_74, e_75, h⟩ := gb_e h
    refine x_getr g dX6_tries_71 gXX6 1 10 rfl (by decide) rfl lf_X6_13 q_1 e_75 ?_
    refine x_iload (i := 4) g dX6_tries_74 rfl ?_
    refine x_iconst (v := 1) g dX6_tries_76 (by decide) ?_
    refine x_icmp_ne 84 g dX6_tries_77 (by decide) (fun c_76 => ?_) (fun c_76 => ?_)
    · have h := ite_f c_76 h
      refine x_iconst (v := 5) g dX6_tries_84 (by decide) ?_
      refine x_dup2 g dX6_tries_85 rfl rfl ?_
      obtain ⟨q_77, h⟩ := gd_e h
      obtain ⟨q_78, h⟩ := gd_e h
      refine x_iald g dX6_tries_86 q_77 q_78 ?_
      refine x_iload (i := 5) g dX6_tries_87 rfl ?_
      refine x_iadd g dX6_tries_89 ?_
      obtain ⟨q_79, h⟩ := gd_e h
      refine x_iast g dX6_tries_90 q_77 q_79 ?_
      refine x_nS (fun S_80 e_81 => ?_)
      have h := glt_e e_81 h
      refine x_aload_n 0 g dX6_tries_91 rfl rfl ?_
      obtain ⟨b_82, e_83, h⟩ := gb_e h
      refine x_getr g dX6_tries_92 gXX6 1 10 rfl (by decide) rfl lf_X6_13 q_1 e_83 ?_
      refine x_bipush (v := 6) g dX6_tries_95 (by decide) ?_
      refine x_dup2 g dX6_tries_97 rfl rfl ?_
      obtain ⟨q_84, h⟩ := gd_e h
      obtain ⟨q_85, h⟩ := gd_e h
      refine x_iald g dX6_tries_98 q_84 q_85 ?_
      refine x_iload (i := 4) g dX6_tries_99 rfl ?_
      refine x_iadd g dX6_tries_101 ?_
      obtain ⟨q_86, h⟩ := gd_e h
      refine x_iast g dX6_tries_102 q_84 q_86 ?_
      refine x_nS (fun S_87 e_88 => ?_)
      have h := glt_e e_88 h
      refine x_aload_n 0 g dX6_tries_103 rfl rfl ?_
      obtain ⟨b_89, e_90, h⟩ := gb_e h
      refine x_getr g dX6_tries_104 gXX6 1 10 rfl (by decide) rfl lf_X6_13 q_1 e_90 ?_
      refine x_bipush (v := 7) g dX6_tries_107 (by decide) ?_
      refine x_dup2 g dX6_tries_109 rfl rfl ?_
      obtain ⟨q_91, h⟩ := gd_e h
      obtain ⟨q_92, h⟩ := gd_e h
      refine x_iald g dX6_tries_110 q_91 q_92 ?_
      refine x_iconst (v := 1) g dX6_tries_111 (by decide) ?_
      refine x_iadd g dX6_tries_112 ?_
      obtain ⟨q_93, h⟩ := gd_e h
      refine x_iast g dX6_tries_113 q_91 q_93 ?_
      refine x_nS (fun S_94 e_95 => ?_)
      have h := glt_e e_95 h
      refine x_iload (i := 5) g dX6_tries_114 rfl ?_
      cases h
      exact x_iretS g e dX6_tries_116 rfl rfl
    · have h := ite_t c_76 h
      refine x_iconst (v := 4) g dX6_tries_80 (by decide) ?_
      refine x_goto 85 g dX6_tries_81 (by decide) ?_
      refine x_dup2 g dX6_tries_85 rfl rfl ?_
      obtain ⟨q_96, h⟩ := gd_e h
      obtain ⟨q_97, h⟩ := gd_e h
      refine x_iald g dX6_tries_86 q_96 q_97 ?_
      refine x_iload (i := 5) g dX6_tries_87 rfl ?_
      refine x_iadd g dX6_tries_89 ?_
      obtain ⟨q_98, h⟩ := gd_e h
      refine x_iast g dX6_tries_90 q_96 q_98 ?_
      refine x_nS (fun S_99 e_100 => ?_)
      have h := glt_e e_100 h
      refine x_aload_n 0 g dX6_tries_91 rfl rfl ?_
      obtain ⟨b_101, e_102, h⟩ := gb_e h
      refine x_getr g dX6_tries_92 gXX6 1 10 rfl (by decide) rfl lf_X6_13 q_1 e_102 ?_
      refine x_bipush (v := 6) g dX6_tries_95 (by decide) ?_
      refine x_dup2 g dX6_tries_97 rfl rfl ?_
      obtain ⟨q_103, h⟩ := gd_e h
      obtain ⟨q_104, h⟩ := gd_e h
      refine x_iald g dX6_tries_98 q_103 q_104 ?_
      refine x_iload (i := 4) g dX6_tries_99 rfl ?_
      refine x_iadd g dX6_tries_101 ?_
      obtain ⟨q_105, h⟩ := gd_e h
      refine x_iast g dX6_tries_102 q_103 q_105 ?_
      refine x_nS (fun S_106 e_107 => ?_)
      have h := glt_e e_107 h
      refine x_aload_n 0 g dX6_tries_103 rfl rfl ?_
      obtain ⟨b_108, e_109, h⟩ := gb_e h
      refine x_getr g dX6_tries_104 gXX6 1 10 rfl (by decide) rfl lf_X6_13 q_1 e_109 ?_
      refine x_bipush (v := 7) g dX6_tries_107 (by decide) ?_
      refine x_dup2 g dX6_tries_109 rfl rfl ?_
      obtain ⟨q_110, h⟩ := gd_e h
      obtain ⟨q_111, h⟩ := gd_e h
      refine x_iald g dX6_tries_110 q_110 q_111 ?_
      refine x_iconst (v := 1) g dX6_tries_111 (by decide) ?_
      refine x_iadd g dX6_tries_112 ?_
      obtain ⟨q_112, h⟩ := gd_e h
      refine x_iast g dX6_tries_113 q_110 q_112 ?_
      refine x_nS (fun S_113 e_114 => ?_)
      have h := glt_e e_114 h
      refine x_iload (i := 5) g dX6_tries_114 rfl ?_
      cases h
      exact x_iretS g e dX6_tries_116 rfl rfl
noncomputable def f_X6_notTrain (G : gG) (a0 : Nat) (a1 : Int32) (a2 : Int32) (a3 : Int32) (a4 : Int32) (S : gS) : Option Int32 := gd (gis G 3 a0) <| gb (f_X6_isUmbrella G a0 a1 S) fun (r_3 : Bool) => if (gz r_3) = 0 then (some 1) else (gb (f_X6_isSituation a2 a3) fun (r_6 : Bool) => if (gz r_6) = 0 then (some 2) else (gb (f_X6_isBetween a4 1 9) fun (r_9 : Bool) => if (gz r_9) = 0 then (some 2) else (some 0)))
set_option maxRecDepth 100000 in
set_option maxHeartbeats 4000000 in
theorem k_X6_notTrain {ad : Nat → Nat} {G : gG} {a0 : Nat} {a1 : Int32} {a2 : Int32} {a3 : Int32} {a4 : Int32} {S : gS} {T : gT} {r : Int32} (h : f_X6_notTrain G a0 a1 a2 a3 a4 S = some r) : Ct ad yX6_notTrain (Cond.code yX6_notTrain cX6_notTrain 5 (some .int) :: gTb) 2 0 0 [.ref a0, .int a1, .int a2, .int a3, .int a4] G S T (some (.int r)) G S T := by
  refine Ct.ofB rfl (Nat.le_of_ble_eq_true rfl) rfl (fun K g e hK => ?_)
  obtain ⟨rfl, -⟩ := hK
  show Xj K [] G 0 [some (.ref a0), some (.int a1), some (.int a2), some (.int a3), some (.int a4)] [] S T 0 0
  unfold f_X6_notTrain at h
  refine x_aload_n 0 g dX6_notTrain_0 rfl rfl ?_
  refine x_iload_n 1 g dX6_notTrain_1 rfl rfl ?_
  obtain ⟨q_1, h⟩ := gd_e h
  obtain ⟨r_3, q_2, h⟩ := gb_e h
  refine x_cV [.int (gz r_3)] g (k_X6_isUmbrella q_2) ca_X6_isUmbrella in_X6_isUmbrella se_X6_isUmbrella lm_X6_110 gXX6 q_1 (Nat.le_of_ble_eq_true rfl) rfl rfl (Nat.le_of_ble_eq_true rfl) dX6_notTrain_2 rfl ?_
  refine x_if_ne 10 g dX6_notTrain_5 (by decide) (fun c_4 => ?_) (fun c_4 => ?_)
  · have h := ite_f c_4 h
    refine x_iload_n 2 g dX6_notTrain_10 rfl rfl ?_
    refine x_iload_n 3 g dX6_notTrain_11 rfl rfl ?_
    obtain ⟨r_6, q_5, h⟩ := gb_e h
    refine x_cS [.int (gz r_6)] g (k_X6_isSituation q_5) ca_X6_isSituation st_X6_isSituation lm_X6_113 (Nat.le_of_ble_eq_true rfl) rfl rfl (Nat.le_of_ble_eq_true rfl) dX6_notTrain_12 rfl ?_
    refine x_if_eq 33 g dX6_notTrain_15 (by decide) (fun c_7 => ?_) (fun c_7 => ?_)
    · have h := ite_t c_7 h
      refine x_iconst (v := 2) g dX6_notTrain_33 (by decide) ?_
      cases h
      exact x_iretS g e dX6_notTrain_34 rfl rfl
    · have h := ite_f c_7 h
      refine x_iload (i := 4) g dX6_notTrain_18 rfl ?_
      refine x_iconst (v := 1) g dX6_notTrain_20 (by decide) ?_
      refine x_bipush (v := 9) g dX6_notTrain_21 (by decide) ?_
      obtain ⟨r_9, q_8, h⟩ := gb_e h
      refine x_cS [.int (gz r_9)] g (k_X6_isBetween q_8) ca_X6_isBetween st_X6_isBetween lm_X6_54 (Nat.le_of_ble_eq_true rfl) rfl rfl (Nat.le_of_ble_eq_true rfl) dX6_notTrain_23 rfl ?_
      refine x_if_eq 33 g dX6_notTrain_26 (by decide) (fun c_10 => ?_) (fun c_10 => ?_)
      · have h := ite_t c_10 h
        refine x_iconst (v := 2) g dX6_notTrain_33 (by decide) ?_
        cases h
        exact x_iretS g e dX6_notTrain_34 rfl rfl
      · have h := ite_f c_10 h
        refine x_iconst (v := 0) g dX6_notTrain_29 (by decide) ?_
        refine x_goto 34 g dX6_notTrain_30 (by decide) ?_
        cases h
        exact x_iretS g e dX6_notTrain_34 rfl rfl
  · have h := ite_t c_4 h
    refine x_iconst (v := 1) g dX6_notTrain_8 (by decide) ?_
    cases h
    exact x_iretS g e dX6_notTrain_9 rfl rfl
noncomputable def f_X6_trains_L6 (G : gG) (a0 : Nat) (a1 : Int32) (a2 : Int32) (a3 : Int32) (a4 : Int32) : Nat → Int32 → Int32 → gS → Option (Int32 × gS)
  | 0, _, _, _ => none
  | n6 + 1, x5, x6, S => if a4 ≤ x6 then (some (x5, S)) else (gd (gis G 3 a0) <| gb2 (f_X6_tries G a0 a1 a2 a3 S) fun (r_4 : Int32) (S_5 : gS) => glt (x5 + r_4) fun (x5_6 : Int32) => glt (x6 + 1) fun (x6_8 : Int32) => f_X6_trains_L6 G a0 a1 a2 a3 a4 n6 x5_6 x6_8 S_5)
noncomputable def f_X6_trains (G : gG) (a0 : Nat) (a1 : Int32) (a2 : Int32) (a3 : Int32) (a4 : Int32) (S : gS) : Option (Int32 × gS) := f_X6_trains_L6 G a0 a1 a2 a3 a4 gN 0 0 S
set_option maxRecDepth 100000 in
set_option maxHeartbeats 4000000 in
theorem k_X6_trains {ad : Nat → Nat} {G : gG} {a0 : Nat} {a1 : Int32} {a2 : Int32} {a3 : Int32} {a4 : Int32} {S S1 : gS} {T : gT} {r : Int32} (h : f_X6_trains G a0 a1 a2 a3 a4 S = some (r, S1)) : Ct ad yX6_trains (Cond.code yX6_trains cX6_trains 7 (some .int) :: gTb) 4 0 0 [.ref a0, .int a1, .int a2, .int a3, .int a4] G S T (some (.int r)) G S1 T := by
  refine Ct.ofB rfl (Nat.le_of_ble_eq_true rfl) rfl (fun K g e hK => ?_)
  obtain ⟨rfl, -⟩ := hK
  show Xj K [] G 0 [some (.ref a0), some (.int a1), some (.int a2), some (.int a3), some (.int a4), none, none] [] S T 0 0
  unfold f_X6_trains at h
  refine x_iconst (v := 0) g dX6_trains_0 (by decide) ?_
  refine x_istore (i := 5) g dX6_trains_1 (Nat.le_of_ble_eq_true rfl) rfl ?_
  refine x_iconst (v := 0) g dX6_trains_3 (by decide) ?_
  refine x_istore (i := 6) g dX6_trains_4 (Nat.le_of_ble_eq_true rfl) rfl ?_
  have L6 : ∀ (n6 : Nat) (x5 : Int32) (x6 : Int32) (S : gS), f_X6_trains_L6 G a0 a1 a2 a3 a4 n6 x5 x6 S = some (r, S1) → Xj K [] G 6 [some (.ref a0), some (.int a1), some (.int a2), some (.int a3), some (.int a4), some (.int x5), some (.int x6)] [] S T 0 0 := by
    intro n6
    induction n6 with
    | zero =>
      intro x5 x6 S h
      rw [f_X6_trains_L6] at h
      cases h
    | succ n6 ih =>
      intro x5 x6 S h
      rw [f_X6_trains_L6] at h
      refine x_iload (i := 6) g dX6_trains_6 rfl ?_
      refine x_iload (i := 4) g dX6_trains_8 rfl ?_
      refine x_icmp_ge 31 g dX6_trains_10 (by decide) (fun c_1 => ?_) (fun c_1 => ?_)
      · have h := ite_t c_1 h
        refine x_iload (i := 5) g dX6_trains_31 rfl ?_
        cases h
        exact x_iretS g e dX6_trains_33 rfl rfl
      · have h := ite_f c_1 h
        refine x_iload (i := 5) g dX6_trains_13 rfl ?_
        refine x_aload_n 0 g dX6_trains_15 rfl rfl ?_
        refine x_iload_n 1 g dX6_trains_16 rfl rfl ?_
        refine x_iload_n 2 g dX6_trains_17 rfl rfl ?_
        refine x_iload_n 3 g dX6_trains_18 rfl rfl ?_
        obtain ⟨q_2, h⟩ := gd_e h
        obtain ⟨r_4, S_5, q_3, h⟩ := gb2_e h
        refine x_cV [.int r_4, .int x5] g (k_X6_tries q_3) ca_X6_tries in_X6_tries se_X6_tries lm_X6_117 gXX6 q_2 (Nat.le_of_ble_eq_true rfl) rfl rfl (Nat.le_of_ble_eq_true rfl) dX6_trains_19 rfl ?_
        refine x_iadd g dX6_trains_22 ?_
        refine x_nI (fun x5_6 e_7 => ?_)
        have h := glt_e e_7 h
        refine x_istore (i := 5) g dX6_trains_23 (Nat.le_of_ble_eq_true rfl) rfl ?_
        obtain ⟨x6_8, e_9⟩ : ∃ z : Int32, z = x6 + 1 := ⟨_, rfl⟩
        have h := glt_e e_9 h
        refine x_iinc (v := x6_8) g dX6_trains_25 rfl (by rw [e_9]; rfl) rfl ?_
        refine x_goto 6 g dX6_trains_28 (by decide) ?_
        exact ih _ _ _ h
  exact L6 gN _ _ _ h
noncomputable def f_X6_train (G : gG) (a0 : Nat) (a1 : Int32) (a2 : Int32) (a3 : Int32) (a4 : Int32) (S : gS) : Option (Int32 × gS) := gd (gis G 3 a0) <| glt (sI S 30 a0 0) fun (S_2 : gS) => gb (f_X6_notTrain G a0 a1 a2 a3 a4 S_2) fun (r_5 : Int32) => if r_5 = 0 then (gb (f_X6_remembers G a0 S_2) fun (S_8 : gS) => gb2 (f_X6_trains G a0 a1 a2 a3 a4 S_8) fun (r_10 : Int32) (S_11 : gS) => some (r_10, S_11)) else (gb2 (f_X6_fails G a0 r_5 S_2) fun (r_13 : Int32) (S_14 : gS) => some (r_13, S_14))
set_option maxRecDepth 100000 in
set_option maxHeartbeats 4000000 in
theorem k_X6_train {ad : Nat → Nat} {G : gG} {a0 : Nat} {a1 : Int32} {a2 : Int32} {a3 : Int32} {a4 : Int32} {S S1 : gS} {T : gT} {r : Int32} (h : f_X6_train G a0 a1 a2 a3 a4 S = some (r, S1)) : Ct ad yX6_train (Cond.code yX6_train cX6_train 6 (some .int) :: gTb) 5 0 0 [.ref a0, .int a1, .int a2, .int a3, .int a4] G S T (some (.int r)) G S1 T := by
  refine Ct.ofB rfl (Nat.le_of_ble_eq_true rfl) rfl (fun K g e hK => ?_)
  obtain ⟨rfl, -⟩ := hK
  show Xj K [] G 0 [some (.ref a0), some (.int a1), some (.int a2), some (.int a3), some (.int a4), none] [] S T 0 0
  unfold f_X6_train at h
  refine x_aload_n 0 g dX6_train_0 rfl rfl ?_
  refine x_iconst (v := 0) g dX6_train_1 (by decide) ?_
  obtain ⟨q_1, h⟩ := gd_e h
  refine x_puti g dX6_train_2 gXX6 0 30 rfl (by decide) rfl rfl lf_X6_1 rfl rfl q_1 ?_
  refine x_nS (fun S_2 e_3 => ?_)
  have h := glt_e e_3 h
  refine x_aload_n 0 g dX6_train_5 rfl rfl ?_
  refine x_iload_n 1 g dX6_train_6 rfl rfl ?_
  refine x_iload_n 2 g dX6_train_7 rfl rfl ?_
  refine x_iload_n 3 g dX6_train_8 rfl rfl ?_
  refine x_iload (i := 4) g dX6_train_9 rfl ?_
  obtain ⟨r_5, q_4, h⟩ := gb_e h
  refine x_cV [.int r_5] g (k_X6_notTrain q_4) ca_X6_notTrain in_X6_notTrain se_X6_notTrain lm_X6_120 gXX6 q_1 (Nat.le_of_ble_eq_true rfl) rfl rfl (Nat.le_of_ble_eq_true rfl) dX6_train_11 rfl ?_
  refine x_istore (i := 5) g dX6_train_14 (Nat.le_of_ble_eq_true rfl) rfl ?_
  refine x_iload (i := 5) g dX6_train_16 rfl ?_
  refine x_if_eq 28 g dX6_train_18 (by decide) (fun c_6 => ?_) (fun c_6 => ?_)
  · have h := ite_t c_6 h
    refine x_aload_n 0 g dX6_train_28 rfl rfl ?_
    obtain ⟨S_8, q_7, h⟩ := gb_e h
    refine x_cV [] g (k_X6_remembers q_7) ca_X6_remembers in_X6_remembers se_X6_remembers lm_X6_87 gXX6 q_1 (Nat.le_of_ble_eq_true rfl) rfl rfl (Nat.le_of_ble_eq_true rfl) dX6_train_29 rfl ?_
    refine x_aload_n 0 g dX6_train_32 rfl rfl ?_
    refine x_iload_n 1 g dX6_train_33 rfl rfl ?_
    refine x_iload_n 2 g dX6_train_34 rfl rfl ?_
    refine x_iload_n 3 g dX6_train_35 rfl rfl ?_
    refine x_iload (i := 4) g dX6_train_36 rfl ?_
    obtain ⟨r_10, S_11, q_9, h⟩ := gb2_e h
    refine x_cV [.int r_10] g (k_X6_trains q_9) ca_X6_trains in_X6_trains se_X6_trains lm_X6_123 gXX6 q_1 (Nat.le_of_ble_eq_true rfl) rfl rfl (Nat.le_of_ble_eq_true rfl) dX6_train_38 rfl ?_
    cases h
    exact x_iretS g e dX6_train_41 rfl rfl
  · have h := ite_f c_6 h
    refine x_aload_n 0 g dX6_train_21 rfl rfl ?_
    refine x_iload (i := 5) g dX6_train_22 rfl ?_
    obtain ⟨r_13, S_14, q_12, h⟩ := gb2_e h
    refine x_cV [.int r_13] g (k_X6_fails q_12) ca_X6_fails in_X6_fails se_X6_fails lm_X6_84 gXX6 q_1 (Nat.le_of_ble_eq_true rfl) rfl rfl (Nat.le_of_ble_eq_true rfl) dX6_train_24 rfl ?_
    cases h
    exact x_iretS g e dX6_train_27 rfl rfl
noncomputable def f_X6_notPeriod (G : gG) (a0 : Nat) (a1 : Int32) (a2 : Int32) (S : gS) : Option Int32 := gd (gis G 3 a0) <| gb (f_X6_isUmbrella G a0 a1 S) fun (r_3 : Bool) => if (gz r_3) = 0 then (some 1) else (gb (f_X6_isBetween a2 0 9) fun (r_6 : Bool) => if (gz r_6) = 0 then (some 2) else (some 0))
set_option maxRecDepth 100000 in
set_option maxHeartbeats 4000000 in
theorem k_X6_notPeriod {ad : Nat → Nat} {G : gG} {a0 : Nat} {a1 : Int32} {a2 : Int32} {S : gS} {T : gT} {r : Int32} (h : f_X6_notPeriod G a0 a1 a2 S = some r) : Ct ad yX6_notPeriod (Cond.code yX6_notPeriod cX6_notPeriod 3 (some .int) :: gTb) 2 0 0 [.ref a0, .int a1, .int a2] G S T (some (.int r)) G S T := by
  refine Ct.ofB rfl (Nat.le_of_ble_eq_true rfl) rfl (fun K g e hK => ?_)
  obtain ⟨rfl, -⟩ := hK
  show Xj K [] G 0 [some (.ref a0), some (.int a1), some (.int a2)] [] S T 0 0
  unfold f_X6_notPeriod at h
  refine x_aload_n 0 g dX6_notPeriod_0 rfl rfl ?_
  refine x_iload_n 1 g dX6_notPeriod_1 rfl rfl ?_
  obtain ⟨q_1, h⟩ := gd_e h
  obtain ⟨r_3, q_2, h⟩ := gb_e h
  refine x_cV [.int (gz r_3)] g (k_X6_isUmbrella q_2) ca_X6_isUmbrella in_X6_isUmbrella se_X6_isUmbrella lm_X6_110 gXX6 q_1 (Nat.le_of_ble_eq_true rfl) rfl rfl (Nat.le_of_ble_eq_true rfl) dX6_notPeriod_2 rfl ?_
  refine x_if_ne 10 g dX6_notPeriod_5 (by decide) (fun c_4 => ?_) (fun c_4 => ?_)
  · have h := ite_f c_4 h
    refine x_iload_n 2 g dX6_notPeriod_10 rfl rfl ?_
    refine x_iconst (v := 0) g dX6_notPeriod_11 (by decide) ?_
    refine x_bipush (v := 9) g dX6_notPeriod_12 (by decide) ?_
    obtain ⟨r_6, q_5, h⟩ := gb_e h
    refine x_cS [.int (gz r_6)] g (k_X6_isBetween q_5) ca_X6_isBetween st_X6_isBetween lm_X6_54 (Nat.le_of_ble_eq_true rfl) rfl rfl (Nat.le_of_ble_eq_true rfl) dX6_notPeriod_14 rfl ?_
    refine x_if_eq 24 g dX6_notPeriod_17 (by decide) (fun c_7 => ?_) (fun c_7 => ?_)
    · have h := ite_t c_7 h
      refine x_iconst (v := 2) g dX6_notPeriod_24 (by decide) ?_
      cases h
      exact x_iretS g e dX6_notPeriod_25 rfl rfl
    · have h := ite_f c_7 h
      refine x_iconst (v := 0) g dX6_notPeriod_20 (by decide) ?_
      refine x_goto 25 g dX6_notPeriod_21 (by decide) ?_
      cases h
      exact x_iretS g e dX6_notPeriod_25 rfl rfl
  · have h := ite_t c_4 h
    refine x_iconst (v := 1) g dX6_notPeriod_8 (by decide) ?_
    cases h
    exact x_iretS g e dX6_notPeriod_9 rfl rfl
noncomputable def f_X6_setsPeriod (G : gG) (a0 : Nat) (a1 : Int32) (a2 : Int32) (S : gS) : Option (Int32 × gS) := gd (gis G 3 a0) <| gb (f_X6_of G a0 a1 1 S) fun (r_3 : Int32) => gb (f_X6_puts G a0 a1 1 a2 S) fun (S_5 : gS) => some (r_3, S_5)
set_option maxRecDepth 100000 in
set_option maxHeartbeats 4000000 in
theorem k_X6_setsPeriod {ad : Nat → Nat} {G : gG} {a0 : Nat} {a1 : Int32} {a2 : Int32} {S S1 : gS} {T : gT} {r : Int32} (h : f_X6_setsPeriod G a0 a1 a2 S = some (r, S1)) : Ct ad yX6_setsPeriod (Cond.code yX6_setsPeriod cX6_setsPeriod 4 (some .int) :: gTb) 1 0 0 [.ref a0, .int a1, .int a2] G S T (some (.int r)) G S1 T := by
  refine Ct.ofB rfl (Nat.le_of_ble_eq_true rfl) rfl (fun K g e hK => ?_)
  obtain ⟨rfl, -⟩ := hK
  show Xj K [] G 0 [some (.ref a0), some (.int a1), some (.int a2), none] [] S T 0 0
  unfold f_X6_setsPeriod at h
  refine x_aload_n 0 g dX6_setsPeriod_0 rfl rfl ?_
  refine x_iload_n 1 g dX6_setsPeriod_1 rfl rfl ?_
  refine x_iconst (v := 1) g dX6_setsPeriod_2 (by decide) ?_
  obtain ⟨q_1, h⟩ := gd_e h
  obtain ⟨r_3, q_2, h⟩ := gb_e h
  refine x_cV [.int r_3] g (k_X6_of q_2) ca_X6_of in_X6_of se_X6_of lm_X6_62 gXX6 q_1 (Nat.le_of_ble_eq_true rfl) rfl rfl (Nat.le_of_ble_eq_true rfl) dX6_setsPeriod_3 rfl ?_
  refine x_istore_n 3 g dX6_setsPeriod_6 rfl (Nat.le_of_ble_eq_true rfl) rfl ?_
  refine x_aload_n 0 g dX6_setsPeriod_7 rfl rfl ?_
  refine x_iload_n 1 g dX6_setsPeriod_8 rfl rfl ?_
  refine x_iconst (v := 1) g dX6_setsPeriod_9 (by decide) ?_
  refine x_iload_n 2 g dX6_setsPeriod_10 rfl rfl ?_
  obtain ⟨S_5, q_4, h⟩ := gb_e h
  refine x_cV [] g (k_X6_puts q_4) ca_X6_puts in_X6_puts se_X6_puts lm_X6_77 gXX6 q_1 (Nat.le_of_ble_eq_true rfl) rfl rfl (Nat.le_of_ble_eq_true rfl) dX6_setsPeriod_11 rfl ?_
  refine x_iload_n 3 g dX6_setsPeriod_14 rfl rfl ?_
  cases h
  exact x_iretS g e dX6_setsPeriod_15 rfl rfl
noncomputable def f_X6_setPeriod (G : gG) (a0 : Nat) (a1 : Int32) (a2 : Int32) (S : gS) : Option (Int32 × gS) := gd (gis G 3 a0) <| glt (sI S 30 a0 0) fun (S_2 : gS) => gb (f_X6_notPeriod G a0 a1 a2 S_2) fun (r_5 : Int32) => if r_5 = 0 then (gb (f_X6_remembers G a0 S_2) fun (S_8 : gS) => gb2 (f_X6_setsPeriod G a0 a1 a2 S_8) fun (r_10 : Int32) (S_11 : gS) => some (r_10, S_11)) else (gb2 (f_X6_fails G a0 r_5 S_2) fun (r_13 : Int32) (S_14 : gS) => some (r_13, S_14))
set_option maxRecDepth 100000 in
set_option maxHeartbeats 4000000 in
theorem k_X6_setPeriod {ad : Nat → Nat} {G : gG} {a0 : Nat} {a1 : Int32} {a2 : Int32} {S S1 : gS} {T : gT} {r : Int32} (h : f_X6_setPeriod G a0 a1 a2 S = some (r, S1)) : Ct ad yX6_setPeriod (Cond.code yX6_setPeriod cX6_setPeriod 4 (some .int) :: gTb) 3 0 0 [.ref a0, .int a1, .int a2] G S T (some (.int r)) G S1 T := by
  refine Ct.ofB rfl (Nat.le_of_ble_eq_true rfl) rfl (fun K g e hK => ?_)
  obtain ⟨rfl, -⟩ := hK
  show Xj K [] G 0 [some (.ref a0), some (.int a1), some (.int a2), none] [] S T 0 0
  unfold f_X6_setPeriod at h
  refine x_aload_n 0 g dX6_setPeriod_0 rfl rfl ?_
  refine x_iconst (v := 0) g dX6_setPeriod_1 (by decide) ?_
  obtain ⟨q_1, h⟩ := gd_e h
  refine x_puti g dX6_setPeriod_2 gXX6 0 30 rfl (by decide) rfl rfl lf_X6_1 rfl rfl q_1 ?_
  refine x_nS (fun S_2 e_3 => ?_)
  have h := glt_e e_3 h
  refine x_aload_n 0 g dX6_setPeriod_5 rfl rfl ?_
  refine x_iload_n 1 g dX6_setPeriod_6 rfl rfl ?_
  refine x_iload_n 2 g dX6_setPeriod_7 rfl rfl ?_
  obtain ⟨r_5, q_4, h⟩ := gb_e h
  refine x_cV [.int r_5] g (k_X6_notPeriod q_4) ca_X6_notPeriod in_X6_notPeriod se_X6_notPeriod lm_X6_126 gXX6 q_1 (Nat.le_of_ble_eq_true rfl) rfl rfl (Nat.le_of_ble_eq_true rfl) dX6_setPeriod_8 rfl ?_
  refine x_istore_n 3 g dX6_setPeriod_11 rfl (Nat.le_of_ble_eq_true rfl) rfl ?_
  refine x_iload_n 3 g dX6_setPeriod_12 rfl rfl ?_
  refine x_if_eq 22 g dX6_setPeriod_13 (by decide) (fun c_6 => ?_) (fun c_6 => ?_)
  · have h := ite_t c_6 h
    refine x_aload_n 0 g dX6_setPeriod_22 rfl rfl ?_
    obtain ⟨S_8, q_7, h⟩ := gb_e h
    refine x_cV [] g (k_X6_remembers q_7) ca_X6_remembers in_X6_remembers se_X6_remembers lm_X6_87 gXX6 q_1 (Nat.le_of_ble_eq_true rfl) rfl rfl (Nat.le_of_ble_eq_true rfl) dX6_setPeriod_23 rfl ?_
    refine x_aload_n 0 g dX6_setPeriod_26 rfl rfl ?_
    refine x_iload_n 1 g dX6_setPeriod_27 rfl rfl ?_
    refine x_iload_n 2 g dX6_setPeriod_28 rfl rfl ?_
    obtain ⟨r_10, S_11, q_9, h⟩ := gb2_e h
    refine x_cV [.int r_10] g (k_X6_setsPeriod q_9) ca_X6_setsPeriod in_X6_setsPeriod se_X6_setsPeriod lm_X6_129 gXX6 q_1 (Nat.le_of_ble_eq_true rfl) rfl rfl (Nat.le_of_ble_eq_true rfl) dX6_setPeriod_29 rfl ?_
    cases h
    exact x_iretS g e dX6_setPeriod_32 rfl rfl
  · have h := ite_f c_6 h
    refine x_aload_n 0 g dX6_setPeriod_16 rfl rfl ?_
    refine x_iload_n 3 g dX6_setPeriod_17 rfl rfl ?_
    obtain ⟨r_13, S_14, q_12, h⟩ := gb2_e h
    refine x_cV [.int r_13] g (k_X6_fails q_12) ca_X6_fails in_X6_fails se_X6_fails lm_X6_84 gXX6 q_1 (Nat.le_of_ble_eq_true rfl) rfl rfl (Nat.le_of_ble_eq_true rfl) dX6_setPeriod_18 rfl ?_
    cases h
    exact x_iretS g e dX6_setPeriod_21 rfl rfl
noncomputable def f_X6_notPenalty (a0 : Int32) : Option Int32 := gb (f_X6_isBetween a0 0 9) fun (r_2 : Bool) => if (gz r_2) = 0 then (some 1) else (some 0)
set_option maxRecDepth 100000 in
set_option maxHeartbeats 4000000 in
theorem k_X6_notPenalty {ad : Nat → Nat} {G : gG} {a0 : Int32} {S : gS} {T : gT} {r : Int32} (h : f_X6_notPenalty a0 = some r) : Ct ad yX6_notPenalty (Cond.code yX6_notPenalty cX6_notPenalty 1 (some .int) :: gTb) 1 0 0 [.int a0] G S T (some (.int r)) G S T := by
  refine Ct.ofB rfl (Nat.le_of_ble_eq_true rfl) rfl (fun K g e hK => ?_)
  obtain ⟨rfl, -⟩ := hK
  show Xj K [] G 0 [some (.int a0)] [] S T 0 0
  unfold f_X6_notPenalty at h
  refine x_iload_n 0 g dX6_notPenalty_0 rfl rfl ?_
  refine x_iconst (v := 0) g dX6_notPenalty_1 (by decide) ?_
  refine x_bipush (v := 9) g dX6_notPenalty_2 (by decide) ?_
  obtain ⟨r_2, q_1, h⟩ := gb_e h
  refine x_cS [.int (gz r_2)] g (k_X6_isBetween q_1) ca_X6_isBetween st_X6_isBetween lm_X6_54 (Nat.le_of_ble_eq_true rfl) rfl rfl (Nat.le_of_ble_eq_true rfl) dX6_notPenalty_4 rfl ?_
  refine x_if_eq 14 g dX6_notPenalty_7 (by decide) (fun c_3 => ?_) (fun c_3 => ?_)
  · have h := ite_t c_3 h
    refine x_iconst (v := 1) g dX6_notPenalty_14 (by decide) ?_
    cases h
    exact x_iretS g e dX6_notPenalty_15 rfl rfl
  · have h := ite_f c_3 h
    refine x_iconst (v := 0) g dX6_notPenalty_10 (by decide) ?_
    refine x_goto 15 g dX6_notPenalty_11 (by decide) ?_
    cases h
    exact x_iretS g e dX6_notPenalty_15 rfl rfl
noncomputable def f_X6_sets (G : gG) (a0 : Nat) (a1 : Int32) (a2 : Int32) (S : gS) : Option (Int32 × gS) := gd (gis G 3 a0) <| gb (gP S 10 a0) fun (b_2 : Nat) => gd (gis G 7 b_2) <| gd (vp_in a1 (gn G b_2)) <| glt (gr S b_2 (Int32.toNatClampNeg a1)) fun (x3_6 : Int32) => gb (gP S 10 a0) fun (b_8 : Nat) => gd (gis G 7 b_8) <| gd (vp_in a1 (gn G b_8)) <| glt (sr S b_8 (Int32.toNatClampNeg a1) a2) fun (S_12 : gS) => some (x3_6, S_12)
set_option maxRecDepth 100000 in
set_option maxHeartbeats 4000000 in
theorem k_X6_sets {ad : Nat → Nat} {G : gG} {a0 : Nat} {a1 : Int32} {a2 : Int32} {S S1 : gS} {T : gT} {r : Int32} (h : f_X6_sets G a0 a1 a2 S = some (r, S1)) : Ct ad yX6_sets (Cond.code yX6_sets cX6_sets 4 (some .int) :: gTb) 0 0 0 [.ref a0, .int a1, .int a2] G S T (some (.int r)) G S1 T := by
  refine Ct.ofB rfl (Nat.le_of_ble_eq_true rfl) rfl (fun K g e hK => ?_)
  obtain ⟨rfl, -⟩ := hK
  show Xj K [] G 0 [some (.ref a0), some (.int a1), some (.int a2), none] [] S T 0 0
  unfold f_X6_sets at h
  refine x_aload_n 0 g dX6_sets_0 rfl rfl ?_
  obtain ⟨q_1, h⟩ := gd_e h
  obtain ⟨b_2, e_3, h⟩ := gb_e h
  refine x_getr g dX6_sets_1 gXX6 1 10 rfl (by decide) rfl lf_X6_13 q_1 e_3 ?_
  refine x_iload_n 1 g dX6_sets_4 rfl rfl ?_
  obtain ⟨q_4, h⟩ := gd_e h
  obtain ⟨q_5, h⟩ := gd_e h
  refine x_iald g dX6_sets_5 q_4 q_5 ?_
  refine x_nI (fun x3_6 e_7 => ?_)
  have h := glt_e e_7 h
  refine x_istore_n 3 g dX6_sets_6 rfl (Nat.le_of_ble_eq_true rfl) rfl ?_
  refine x_aload_n 0 g dX6_sets_7 rfl rfl ?_
  obtain ⟨b_8, e_9, h⟩ := gb_e h
  refine x_getr g dX6_sets_8 gXX6 1 10 rfl (by decide) rfl lf_X6_13 q_1 e_9 ?_
  refine x_iload_n 1 g dX6_sets_11 rfl rfl ?_
  refine x_iload_n 2 g dX6_sets_12 rfl rfl ?_
  obtain ⟨q_10, h⟩ := gd_e h
  obtain ⟨q_11, h⟩ := gd_e h
  refine x_iast g dX6_sets_13 q_10 q_11 ?_
  refine x_nS (fun S_12 e_13 => ?_)
  have h := glt_e e_13 h
  refine x_iload_n 3 g dX6_sets_14 rfl rfl ?_
  cases h
  exact x_iretS g e dX6_sets_15 rfl rfl
noncomputable def f_X6_setsChecked (G : gG) (a0 : Nat) (a1 : Int32) (a2 : Int32) (S : gS) : Option (Int32 × gS) := gd (gis G 3 a0) <| glt (sI S 30 a0 0) fun (S_2 : gS) => gb (f_X6_notPenalty a2) fun (r_5 : Int32) => if r_5 = 0 then (gb (f_X6_remembers G a0 S_2) fun (S_8 : gS) => gb2 (f_X6_sets G a0 a1 a2 S_8) fun (r_10 : Int32) (S_11 : gS) => some (r_10, S_11)) else (gb2 (f_X6_fails G a0 1 S_2) fun (r_13 : Int32) (S_14 : gS) => some (r_13, S_14))
set_option maxRecDepth 100000 in
set_option maxHeartbeats 4000000 in
theorem k_X6_setsChecked {ad : Nat → Nat} {G : gG} {a0 : Nat} {a1 : Int32} {a2 : Int32} {S S1 : gS} {T : gT} {r : Int32} (h : f_X6_setsChecked G a0 a1 a2 S = some (r, S1)) : Ct ad yX6_setsChecked (Cond.code yX6_setsChecked cX6_setsChecked 3 (some .int) :: gTb) 2 0 0 [.ref a0, .int a1, .int a2] G S T (some (.int r)) G S1 T := by
  refine Ct.ofB rfl (Nat.le_of_ble_eq_true rfl) rfl (fun K g e hK => ?_)
  obtain ⟨rfl, -⟩ := hK
  show Xj K [] G 0 [some (.ref a0), some (.int a1), some (.int a2)] [] S T 0 0
  unfold f_X6_setsChecked at h
  refine x_aload_n 0 g dX6_setsChecked_0 rfl rfl ?_
  refine x_iconst (v := 0) g dX6_setsChecked_1 (by decide) ?_
  obtain ⟨q_1, h⟩ := gd_e h
  refine x_puti g dX6_setsChecked_2 gXX6 0 30 rfl (by decide) rfl rfl lf_X6_1 rfl rfl q_1 ?_
  refine x_nS (fun S_2 e_3 => ?_)
  have h := glt_e e_3 h
  refine x_iload_n 2 g dX6_setsChecked_5 rfl rfl ?_
  obtain ⟨r_5, q_4, h⟩ := gb_e h
  refine x_cS [.int r_5] g (k_X6_notPenalty q_4) ca_X6_notPenalty st_X6_notPenalty lm_X6_132 (Nat.le_of_ble_eq_true rfl) rfl rfl (Nat.le_of_ble_eq_true rfl) dX6_setsChecked_6 rfl ?_
  refine x_if_eq 18 g dX6_setsChecked_9 (by decide) (fun c_6 => ?_) (fun c_6 => ?_)
  · have h := ite_t c_6 h
    refine x_aload_n 0 g dX6_setsChecked_18 rfl rfl ?_
    obtain ⟨S_8, q_7, h⟩ := gb_e h
    refine x_cV [] g (k_X6_remembers q_7) ca_X6_remembers in_X6_remembers se_X6_remembers lm_X6_87 gXX6 q_1 (Nat.le_of_ble_eq_true rfl) rfl rfl (Nat.le_of_ble_eq_true rfl) dX6_setsChecked_19 rfl ?_
    refine x_aload_n 0 g dX6_setsChecked_22 rfl rfl ?_
    refine x_iload_n 1 g dX6_setsChecked_23 rfl rfl ?_
    refine x_iload_n 2 g dX6_setsChecked_24 rfl rfl ?_
    obtain ⟨r_10, S_11, q_9, h⟩ := gb2_e h
    refine x_cV [.int r_10] g (k_X6_sets q_9) ca_X6_sets in_X6_sets se_X6_sets lm_X6_135 gXX6 q_1 (Nat.le_of_ble_eq_true rfl) rfl rfl (Nat.le_of_ble_eq_true rfl) dX6_setsChecked_25 rfl ?_
    cases h
    exact x_iretS g e dX6_setsChecked_28 rfl rfl
  · have h := ite_f c_6 h
    refine x_aload_n 0 g dX6_setsChecked_12 rfl rfl ?_
    refine x_iconst (v := 1) g dX6_setsChecked_13 (by decide) ?_
    obtain ⟨r_13, S_14, q_12, h⟩ := gb2_e h
    refine x_cV [.int r_13] g (k_X6_fails q_12) ca_X6_fails in_X6_fails se_X6_fails lm_X6_84 gXX6 q_1 (Nat.le_of_ble_eq_true rfl) rfl rfl (Nat.le_of_ble_eq_true rfl) dX6_setsChecked_14 rfl ?_
    cases h
    exact x_iretS g e dX6_setsChecked_17 rfl rfl
noncomputable def f_X6_setWetPenalty (G : gG) (a0 : Nat) (a1 : Int32) (S : gS) : Option (Int32 × gS) := gd (gis G 3 a0) <| gb2 (f_X6_setsChecked G a0 1 a1 S) fun (r_3 : Int32) (S_4 : gS) => some (r_3, S_4)
set_option maxRecDepth 100000 in
set_option maxHeartbeats 4000000 in
theorem k_X6_setWetPenalty {ad : Nat → Nat} {G : gG} {a0 : Nat} {a1 : Int32} {S S1 : gS} {T : gT} {r : Int32} (h : f_X6_setWetPenalty G a0 a1 S = some (r, S1)) : Ct ad yX6_setWetPenalty (Cond.code yX6_setWetPenalty cX6_setWetPenalty 2 (some .int) :: gTb) 3 0 0 [.ref a0, .int a1] G S T (some (.int r)) G S1 T := by
  refine Ct.ofB rfl (Nat.le_of_ble_eq_true rfl) rfl (fun K g e hK => ?_)
  obtain ⟨rfl, -⟩ := hK
  show Xj K [] G 0 [some (.ref a0), some (.int a1)] [] S T 0 0
  unfold f_X6_setWetPenalty at h
  refine x_aload_n 0 g dX6_setWetPenalty_0 rfl rfl ?_
  refine x_iconst (v := 1) g dX6_setWetPenalty_1 (by decide) ?_
  refine x_iload_n 1 g dX6_setWetPenalty_2 rfl rfl ?_
  obtain ⟨q_1, h⟩ := gd_e h
  obtain ⟨r_3, S_4, q_2, h⟩ := gb2_e h
  refine x_cV [.int r_3] g (k_X6_setsChecked q_2) ca_X6_setsChecked in_X6_setsChecked se_X6_setsChecked lm_X6_138 gXX6 q_1 (Nat.le_of_ble_eq_true rfl) rfl rfl (Nat.le_of_ble_eq_true rfl) dX6_setWetPenalty_3 rfl ?_
  cases h
  exact x_iretS g e dX6_setWetPenalty_6 rfl rfl
noncomputable def f_X6_setGalePenalty (G : gG) (a0 : Nat) (a1 : Int32) (S : gS) : Option (Int32 × gS) := gd (gis G 3 a0) <| gb2 (f_X6_setsChecked G a0 2 a1 S) fun (r_3 : Int32) (S_4 : gS) => some (r_3, S_4)
set_option maxRecDepth 100000 in
set_option maxHeartbeats 4000000 in
theorem k_X6_setGalePenalty {ad : Nat → Nat} {G : gG} {a0 : Nat} {a1 : Int32} {S S1 : gS} {T : gT} {r : Int32} (h : f_X6_setGalePenalty G a0 a1 S = some (r, S1)) : Ct ad yX6_setGalePenalty (Cond.code yX6_setGalePenalty cX6_setGalePenalty 2 (some .int) :: gTb) 3 0 0 [.ref a0, .int a1] G S T (some (.int r)) G S1 T := by
  refine Ct.ofB rfl (Nat.le_of_ble_eq_true rfl) rfl (fun K g e hK => ?_)
  obtain ⟨rfl, -⟩ := hK
  show Xj K [] G 0 [some (.ref a0), some (.int a1)] [] S T 0 0
  unfold f_X6_setGalePenalty at h
  refine x_aload_n 0 g dX6_setGalePenalty_0 rfl rfl ?_
  refine x_iconst (v := 2) g dX6_setGalePenalty_1 (by decide) ?_
  refine x_iload_n 1 g dX6_setGalePenalty_2 rfl rfl ?_
  obtain ⟨q_1, h⟩ := gd_e h
  obtain ⟨r_3, S_4, q_2, h⟩ := gb2_e h
  refine x_cV [.int r_3] g (k_X6_setsChecked q_2) ca_X6_setsChecked in_X6_setsChecked se_X6_setsChecked lm_X6_138 gXX6 q_1 (Nat.le_of_ble_eq_true rfl) rfl rfl (Nat.le_of_ble_eq_true rfl) dX6_setGalePenalty_3 rfl ?_
  cases h
  exact x_iretS g e dX6_setGalePenalty_6 rfl rfl
noncomputable def f_X6_notOne (G : gG) (a0 : Nat) (a1 : Int32) (a2 : Int32) (S : gS) : Option Int32 := gd (gis G 3 a0) <| gb (f_X6_isUmbrella G a0 a1 S) fun (r_3 : Bool) => if (gz r_3) = 0 then (some 1) else (gb (f_X6_isBetween a2 0 3) fun (r_6 : Bool) => if (gz r_6) = 0 then (some 2) else (some 0))
set_option maxRecDepth 100000 in
set_option maxHeartbeats 4000000 in
theorem k_X6_notOne {ad : Nat → Nat} {G : gG} {a0 : Nat} {a1 : Int32} {a2 : Int32} {S : gS} {T : gT} {r : Int32} (h : f_X6_notOne G a0 a1 a2 S = some r) : Ct ad yX6_notOne (Cond.code yX6_notOne cX6_notOne 3 (some .int) :: gTb) 2 0 0 [.ref a0, .int a1, .int a2] G S T (some (.int r)) G S T := by
  refine Ct.ofB rfl (Nat.le_of_ble_eq_true rfl) rfl (fun K g e hK => ?_)
  obtain ⟨rfl, -⟩ := hK
  show Xj K [] G 0 [some (.ref a0), some (.int a1), some (.int a2)] [] S T 0 0
  unfold f_X6_notOne at h
  refine x_aload_n 0 g dX6_notOne_0 rfl rfl ?_
  refine x_iload_n 1 g dX6_notOne_1 rfl rfl ?_
  obtain ⟨q_1, h⟩ := gd_e h
  obtain ⟨r_3, q_2, h⟩ := gb_e h
  refine x_cV [.int (gz r_3)] g (k_X6_isUmbrella q_2) ca_X6_isUmbrella in_X6_isUmbrella se_X6_isUmbrella lm_X6_110 gXX6 q_1 (Nat.le_of_ble_eq_true rfl) rfl rfl (Nat.le_of_ble_eq_true rfl) dX6_notOne_2 rfl ?_
  refine x_if_ne 10 g dX6_notOne_5 (by decide) (fun c_4 => ?_) (fun c_4 => ?_)
  · have h := ite_f c_4 h
    refine x_iload_n 2 g dX6_notOne_10 rfl rfl ?_
    refine x_iconst (v := 0) g dX6_notOne_11 (by decide) ?_
    refine x_iconst (v := 3) g dX6_notOne_12 (by decide) ?_
    obtain ⟨r_6, q_5, h⟩ := gb_e h
    refine x_cS [.int (gz r_6)] g (k_X6_isBetween q_5) ca_X6_isBetween st_X6_isBetween lm_X6_54 (Nat.le_of_ble_eq_true rfl) rfl rfl (Nat.le_of_ble_eq_true rfl) dX6_notOne_13 rfl ?_
    refine x_if_eq 23 g dX6_notOne_16 (by decide) (fun c_7 => ?_) (fun c_7 => ?_)
    · have h := ite_t c_7 h
      refine x_iconst (v := 2) g dX6_notOne_23 (by decide) ?_
      cases h
      exact x_iretS g e dX6_notOne_24 rfl rfl
    · have h := ite_f c_7 h
      refine x_iconst (v := 0) g dX6_notOne_19 (by decide) ?_
      refine x_goto 24 g dX6_notOne_20 (by decide) ?_
      cases h
      exact x_iretS g e dX6_notOne_24 rfl rfl
  · have h := ite_t c_4 h
    refine x_iconst (v := 1) g dX6_notOne_8 (by decide) ?_
    cases h
    exact x_iretS g e dX6_notOne_9 rfl rfl
noncomputable def f_X6_forgets_L67 (G : gG) (a0 : Nat) (a1 : Int32) (a2 : Int32) (kO_13 : Int32 → Int32 → Int32 → gS → Option (Int32 × gS)) : Nat → Int32 → Int32 → Int32 → gS → Option (Int32 × gS)
  | 0, _, _, _, _ => none
  | n67 + 1, x3, x4, x5, S => if x4 ≤ x5 then (gd (gis G 3 a0) <| gb (f_X6_puts G a0 a1 3 x3 S) fun (S_8 : gS) => some (x4 - x3, S_8)) else (gd (gis G 3 a0) <| gb (f_X6_puts G a0 a1 (8 + x5) 0 S) fun (S_11 : gS) => glt (x5 + 1) fun (x5_12 : Int32) => f_X6_forgets_L67 G a0 a1 a2 kO_13 n67 x3 x4 x5_12 S_11)
noncomputable def f_X6_forgets_L13 (G : gG) (a0 : Nat) (a1 : Int32) (a2 : Int32) : Nat → Int32 → Int32 → Int32 → gS → Option (Int32 × gS)
  | 0, _, _, _, _ => none
  | n13 + 1, x3, x4, x5, S => if x4 ≤ x5 then (f_X6_forgets_L67 G a0 a1 a2 (fun y3 y4 y5 Sy => f_X6_forgets_L13 G a0 a1 a2 n13 y3 y4 y5 Sy) gN x3 x4 x3 S) else (gd (gis G 3 a0) <| gb (f_X6_of G a0 a1 (8 + x5) S) fun (r_16 : Int32) => gb (f_X6_rainOf r_16) fun (r_18 : Int32) => if r_18 = a2 then (glt (x5 + 1) fun (x5_26 : Int32) => f_X6_forgets_L13 G a0 a1 a2 n13 x3 x4 x5_26 S) else (gb (f_X6_puts G a0 a1 (8 + x3) r_16 S) fun (S_21 : gS) => glt (x3 + 1) fun (x3_22 : Int32) => glt (x5 + 1) fun (x5_24 : Int32) => f_X6_forgets_L13 G a0 a1 a2 n13 x3_22 x4 x5_24 S_21))
noncomputable def f_X6_forgets (G : gG) (a0 : Nat) (a1 : Int32) (a2 : Int32) (S : gS) : Option (Int32 × gS) := gd (gis G 3 a0) <| gb (f_X6_of G a0 a1 3 S) fun (r_3 : Int32) => f_X6_forgets_L13 G a0 a1 a2 gN 0 r_3 0 S
set_option maxRecDepth 100000 in
set_option maxHeartbeats 4000000 in
theorem k_X6_forgets {ad : Nat → Nat} {G : gG} {a0 : Nat} {a1 : Int32} {a2 : Int32} {S S1 : gS} {T : gT} {r : Int32} (h : f_X6_forgets G a0 a1 a2 S = some (r, S1)) : Ct ad yX6_forgets (Cond.code yX6_forgets cX6_forgets 7 (some .int) :: gTb) 1 0 0 [.ref a0, .int a1, .int a2] G S T (some (.int r)) G S1 T := by
  refine Ct.ofB rfl (Nat.le_of_ble_eq_true rfl) rfl (fun K g e hK => ?_)
  obtain ⟨rfl, -⟩ := hK
  show Xj K [] G 0 [some (.ref a0), some (.int a1), some (.int a2), none, none, none, none] [] S T 0 0
  unfold f_X6_forgets at h
  refine x_iconst (v := 0) g dX6_forgets_0 (by decide) ?_
  refine x_istore_n 3 g dX6_forgets_1 rfl (Nat.le_of_ble_eq_true rfl) rfl ?_
  refine x_aload_n 0 g dX6_forgets_2 rfl rfl ?_
  refine x_iload_n 1 g dX6_forgets_3 rfl rfl ?_
  refine x_iconst (v := 3) g dX6_forgets_4 (by decide) ?_
  obtain ⟨q_1, h⟩ := gd_e h
  obtain ⟨r_3, q_2, h⟩ := gb_e h
  refine x_cV [.int r_3] g (k_X6_of q_2) ca_X6_of in_X6_of se_X6_of lm_X6_62 gXX6 q_1 (Nat.le_of_ble_eq_true rfl) rfl rfl (Nat.le_of_ble_eq_true rfl) dX6_forgets_5 rfl ?_
  refine x_istore (i := 4) g dX6_forgets_8 (Nat.le_of_ble_eq_true rfl) rfl ?_
  refine x_iconst (v := 0) g dX6_forgets_10 (by decide) ?_
  refine x_istore (i := 5) g dX6_forgets_11 (Nat.le_of_ble_eq_true rfl) rfl ?_
  have L13 : ∀ (n13 : Nat) (x3 : Int32) (x4 : Int32) (x5 : Int32) (S : gS), f_X6_forgets_L13 G a0 a1 a2 n13 x3 x4 x5 S = some (r, S1) → Xj K [] G 13 [some (.ref a0), some (.int a1), some (.int a2), some (.int x3), some (.int x4), some (.int x5), none] [] S T 0 0 := by
    intro n13
    induction n13 with
    | zero =>
      intro x3 x4 x5 S h
      rw [f_X6_forgets_L13] at h
      cases h
    | succ n13 ih =>
      intro x3 x4 x5 S h
      rw [f_X6_forgets_L13] at h
      refine x_iload (i := 5) g dX6_forgets_13 rfl ?_
      refine x_iload (i := 4) g dX6_forgets_15 rfl ?_
      refine x_icmp_ge 64 g dX6_forgets_17 (by decide) (fun c_4 => ?_) (fun c_4 => ?_)
      · have h := ite_t c_4 h
        refine x_iload_n 3 g dX6_forgets_64 rfl rfl ?_
        refine x_istore (i := 5) g dX6_forgets_65 (Nat.le_of_ble_eq_true rfl) rfl ?_
        have ih_13 := ih
        have L67 : ∀ (n67 : Nat) (x3 : Int32) (x4 : Int32) (x5 : Int32) (S : gS), f_X6_forgets_L67 G a0 a1 a2 (fun y3 y4 y5 Sy => f_X6_forgets_L13 G a0 a1 a2 n13 y3 y4 y5 Sy) n67 x3 x4 x5 S = some (r, S1) → Xj K [] G 67 [some (.ref a0), some (.int a1), some (.int a2), some (.int x3), some (.int x4), some (.int x5), none] [] S T 0 0 := by
          intro n67
          induction n67 with
          | zero =>
            intro x3 x4 x5 S h
            rw [f_X6_forgets_L67] at h
            cases h
          | succ n67 ih =>
            intro x3 x4 x5 S h
            rw [f_X6_forgets_L67] at h
            refine x_iload (i := 5) g dX6_forgets_67 rfl ?_
            refine x_iload (i := 4) g dX6_forgets_69 rfl ?_
            refine x_icmp_ge 91 g dX6_forgets_71 (by decide) (fun c_5 => ?_) (fun c_5 => ?_)
            · have h := ite_t c_5 h
              refine x_aload_n 0 g dX6_forgets_91 rfl rfl ?_
              refine x_iload_n 1 g dX6_forgets_92 rfl rfl ?_
              refine x_iconst (v := 3) g dX6_forgets_93 (by decide) ?_
              refine x_iload_n 3 g dX6_forgets_94 rfl rfl ?_
              obtain ⟨q_6, h⟩ := gd_e h
              obtain ⟨S_8, q_7, h⟩ := gb_e h
              refine x_cV [] g (k_X6_puts q_7) ca_X6_puts in_X6_puts se_X6_puts lm_X6_77 gXX6 q_6 (Nat.le_of_ble_eq_true rfl) rfl rfl (Nat.le_of_ble_eq_true rfl) dX6_forgets_95 rfl ?_
              refine x_iload (i := 4) g dX6_forgets_98 rfl ?_
              refine x_iload_n 3 g dX6_forgets_100 rfl rfl ?_
              refine x_isub g dX6_forgets_101 ?_
              cases h
              exact x_iretS g e dX6_forgets_102 rfl rfl
            · have h := ite_f c_5 h
              refine x_aload_n 0 g dX6_forgets_74 rfl rfl ?_
              refine x_iload_n 1 g dX6_forgets_75 rfl rfl ?_
              refine x_bipush (v := 8) g dX6_forgets_76 (by decide) ?_
              refine x_iload (i := 5) g dX6_forgets_78 rfl ?_
              refine x_iadd g dX6_forgets_80 ?_
              refine x_iconst (v := 0) g dX6_forgets_81 (by decide) ?_
              obtain ⟨q_9, h⟩ := gd_e h
              obtain ⟨S_11, q_10, h⟩ := gb_e h
              refine x_cV [] g (k_X6_puts q_10) ca_X6_puts in_X6_puts se_X6_puts lm_X6_77 gXX6 q_9 (Nat.le_of_ble_eq_true rfl) rfl rfl (Nat.le_of_ble_eq_true rfl) dX6_forgets_82 rfl ?_
              obtain ⟨x5_12, e_13⟩ : ∃ z : Int32, z = x5 + 1 := ⟨_, rfl⟩
              have h := glt_e e_13 h
              refine x_iinc (v := x5_12) g dX6_forgets_85 rfl (by rw [e_13]; rfl) rfl ?_
              refine x_goto 67 g dX6_forgets_88 (by decide) ?_
              exact ih _ _ _ _ h
        exact L67 gN _ _ _ _ h
      · have h := ite_f c_4 h
        refine x_aload_n 0 g dX6_forgets_20 rfl rfl ?_
        refine x_iload_n 1 g dX6_forgets_21 rfl rfl ?_
        refine x_bipush (v := 8) g dX6_forgets_22 (by decide) ?_
        refine x_iload (i := 5) g dX6_forgets_24 rfl ?_
        refine x_iadd g dX6_forgets_26 ?_
        obtain ⟨q_14, h⟩ := gd_e h
        obtain ⟨r_16, q_15, h⟩ := gb_e h
        refine x_cV [.int r_16] g (k_X6_of q_15) ca_X6_of in_X6_of se_X6_of lm_X6_62 gXX6 q_14 (Nat.le_of_ble_eq_true rfl) rfl rfl (Nat.le_of_ble_eq_true rfl) dX6_forgets_27 rfl ?_
        refine x_istore (i := 6) g dX6_forgets_30 (Nat.le_of_ble_eq_true rfl) rfl ?_
        refine x_iload (i := 6) g dX6_forgets_32 rfl ?_
        obtain ⟨r_18, q_17, h⟩ := gb_e h
        refine x_cS [.int r_18] g (k_X6_rainOf q_17) ca_X6_rainOf st_X6_rainOf lm_X6_141 (Nat.le_of_ble_eq_true rfl) rfl rfl (Nat.le_of_ble_eq_true rfl) dX6_forgets_34 rfl ?_
        refine x_iload_n 2 g dX6_forgets_37 rfl rfl ?_
        refine x_icmp_ne 44 g dX6_forgets_38 (by decide) (fun c_19 => ?_) (fun c_19 => ?_)
        · have h := ite_f c_19 h
          refine x_aload_n 0 g dX6_forgets_44 rfl rfl ?_
          refine x_iload_n 1 g dX6_forgets_45 rfl rfl ?_
          refine x_bipush (v := 8) g dX6_forgets_46 (by decide) ?_
          refine x_iload_n 3 g dX6_forgets_48 rfl rfl ?_
          refine x_iadd g dX6_forgets_49 ?_
          refine x_iload (i := 6) g dX6_forgets_50 rfl ?_
          obtain ⟨S_21, q_20, h⟩ := gb_e h
          refine x_cV [] g (k_X6_puts q_20) ca_X6_puts in_X6_puts se_X6_puts lm_X6_77 gXX6 q_14 (Nat.le_of_ble_eq_true rfl) rfl rfl (Nat.le_of_ble_eq_true rfl) dX6_forgets_52 rfl ?_
          obtain ⟨x3_22, e_23⟩ : ∃ z : Int32, z = x3 + 1 := ⟨_, rfl⟩
          have h := glt_e e_23 h
          refine x_iinc (v := x3_22) g dX6_forgets_55 rfl (by rw [e_23]; rfl) rfl ?_
          obtain ⟨x5_24, e_25⟩ : ∃ z : Int32, z = x5 + 1 := ⟨_, rfl⟩
          have h := glt_e e_25 h
          refine x_iinc (v := x5_24) g dX6_forgets_58 rfl (by rw [e_25]; rfl) rfl ?_
          refine x_goto 13 g dX6_forgets_61 (by decide) ?_
          refine x_dr 6 ?_
          exact ih _ _ _ _ h
        · have h := ite_t c_19 h
          refine x_goto 58 g dX6_forgets_41 (by decide) ?_
          obtain ⟨x5_26, e_27⟩ : ∃ z : Int32, z = x5 + 1 := ⟨_, rfl⟩
          have h := glt_e e_27 h
          refine x_iinc (v := x5_26) g dX6_forgets_58 rfl (by rw [e_27]; rfl) rfl ?_
          refine x_goto 13 g dX6_forgets_61 (by decide) ?_
          refine x_dr 6 ?_
          exact ih _ _ _ _ h
  exact L13 gN _ _ _ _ h
noncomputable def f_X6_forgetRain (G : gG) (a0 : Nat) (a1 : Int32) (a2 : Int32) (S : gS) : Option (Int32 × gS) := gd (gis G 3 a0) <| glt (sI S 30 a0 0) fun (S_2 : gS) => gb (f_X6_notOne G a0 a1 a2 S_2) fun (r_5 : Int32) => if r_5 = 0 then (gb (f_X6_remembers G a0 S_2) fun (S_8 : gS) => gb2 (f_X6_forgets G a0 a1 a2 S_8) fun (r_10 : Int32) (S_11 : gS) => some (r_10, S_11)) else (gb2 (f_X6_fails G a0 r_5 S_2) fun (r_13 : Int32) (S_14 : gS) => some (r_13, S_14))
set_option maxRecDepth 100000 in
set_option maxHeartbeats 4000000 in
theorem k_X6_forgetRain {ad : Nat → Nat} {G : gG} {a0 : Nat} {a1 : Int32} {a2 : Int32} {S S1 : gS} {T : gT} {r : Int32} (h : f_X6_forgetRain G a0 a1 a2 S = some (r, S1)) : Ct ad yX6_forgetRain (Cond.code yX6_forgetRain cX6_forgetRain 4 (some .int) :: gTb) 3 0 0 [.ref a0, .int a1, .int a2] G S T (some (.int r)) G S1 T := by
  refine Ct.ofB rfl (Nat.le_of_ble_eq_true rfl) rfl (fun K g e hK => ?_)
  obtain ⟨rfl, -⟩ := hK
  show Xj K [] G 0 [some (.ref a0), some (.int a1), some (.int a2), none] [] S T 0 0
  unfold f_X6_forgetRain at h
  refine x_aload_n 0 g dX6_forgetRain_0 rfl rfl ?_
  refine x_iconst (v := 0) g dX6_forgetRain_1 (by decide) ?_
  obtain ⟨q_1, h⟩ := gd_e h
  refine x_puti g dX6_forgetRain_2 gXX6 0 30 rfl (by decide) rfl rfl lf_X6_1 rfl rfl q_1 ?_
  refine x_nS (fun S_2 e_3 => ?_)
  have h := glt_e e_3 h
  refine x_aload_n 0 g dX6_forgetRain_5 rfl rfl ?_
  refine x_iload_n 1 g dX6_forgetRain_6 rfl rfl ?_
  refine x_iload_n 2 g dX6_forgetRain_7 rfl rfl ?_
  obtain ⟨r_5, q_4, h⟩ := gb_e h
  refine x_cV [.int r_5] g (k_X6_notOne q_4) ca_X6_notOne in_X6_notOne se_X6_notOne lm_X6_144 gXX6 q_1 (Nat.le_of_ble_eq_true rfl) rfl rfl (Nat.le_of_ble_eq_true rfl) dX6_forgetRain_8 rfl ?_
  refine x_istore_n 3 g dX6_forgetRain_11 rfl (Nat.le_of_ble_eq_true rfl) rfl ?_
  refine x_iload_n 3 g dX6_forgetRain_12 rfl rfl ?_
  refine x_if_eq 22 g dX6_forgetRain_13 (by decide) (fun c_6 => ?_) (fun c_6 => ?_)
  · have h := ite_t c_6 h
    refine x_aload_n 0 g dX6_forgetRain_22 rfl rfl ?_
    obtain ⟨S_8, q_7, h⟩ := gb_e h
    refine x_cV [] g (k_X6_remembers q_7) ca_X6_remembers in_X6_remembers se_X6_remembers lm_X6_87 gXX6 q_1 (Nat.le_of_ble_eq_true rfl) rfl rfl (Nat.le_of_ble_eq_true rfl) dX6_forgetRain_23 rfl ?_
    refine x_aload_n 0 g dX6_forgetRain_26 rfl rfl ?_
    refine x_iload_n 1 g dX6_forgetRain_27 rfl rfl ?_
    refine x_iload_n 2 g dX6_forgetRain_28 rfl rfl ?_
    obtain ⟨r_10, S_11, q_9, h⟩ := gb2_e h
    refine x_cV [.int r_10] g (k_X6_forgets q_9) ca_X6_forgets in_X6_forgets se_X6_forgets lm_X6_147 gXX6 q_1 (Nat.le_of_ble_eq_true rfl) rfl rfl (Nat.le_of_ble_eq_true rfl) dX6_forgetRain_29 rfl ?_
    cases h
    exact x_iretS g e dX6_forgetRain_32 rfl rfl
  · have h := ite_f c_6 h
    refine x_aload_n 0 g dX6_forgetRain_16 rfl rfl ?_
    refine x_iload_n 3 g dX6_forgetRain_17 rfl rfl ?_
    obtain ⟨r_13, S_14, q_12, h⟩ := gb2_e h
    refine x_cV [.int r_13] g (k_X6_fails q_12) ca_X6_fails in_X6_fails se_X6_fails lm_X6_84 gXX6 q_1 (Nat.le_of_ble_eq_true rfl) rfl rfl (Nat.le_of_ble_eq_true rfl) dX6_forgetRain_18 rfl ?_
    cases h
    exact x_iretS g e dX6_forgetRain_21 rfl rfl
noncomputable def f_X6_isRight (G : gG) (a0 : Nat) (a1 : Int32) (a2 : Int32) (a3 : Int32) (S : gS) : Option Bool := gd (gis G 3 a0) <| gb (f_X6_habit G a0 a1 a2 a3 S) fun (r_3 : Int32) => if r_3 = 1 then (gb (f_X6_isRightToOpen G a0 a2 a3 S) fun (r_9 : Bool) => if 1 = (gz r_9) then (some true) else (some false)) else (gb (f_X6_isRightToOpen G a0 a2 a3 S) fun (r_6 : Bool) => if 0 = (gz r_6) then (some true) else (some false))
set_option maxRecDepth 100000 in
set_option maxHeartbeats 4000000 in
theorem k_X6_isRight {ad : Nat → Nat} {G : gG} {a0 : Nat} {a1 : Int32} {a2 : Int32} {a3 : Int32} {S : gS} {T : gT} {r : Bool} (h : f_X6_isRight G a0 a1 a2 a3 S = some r) : Ct ad yX6_isRight (Cond.code yX6_isRight cX6_isRight 4 (some .boolean) :: gTb) 3 0 0 [.ref a0, .int a1, .int a2, .int a3] G S T (some (.int (gz r))) G S T := by
  refine Ct.ofB rfl (Nat.le_of_ble_eq_true rfl) rfl (fun K g e hK => ?_)
  obtain ⟨rfl, -⟩ := hK
  show Xj K [] G 0 [some (.ref a0), some (.int a1), some (.int a2), some (.int a3)] [] S T 0 0
  unfold f_X6_isRight at h
  refine x_aload_n 0 g dX6_isRight_0 rfl rfl ?_
  refine x_iload_n 1 g dX6_isRight_1 rfl rfl ?_
  refine x_iload_n 2 g dX6_isRight_2 rfl rfl ?_
  refine x_iload_n 3 g dX6_isRight_3 rfl rfl ?_
  obtain ⟨q_1, h⟩ := gd_e h
  obtain ⟨r_3, q_2, h⟩ := gb_e h
  refine x_cV [.int r_3] g (k_X6_habit q_2) ca_X6_habit in_X6_habit se_X6_habit lm_X6_96 gXX6 q_1 (Nat.le_of_ble_eq_true rfl) rfl rfl (Nat.le_of_ble_eq_true rfl) dX6_isRight_4 rfl ?_
  refine x_iconst (v := 1) g dX6_isRight_7 (by decide) ?_
  refine x_icmp_ne 15 g dX6_isRight_8 (by decide) (fun c_4 => ?_) (fun c_4 => ?_)
  · have h := ite_f c_4 h
    refine x_iconst (v := 0) g dX6_isRight_15 (by decide) ?_
    refine x_aload_n 0 g dX6_isRight_16 rfl rfl ?_
    refine x_iload_n 2 g dX6_isRight_17 rfl rfl ?_
    refine x_iload_n 3 g dX6_isRight_18 rfl rfl ?_
    obtain ⟨r_6, q_5, h⟩ := gb_e h
    refine x_cV [.int (gz r_6), .int 0] g (k_X6_isRightToOpen q_5) ca_X6_isRightToOpen in_X6_isRightToOpen se_X6_isRightToOpen lm_X6_150 gXX6 q_1 (Nat.le_of_ble_eq_true rfl) rfl rfl (Nat.le_of_ble_eq_true rfl) dX6_isRight_19 rfl ?_
    refine x_icmp_ne 29 g dX6_isRight_22 (by decide) (fun c_7 => ?_) (fun c_7 => ?_)
    · have h := ite_f c_7 h
      refine x_iconst (v := 0) g dX6_isRight_29 (by decide) ?_
      cases h
      exact x_zretS (b := false) g e dX6_isRight_30 rfl rfl rfl
    · have h := ite_t c_7 h
      refine x_iconst (v := 1) g dX6_isRight_25 (by decide) ?_
      refine x_goto 30 g dX6_isRight_26 (by decide) ?_
      cases h
      exact x_zretS (b := true) g e dX6_isRight_30 rfl rfl rfl
  · have h := ite_t c_4 h
    refine x_iconst (v := 1) g dX6_isRight_11 (by decide) ?_
    refine x_goto 16 g dX6_isRight_12 (by decide) ?_
    refine x_aload_n 0 g dX6_isRight_16 rfl rfl ?_
    refine x_iload_n 2 g dX6_isRight_17 rfl rfl ?_
    refine x_iload_n 3 g dX6_isRight_18 rfl rfl ?_
    obtain ⟨r_9, q_8, h⟩ := gb_e h
    refine x_cV [.int (gz r_9), .int 1] g (k_X6_isRightToOpen q_8) ca_X6_isRightToOpen in_X6_isRightToOpen se_X6_isRightToOpen lm_X6_150 gXX6 q_1 (Nat.le_of_ble_eq_true rfl) rfl rfl (Nat.le_of_ble_eq_true rfl) dX6_isRight_19 rfl ?_
    refine x_icmp_ne 29 g dX6_isRight_22 (by decide) (fun c_10 => ?_) (fun c_10 => ?_)
    · have h := ite_f c_10 h
      refine x_iconst (v := 0) g dX6_isRight_29 (by decide) ?_
      cases h
      exact x_zretS (b := false) g e dX6_isRight_30 rfl rfl rfl
    · have h := ite_t c_10 h
      refine x_iconst (v := 1) g dX6_isRight_25 (by decide) ?_
      refine x_goto 30 g dX6_isRight_26 (by decide) ?_
      cases h
      exact x_zretS (b := true) g e dX6_isRight_30 rfl rfl rfl
noncomputable def f_X6_hasExamOf (G : gG) (a0 : Nat) (a1 : Int32) (a2 : Int32) (S : gS) : Option Bool := gd (gis G 3 a0) <| gb (f_X6_of G a0 a1 7 S) fun (r_3 : Int32) => if ((r_3 >>> (a2 &&& 31)) &&& 1) = 1 then (some true) else (some false)
set_option maxRecDepth 100000 in
set_option maxHeartbeats 4000000 in
theorem k_X6_hasExamOf {ad : Nat → Nat} {G : gG} {a0 : Nat} {a1 : Int32} {a2 : Int32} {S : gS} {T : gT} {r : Bool} (h : f_X6_hasExamOf G a0 a1 a2 S = some r) : Ct ad yX6_hasExamOf (Cond.code yX6_hasExamOf cX6_hasExamOf 3 (some .boolean) :: gTb) 1 0 0 [.ref a0, .int a1, .int a2] G S T (some (.int (gz r))) G S T := by
  refine Ct.ofB rfl (Nat.le_of_ble_eq_true rfl) rfl (fun K g e hK => ?_)
  obtain ⟨rfl, -⟩ := hK
  show Xj K [] G 0 [some (.ref a0), some (.int a1), some (.int a2)] [] S T 0 0
  unfold f_X6_hasExamOf at h
  refine x_aload_n 0 g dX6_hasExamOf_0 rfl rfl ?_
  refine x_iload_n 1 g dX6_hasExamOf_1 rfl rfl ?_
  refine x_bipush (v := 7) g dX6_hasExamOf_2 (by decide) ?_
  obtain ⟨q_1, h⟩ := gd_e h
  obtain ⟨r_3, q_2, h⟩ := gb_e h
  refine x_cV [.int r_3] g (k_X6_of q_2) ca_X6_of in_X6_of se_X6_of lm_X6_62 gXX6 q_1 (Nat.le_of_ble_eq_true rfl) rfl rfl (Nat.le_of_ble_eq_true rfl) dX6_hasExamOf_4 rfl ?_
  refine x_iload_n 2 g dX6_hasExamOf_7 rfl rfl ?_
  refine x_ishr g dX6_hasExamOf_8 ?_
  refine x_iconst (v := 1) g dX6_hasExamOf_9 (by decide) ?_
  refine x_iand g dX6_hasExamOf_10 ?_
  refine x_iconst (v := 1) g dX6_hasExamOf_11 (by decide) ?_
  refine x_icmp_ne 19 g dX6_hasExamOf_12 (by decide) (fun c_4 => ?_) (fun c_4 => ?_)
  · have h := ite_f c_4 h
    refine x_iconst (v := 0) g dX6_hasExamOf_19 (by decide) ?_
    cases h
    exact x_zretS (b := false) g e dX6_hasExamOf_20 rfl rfl rfl
  · have h := ite_t c_4 h
    refine x_iconst (v := 1) g dX6_hasExamOf_15 (by decide) ?_
    refine x_goto 20 g dX6_hasExamOf_16 (by decide) ?_
    cases h
    exact x_zretS (b := true) g e dX6_hasExamOf_20 rfl rfl rfl
noncomputable def f_X6_examines_L5 (G : gG) (a0 : Nat) (a1 : Int32) (a2 : Int32) : Nat → Int32 → Int32 → gS → Option (Int32 × gS)
  | 0, _, _, _ => none
  | n5 + 1, x3, x4, S => if 4 ≤ x4 then (if x3 < 3 then (gd (gis G 3 a0) <| gb (f_X6_hasExamOf G a0 a1 a2 S) fun (r_5 : Bool) => if 0 = (gz r_5) then (some (x3, S)) else (if x3 < 3 then (gb (f_X6_adds G a0 a1 7 (-(1 <<< (a2 &&& 31))) S) fun (S_9 : gS) => some (x3, S_9)) else (gb (f_X6_adds G a0 a1 7 (1 <<< (a2 &&& 31)) S) fun (S_11 : gS) => some (x3, S_11)))) else (gd (gis G 3 a0) <| gb (f_X6_hasExamOf G a0 a1 a2 S) fun (r_14 : Bool) => if 1 = (gz r_14) then (some (x3, S)) else (if x3 < 3 then (gb (f_X6_adds G a0 a1 7 (-(1 <<< (a2 &&& 31))) S) fun (S_18 : gS) => some (x3, S_18)) else (gb (f_X6_adds G a0 a1 7 (1 <<< (a2 &&& 31)) S) fun (S_20 : gS) => some (x3, S_20))))) else (gd (gis G 3 a0) <| gb (f_X6_isRight G a0 a1 x4 a2 S) fun (r_23 : Bool) => if (gz r_23) = 0 then (glt (x3 + 0) fun (x3_25 : Int32) => glt (x4 + 1) fun (x4_27 : Int32) => f_X6_examines_L5 G a0 a1 a2 n5 x3_25 x4_27 S) else (glt (x3 + 1) fun (x3_29 : Int32) => glt (x4 + 1) fun (x4_31 : Int32) => f_X6_examines_L5 G a0 a1 a2 n5 x3_29 x4_31 S))
noncomputable def f_X6_examines (G : gG) (a0 : Nat) (a1 : Int32) (a2 : Int32) (S : gS) : Option (Int32 × gS) := f_X6_examines_L5 G a0 a1 a2 gN 0 0 S
set_option maxRecDepth 100000 in
set_option maxHeartbeats 4000000 in
theorem k_X6_examines {ad : Nat → Nat} {G : gG} {a0 : Nat} {a1 : Int32} {a2 : Int32} {S S1 : gS} {T : gT} {r : Int32} (h : f_X6_examines G a0 a1 a2 S = some (r, S1)) : Ct ad yX6_examines (Cond.code yX6_examines cX6_examines 5 (some .int) :: gTb) 4 0 0 [.ref a0, .int a1, .int a2] G S T (some (.int r)) G S1 T := by
  refine Ct.ofB rfl (Nat.le_of_ble_eq_true rfl) rfl (fun K g e hK => ?_)
  obtain ⟨rfl, -⟩ := hK
  show Xj K [] G 0 [some (.ref a0), some (.int a1), some (.int a2), none, none] [] S T 0 0
  unfold f_X6_examines at h
  refine x_iconst (v := 0) g dX6_examines_0 (by decide) ?_
  refine x_istore_n 3 g dX6_examines_1 rfl (Nat.le_of_ble_eq_true rfl) rfl ?_
  refine x_iconst (v := 0) g dX6_examines_2 (by decide) ?_
  refine x_istore (i := 4) g dX6_examines_3 (Nat.le_of_ble_eq_true rfl) rfl ?_
  have L5 : ∀ (n5 : Nat) (x3 : Int32) (x4 : Int32) (S : gS), f_X6_examines_L5 G a0 a1 a2 n5 x3 x4 S = some (r, S1) → Xj K [] G 5 [some (.ref a0), some (.int a1), some (.int a2), some (.int x3), some (.int x4)] [] S T 0 0 := by
    intro n5
    induction n5 with
    | zero =>
      intro x3 x4 S h
      rw [f_X6_examines_L5] at h
      cases h
    | succ n5 ih =>
      intro x3 x4 S h
      rw [f_X6_examines_L5] at h
      refine x_iload (i := 4) g dX6_examines_5 rfl ?_
      refine x_iconst (v := 4) g dX6_examines_7 (by decide) ?_
      refine x_icmp_ge 36 g dX6_examines_8 (by decide) (fun c_1 => ?_) (fun c_1 => ?_)
      · have h := ite_t c_1 h
        refine x_iload_n 3 g dX6_examines_36 rfl rfl ?_
        refine x_iconst (v := 3) g dX6_examines_37 (by decide) ?_
        refine x_icmp_lt 45 g dX6_examines_38 (by decide) (fun c_2 => ?_) (fun c_2 => ?_)
        · have h := ite_t c_2 h
          refine x_iconst (v := 0) g dX6_examines_45 (by decide) ?_
          refine x_aload_n 0 g dX6_examines_46 rfl rfl ?_
          refine x_iload_n 1 g dX6_examines_47 rfl rfl ?_
          refine x_iload_n 2 g dX6_examines_48 rfl rfl ?_
          obtain ⟨q_3, h⟩ := gd_e h
          obtain ⟨r_5, q_4, h⟩ := gb_e h
          refine x_cV [.int (gz r_5), .int 0] g (k_X6_hasExamOf q_4) ca_X6_hasExamOf in_X6_hasExamOf se_X6_hasExamOf lm_X6_156 gXX6 q_3 (Nat.le_of_ble_eq_true rfl) rfl rfl (Nat.le_of_ble_eq_true rfl) dX6_examines_49 rfl ?_
          refine x_icmp_eq 77 g dX6_examines_52 (by decide) (fun c_6 => ?_) (fun c_6 => ?_)
          · have h := ite_t c_6 h
            refine x_iload_n 3 g dX6_examines_77 rfl rfl ?_
            cases h
            exact x_iretS g e dX6_examines_78 rfl rfl
          · have h := ite_f c_6 h
            refine x_aload_n 0 g dX6_examines_55 rfl rfl ?_
            refine x_iload_n 1 g dX6_examines_56 rfl rfl ?_
            refine x_bipush (v := 7) g dX6_examines_57 (by decide) ?_
            refine x_iload_n 3 g dX6_examines_59 rfl rfl ?_
            refine x_iconst (v := 3) g dX6_examines_60 (by decide) ?_
            refine x_icmp_lt 70 g dX6_examines_61 (by decide) (fun c_7 => ?_) (fun c_7 => ?_)
            · have h := ite_t c_7 h
              refine x_iconst (v := 1) g dX6_examines_70 (by decide) ?_
              refine x_iload_n 2 g dX6_examines_71 rfl rfl ?_
              refine x_ishl g dX6_examines_72 ?_
              refine x_ineg g dX6_examines_73 ?_
              obtain ⟨S_9, q_8, h⟩ := gb_e h
              refine x_cV [] g (k_X6_adds q_8) ca_X6_adds in_X6_adds se_X6_adds lm_X6_93 gXX6 q_3 (Nat.le_of_ble_eq_true rfl) rfl rfl (Nat.le_of_ble_eq_true rfl) dX6_examines_74 rfl ?_
              refine x_iload_n 3 g dX6_examines_77 rfl rfl ?_
              cases h
              exact x_iretS g e dX6_examines_78 rfl rfl
            · have h := ite_f c_7 h
              refine x_iconst (v := 1) g dX6_examines_64 (by decide) ?_
              refine x_iload_n 2 g dX6_examines_65 rfl rfl ?_
              refine x_ishl g dX6_examines_66 ?_
              refine x_goto 74 g dX6_examines_67 (by decide) ?_
              obtain ⟨S_11, q_10, h⟩ := gb_e h
              refine x_cV [] g (k_X6_adds q_10) ca_X6_adds in_X6_adds se_X6_adds lm_X6_93 gXX6 q_3 (Nat.le_of_ble_eq_true rfl) rfl rfl (Nat.le_of_ble_eq_true rfl) dX6_examines_74 rfl ?_
              refine x_iload_n 3 g dX6_examines_77 rfl rfl ?_
              cases h
              exact x_iretS g e dX6_examines_78 rfl rfl
        · have h := ite_f c_2 h
          refine x_iconst (v := 1) g dX6_examines_41 (by decide) ?_
          refine x_goto 46 g dX6_examines_42 (by decide) ?_
          refine x_aload_n 0 g dX6_examines_46 rfl rfl ?_
          refine x_iload_n 1 g dX6_examines_47 rfl rfl ?_
          refine x_iload_n 2 g dX6_examines_48 rfl rfl ?_
          obtain ⟨q_12, h⟩ := gd_e h
          obtain ⟨r_14, q_13, h⟩ := gb_e h
          refine x_cV [.int (gz r_14), .int 1] g (k_X6_hasExamOf q_13) ca_X6_hasExamOf in_X6_hasExamOf se_X6_hasExamOf lm_X6_156 gXX6 q_12 (Nat.le_of_ble_eq_true rfl) rfl rfl (Nat.le_of_ble_eq_true rfl) dX6_examines_49 rfl ?_
          refine x_icmp_eq 77 g dX6_examines_52 (by decide) (fun c_15 => ?_) (fun c_15 => ?_)
          · have h := ite_t c_15 h
            refine x_iload_n 3 g dX6_examines_77 rfl rfl ?_
            cases h
            exact x_iretS g e dX6_examines_78 rfl rfl
          · have h := ite_f c_15 h
            refine x_aload_n 0 g dX6_examines_55 rfl rfl ?_
            refine x_iload_n 1 g dX6_examines_56 rfl rfl ?_
            refine x_bipush (v := 7) g dX6_examines_57 (by decide) ?_
            refine x_iload_n 3 g dX6_examines_59 rfl rfl ?_
            refine x_iconst (v := 3) g dX6_examines_60 (by decide) ?_
            refine x_icmp_lt 70 g dX6_examines_61 (by decide) (fun c_16 => ?_) (fun c_16 => ?_)
            · have h := ite_t c_16 h
              refine x_iconst (v := 1) g dX6_examines_70 (by decide) ?_
              refine x_iload_n 2 g dX6_examines_71 rfl rfl ?_
              refine x_ishl g dX6_examines_72 ?_
              refine x_ineg g dX6_examines_73 ?_
              obtain ⟨S_18, q_17, h⟩ := gb_e h
              refine x_cV [] g (k_X6_adds q_17) ca_X6_adds in_X6_adds se_X6_adds lm_X6_93 gXX6 q_12 (Nat.le_of_ble_eq_true rfl) rfl rfl (Nat.le_of_ble_eq_true rfl) dX6_examines_74 rfl ?_
              refine x_iload_n 3 g dX6_examines_77 rfl rfl ?_
              cases h
              exact x_iretS g e dX6_examines_78 rfl rfl
            · have h := ite_f c_16 h
              refine x_iconst (v := 1) g dX6_examines_64 (by decide) ?_
              refine x_iload_n 2 g dX6_examines_65 rfl rfl ?_
              refine x_ishl g dX6_examines_66 ?_
              refine x_goto 74 g dX6_examines_67 (by decide) ?_
              obtain ⟨S_20, q_19, h⟩ := gb_e h
              refine x_cV [] g (k_X6_adds q_19) ca_X6_adds in_X6_adds se_X6_adds lm_X6_93 gXX6 q_12 (Nat.le_of_ble_eq_true rfl) rfl rfl (Nat.le_of_ble_eq_true rfl) dX6_examines_74 rfl ?_
              refine x_iload_n 3 g dX6_examines_77 rfl rfl ?_
              cases h
              exact x_iretS g e dX6_examines_78 rfl rfl
      · have h := ite_f c_1 h
        refine x_iload_n 3 g dX6_examines_11 rfl rfl ?_
        refine x_aload_n 0 g dX6_examines_12 rfl rfl ?_
        refine x_iload_n 1 g dX6_examines_13 rfl rfl ?_
        refine x_iload (i := 4) g dX6_examines_14 rfl ?_
        refine x_iload_n 2 g dX6_examines_16 rfl rfl ?_
        obtain ⟨q_21, h⟩ := gd_e h
        obtain ⟨r_23, q_22, h⟩ := gb_e h
        refine x_cV [.int (gz r_23), .int x3] g (k_X6_isRight q_22) ca_X6_isRight in_X6_isRight se_X6_isRight lm_X6_153 gXX6 q_21 (Nat.le_of_ble_eq_true rfl) rfl rfl (Nat.le_of_ble_eq_true rfl) dX6_examines_17 rfl ?_
        refine x_if_eq 27 g dX6_examines_20 (by decide) (fun c_24 => ?_) (fun c_24 => ?_)
        · have h := ite_t c_24 h
          refine x_iconst (v := 0) g dX6_examines_27 (by decide) ?_
          refine x_iadd g dX6_examines_28 ?_
          refine x_nI (fun x3_25 e_26 => ?_)
          have h := glt_e e_26 h
          refine x_istore_n 3 g dX6_examines_29 rfl (Nat.le_of_ble_eq_true rfl) rfl ?_
          obtain ⟨x4_27, e_28⟩ : ∃ z : Int32, z = x4 + 1 := ⟨_, rfl⟩
          have h := glt_e e_28 h
          refine x_iinc (v := x4_27) g dX6_examines_30 rfl (by rw [e_28]; rfl) rfl ?_
          refine x_goto 5 g dX6_examines_33 (by decide) ?_
          exact ih _ _ _ h
        · have h := ite_f c_24 h
          refine x_iconst (v := 1) g dX6_examines_23 (by decide) ?_
          refine x_goto 28 g dX6_examines_24 (by decide) ?_
          refine x_iadd g dX6_examines_28 ?_
          refine x_nI (fun x3_29 e_30 => ?_)
          have h := glt_e e_30 h
          refine x_istore_n 3 g dX6_examines_29 rfl (Nat.le_of_ble_eq_true rfl) rfl ?_
          obtain ⟨x4_31, e_32⟩ : ∃ z : Int32, z = x4 + 1 := ⟨_, rfl⟩
          have h := glt_e e_32 h
          refine x_iinc (v := x4_31) g dX6_examines_30 rfl (by rw [e_32]; rfl) rfl ?_
          refine x_goto 5 g dX6_examines_33 (by decide) ?_
          exact ih _ _ _ h
  exact L5 gN _ _ _ h
noncomputable def f_X6_examine (G : gG) (a0 : Nat) (a1 : Int32) (a2 : Int32) (S : gS) : Option (Int32 × gS) := gd (gis G 3 a0) <| glt (sI S 30 a0 0) fun (S_2 : gS) => gb (f_X6_notOne G a0 a1 a2 S_2) fun (r_5 : Int32) => if r_5 = 0 then (gb (f_X6_remembers G a0 S_2) fun (S_8 : gS) => gb2 (f_X6_examines G a0 a1 a2 S_8) fun (r_10 : Int32) (S_11 : gS) => some (r_10, S_11)) else (gb2 (f_X6_fails G a0 r_5 S_2) fun (r_13 : Int32) (S_14 : gS) => some (r_13, S_14))
set_option maxRecDepth 100000 in
set_option maxHeartbeats 4000000 in
theorem k_X6_examine {ad : Nat → Nat} {G : gG} {a0 : Nat} {a1 : Int32} {a2 : Int32} {S S1 : gS} {T : gT} {r : Int32} (h : f_X6_examine G a0 a1 a2 S = some (r, S1)) : Ct ad yX6_examine (Cond.code yX6_examine cX6_examine 4 (some .int) :: gTb) 5 0 0 [.ref a0, .int a1, .int a2] G S T (some (.int r)) G S1 T := by
  refine Ct.ofB rfl (Nat.le_of_ble_eq_true rfl) rfl (fun K g e hK => ?_)
  obtain ⟨rfl, -⟩ := hK
  show Xj K [] G 0 [some (.ref a0), some (.int a1), some (.int a2), none] [] S T 0 0
  unfold f_X6_examine at h
  refine x_aload_n 0 g dX6_examine_0 rfl rfl ?_
  refine x_iconst (v := 0) g dX6_examine_1 (by decide) ?_
  obtain ⟨q_1, h⟩ := gd_e h
  refine x_puti g dX6_examine_2 gXX6 0 30 rfl (by decide) rfl rfl lf_X6_1 rfl rfl q_1 ?_
  refine x_nS (fun S_2 e_3 => ?_)
  have h := glt_e e_3 h
  refine x_aload_n 0 g dX6_examine_5 rfl rfl ?_
  refine x_iload_n 1 g dX6_examine_6 rfl rfl ?_
  refine x_iload_n 2 g dX6_examine_7 rfl rfl ?_
  obtain ⟨r_5, q_4, h⟩ := gb_e h
  refine x_cV [.int r_5] g (k_X6_notOne q_4) ca_X6_notOne in_X6_notOne se_X6_notOne lm_X6_144 gXX6 q_1 (Nat.le_of_ble_eq_true rfl) rfl rfl (Nat.le_of_ble_eq_true rfl) dX6_examine_8 rfl ?_
  refine x_istore_n 3 g dX6_examine_11 rfl (Nat.le_of_ble_eq_true rfl) rfl ?_
  refine x_iload_n 3 g dX6_examine_12 rfl rfl ?_
  refine x_if_eq 22 g dX6_examine_13 (by decide) (fun c_6 => ?_) (fun c_6 => ?_)
  · have h := ite_t c_6 h
    refine x_aload_n 0 g dX6_examine_22 rfl rfl ?_
    obtain ⟨S_8, q_7, h⟩ := gb_e h
    refine x_cV [] g (k_X6_remembers q_7) ca_X6_remembers in_X6_remembers se_X6_remembers lm_X6_87 gXX6 q_1 (Nat.le_of_ble_eq_true rfl) rfl rfl (Nat.le_of_ble_eq_true rfl) dX6_examine_23 rfl ?_
    refine x_aload_n 0 g dX6_examine_26 rfl rfl ?_
    refine x_iload_n 1 g dX6_examine_27 rfl rfl ?_
    refine x_iload_n 2 g dX6_examine_28 rfl rfl ?_
    obtain ⟨r_10, S_11, q_9, h⟩ := gb2_e h
    refine x_cV [.int r_10] g (k_X6_examines q_9) ca_X6_examines in_X6_examines se_X6_examines lm_X6_159 gXX6 q_1 (Nat.le_of_ble_eq_true rfl) rfl rfl (Nat.le_of_ble_eq_true rfl) dX6_examine_29 rfl ?_
    cases h
    exact x_iretS g e dX6_examine_32 rfl rfl
  · have h := ite_f c_6 h
    refine x_aload_n 0 g dX6_examine_16 rfl rfl ?_
    refine x_iload_n 3 g dX6_examine_17 rfl rfl ?_
    obtain ⟨r_13, S_14, q_12, h⟩ := gb2_e h
    refine x_cV [.int r_13] g (k_X6_fails q_12) ca_X6_fails in_X6_fails se_X6_fails lm_X6_84 gXX6 q_1 (Nat.le_of_ble_eq_true rfl) rfl rfl (Nat.le_of_ble_eq_true rfl) dX6_examine_18 rfl ?_
    cases h
    exact x_iretS g e dX6_examine_21 rfl rfl
noncomputable def f_X6_notEnd (G : gG) (a0 : Nat) (S : gS) : Option Int32 := gd (gis G 3 a0) <| gb (gP S 10 a0) fun (b_2 : Nat) => gd (gis G 7 b_2) <| gd (vp_in 0 (gn G b_2)) <| if (gr S b_2 (Int32.toNatClampNeg 0)) = 0 then (some 1) else (some 0)
set_option maxRecDepth 100000 in
set_option maxHeartbeats 4000000 in
theorem k_X6_notEnd {ad : Nat → Nat} {G : gG} {a0 : Nat} {S : gS} {T : gT} {r : Int32} (h : f_X6_notEnd G a0 S = some r) : Ct ad yX6_notEnd (Cond.code yX6_notEnd cX6_notEnd 1 (some .int) :: gTb) 0 0 0 [.ref a0] G S T (some (.int r)) G S T := by
  refine Ct.ofB rfl (Nat.le_of_ble_eq_true rfl) rfl (fun K g e hK => ?_)
  obtain ⟨rfl, -⟩ := hK
  show Xj K [] G 0 [some (.ref a0)] [] S T 0 0
  unfold f_X6_notEnd at h
  refine x_aload_n 0 g dX6_notEnd_0 rfl rfl ?_
  obtain ⟨q_1, h⟩ := gd_e h
  obtain ⟨b_2, e_3, h⟩ := gb_e h
  refine x_getr g dX6_notEnd_1 gXX6 1 10 rfl (by decide) rfl lf_X6_13 q_1 e_3 ?_
  refine x_iconst (v := 0) g dX6_notEnd_4 (by decide) ?_
  obtain ⟨q_4, h⟩ := gd_e h
  obtain ⟨q_5, h⟩ := gd_e h
  refine x_iald g dX6_notEnd_5 q_4 q_5 ?_
  refine x_if_ne 13 g dX6_notEnd_6 (by decide) (fun c_6 => ?_) (fun c_6 => ?_)
  · have h := ite_f c_6 h
    refine x_iconst (v := 0) g dX6_notEnd_13 (by decide) ?_
    cases h
    exact x_iretS g e dX6_notEnd_14 rfl rfl
  · have h := ite_t c_6 h
    refine x_iconst (v := 1) g dX6_notEnd_9 (by decide) ?_
    refine x_goto 14 g dX6_notEnd_10 (by decide) ?_
    cases h
    exact x_iretS g e dX6_notEnd_14 rfl rfl
noncomputable def f_X6_endsTerm_L47 (G : gG) (a0 : Nat) (kO_4 : Int32 → Int32 → gS → Option (Int32 × gS)) : Nat → Int32 → Int32 → gS → Option (Int32 × gS)
  | 0, _, _, _ => none
  | n47 + 1, x1, x2, S => gd (gis G 3 a0) <| gb (gP S 10 a0) fun (b_10 : Nat) => gd (gis G 7 b_10) <| gd (vp_in 0 (gn G b_10)) <| if (gr S b_10 (Int32.toNatClampNeg 0)) ≤ x2 then (gb (gP S 10 a0) fun (b_15 : Nat) => gd (gis G 7 b_15) <| gd (vp_in 3 (gn G b_15)) <| gd (vp_in 3 (gn G b_15)) <| glt (sr S b_15 (Int32.toNatClampNeg 3) ((gr S b_15 (Int32.toNatClampNeg 3)) + 1)) fun (S_20 : gS) => some (x1, S_20)) else (gb (f_X6_puts G a0 x2 5 0 S) fun (S_23 : gS) => glt (x2 + 1) fun (x2_24 : Int32) => f_X6_endsTerm_L47 G a0 kO_4 n47 x1 x2_24 S_23)
noncomputable def f_X6_endsTerm_L4 (G : gG) (a0 : Nat) : Nat → Int32 → Int32 → gS → Option (Int32 × gS)
  | 0, _, _, _ => none
  | n4 + 1, x1, x2, S => gd (gis G 3 a0) <| gb (gP S 10 a0) fun (b_2 : Nat) => gd (gis G 7 b_2) <| gd (vp_in 0 (gn G b_2)) <| if (gr S b_2 (Int32.toNatClampNeg 0)) ≤ x2 then (gb (f_X6_adds G a0 x1 6 1 S) fun (S_8 : gS) => f_X6_endsTerm_L47 G a0 (fun y1 y2 Sy => f_X6_endsTerm_L4 G a0 n4 y1 y2 Sy) gN x1 0 S_8) else (gb (f_X6_of G a0 x2 5 S) fun (r_27 : Int32) => gb (f_X6_of G a0 x1 5 S) fun (r_29 : Int32) => if r_27 ≤ r_29 then (glt (x2 + 1) fun (x2_31 : Int32) => f_X6_endsTerm_L4 G a0 n4 x1 x2_31 S) else (glt (x2 + 1) fun (x2_33 : Int32) => f_X6_endsTerm_L4 G a0 n4 x2 x2_33 S))
noncomputable def f_X6_endsTerm (G : gG) (a0 : Nat) (S : gS) : Option (Int32 × gS) := f_X6_endsTerm_L4 G a0 gN 0 1 S
set_option maxRecDepth 100000 in
set_option maxHeartbeats 4000000 in
theorem k_X6_endsTerm {ad : Nat → Nat} {G : gG} {a0 : Nat} {S S1 : gS} {T : gT} {r : Int32} (h : f_X6_endsTerm G a0 S = some (r, S1)) : Ct ad yX6_endsTerm (Cond.code yX6_endsTerm cX6_endsTerm 3 (some .int) :: gTb) 1 0 0 [.ref a0] G S T (some (.int r)) G S1 T := by
  refine Ct.ofB rfl (Nat.le_of_ble_eq_true rfl) rfl (fun K g e hK => ?_)
  obtain ⟨rfl, -⟩ := hK
  show Xj K [] G 0 [some (.ref a0), none, none] [] S T 0 0
  unfold f_X6_endsTerm at h
  refine x_iconst (v := 0) g dX6_endsTerm_0 (by decide) ?_
  refine x_istore_n 1 g dX6_endsTerm_1 rfl (Nat.le_of_ble_eq_true rfl) rfl ?_
  refine x_iconst (v := 1) g dX6_endsTerm_2 (by decide) ?_
  refine x_istore_n 2 g dX6_endsTerm_3 rfl (Nat.le_of_ble_eq_true rfl) rfl ?_
  have L4 : ∀ (n4 : Nat) (x1 : Int32) (x2 : Int32) (S : gS), f_X6_endsTerm_L4 G a0 n4 x1 x2 S = some (r, S1) → Xj K [] G 4 [some (.ref a0), some (.int x1), some (.int x2)] [] S T 0 0 := by
    intro n4
    induction n4 with
    | zero =>
      intro x1 x2 S h
      rw [f_X6_endsTerm_L4] at h
      cases h
    | succ n4 ih =>
      intro x1 x2 S h
      rw [f_X6_endsTerm_L4] at h
      refine x_iload_n 2 g dX6_endsTerm_4 rfl rfl ?_
      refine x_aload_n 0 g dX6_endsTerm_5 rfl rfl ?_
      obtain ⟨q_1, h⟩ := gd_e h
      obtain ⟨b_2, e_3, h⟩ := gb_e h
      refine x_getr g dX6_endsTerm_6 gXX6 1 10 rfl (by decide) rfl lf_X6_13 q_1 e_3 ?_
      refine x_iconst (v := 0) g dX6_endsTerm_9 (by decide) ?_
      obtain ⟨q_4, h⟩ := gd_e h
      obtain ⟨q_5, h⟩ := gd_e h
      refine x_iald g dX6_endsTerm_10 q_4 q_5 ?_
      refine x_icmp_ge 37 g dX6_endsTerm_11 (by decide) (fun c_6 => ?_) (fun c_6 => ?_)
      · have h := ite_t c_6 h
        refine x_aload_n 0 g dX6_endsTerm_37 rfl rfl ?_
        refine x_iload_n 1 g dX6_endsTerm_38 rfl rfl ?_
        refine x_bipush (v := 6) g dX6_endsTerm_39 (by decide) ?_
        refine x_iconst (v := 1) g dX6_endsTerm_41 (by decide) ?_
        obtain ⟨S_8, q_7, h⟩ := gb_e h
        refine x_cV [] g (k_X6_adds q_7) ca_X6_adds in_X6_adds se_X6_adds lm_X6_93 gXX6 q_1 (Nat.le_of_ble_eq_true rfl) rfl rfl (Nat.le_of_ble_eq_true rfl) dX6_endsTerm_42 rfl ?_
        refine x_iconst (v := 0) g dX6_endsTerm_45 (by decide) ?_
        refine x_istore_n 2 g dX6_endsTerm_46 rfl (Nat.le_of_ble_eq_true rfl) rfl ?_
        have ih_4 := ih
        have L47 : ∀ (n47 : Nat) (x1 : Int32) (x2 : Int32) (S : gS), f_X6_endsTerm_L47 G a0 (fun y1 y2 Sy => f_X6_endsTerm_L4 G a0 n4 y1 y2 Sy) n47 x1 x2 S = some (r, S1) → Xj K [] G 47 [some (.ref a0), some (.int x1), some (.int x2)] [] S T 0 0 := by
          intro n47
          induction n47 with
          | zero =>
            intro x1 x2 S h
            rw [f_X6_endsTerm_L47] at h
            cases h
          | succ n47 ih =>
            intro x1 x2 S h
            rw [f_X6_endsTerm_L47] at h
            refine x_iload_n 2 g dX6_endsTerm_47 rfl rfl ?_
            refine x_aload_n 0 g dX6_endsTerm_48 rfl rfl ?_
            obtain ⟨q_9, h⟩ := gd_e h
            obtain ⟨b_10, e_11, h⟩ := gb_e h
            refine x_getr g dX6_endsTerm_49 gXX6 1 10 rfl (by decide) rfl lf_X6_13 q_9 e_11 ?_
            refine x_iconst (v := 0) g dX6_endsTerm_52 (by decide) ?_
            obtain ⟨q_12, h⟩ := gd_e h
            obtain ⟨q_13, h⟩ := gd_e h
            refine x_iald g dX6_endsTerm_53 q_12 q_13 ?_
            refine x_icmp_ge 70 g dX6_endsTerm_54 (by decide) (fun c_14 => ?_) (fun c_14 => ?_)
            · have h := ite_t c_14 h
              refine x_aload_n 0 g dX6_endsTerm_70 rfl rfl ?_
              obtain ⟨b_15, e_16, h⟩ := gb_e h
              refine x_getr g dX6_endsTerm_71 gXX6 1 10 rfl (by decide) rfl lf_X6_13 q_9 e_16 ?_
              refine x_iconst (v := 3) g dX6_endsTerm_74 (by decide) ?_
              refine x_dup2 g dX6_endsTerm_75 rfl rfl ?_
              obtain ⟨q_17, h⟩ := gd_e h
              obtain ⟨q_18, h⟩ := gd_e h
              refine x_iald g dX6_endsTerm_76 q_17 q_18 ?_
              refine x_iconst (v := 1) g dX6_endsTerm_77 (by decide) ?_
              refine x_iadd g dX6_endsTerm_78 ?_
              obtain ⟨q_19, h⟩ := gd_e h
              refine x_iast g dX6_endsTerm_79 q_17 q_19 ?_
              refine x_nS (fun S_20 e_21 => ?_)
              have h := glt_e e_21 h
              refine x_iload_n 1 g dX6_endsTerm_80 rfl rfl ?_
              cases h
              exact x_iretS g e dX6_endsTerm_81 rfl rfl
            · have h := ite_f c_14 h
              refine x_aload_n 0 g dX6_endsTerm_57 rfl rfl ?_
              refine x_iload_n 2 g dX6_endsTerm_58 rfl rfl ?_
              refine x_iconst (v := 5) g dX6_endsTerm_59 (by decide) ?_
              refine x_iconst (v := 0) g dX6_endsTerm_60 (by decide) ?_
              obtain ⟨S_23, q_22, h⟩ := gb_e h
              refine x_cV [] g (k_X6_puts q_22) ca_X6_puts in_X6_puts se_X6_puts lm_X6_77 gXX6 q_9 (Nat.le_of_ble_eq_true rfl) rfl rfl (Nat.le_of_ble_eq_true rfl) dX6_endsTerm_61 rfl ?_
              obtain ⟨x2_24, e_25⟩ : ∃ z : Int32, z = x2 + 1 := ⟨_, rfl⟩
              have h := glt_e e_25 h
              refine x_iinc (v := x2_24) g dX6_endsTerm_64 rfl (by rw [e_25]; rfl) rfl ?_
              refine x_goto 47 g dX6_endsTerm_67 (by decide) ?_
              exact ih _ _ _ h
        exact L47 gN _ _ _ h
      · have h := ite_f c_6 h
        refine x_aload_n 0 g dX6_endsTerm_14 rfl rfl ?_
        refine x_iload_n 2 g dX6_endsTerm_15 rfl rfl ?_
        refine x_iconst (v := 5) g dX6_endsTerm_16 (by decide) ?_
        obtain ⟨r_27, q_26, h⟩ := gb_e h
        refine x_cV [.int r_27] g (k_X6_of q_26) ca_X6_of in_X6_of se_X6_of lm_X6_62 gXX6 q_1 (Nat.le_of_ble_eq_true rfl) rfl rfl (Nat.le_of_ble_eq_true rfl) dX6_endsTerm_17 rfl ?_
        refine x_aload_n 0 g dX6_endsTerm_20 rfl rfl ?_
        refine x_iload_n 1 g dX6_endsTerm_21 rfl rfl ?_
        refine x_iconst (v := 5) g dX6_endsTerm_22 (by decide) ?_
        obtain ⟨r_29, q_28, h⟩ := gb_e h
        refine x_cV [.int r_29, .int r_27] g (k_X6_of q_28) ca_X6_of in_X6_of se_X6_of lm_X6_62 gXX6 q_1 (Nat.le_of_ble_eq_true rfl) rfl rfl (Nat.le_of_ble_eq_true rfl) dX6_endsTerm_23 rfl ?_
        refine x_icmp_le 31 g dX6_endsTerm_26 (by decide) (fun c_30 => ?_) (fun c_30 => ?_)
        · have h := ite_t c_30 h
          obtain ⟨x2_31, e_32⟩ : ∃ z : Int32, z = x2 + 1 := ⟨_, rfl⟩
          have h := glt_e e_32 h
          refine x_iinc (v := x2_31) g dX6_endsTerm_31 rfl (by rw [e_32]; rfl) rfl ?_
          refine x_goto 4 g dX6_endsTerm_34 (by decide) ?_
          exact ih _ _ _ h
        · have h := ite_f c_30 h
          refine x_iload_n 2 g dX6_endsTerm_29 rfl rfl ?_
          refine x_istore_n 1 g dX6_endsTerm_30 rfl (Nat.le_of_ble_eq_true rfl) rfl ?_
          obtain ⟨x2_33, e_34⟩ : ∃ z : Int32, z = x2 + 1 := ⟨_, rfl⟩
          have h := glt_e e_34 h
          refine x_iinc (v := x2_33) g dX6_endsTerm_31 rfl (by rw [e_34]; rfl) rfl ?_
          refine x_goto 4 g dX6_endsTerm_34 (by decide) ?_
          exact ih _ _ _ h
  exact L4 gN _ _ _ h
noncomputable def f_X6_endTerm (G : gG) (a0 : Nat) (S : gS) : Option (Int32 × gS) := gd (gis G 3 a0) <| glt (sI S 30 a0 0) fun (S_2 : gS) => gb (f_X6_notEnd G a0 S_2) fun (r_5 : Int32) => if r_5 = 0 then (gb (f_X6_remembers G a0 S_2) fun (S_8 : gS) => gb2 (f_X6_endsTerm G a0 S_8) fun (r_10 : Int32) (S_11 : gS) => some (r_10, S_11)) else (gb2 (f_X6_fails G a0 1 S_2) fun (r_13 : Int32) (S_14 : gS) => some (r_13, S_14))
set_option maxRecDepth 100000 in
set_option maxHeartbeats 4000000 in
theorem k_X6_endTerm {ad : Nat → Nat} {G : gG} {a0 : Nat} {S S1 : gS} {T : gT} {r : Int32} (h : f_X6_endTerm G a0 S = some (r, S1)) : Ct ad yX6_endTerm (Cond.code yX6_endTerm cX6_endTerm 1 (some .int) :: gTb) 2 0 0 [.ref a0] G S T (some (.int r)) G S1 T := by
  refine Ct.ofB rfl (Nat.le_of_ble_eq_true rfl) rfl (fun K g e hK => ?_)
  obtain ⟨rfl, -⟩ := hK
  show Xj K [] G 0 [some (.ref a0)] [] S T 0 0
  unfold f_X6_endTerm at h
  refine x_aload_n 0 g dX6_endTerm_0 rfl rfl ?_
  refine x_iconst (v := 0) g dX6_endTerm_1 (by decide) ?_
  obtain ⟨q_1, h⟩ := gd_e h
  refine x_puti g dX6_endTerm_2 gXX6 0 30 rfl (by decide) rfl rfl lf_X6_1 rfl rfl q_1 ?_
  refine x_nS (fun S_2 e_3 => ?_)
  have h := glt_e e_3 h
  refine x_aload_n 0 g dX6_endTerm_5 rfl rfl ?_
  obtain ⟨r_5, q_4, h⟩ := gb_e h
  refine x_cV [.int r_5] g (k_X6_notEnd q_4) ca_X6_notEnd in_X6_notEnd se_X6_notEnd lm_X6_162 gXX6 q_1 (Nat.le_of_ble_eq_true rfl) rfl rfl (Nat.le_of_ble_eq_true rfl) dX6_endTerm_6 rfl ?_
  refine x_if_eq 18 g dX6_endTerm_9 (by decide) (fun c_6 => ?_) (fun c_6 => ?_)
  · have h := ite_t c_6 h
    refine x_aload_n 0 g dX6_endTerm_18 rfl rfl ?_
    obtain ⟨S_8, q_7, h⟩ := gb_e h
    refine x_cV [] g (k_X6_remembers q_7) ca_X6_remembers in_X6_remembers se_X6_remembers lm_X6_87 gXX6 q_1 (Nat.le_of_ble_eq_true rfl) rfl rfl (Nat.le_of_ble_eq_true rfl) dX6_endTerm_19 rfl ?_
    refine x_aload_n 0 g dX6_endTerm_22 rfl rfl ?_
    obtain ⟨r_10, S_11, q_9, h⟩ := gb2_e h
    refine x_cV [.int r_10] g (k_X6_endsTerm q_9) ca_X6_endsTerm in_X6_endsTerm se_X6_endsTerm lm_X6_166 gXX6 q_1 (Nat.le_of_ble_eq_true rfl) rfl rfl (Nat.le_of_ble_eq_true rfl) dX6_endTerm_23 rfl ?_
    cases h
    exact x_iretS g e dX6_endTerm_26 rfl rfl
  · have h := ite_f c_6 h
    refine x_aload_n 0 g dX6_endTerm_12 rfl rfl ?_
    refine x_iconst (v := 1) g dX6_endTerm_13 (by decide) ?_
    obtain ⟨r_13, S_14, q_12, h⟩ := gb2_e h
    refine x_cV [.int r_13] g (k_X6_fails q_12) ca_X6_fails in_X6_fails se_X6_fails lm_X6_84 gXX6 q_1 (Nat.le_of_ble_eq_true rfl) rfl rfl (Nat.le_of_ble_eq_true rfl) dX6_endTerm_14 rfl ?_
    cases h
    exact x_iretS g e dX6_endTerm_17 rfl rfl
noncomputable def f_X6_asks (G : gG) (a0 : Nat) (a1 : Int32) (S : gS) : Option (Int32 × gS) := gd (gis G 3 a0) <| glt (sI S 30 a0 0) fun (S_2 : gS) => gb (gP S_2 10 a0) fun (b_4 : Nat) => gd (gis G 7 b_4) <| gd (vp_in a1 (gn G b_4)) <| some (gr S_2 b_4 (Int32.toNatClampNeg a1), S_2)
set_option maxRecDepth 100000 in
set_option maxHeartbeats 4000000 in
theorem k_X6_asks {ad : Nat → Nat} {G : gG} {a0 : Nat} {a1 : Int32} {S S1 : gS} {T : gT} {r : Int32} (h : f_X6_asks G a0 a1 S = some (r, S1)) : Ct ad yX6_asks (Cond.code yX6_asks cX6_asks 2 (some .int) :: gTb) 0 0 0 [.ref a0, .int a1] G S T (some (.int r)) G S1 T := by
  refine Ct.ofB rfl (Nat.le_of_ble_eq_true rfl) rfl (fun K g e hK => ?_)
  obtain ⟨rfl, -⟩ := hK
  show Xj K [] G 0 [some (.ref a0), some (.int a1)] [] S T 0 0
  unfold f_X6_asks at h
  refine x_aload_n 0 g dX6_asks_0 rfl rfl ?_
  refine x_iconst (v := 0) g dX6_asks_1 (by decide) ?_
  obtain ⟨q_1, h⟩ := gd_e h
  refine x_puti g dX6_asks_2 gXX6 0 30 rfl (by decide) rfl rfl lf_X6_1 rfl rfl q_1 ?_
  refine x_nS (fun S_2 e_3 => ?_)
  have h := glt_e e_3 h
  refine x_aload_n 0 g dX6_asks_5 rfl rfl ?_
  obtain ⟨b_4, e_5, h⟩ := gb_e h
  refine x_getr g dX6_asks_6 gXX6 1 10 rfl (by decide) rfl lf_X6_13 q_1 e_5 ?_
  refine x_iload_n 1 g dX6_asks_9 rfl rfl ?_
  obtain ⟨q_6, h⟩ := gd_e h
  obtain ⟨q_7, h⟩ := gd_e h
  refine x_iald g dX6_asks_10 q_6 q_7 ?_
  cases h
  exact x_iretS g e dX6_asks_11 rfl rfl
noncomputable def f_X6_umbrellaCount (G : gG) (a0 : Nat) (S : gS) : Option (Int32 × gS) := gd (gis G 3 a0) <| gb2 (f_X6_asks G a0 0 S) fun (r_3 : Int32) (S_4 : gS) => some (r_3, S_4)
set_option maxRecDepth 100000 in
set_option maxHeartbeats 4000000 in
theorem k_X6_umbrellaCount {ad : Nat → Nat} {G : gG} {a0 : Nat} {S S1 : gS} {T : gT} {r : Int32} (h : f_X6_umbrellaCount G a0 S = some (r, S1)) : Ct ad yX6_umbrellaCount (Cond.code yX6_umbrellaCount cX6_umbrellaCount 1 (some .int) :: gTb) 1 0 0 [.ref a0] G S T (some (.int r)) G S1 T := by
  refine Ct.ofB rfl (Nat.le_of_ble_eq_true rfl) rfl (fun K g e hK => ?_)
  obtain ⟨rfl, -⟩ := hK
  show Xj K [] G 0 [some (.ref a0)] [] S T 0 0
  unfold f_X6_umbrellaCount at h
  refine x_aload_n 0 g dX6_umbrellaCount_0 rfl rfl ?_
  refine x_iconst (v := 0) g dX6_umbrellaCount_1 (by decide) ?_
  obtain ⟨q_1, h⟩ := gd_e h
  obtain ⟨r_3, S_4, q_2, h⟩ := gb2_e h
  refine x_cV [.int r_3] g (k_X6_asks q_2) ca_X6_asks in_X6_asks se_X6_asks lm_X6_169 gXX6 q_1 (Nat.le_of_ble_eq_true rfl) rfl rfl (Nat.le_of_ble_eq_true rfl) dX6_umbrellaCount_2 rfl ?_
  cases h
  exact x_iretS g e dX6_umbrellaCount_5 rfl rfl
noncomputable def f_X6_asksUmbrella (G : gG) (a0 : Nat) (a1 : Int32) (a2 : Int32) (S : gS) : Option (Int32 × gS) := gd (gis G 3 a0) <| glt (sI S 30 a0 0) fun (S_2 : gS) => gb (f_X6_isUmbrella G a0 a1 S_2) fun (r_5 : Bool) => if (gz r_5) = 0 then (gb2 (f_X6_fails G a0 1 S_2) fun (r_8 : Int32) (S_9 : gS) => some (r_8, S_9)) else (gb (f_X6_of G a0 a1 a2 S_2) fun (r_11 : Int32) => some (r_11, S_2))
set_option maxRecDepth 100000 in
set_option maxHeartbeats 4000000 in
theorem k_X6_asksUmbrella {ad : Nat → Nat} {G : gG} {a0 : Nat} {a1 : Int32} {a2 : Int32} {S S1 : gS} {T : gT} {r : Int32} (h : f_X6_asksUmbrella G a0 a1 a2 S = some (r, S1)) : Ct ad yX6_asksUmbrella (Cond.code yX6_asksUmbrella cX6_asksUmbrella 3 (some .int) :: gTb) 2 0 0 [.ref a0, .int a1, .int a2] G S T (some (.int r)) G S1 T := by
  refine Ct.ofB rfl (Nat.le_of_ble_eq_true rfl) rfl (fun K g e hK => ?_)
  obtain ⟨rfl, -⟩ := hK
  show Xj K [] G 0 [some (.ref a0), some (.int a1), some (.int a2)] [] S T 0 0
  unfold f_X6_asksUmbrella at h
  refine x_aload_n 0 g dX6_asksUmbrella_0 rfl rfl ?_
  refine x_iconst (v := 0) g dX6_asksUmbrella_1 (by decide) ?_
  obtain ⟨q_1, h⟩ := gd_e h
  refine x_puti g dX6_asksUmbrella_2 gXX6 0 30 rfl (by decide) rfl rfl lf_X6_1 rfl rfl q_1 ?_
  refine x_nS (fun S_2 e_3 => ?_)
  have h := glt_e e_3 h
  refine x_aload_n 0 g dX6_asksUmbrella_5 rfl rfl ?_
  refine x_iload_n 1 g dX6_asksUmbrella_6 rfl rfl ?_
  obtain ⟨r_5, q_4, h⟩ := gb_e h
  refine x_cV [.int (gz r_5)] g (k_X6_isUmbrella q_4) ca_X6_isUmbrella in_X6_isUmbrella se_X6_isUmbrella lm_X6_110 gXX6 q_1 (Nat.le_of_ble_eq_true rfl) rfl rfl (Nat.le_of_ble_eq_true rfl) dX6_asksUmbrella_7 rfl ?_
  refine x_if_eq 22 g dX6_asksUmbrella_10 (by decide) (fun c_6 => ?_) (fun c_6 => ?_)
  · have h := ite_t c_6 h
    refine x_aload_n 0 g dX6_asksUmbrella_22 rfl rfl ?_
    refine x_iconst (v := 1) g dX6_asksUmbrella_23 (by decide) ?_
    obtain ⟨r_8, S_9, q_7, h⟩ := gb2_e h
    refine x_cV [.int r_8] g (k_X6_fails q_7) ca_X6_fails in_X6_fails se_X6_fails lm_X6_84 gXX6 q_1 (Nat.le_of_ble_eq_true rfl) rfl rfl (Nat.le_of_ble_eq_true rfl) dX6_asksUmbrella_24 rfl ?_
    cases h
    exact x_iretS g e dX6_asksUmbrella_27 rfl rfl
  · have h := ite_f c_6 h
    refine x_aload_n 0 g dX6_asksUmbrella_13 rfl rfl ?_
    refine x_iload_n 1 g dX6_asksUmbrella_14 rfl rfl ?_
    refine x_iload_n 2 g dX6_asksUmbrella_15 rfl rfl ?_
    obtain ⟨r_11, q_10, h⟩ := gb_e h
    refine x_cV [.int r_11] g (k_X6_of q_10) ca_X6_of in_X6_of se_X6_of lm_X6_62 gXX6 q_1 (Nat.le_of_ble_eq_true rfl) rfl rfl (Nat.le_of_ble_eq_true rfl) dX6_asksUmbrella_16 rfl ?_
    refine x_goto 27 g dX6_asksUmbrella_19 (by decide) ?_
    cases h
    exact x_iretS g e dX6_asksUmbrella_27 rfl rfl
noncomputable def f_X6_memory (G : gG) (a0 : Nat) (a1 : Int32) (S : gS) : Option (Int32 × gS) := gd (gis G 3 a0) <| gb2 (f_X6_asksUmbrella G a0 a1 0 S) fun (r_3 : Int32) (S_4 : gS) => some (r_3, S_4)
set_option maxRecDepth 100000 in
set_option maxHeartbeats 4000000 in
theorem k_X6_memory {ad : Nat → Nat} {G : gG} {a0 : Nat} {a1 : Int32} {S S1 : gS} {T : gT} {r : Int32} (h : f_X6_memory G a0 a1 S = some (r, S1)) : Ct ad yX6_memory (Cond.code yX6_memory cX6_memory 2 (some .int) :: gTb) 3 0 0 [.ref a0, .int a1] G S T (some (.int r)) G S1 T := by
  refine Ct.ofB rfl (Nat.le_of_ble_eq_true rfl) rfl (fun K g e hK => ?_)
  obtain ⟨rfl, -⟩ := hK
  show Xj K [] G 0 [some (.ref a0), some (.int a1)] [] S T 0 0
  unfold f_X6_memory at h
  refine x_aload_n 0 g dX6_memory_0 rfl rfl ?_
  refine x_iload_n 1 g dX6_memory_1 rfl rfl ?_
  refine x_iconst (v := 0) g dX6_memory_2 (by decide) ?_
  obtain ⟨q_1, h⟩ := gd_e h
  obtain ⟨r_3, S_4, q_2, h⟩ := gb2_e h
  refine x_cV [.int r_3] g (k_X6_asksUmbrella q_2) ca_X6_asksUmbrella in_X6_asksUmbrella se_X6_asksUmbrella lm_X6_172 gXX6 q_1 (Nat.le_of_ble_eq_true rfl) rfl rfl (Nat.le_of_ble_eq_true rfl) dX6_memory_3 rfl ?_
  cases h
  exact x_iretS g e dX6_memory_6 rfl rfl
noncomputable def f_X6_period (G : gG) (a0 : Nat) (a1 : Int32) (S : gS) : Option (Int32 × gS) := gd (gis G 3 a0) <| gb2 (f_X6_asksUmbrella G a0 a1 1 S) fun (r_3 : Int32) (S_4 : gS) => some (r_3, S_4)
set_option maxRecDepth 100000 in
set_option maxHeartbeats 4000000 in
theorem k_X6_period {ad : Nat → Nat} {G : gG} {a0 : Nat} {a1 : Int32} {S S1 : gS} {T : gT} {r : Int32} (h : f_X6_period G a0 a1 S = some (r, S1)) : Ct ad yX6_period (Cond.code yX6_period cX6_period 2 (some .int) :: gTb) 3 0 0 [.ref a0, .int a1] G S T (some (.int r)) G S1 T := by
  refine Ct.ofB rfl (Nat.le_of_ble_eq_true rfl) rfl (fun K g e hK => ?_)
  obtain ⟨rfl, -⟩ := hK
  show Xj K [] G 0 [some (.ref a0), some (.int a1)] [] S T 0 0
  unfold f_X6_period at h
  refine x_aload_n 0 g dX6_period_0 rfl rfl ?_
  refine x_iload_n 1 g dX6_period_1 rfl rfl ?_
  refine x_iconst (v := 1) g dX6_period_2 (by decide) ?_
  obtain ⟨q_1, h⟩ := gd_e h
  obtain ⟨r_3, S_4, q_2, h⟩ := gb2_e h
  refine x_cV [.int r_3] g (k_X6_asksUmbrella q_2) ca_X6_asksUmbrella in_X6_asksUmbrella se_X6_asksUmbrella lm_X6_172 gXX6 q_1 (Nat.le_of_ble_eq_true rfl) rfl rfl (Nat.le_of_ble_eq_true rfl) dX6_period_3 rfl ?_
  cases h
  exact x_iretS g e dX6_period_6 rfl rfl
noncomputable def f_X6_trials (G : gG) (a0 : Nat) (a1 : Int32) (S : gS) : Option (Int32 × gS) := gd (gis G 3 a0) <| gb2 (f_X6_asksUmbrella G a0 a1 2 S) fun (r_3 : Int32) (S_4 : gS) => some (r_3, S_4)
set_option maxRecDepth 100000 in
set_option maxHeartbeats 4000000 in
theorem k_X6_trials {ad : Nat → Nat} {G : gG} {a0 : Nat} {a1 : Int32} {S S1 : gS} {T : gT} {r : Int32} (h : f_X6_trials G a0 a1 S = some (r, S1)) : Ct ad yX6_trials (Cond.code yX6_trials cX6_trials 2 (some .int) :: gTb) 3 0 0 [.ref a0, .int a1] G S T (some (.int r)) G S1 T := by
  refine Ct.ofB rfl (Nat.le_of_ble_eq_true rfl) rfl (fun K g e hK => ?_)
  obtain ⟨rfl, -⟩ := hK
  show Xj K [] G 0 [some (.ref a0), some (.int a1)] [] S T 0 0
  unfold f_X6_trials at h
  refine x_aload_n 0 g dX6_trials_0 rfl rfl ?_
  refine x_iload_n 1 g dX6_trials_1 rfl rfl ?_
  refine x_iconst (v := 2) g dX6_trials_2 (by decide) ?_
  obtain ⟨q_1, h⟩ := gd_e h
  obtain ⟨r_3, S_4, q_2, h⟩ := gb2_e h
  refine x_cV [.int r_3] g (k_X6_asksUmbrella q_2) ca_X6_asksUmbrella in_X6_asksUmbrella se_X6_asksUmbrella lm_X6_172 gXX6 q_1 (Nat.le_of_ble_eq_true rfl) rfl rfl (Nat.le_of_ble_eq_true rfl) dX6_trials_3 rfl ?_
  cases h
  exact x_iretS g e dX6_trials_6 rfl rfl
noncomputable def f_X6_rememberedTrials (G : gG) (a0 : Nat) (a1 : Int32) (S : gS) : Option (Int32 × gS) := gd (gis G 3 a0) <| gb2 (f_X6_asksUmbrella G a0 a1 3 S) fun (r_3 : Int32) (S_4 : gS) => some (r_3, S_4)
set_option maxRecDepth 100000 in
set_option maxHeartbeats 4000000 in
theorem k_X6_rememberedTrials {ad : Nat → Nat} {G : gG} {a0 : Nat} {a1 : Int32} {S S1 : gS} {T : gT} {r : Int32} (h : f_X6_rememberedTrials G a0 a1 S = some (r, S1)) : Ct ad yX6_rememberedTrials (Cond.code yX6_rememberedTrials cX6_rememberedTrials 2 (some .int) :: gTb) 3 0 0 [.ref a0, .int a1] G S T (some (.int r)) G S1 T := by
  refine Ct.ofB rfl (Nat.le_of_ble_eq_true rfl) rfl (fun K g e hK => ?_)
  obtain ⟨rfl, -⟩ := hK
  show Xj K [] G 0 [some (.ref a0), some (.int a1)] [] S T 0 0
  unfold f_X6_rememberedTrials at h
  refine x_aload_n 0 g dX6_rememberedTrials_0 rfl rfl ?_
  refine x_iload_n 1 g dX6_rememberedTrials_1 rfl rfl ?_
  refine x_iconst (v := 3) g dX6_rememberedTrials_2 (by decide) ?_
  obtain ⟨q_1, h⟩ := gd_e h
  obtain ⟨r_3, S_4, q_2, h⟩ := gb2_e h
  refine x_cV [.int r_3] g (k_X6_asksUmbrella q_2) ca_X6_asksUmbrella in_X6_asksUmbrella se_X6_asksUmbrella lm_X6_172 gXX6 q_1 (Nat.le_of_ble_eq_true rfl) rfl rfl (Nat.le_of_ble_eq_true rfl) dX6_rememberedTrials_3 rfl ?_
  cases h
  exact x_iretS g e dX6_rememberedTrials_6 rfl rfl
noncomputable def f_X6_trialAt (G : gG) (a0 : Nat) (a1 : Int32) (a2 : Int32) (S : gS) : Option (Int32 × gS) := gd (gis G 3 a0) <| glt (sI S 30 a0 0) fun (S_2 : gS) => gb (f_X6_isUmbrella G a0 a1 S_2) fun (r_5 : Bool) => if (gz r_5) = 0 then (gb2 (f_X6_fails G a0 1 S_2) fun (r_20 : Int32) (S_21 : gS) => some (r_20, S_21)) else (gb (f_X6_of G a0 a1 3 S_2) fun (r_8 : Int32) => gb (f_X6_isBetween a2 0 (r_8 - 1)) fun (r_10 : Bool) => if (gz r_10) = 0 then (gb2 (f_X6_fails G a0 2 S_2) fun (r_17 : Int32) (S_18 : gS) => some (r_17, S_18)) else (gb (f_X6_of G a0 a1 3 S_2) fun (r_13 : Int32) => gb (f_X6_of G a0 a1 (((8 + r_13) - 1) - a2) S_2) fun (r_15 : Int32) => some (r_15, S_2)))
set_option maxRecDepth 100000 in
set_option maxHeartbeats 4000000 in
theorem k_X6_trialAt {ad : Nat → Nat} {G : gG} {a0 : Nat} {a1 : Int32} {a2 : Int32} {S S1 : gS} {T : gT} {r : Int32} (h : f_X6_trialAt G a0 a1 a2 S = some (r, S1)) : Ct ad yX6_trialAt (Cond.code yX6_trialAt cX6_trialAt 3 (some .int) :: gTb) 2 0 0 [.ref a0, .int a1, .int a2] G S T (some (.int r)) G S1 T := by
  refine Ct.ofB rfl (Nat.le_of_ble_eq_true rfl) rfl (fun K g e hK => ?_)
  obtain ⟨rfl, -⟩ := hK
  show Xj K [] G 0 [some (.ref a0), some (.int a1), some (.int a2)] [] S T 0 0
  unfold f_X6_trialAt at h
  refine x_aload_n 0 g dX6_trialAt_0 rfl rfl ?_
  refine x_iconst (v := 0) g dX6_trialAt_1 (by decide) ?_
  obtain ⟨q_1, h⟩ := gd_e h
  refine x_puti g dX6_trialAt_2 gXX6 0 30 rfl (by decide) rfl rfl lf_X6_1 rfl rfl q_1 ?_
  refine x_nS (fun S_2 e_3 => ?_)
  have h := glt_e e_3 h
  refine x_aload_n 0 g dX6_trialAt_5 rfl rfl ?_
  refine x_iload_n 1 g dX6_trialAt_6 rfl rfl ?_
  obtain ⟨r_5, q_4, h⟩ := gb_e h
  refine x_cV [.int (gz r_5)] g (k_X6_isUmbrella q_4) ca_X6_isUmbrella in_X6_isUmbrella se_X6_isUmbrella lm_X6_110 gXX6 q_1 (Nat.le_of_ble_eq_true rfl) rfl rfl (Nat.le_of_ble_eq_true rfl) dX6_trialAt_7 rfl ?_
  refine x_if_ne 19 g dX6_trialAt_10 (by decide) (fun c_6 => ?_) (fun c_6 => ?_)
  · have h := ite_f c_6 h
    refine x_iload_n 2 g dX6_trialAt_19 rfl rfl ?_
    refine x_iconst (v := 0) g dX6_trialAt_20 (by decide) ?_
    refine x_aload_n 0 g dX6_trialAt_21 rfl rfl ?_
    refine x_iload_n 1 g dX6_trialAt_22 rfl rfl ?_
    refine x_iconst (v := 3) g dX6_trialAt_23 (by decide) ?_
    obtain ⟨r_8, q_7, h⟩ := gb_e h
    refine x_cV [.int r_8, .int 0, .int a2] g (k_X6_of q_7) ca_X6_of in_X6_of se_X6_of lm_X6_62 gXX6 q_1 (Nat.le_of_ble_eq_true rfl) rfl rfl (Nat.le_of_ble_eq_true rfl) dX6_trialAt_24 rfl ?_
    refine x_iconst (v := 1) g dX6_trialAt_27 (by decide) ?_
    refine x_isub g dX6_trialAt_28 ?_
    obtain ⟨r_10, q_9, h⟩ := gb_e h
    refine x_cS [.int (gz r_10)] g (k_X6_isBetween q_9) ca_X6_isBetween st_X6_isBetween lm_X6_54 (Nat.le_of_ble_eq_true rfl) rfl rfl (Nat.le_of_ble_eq_true rfl) dX6_trialAt_29 rfl ?_
    refine x_if_ne 41 g dX6_trialAt_32 (by decide) (fun c_11 => ?_) (fun c_11 => ?_)
    · have h := ite_f c_11 h
      refine x_aload_n 0 g dX6_trialAt_41 rfl rfl ?_
      refine x_iload_n 1 g dX6_trialAt_42 rfl rfl ?_
      refine x_bipush (v := 8) g dX6_trialAt_43 (by decide) ?_
      refine x_aload_n 0 g dX6_trialAt_45 rfl rfl ?_
      refine x_iload_n 1 g dX6_trialAt_46 rfl rfl ?_
      refine x_iconst (v := 3) g dX6_trialAt_47 (by decide) ?_
      obtain ⟨r_13, q_12, h⟩ := gb_e h
      refine x_cV [.int r_13, .int 8, .int a1, .ref a0] g (k_X6_of q_12) ca_X6_of in_X6_of se_X6_of lm_X6_62 gXX6 q_1 (Nat.le_of_ble_eq_true rfl) rfl rfl (Nat.le_of_ble_eq_true rfl) dX6_trialAt_48 rfl ?_
      refine x_iadd g dX6_trialAt_51 ?_
      refine x_iconst (v := 1) g dX6_trialAt_52 (by decide) ?_
      refine x_isub g dX6_trialAt_53 ?_
      refine x_iload_n 2 g dX6_trialAt_54 rfl rfl ?_
      refine x_isub g dX6_trialAt_55 ?_
      obtain ⟨r_15, q_14, h⟩ := gb_e h
      refine x_cV [.int r_15] g (k_X6_of q_14) ca_X6_of in_X6_of se_X6_of lm_X6_62 gXX6 q_1 (Nat.le_of_ble_eq_true rfl) rfl rfl (Nat.le_of_ble_eq_true rfl) dX6_trialAt_56 rfl ?_
      cases h
      exact x_iretS g e dX6_trialAt_59 rfl rfl
    · have h := ite_t c_11 h
      refine x_aload_n 0 g dX6_trialAt_35 rfl rfl ?_
      refine x_iconst (v := 2) g dX6_trialAt_36 (by decide) ?_
      obtain ⟨r_17, S_18, q_16, h⟩ := gb2_e h
      refine x_cV [.int r_17] g (k_X6_fails q_16) ca_X6_fails in_X6_fails se_X6_fails lm_X6_84 gXX6 q_1 (Nat.le_of_ble_eq_true rfl) rfl rfl (Nat.le_of_ble_eq_true rfl) dX6_trialAt_37 rfl ?_
      cases h
      exact x_iretS g e dX6_trialAt_40 rfl rfl
  · have h := ite_t c_6 h
    refine x_aload_n 0 g dX6_trialAt_13 rfl rfl ?_
    refine x_iconst (v := 1) g dX6_trialAt_14 (by decide) ?_
    obtain ⟨r_20, S_21, q_19, h⟩ := gb2_e h
    refine x_cV [.int r_20] g (k_X6_fails q_19) ca_X6_fails in_X6_fails se_X6_fails lm_X6_84 gXX6 q_1 (Nat.le_of_ble_eq_true rfl) rfl rfl (Nat.le_of_ble_eq_true rfl) dX6_trialAt_15 rfl ?_
    cases h
    exact x_iretS g e dX6_trialAt_18 rfl rfl
noncomputable def f_X6_trialRain (G : gG) (a0 : Nat) (a1 : Int32) (a2 : Int32) (S : gS) : Option (Int32 × gS) := gd (gis G 3 a0) <| gb2 (f_X6_trialAt G a0 a1 a2 S) fun (r_3 : Int32) (S_4 : gS) => gb (f_X6_rainOf r_3) fun (r_6 : Int32) => some (r_6, S_4)
set_option maxRecDepth 100000 in
set_option maxHeartbeats 4000000 in
theorem k_X6_trialRain {ad : Nat → Nat} {G : gG} {a0 : Nat} {a1 : Int32} {a2 : Int32} {S S1 : gS} {T : gT} {r : Int32} (h : f_X6_trialRain G a0 a1 a2 S = some (r, S1)) : Ct ad yX6_trialRain (Cond.code yX6_trialRain cX6_trialRain 3 (some .int) :: gTb) 3 0 0 [.ref a0, .int a1, .int a2] G S T (some (.int r)) G S1 T := by
  refine Ct.ofB rfl (Nat.le_of_ble_eq_true rfl) rfl (fun K g e hK => ?_)
  obtain ⟨rfl, -⟩ := hK
  show Xj K [] G 0 [some (.ref a0), some (.int a1), some (.int a2)] [] S T 0 0
  unfold f_X6_trialRain at h
  refine x_aload_n 0 g dX6_trialRain_0 rfl rfl ?_
  refine x_iload_n 1 g dX6_trialRain_1 rfl rfl ?_
  refine x_iload_n 2 g dX6_trialRain_2 rfl rfl ?_
  obtain ⟨q_1, h⟩ := gd_e h
  obtain ⟨r_3, S_4, q_2, h⟩ := gb2_e h
  refine x_cV [.int r_3] g (k_X6_trialAt q_2) ca_X6_trialAt in_X6_trialAt se_X6_trialAt lm_X6_175 gXX6 q_1 (Nat.le_of_ble_eq_true rfl) rfl rfl (Nat.le_of_ble_eq_true rfl) dX6_trialRain_3 rfl ?_
  obtain ⟨r_6, q_5, h⟩ := gb_e h
  refine x_cS [.int r_6] g (k_X6_rainOf q_5) ca_X6_rainOf st_X6_rainOf lm_X6_141 (Nat.le_of_ble_eq_true rfl) rfl rfl (Nat.le_of_ble_eq_true rfl) dX6_trialRain_6 rfl ?_
  cases h
  exact x_iretS g e dX6_trialRain_9 rfl rfl
noncomputable def f_X6_trialOpened (G : gG) (a0 : Nat) (a1 : Int32) (a2 : Int32) (S : gS) : Option (Bool × gS) := gd (gis G 3 a0) <| gb2 (f_X6_trialAt G a0 a1 a2 S) fun (r_3 : Int32) (S_4 : gS) => if ((r_3 / 16) - (r_3 / 16) / 2 * 2) = 1 then (some (true, S_4)) else (some (false, S_4))
set_option maxRecDepth 100000 in
set_option maxHeartbeats 4000000 in
theorem k_X6_trialOpened {ad : Nat → Nat} {G : gG} {a0 : Nat} {a1 : Int32} {a2 : Int32} {S S1 : gS} {T : gT} {r : Bool} (h : f_X6_trialOpened G a0 a1 a2 S = some (r, S1)) : Ct ad yX6_trialOpened (Cond.code yX6_trialOpened cX6_trialOpened 3 (some .boolean) :: gTb) 3 0 0 [.ref a0, .int a1, .int a2] G S T (some (.int (gz r))) G S1 T := by
  refine Ct.ofB rfl (Nat.le_of_ble_eq_true rfl) rfl (fun K g e hK => ?_)
  obtain ⟨rfl, -⟩ := hK
  show Xj K [] G 0 [some (.ref a0), some (.int a1), some (.int a2)] [] S T 0 0
  unfold f_X6_trialOpened at h
  refine x_aload_n 0 g dX6_trialOpened_0 rfl rfl ?_
  refine x_iload_n 1 g dX6_trialOpened_1 rfl rfl ?_
  refine x_iload_n 2 g dX6_trialOpened_2 rfl rfl ?_
  obtain ⟨q_1, h⟩ := gd_e h
  obtain ⟨r_3, S_4, q_2, h⟩ := gb2_e h
  refine x_cV [.int r_3] g (k_X6_trialAt q_2) ca_X6_trialAt in_X6_trialAt se_X6_trialAt lm_X6_175 gXX6 q_1 (Nat.le_of_ble_eq_true rfl) rfl rfl (Nat.le_of_ble_eq_true rfl) dX6_trialOpened_3 rfl ?_
  refine x_bipush (v := 16) g dX6_trialOpened_6 (by decide) ?_
  refine x_idiv g dX6_trialOpened_8 (by decide) ?_
  refine x_iconst (v := 2) g dX6_trialOpened_9 (by decide) ?_
  refine x_irem g dX6_trialOpened_10 (by decide) ?_
  refine x_iconst (v := 1) g dX6_trialOpened_11 (by decide) ?_
  refine x_icmp_ne 19 g dX6_trialOpened_12 (by decide) (fun c_5 => ?_) (fun c_5 => ?_)
  · have h := ite_f c_5 h
    refine x_iconst (v := 0) g dX6_trialOpened_19 (by decide) ?_
    cases h
    exact x_zretS (b := false) g e dX6_trialOpened_20 rfl rfl rfl
  · have h := ite_t c_5 h
    refine x_iconst (v := 1) g dX6_trialOpened_15 (by decide) ?_
    refine x_goto 20 g dX6_trialOpened_16 (by decide) ?_
    cases h
    exact x_zretS (b := true) g e dX6_trialOpened_20 rfl rfl rfl
noncomputable def f_X6_trialReward (G : gG) (a0 : Nat) (a1 : Int32) (a2 : Int32) (S : gS) : Option (Int32 × gS) := gd (gis G 3 a0) <| gb2 (f_X6_trialAt G a0 a1 a2 S) fun (r_3 : Int32) (S_4 : gS) => if (gI S_4 30 a0) = 0 then (gb (f_X6_rewardOf r_3) fun (r_7 : Int32) => some (r_7, S_4)) else (some (0, S_4))
set_option maxRecDepth 100000 in
set_option maxHeartbeats 4000000 in
theorem k_X6_trialReward {ad : Nat → Nat} {G : gG} {a0 : Nat} {a1 : Int32} {a2 : Int32} {S S1 : gS} {T : gT} {r : Int32} (h : f_X6_trialReward G a0 a1 a2 S = some (r, S1)) : Ct ad yX6_trialReward (Cond.code yX6_trialReward cX6_trialReward 4 (some .int) :: gTb) 3 0 0 [.ref a0, .int a1, .int a2] G S T (some (.int r)) G S1 T := by
  refine Ct.ofB rfl (Nat.le_of_ble_eq_true rfl) rfl (fun K g e hK => ?_)
  obtain ⟨rfl, -⟩ := hK
  show Xj K [] G 0 [some (.ref a0), some (.int a1), some (.int a2), none] [] S T 0 0
  unfold f_X6_trialReward at h
  refine x_aload_n 0 g dX6_trialReward_0 rfl rfl ?_
  refine x_iload_n 1 g dX6_trialReward_1 rfl rfl ?_
  refine x_iload_n 2 g dX6_trialReward_2 rfl rfl ?_
  obtain ⟨q_1, h⟩ := gd_e h
  obtain ⟨r_3, S_4, q_2, h⟩ := gb2_e h
  refine x_cV [.int r_3] g (k_X6_trialAt q_2) ca_X6_trialAt in_X6_trialAt se_X6_trialAt lm_X6_175 gXX6 q_1 (Nat.le_of_ble_eq_true rfl) rfl rfl (Nat.le_of_ble_eq_true rfl) dX6_trialReward_3 rfl ?_
  refine x_istore_n 3 g dX6_trialReward_6 rfl (Nat.le_of_ble_eq_true rfl) rfl ?_
  refine x_aload_n 0 g dX6_trialReward_7 rfl rfl ?_
  refine x_geti g dX6_trialReward_8 gXX6 0 30 rfl (by decide) rfl lf_X6_1 q_1 ?_
  refine x_if_eq 18 g dX6_trialReward_11 (by decide) (fun c_5 => ?_) (fun c_5 => ?_)
  · have h := ite_t c_5 h
    refine x_iload_n 3 g dX6_trialReward_18 rfl rfl ?_
    obtain ⟨r_7, q_6, h⟩ := gb_e h
    refine x_cS [.int r_7] g (k_X6_rewardOf q_6) ca_X6_rewardOf st_X6_rewardOf lm_X6_66 (Nat.le_of_ble_eq_true rfl) rfl rfl (Nat.le_of_ble_eq_true rfl) dX6_trialReward_19 rfl ?_
    cases h
    exact x_iretS g e dX6_trialReward_22 rfl rfl
  · have h := ite_f c_5 h
    refine x_iconst (v := 0) g dX6_trialReward_14 (by decide) ?_
    refine x_goto 22 g dX6_trialReward_15 (by decide) ?_
    cases h
    exact x_iretS g e dX6_trialReward_22 rfl rfl
noncomputable def f_X6_reward (G : gG) (a0 : Nat) (a1 : Int32) (a2 : Int32) (a3 : Bool) (S : gS) : Option (Int32 × gS) := gd (gis G 3 a0) <| glt (sI S 30 a0 0) fun (S_2 : gS) => gb (f_X6_isSituation a1 a2) fun (r_5 : Bool) => if (gz r_5) = 0 then (gb2 (f_X6_fails G a0 1 S_2) fun (r_8 : Int32) (S_9 : gS) => some (r_8, S_9)) else (if (gz a3) = 0 then (gb (f_X6_rewardNow G a0 a1 a2 0 S_2) fun (r_12 : Int32) => some (r_12, S_2)) else (gb (f_X6_rewardNow G a0 a1 a2 1 S_2) fun (r_14 : Int32) => some (r_14, S_2)))
set_option maxRecDepth 100000 in
set_option maxHeartbeats 4000000 in
theorem k_X6_reward {ad : Nat → Nat} {G : gG} {a0 : Nat} {a1 : Int32} {a2 : Int32} {a3 : Bool} {S S1 : gS} {T : gT} {r : Int32} (h : f_X6_reward G a0 a1 a2 a3 S = some (r, S1)) : Ct ad yX6_reward (Cond.code yX6_reward cX6_reward 4 (some .int) :: gTb) 2 0 0 [.ref a0, .int a1, .int a2, .int (gz a3)] G S T (some (.int r)) G S1 T := by
  refine Ct.ofB rfl (Nat.le_of_ble_eq_true rfl) rfl (fun K g e hK => ?_)
  obtain ⟨rfl, -⟩ := hK
  show Xj K [] G 0 [some (.ref a0), some (.int a1), some (.int a2), some (.int (gz a3))] [] S T 0 0
  unfold f_X6_reward at h
  refine x_aload_n 0 g dX6_reward_0 rfl rfl ?_
  refine x_iconst (v := 0) g dX6_reward_1 (by decide) ?_
  obtain ⟨q_1, h⟩ := gd_e h
  refine x_puti g dX6_reward_2 gXX6 0 30 rfl (by decide) rfl rfl lf_X6_1 rfl rfl q_1 ?_
  refine x_nS (fun S_2 e_3 => ?_)
  have h := glt_e e_3 h
  refine x_iload_n 1 g dX6_reward_5 rfl rfl ?_
  refine x_iload_n 2 g dX6_reward_6 rfl rfl ?_
  obtain ⟨r_5, q_4, h⟩ := gb_e h
  refine x_cS [.int (gz r_5)] g (k_X6_isSituation q_4) ca_X6_isSituation st_X6_isSituation lm_X6_113 (Nat.le_of_ble_eq_true rfl) rfl rfl (Nat.le_of_ble_eq_true rfl) dX6_reward_7 rfl ?_
  refine x_if_eq 31 g dX6_reward_10 (by decide) (fun c_6 => ?_) (fun c_6 => ?_)
  · have h := ite_t c_6 h
    refine x_aload_n 0 g dX6_reward_31 rfl rfl ?_
    refine x_iconst (v := 1) g dX6_reward_32 (by decide) ?_
    obtain ⟨r_8, S_9, q_7, h⟩ := gb2_e h
    refine x_cV [.int r_8] g (k_X6_fails q_7) ca_X6_fails in_X6_fails se_X6_fails lm_X6_84 gXX6 q_1 (Nat.le_of_ble_eq_true rfl) rfl rfl (Nat.le_of_ble_eq_true rfl) dX6_reward_33 rfl ?_
    cases h
    exact x_iretS g e dX6_reward_36 rfl rfl
  · have h := ite_f c_6 h
    refine x_aload_n 0 g dX6_reward_13 rfl rfl ?_
    refine x_iload_n 1 g dX6_reward_14 rfl rfl ?_
    refine x_iload_n 2 g dX6_reward_15 rfl rfl ?_
    refine x_iload_n 3 g dX6_reward_16 rfl rfl ?_
    refine x_if_eq 24 g dX6_reward_17 (by decide) (fun c_10 => ?_) (fun c_10 => ?_)
    · have h := ite_t c_10 h
      refine x_iconst (v := 0) g dX6_reward_24 (by decide) ?_
      obtain ⟨r_12, q_11, h⟩ := gb_e h
      refine x_cV [.int r_12] g (k_X6_rewardNow q_11) ca_X6_rewardNow in_X6_rewardNow se_X6_rewardNow lm_X6_58 gXX6 q_1 (Nat.le_of_ble_eq_true rfl) rfl rfl (Nat.le_of_ble_eq_true rfl) dX6_reward_25 rfl ?_
      refine x_goto 36 g dX6_reward_28 (by decide) ?_
      cases h
      exact x_iretS g e dX6_reward_36 rfl rfl
    · have h := ite_f c_10 h
      refine x_iconst (v := 1) g dX6_reward_20 (by decide) ?_
      refine x_goto 25 g dX6_reward_21 (by decide) ?_
      obtain ⟨r_14, q_13, h⟩ := gb_e h
      refine x_cV [.int r_14] g (k_X6_rewardNow q_13) ca_X6_rewardNow in_X6_rewardNow se_X6_rewardNow lm_X6_58 gXX6 q_1 (Nat.le_of_ble_eq_true rfl) rfl rfl (Nat.le_of_ble_eq_true rfl) dX6_reward_25 rfl ?_
      refine x_goto 36 g dX6_reward_28 (by decide) ?_
      cases h
      exact x_iretS g e dX6_reward_36 rfl rfl
noncomputable def f_X6_shouldOpen (G : gG) (a0 : Nat) (a1 : Int32) (a2 : Int32) (S : gS) : Option (Bool × gS) := gd (gis G 3 a0) <| glt (sI S 30 a0 0) fun (S_2 : gS) => gb (f_X6_isSituation a1 a2) fun (r_5 : Bool) => if (gz r_5) = 0 then (gb2 (f_X6_fails G a0 1 S_2) fun (r_10 : Int32) (S_11 : gS) => if r_10 ≤ 0 then (some (false, S_11)) else (some (true, S_11))) else (gb (f_X6_isRightToOpen G a0 a1 a2 S_2) fun (r_8 : Bool) => some (r_8, S_2))
set_option maxRecDepth 100000 in
set_option maxHeartbeats 4000000 in
theorem k_X6_shouldOpen {ad : Nat → Nat} {G : gG} {a0 : Nat} {a1 : Int32} {a2 : Int32} {S S1 : gS} {T : gT} {r : Bool} (h : f_X6_shouldOpen G a0 a1 a2 S = some (r, S1)) : Ct ad yX6_shouldOpen (Cond.code yX6_shouldOpen cX6_shouldOpen 3 (some .boolean) :: gTb) 2 0 0 [.ref a0, .int a1, .int a2] G S T (some (.int (gz r))) G S1 T := by
  refine Ct.ofB rfl (Nat.le_of_ble_eq_true rfl) rfl (fun K g e hK => ?_)
  obtain ⟨rfl, -⟩ := hK
  show Xj K [] G 0 [some (.ref a0), some (.int a1), some (.int a2)] [] S T 0 0
  unfold f_X6_shouldOpen at h
  refine x_aload_n 0 g dX6_shouldOpen_0 rfl rfl ?_
  refine x_iconst (v := 0) g dX6_shouldOpen_1 (by decide) ?_
  obtain ⟨q_1, h⟩ := gd_e h
  refine x_puti g dX6_shouldOpen_2 gXX6 0 30 rfl (by decide) rfl rfl lf_X6_1 rfl rfl q_1 ?_
  refine x_nS (fun S_2 e_3 => ?_)
  have h := glt_e e_3 h
  refine x_iload_n 1 g dX6_shouldOpen_5 rfl rfl ?_
  refine x_iload_n 2 g dX6_shouldOpen_6 rfl rfl ?_
  obtain ⟨r_5, q_4, h⟩ := gb_e h
  refine x_cS [.int (gz r_5)] g (k_X6_isSituation q_4) ca_X6_isSituation st_X6_isSituation lm_X6_113 (Nat.le_of_ble_eq_true rfl) rfl rfl (Nat.le_of_ble_eq_true rfl) dX6_shouldOpen_7 rfl ?_
  refine x_if_ne 27 g dX6_shouldOpen_10 (by decide) (fun c_6 => ?_) (fun c_6 => ?_)
  · have h := ite_f c_6 h
    refine x_aload_n 0 g dX6_shouldOpen_27 rfl rfl ?_
    refine x_iload_n 1 g dX6_shouldOpen_28 rfl rfl ?_
    refine x_iload_n 2 g dX6_shouldOpen_29 rfl rfl ?_
    obtain ⟨r_8, q_7, h⟩ := gb_e h
    refine x_cV [.int (gz r_8)] g (k_X6_isRightToOpen q_7) ca_X6_isRightToOpen in_X6_isRightToOpen se_X6_isRightToOpen lm_X6_150 gXX6 q_1 (Nat.le_of_ble_eq_true rfl) rfl rfl (Nat.le_of_ble_eq_true rfl) dX6_shouldOpen_30 rfl ?_
    cases h
    exact x_zretS g e dX6_shouldOpen_33 rfl rfl rfl
  · have h := ite_t c_6 h
    refine x_aload_n 0 g dX6_shouldOpen_13 rfl rfl ?_
    refine x_iconst (v := 1) g dX6_shouldOpen_14 (by decide) ?_
    obtain ⟨r_10, S_11, q_9, h⟩ := gb2_e h
    refine x_cV [.int r_10] g (k_X6_fails q_9) ca_X6_fails in_X6_fails se_X6_fails lm_X6_84 gXX6 q_1 (Nat.le_of_ble_eq_true rfl) rfl rfl (Nat.le_of_ble_eq_true rfl) dX6_shouldOpen_15 rfl ?_
    refine x_if_le 25 g dX6_shouldOpen_18 (by decide) (fun c_12 => ?_) (fun c_12 => ?_)
    · have h := ite_t c_12 h
      refine x_iconst (v := 0) g dX6_shouldOpen_25 (by decide) ?_
      cases h
      exact x_zretS (b := false) g e dX6_shouldOpen_26 rfl rfl rfl
    · have h := ite_f c_12 h
      refine x_iconst (v := 1) g dX6_shouldOpen_21 (by decide) ?_
      refine x_goto 26 g dX6_shouldOpen_22 (by decide) ?_
      cases h
      exact x_zretS (b := true) g e dX6_shouldOpen_26 rfl rfl rfl
noncomputable def f_X6_notAsk (G : gG) (a0 : Nat) (a1 : Int32) (a2 : Int32) (a3 : Int32) (S : gS) : Option Int32 := gd (gis G 3 a0) <| gb (f_X6_notTrain G a0 a1 a2 a3 1 S) fun (r_3 : Int32) => some r_3
set_option maxRecDepth 100000 in
set_option maxHeartbeats 4000000 in
theorem k_X6_notAsk {ad : Nat → Nat} {G : gG} {a0 : Nat} {a1 : Int32} {a2 : Int32} {a3 : Int32} {S : gS} {T : gT} {r : Int32} (h : f_X6_notAsk G a0 a1 a2 a3 S = some r) : Ct ad yX6_notAsk (Cond.code yX6_notAsk cX6_notAsk 4 (some .int) :: gTb) 3 0 0 [.ref a0, .int a1, .int a2, .int a3] G S T (some (.int r)) G S T := by
  refine Ct.ofB rfl (Nat.le_of_ble_eq_true rfl) rfl (fun K g e hK => ?_)
  obtain ⟨rfl, -⟩ := hK
  show Xj K [] G 0 [some (.ref a0), some (.int a1), some (.int a2), some (.int a3)] [] S T 0 0
  unfold f_X6_notAsk at h
  refine x_aload_n 0 g dX6_notAsk_0 rfl rfl ?_
  refine x_iload_n 1 g dX6_notAsk_1 rfl rfl ?_
  refine x_iload_n 2 g dX6_notAsk_2 rfl rfl ?_
  refine x_iload_n 3 g dX6_notAsk_3 rfl rfl ?_
  refine x_iconst (v := 1) g dX6_notAsk_4 (by decide) ?_
  obtain ⟨q_1, h⟩ := gd_e h
  obtain ⟨r_3, q_2, h⟩ := gb_e h
  refine x_cV [.int r_3] g (k_X6_notTrain q_2) ca_X6_notTrain in_X6_notTrain se_X6_notTrain lm_X6_120 gXX6 q_1 (Nat.le_of_ble_eq_true rfl) rfl rfl (Nat.le_of_ble_eq_true rfl) dX6_notAsk_5 rfl ?_
  cases h
  exact x_iretS g e dX6_notAsk_8 rfl rfl
noncomputable def f_X6_wouldOpen (G : gG) (a0 : Nat) (a1 : Int32) (a2 : Int32) (a3 : Int32) (S : gS) : Option (Bool × gS) := gd (gis G 3 a0) <| glt (sI S 30 a0 0) fun (S_2 : gS) => gb (f_X6_notAsk G a0 a1 a2 a3 S_2) fun (r_5 : Int32) => if r_5 = 0 then (gb (f_X6_habit G a0 a1 a2 a3 S_2) fun (r_8 : Int32) => if r_8 = 1 then (some (true, S_2)) else (some (false, S_2))) else (gb2 (f_X6_fails G a0 r_5 S_2) fun (r_11 : Int32) (S_12 : gS) => if r_11 ≤ 0 then (some (false, S_12)) else (some (true, S_12)))
set_option maxRecDepth 100000 in
set_option maxHeartbeats 4000000 in
theorem k_X6_wouldOpen {ad : Nat → Nat} {G : gG} {a0 : Nat} {a1 : Int32} {a2 : Int32} {a3 : Int32} {S S1 : gS} {T : gT} {r : Bool} (h : f_X6_wouldOpen G a0 a1 a2 a3 S = some (r, S1)) : Ct ad yX6_wouldOpen (Cond.code yX6_wouldOpen cX6_wouldOpen 5 (some .boolean) :: gTb) 4 0 0 [.ref a0, .int a1, .int a2, .int a3] G S T (some (.int (gz r))) G S1 T := by
  refine Ct.ofB rfl (Nat.le_of_ble_eq_true rfl) rfl (fun K g e hK => ?_)
  obtain ⟨rfl, -⟩ := hK
  show Xj K [] G 0 [some (.ref a0), some (.int a1), some (.int a2), some (.int a3), none] [] S T 0 0
  unfold f_X6_wouldOpen at h
  refine x_aload_n 0 g dX6_wouldOpen_0 rfl rfl ?_
  refine x_iconst (v := 0) g dX6_wouldOpen_1 (by decide) ?_
  obtain ⟨q_1, h⟩ := gd_e h
  refine x_puti g dX6_wouldOpen_2 gXX6 0 30 rfl (by decide) rfl rfl lf_X6_1 rfl rfl q_1 ?_
  refine x_nS (fun S_2 e_3 => ?_)
  have h := glt_e e_3 h
  refine x_aload_n 0 g dX6_wouldOpen_5 rfl rfl ?_
  refine x_iload_n 1 g dX6_wouldOpen_6 rfl rfl ?_
  refine x_iload_n 2 g dX6_wouldOpen_7 rfl rfl ?_
  refine x_iload_n 3 g dX6_wouldOpen_8 rfl rfl ?_
  obtain ⟨r_5, q_4, h⟩ := gb_e h
  refine x_cV [.int r_5] g (k_X6_notAsk q_4) ca_X6_notAsk in_X6_notAsk se_X6_notAsk lm_X6_178 gXX6 q_1 (Nat.le_of_ble_eq_true rfl) rfl rfl (Nat.le_of_ble_eq_true rfl) dX6_wouldOpen_9 rfl ?_
  refine x_istore (i := 4) g dX6_wouldOpen_12 (Nat.le_of_ble_eq_true rfl) rfl ?_
  refine x_iload (i := 4) g dX6_wouldOpen_14 rfl ?_
  refine x_if_eq 34 g dX6_wouldOpen_16 (by decide) (fun c_6 => ?_) (fun c_6 => ?_)
  · have h := ite_t c_6 h
    refine x_aload_n 0 g dX6_wouldOpen_34 rfl rfl ?_
    refine x_iload_n 1 g dX6_wouldOpen_35 rfl rfl ?_
    refine x_iload_n 2 g dX6_wouldOpen_36 rfl rfl ?_
    refine x_iload_n 3 g dX6_wouldOpen_37 rfl rfl ?_
    obtain ⟨r_8, q_7, h⟩ := gb_e h
    refine x_cV [.int r_8] g (k_X6_habit q_7) ca_X6_habit in_X6_habit se_X6_habit lm_X6_96 gXX6 q_1 (Nat.le_of_ble_eq_true rfl) rfl rfl (Nat.le_of_ble_eq_true rfl) dX6_wouldOpen_38 rfl ?_
    refine x_iconst (v := 1) g dX6_wouldOpen_41 (by decide) ?_
    refine x_icmp_ne 49 g dX6_wouldOpen_42 (by decide) (fun c_9 => ?_) (fun c_9 => ?_)
    · have h := ite_f c_9 h
      refine x_iconst (v := 0) g dX6_wouldOpen_49 (by decide) ?_
      cases h
      exact x_zretS (b := false) g e dX6_wouldOpen_50 rfl rfl rfl
    · have h := ite_t c_9 h
      refine x_iconst (v := 1) g dX6_wouldOpen_45 (by decide) ?_
      refine x_goto 50 g dX6_wouldOpen_46 (by decide) ?_
      cases h
      exact x_zretS (b := true) g e dX6_wouldOpen_50 rfl rfl rfl
  · have h := ite_f c_6 h
    refine x_aload_n 0 g dX6_wouldOpen_19 rfl rfl ?_
    refine x_iload (i := 4) g dX6_wouldOpen_20 rfl ?_
    obtain ⟨r_11, S_12, q_10, h⟩ := gb2_e h
    refine x_cV [.int r_11] g (k_X6_fails q_10) ca_X6_fails in_X6_fails se_X6_fails lm_X6_84 gXX6 q_1 (Nat.le_of_ble_eq_true rfl) rfl rfl (Nat.le_of_ble_eq_true rfl) dX6_wouldOpen_22 rfl ?_
    refine x_if_le 32 g dX6_wouldOpen_25 (by decide) (fun c_13 => ?_) (fun c_13 => ?_)
    · have h := ite_t c_13 h
      refine x_iconst (v := 0) g dX6_wouldOpen_32 (by decide) ?_
      cases h
      exact x_zretS (b := false) g e dX6_wouldOpen_33 rfl rfl rfl
    · have h := ite_f c_13 h
      refine x_iconst (v := 1) g dX6_wouldOpen_28 (by decide) ?_
      refine x_goto 33 g dX6_wouldOpen_29 (by decide) ?_
      cases h
      exact x_zretS (b := true) g e dX6_wouldOpen_33 rfl rfl rfl
noncomputable def f_X6_exploresNext (G : gG) (a0 : Nat) (a1 : Int32) (S : gS) : Option (Bool × gS) := gd (gis G 3 a0) <| glt (sI S 30 a0 0) fun (S_2 : gS) => gb (f_X6_isUmbrella G a0 a1 S_2) fun (r_5 : Bool) => if (gz r_5) = 0 then (gb2 (f_X6_fails G a0 1 S_2) fun (r_10 : Int32) (S_11 : gS) => if r_10 ≤ 0 then (some (false, S_11)) else (some (true, S_11))) else (gb (f_X6_explores G a0 a1 S_2) fun (r_8 : Bool) => some (r_8, S_2))
set_option maxRecDepth 100000 in
set_option maxHeartbeats 4000000 in
theorem k_X6_exploresNext {ad : Nat → Nat} {G : gG} {a0 : Nat} {a1 : Int32} {S S1 : gS} {T : gT} {r : Bool} (h : f_X6_exploresNext G a0 a1 S = some (r, S1)) : Ct ad yX6_exploresNext (Cond.code yX6_exploresNext cX6_exploresNext 2 (some .boolean) :: gTb) 2 0 0 [.ref a0, .int a1] G S T (some (.int (gz r))) G S1 T := by
  refine Ct.ofB rfl (Nat.le_of_ble_eq_true rfl) rfl (fun K g e hK => ?_)
  obtain ⟨rfl, -⟩ := hK
  show Xj K [] G 0 [some (.ref a0), some (.int a1)] [] S T 0 0
  unfold f_X6_exploresNext at h
  refine x_aload_n 0 g dX6_exploresNext_0 rfl rfl ?_
  refine x_iconst (v := 0) g dX6_exploresNext_1 (by decide) ?_
  obtain ⟨q_1, h⟩ := gd_e h
  refine x_puti g dX6_exploresNext_2 gXX6 0 30 rfl (by decide) rfl rfl lf_X6_1 rfl rfl q_1 ?_
  refine x_nS (fun S_2 e_3 => ?_)
  have h := glt_e e_3 h
  refine x_aload_n 0 g dX6_exploresNext_5 rfl rfl ?_
  refine x_iload_n 1 g dX6_exploresNext_6 rfl rfl ?_
  obtain ⟨r_5, q_4, h⟩ := gb_e h
  refine x_cV [.int (gz r_5)] g (k_X6_isUmbrella q_4) ca_X6_isUmbrella in_X6_isUmbrella se_X6_isUmbrella lm_X6_110 gXX6 q_1 (Nat.le_of_ble_eq_true rfl) rfl rfl (Nat.le_of_ble_eq_true rfl) dX6_exploresNext_7 rfl ?_
  refine x_if_ne 27 g dX6_exploresNext_10 (by decide) (fun c_6 => ?_) (fun c_6 => ?_)
  · have h := ite_f c_6 h
    refine x_aload_n 0 g dX6_exploresNext_27 rfl rfl ?_
    refine x_iload_n 1 g dX6_exploresNext_28 rfl rfl ?_
    obtain ⟨r_8, q_7, h⟩ := gb_e h
    refine x_cV [.int (gz r_8)] g (k_X6_explores q_7) ca_X6_explores in_X6_explores se_X6_explores lm_X6_99 gXX6 q_1 (Nat.le_of_ble_eq_true rfl) rfl rfl (Nat.le_of_ble_eq_true rfl) dX6_exploresNext_29 rfl ?_
    cases h
    exact x_zretS g e dX6_exploresNext_32 rfl rfl rfl
  · have h := ite_t c_6 h
    refine x_aload_n 0 g dX6_exploresNext_13 rfl rfl ?_
    refine x_iconst (v := 1) g dX6_exploresNext_14 (by decide) ?_
    obtain ⟨r_10, S_11, q_9, h⟩ := gb2_e h
    refine x_cV [.int r_10] g (k_X6_fails q_9) ca_X6_fails in_X6_fails se_X6_fails lm_X6_84 gXX6 q_1 (Nat.le_of_ble_eq_true rfl) rfl rfl (Nat.le_of_ble_eq_true rfl) dX6_exploresNext_15 rfl ?_
    refine x_if_le 25 g dX6_exploresNext_18 (by decide) (fun c_12 => ?_) (fun c_12 => ?_)
    · have h := ite_t c_12 h
      refine x_iconst (v := 0) g dX6_exploresNext_25 (by decide) ?_
      cases h
      exact x_zretS (b := false) g e dX6_exploresNext_26 rfl rfl rfl
    · have h := ite_f c_12 h
      refine x_iconst (v := 1) g dX6_exploresNext_21 (by decide) ?_
      refine x_goto 26 g dX6_exploresNext_22 (by decide) ?_
      cases h
      exact x_zretS (b := true) g e dX6_exploresNext_26 rfl rfl rfl
noncomputable def f_X6_timesTried (G : gG) (a0 : Nat) (a1 : Int32) (a2 : Int32) (a3 : Int32) (a4 : Bool) (S : gS) : Option (Int32 × gS) := gd (gis G 3 a0) <| glt (sI S 30 a0 0) fun (S_2 : gS) => gb (f_X6_notAsk G a0 a1 a2 a3 S_2) fun (r_5 : Int32) => if r_5 = 0 then (if (gz a4) = 0 then (gb (f_X6_triedTimes G a0 a1 a2 a3 0 S_2) fun (r_9 : Int32) => some (r_9, S_2)) else (gb (f_X6_triedTimes G a0 a1 a2 a3 1 S_2) fun (r_11 : Int32) => some (r_11, S_2))) else (gb2 (f_X6_fails G a0 r_5 S_2) fun (r_13 : Int32) (S_14 : gS) => some (r_13, S_14))
set_option maxRecDepth 100000 in
set_option maxHeartbeats 4000000 in
theorem k_X6_timesTried {ad : Nat → Nat} {G : gG} {a0 : Nat} {a1 : Int32} {a2 : Int32} {a3 : Int32} {a4 : Bool} {S S1 : gS} {T : gT} {r : Int32} (h : f_X6_timesTried G a0 a1 a2 a3 a4 S = some (r, S1)) : Ct ad yX6_timesTried (Cond.code yX6_timesTried cX6_timesTried 6 (some .int) :: gTb) 4 0 0 [.ref a0, .int a1, .int a2, .int a3, .int (gz a4)] G S T (some (.int r)) G S1 T := by
  refine Ct.ofB rfl (Nat.le_of_ble_eq_true rfl) rfl (fun K g e hK => ?_)
  obtain ⟨rfl, -⟩ := hK
  show Xj K [] G 0 [some (.ref a0), some (.int a1), some (.int a2), some (.int a3), some (.int (gz a4)), none] [] S T 0 0
  unfold f_X6_timesTried at h
  refine x_aload_n 0 g dX6_timesTried_0 rfl rfl ?_
  refine x_iconst (v := 0) g dX6_timesTried_1 (by decide) ?_
  obtain ⟨q_1, h⟩ := gd_e h
  refine x_puti g dX6_timesTried_2 gXX6 0 30 rfl (by decide) rfl rfl lf_X6_1 rfl rfl q_1 ?_
  refine x_nS (fun S_2 e_3 => ?_)
  have h := glt_e e_3 h
  refine x_aload_n 0 g dX6_timesTried_5 rfl rfl ?_
  refine x_iload_n 1 g dX6_timesTried_6 rfl rfl ?_
  refine x_iload_n 2 g dX6_timesTried_7 rfl rfl ?_
  refine x_iload_n 3 g dX6_timesTried_8 rfl rfl ?_
  obtain ⟨r_5, q_4, h⟩ := gb_e h
  refine x_cV [.int r_5] g (k_X6_notAsk q_4) ca_X6_notAsk in_X6_notAsk se_X6_notAsk lm_X6_178 gXX6 q_1 (Nat.le_of_ble_eq_true rfl) rfl rfl (Nat.le_of_ble_eq_true rfl) dX6_timesTried_9 rfl ?_
  refine x_istore (i := 5) g dX6_timesTried_12 (Nat.le_of_ble_eq_true rfl) rfl ?_
  refine x_iload (i := 5) g dX6_timesTried_14 rfl ?_
  refine x_if_eq 28 g dX6_timesTried_16 (by decide) (fun c_6 => ?_) (fun c_6 => ?_)
  · have h := ite_t c_6 h
    refine x_aload_n 0 g dX6_timesTried_28 rfl rfl ?_
    refine x_iload_n 1 g dX6_timesTried_29 rfl rfl ?_
    refine x_iload_n 2 g dX6_timesTried_30 rfl rfl ?_
    refine x_iload_n 3 g dX6_timesTried_31 rfl rfl ?_
    refine x_iload (i := 4) g dX6_timesTried_32 rfl ?_
    refine x_if_eq 41 g dX6_timesTried_34 (by decide) (fun c_7 => ?_) (fun c_7 => ?_)
    · have h := ite_t c_7 h
      refine x_iconst (v := 0) g dX6_timesTried_41 (by decide) ?_
      obtain ⟨r_9, q_8, h⟩ := gb_e h
      refine x_cV [.int r_9] g (k_X6_triedTimes q_8) ca_X6_triedTimes in_X6_triedTimes se_X6_triedTimes lm_X6_70 gXX6 q_1 (Nat.le_of_ble_eq_true rfl) rfl rfl (Nat.le_of_ble_eq_true rfl) dX6_timesTried_42 rfl ?_
      cases h
      exact x_iretS g e dX6_timesTried_45 rfl rfl
    · have h := ite_f c_7 h
      refine x_iconst (v := 1) g dX6_timesTried_37 (by decide) ?_
      refine x_goto 42 g dX6_timesTried_38 (by decide) ?_
      obtain ⟨r_11, q_10, h⟩ := gb_e h
      refine x_cV [.int r_11] g (k_X6_triedTimes q_10) ca_X6_triedTimes in_X6_triedTimes se_X6_triedTimes lm_X6_70 gXX6 q_1 (Nat.le_of_ble_eq_true rfl) rfl rfl (Nat.le_of_ble_eq_true rfl) dX6_timesTried_42 rfl ?_
      cases h
      exact x_iretS g e dX6_timesTried_45 rfl rfl
  · have h := ite_f c_6 h
    refine x_aload_n 0 g dX6_timesTried_19 rfl rfl ?_
    refine x_iload (i := 5) g dX6_timesTried_20 rfl ?_
    obtain ⟨r_13, S_14, q_12, h⟩ := gb2_e h
    refine x_cV [.int r_13] g (k_X6_fails q_12) ca_X6_fails in_X6_fails se_X6_fails lm_X6_84 gXX6 q_1 (Nat.le_of_ble_eq_true rfl) rfl rfl (Nat.le_of_ble_eq_true rfl) dX6_timesTried_22 rfl ?_
    refine x_goto 45 g dX6_timesTried_25 (by decide) ?_
    cases h
    exact x_iretS g e dX6_timesTried_45 rfl rfl
noncomputable def f_X6_rewardSum (G : gG) (a0 : Nat) (a1 : Int32) (a2 : Int32) (a3 : Int32) (a4 : Bool) (S : gS) : Option (Int32 × gS) := gd (gis G 3 a0) <| glt (sI S 30 a0 0) fun (S_2 : gS) => gb (f_X6_notAsk G a0 a1 a2 a3 S_2) fun (r_5 : Int32) => if r_5 = 0 then (if (gz a4) = 0 then (gb (f_X6_sumOf G a0 a1 a2 a3 0 S_2) fun (r_9 : Int32) => some (r_9, S_2)) else (gb (f_X6_sumOf G a0 a1 a2 a3 1 S_2) fun (r_11 : Int32) => some (r_11, S_2))) else (gb2 (f_X6_fails G a0 r_5 S_2) fun (r_13 : Int32) (S_14 : gS) => some (r_13, S_14))
set_option maxRecDepth 100000 in
set_option maxHeartbeats 4000000 in
theorem k_X6_rewardSum {ad : Nat → Nat} {G : gG} {a0 : Nat} {a1 : Int32} {a2 : Int32} {a3 : Int32} {a4 : Bool} {S S1 : gS} {T : gT} {r : Int32} (h : f_X6_rewardSum G a0 a1 a2 a3 a4 S = some (r, S1)) : Ct ad yX6_rewardSum (Cond.code yX6_rewardSum cX6_rewardSum 6 (some .int) :: gTb) 4 0 0 [.ref a0, .int a1, .int a2, .int a3, .int (gz a4)] G S T (some (.int r)) G S1 T := by
  refine Ct.ofB rfl (Nat.le_of_ble_eq_true rfl) rfl (fun K g e hK => ?_)
  obtain ⟨rfl, -⟩ := hK
  show Xj K [] G 0 [some (.ref a0), some (.int a1), some (.int a2), some (.int a3), some (.int (gz a4)), none] [] S T 0 0
  unfold f_X6_rewardSum at h
  refine x_aload_n 0 g dX6_rewardSum_0 rfl rfl ?_
  refine x_iconst (v := 0) g dX6_rewardSum_1 (by decide) ?_
  obtain ⟨q_1, h⟩ := gd_e h
  refine x_puti g dX6_rewardSum_2 gXX6 0 30 rfl (by decide) rfl rfl lf_X6_1 rfl rfl q_1 ?_
  refine x_nS (fun S_2 e_3 => ?_)
  have h := glt_e e_3 h
  refine x_aload_n 0 g dX6_rewardSum_5 rfl rfl ?_
  refine x_iload_n 1 g dX6_rewardSum_6 rfl rfl ?_
  refine x_iload_n 2 g dX6_rewardSum_7 rfl rfl ?_
  refine x_iload_n 3 g dX6_rewardSum_8 rfl rfl ?_
  obtain ⟨r_5, q_4, h⟩ := gb_e h
  refine x_cV [.int r_5] g (k_X6_notAsk q_4) ca_X6_notAsk in_X6_notAsk se_X6_notAsk lm_X6_178 gXX6 q_1 (Nat.le_of_ble_eq_true rfl) rfl rfl (Nat.le_of_ble_eq_true rfl) dX6_rewardSum_9 rfl ?_
  refine x_istore (i := 5) g dX6_rewardSum_12 (Nat.le_of_ble_eq_true rfl) rfl ?_
  refine x_iload (i := 5) g dX6_rewardSum_14 rfl ?_
  refine x_if_eq 28 g dX6_rewardSum_16 (by decide) (fun c_6 => ?_) (fun c_6 => ?_)
  · have h := ite_t c_6 h
    refine x_aload_n 0 g dX6_rewardSum_28 rfl rfl ?_
    refine x_iload_n 1 g dX6_rewardSum_29 rfl rfl ?_
    refine x_iload_n 2 g dX6_rewardSum_30 rfl rfl ?_
    refine x_iload_n 3 g dX6_rewardSum_31 rfl rfl ?_
    refine x_iload (i := 4) g dX6_rewardSum_32 rfl ?_
    refine x_if_eq 41 g dX6_rewardSum_34 (by decide) (fun c_7 => ?_) (fun c_7 => ?_)
    · have h := ite_t c_7 h
      refine x_iconst (v := 0) g dX6_rewardSum_41 (by decide) ?_
      obtain ⟨r_9, q_8, h⟩ := gb_e h
      refine x_cV [.int r_9] g (k_X6_sumOf q_8) ca_X6_sumOf in_X6_sumOf se_X6_sumOf lm_X6_74 gXX6 q_1 (Nat.le_of_ble_eq_true rfl) rfl rfl (Nat.le_of_ble_eq_true rfl) dX6_rewardSum_42 rfl ?_
      cases h
      exact x_iretS g e dX6_rewardSum_45 rfl rfl
    · have h := ite_f c_7 h
      refine x_iconst (v := 1) g dX6_rewardSum_37 (by decide) ?_
      refine x_goto 42 g dX6_rewardSum_38 (by decide) ?_
      obtain ⟨r_11, q_10, h⟩ := gb_e h
      refine x_cV [.int r_11] g (k_X6_sumOf q_10) ca_X6_sumOf in_X6_sumOf se_X6_sumOf lm_X6_74 gXX6 q_1 (Nat.le_of_ble_eq_true rfl) rfl rfl (Nat.le_of_ble_eq_true rfl) dX6_rewardSum_42 rfl ?_
      cases h
      exact x_iretS g e dX6_rewardSum_45 rfl rfl
  · have h := ite_f c_6 h
    refine x_aload_n 0 g dX6_rewardSum_19 rfl rfl ?_
    refine x_iload (i := 5) g dX6_rewardSum_20 rfl ?_
    obtain ⟨r_13, S_14, q_12, h⟩ := gb2_e h
    refine x_cV [.int r_13] g (k_X6_fails q_12) ca_X6_fails in_X6_fails se_X6_fails lm_X6_84 gXX6 q_1 (Nat.le_of_ble_eq_true rfl) rfl rfl (Nat.le_of_ble_eq_true rfl) dX6_rewardSum_22 rfl ?_
    refine x_goto 45 g dX6_rewardSum_25 (by decide) ?_
    cases h
    exact x_iretS g e dX6_rewardSum_45 rfl rfl
noncomputable def f_X6_rewardSumByTrials (G : gG) (a0 : Nat) (a1 : Int32) (a2 : Int32) (a3 : Int32) (a4 : Bool) (S : gS) : Option (Int32 × gS) := gd (gis G 3 a0) <| gb2 (f_X6_rewardSum G a0 a1 a2 a3 a4 S) fun (r_3 : Int32) (S_4 : gS) => some (r_3, S_4)
set_option maxRecDepth 100000 in
set_option maxHeartbeats 4000000 in
theorem k_X6_rewardSumByTrials {ad : Nat → Nat} {G : gG} {a0 : Nat} {a1 : Int32} {a2 : Int32} {a3 : Int32} {a4 : Bool} {S S1 : gS} {T : gT} {r : Int32} (h : f_X6_rewardSumByTrials G a0 a1 a2 a3 a4 S = some (r, S1)) : Ct ad yX6_rewardSumByTrials (Cond.code yX6_rewardSumByTrials cX6_rewardSumByTrials 5 (some .int) :: gTb) 5 0 0 [.ref a0, .int a1, .int a2, .int a3, .int (gz a4)] G S T (some (.int r)) G S1 T := by
  refine Ct.ofB rfl (Nat.le_of_ble_eq_true rfl) rfl (fun K g e hK => ?_)
  obtain ⟨rfl, -⟩ := hK
  show Xj K [] G 0 [some (.ref a0), some (.int a1), some (.int a2), some (.int a3), some (.int (gz a4))] [] S T 0 0
  unfold f_X6_rewardSumByTrials at h
  refine x_aload_n 0 g dX6_rewardSumByTrials_0 rfl rfl ?_
  refine x_iload_n 1 g dX6_rewardSumByTrials_1 rfl rfl ?_
  refine x_iload_n 2 g dX6_rewardSumByTrials_2 rfl rfl ?_
  refine x_iload_n 3 g dX6_rewardSumByTrials_3 rfl rfl ?_
  refine x_iload (i := 4) g dX6_rewardSumByTrials_4 rfl ?_
  obtain ⟨q_1, h⟩ := gd_e h
  obtain ⟨r_3, S_4, q_2, h⟩ := gb2_e h
  refine x_cV [.int r_3] g (k_X6_rewardSum q_2) ca_X6_rewardSum in_X6_rewardSum se_X6_rewardSum lm_X6_181 gXX6 q_1 (Nat.le_of_ble_eq_true rfl) rfl rfl (Nat.le_of_ble_eq_true rfl) dX6_rewardSumByTrials_6 rfl ?_
  cases h
  exact x_iretS g e dX6_rewardSumByTrials_9 rfl rfl
noncomputable def f_X6_meanReward (G : gG) (a0 : Nat) (a1 : Int32) (a2 : Int32) (a3 : Int32) (a4 : Bool) (S : gS) : Option (UInt64 × gS) := gd (gis G 3 a0) <| gb2 (f_X6_rewardSum G a0 a1 a2 a3 a4 S) fun (r_3 : Int32) (S_4 : gS) => if (gI S_4 30 a0) = 0 then (if (gz a4) = 0 then (gb (f_X6_triedTimes G a0 a1 a2 a3 0 S_4) fun (r_8 : Int32) => if r_8 = 0 then (gb2 (f_X6_fails G a0 3 S_4) fun (r_12 : Int32) (S_13 : gS) => some (FP.i2d r_12, S_13)) else (gd (vf_n64 (FP.ddiv (FP.i2d r_3) (FP.i2d r_8))) <| some (FP.ddiv (FP.i2d r_3) (FP.i2d r_8), S_4))) else (gb (f_X6_triedTimes G a0 a1 a2 a3 1 S_4) fun (r_15 : Int32) => if r_15 = 0 then (gb2 (f_X6_fails G a0 3 S_4) fun (r_19 : Int32) (S_20 : gS) => some (FP.i2d r_19, S_20)) else (gd (vf_n64 (FP.ddiv (FP.i2d r_3) (FP.i2d r_15))) <| some (FP.ddiv (FP.i2d r_3) (FP.i2d r_15), S_4)))) else (some (FP.dconst0, S_4))
set_option maxRecDepth 100000 in
set_option maxHeartbeats 4000000 in
theorem k_X6_meanReward {ad : Nat → Nat} {G : gG} {a0 : Nat} {a1 : Int32} {a2 : Int32} {a3 : Int32} {a4 : Bool} {S S1 : gS} {T : gT} {r : UInt64} (h : f_X6_meanReward G a0 a1 a2 a3 a4 S = some (r, S1)) : Ct ad yX6_meanReward (Cond.code yX6_meanReward cX6_meanReward 7 (some .double) :: gTb) 5 0 0 [.ref a0, .int a1, .int a2, .int a3, .int (gz a4)] G S T (some (.double r)) G S1 T := by
  refine Ct.ofB rfl (Nat.le_of_ble_eq_true rfl) rfl (fun K g e hK => ?_)
  obtain ⟨rfl, -⟩ := hK
  show Xj K [] G 0 [some (.ref a0), some (.int a1), some (.int a2), some (.int a3), some (.int (gz a4)), none, none] [] S T 0 0
  unfold f_X6_meanReward at h
  refine x_aload_n 0 g dX6_meanReward_0 rfl rfl ?_
  refine x_iload_n 1 g dX6_meanReward_1 rfl rfl ?_
  refine x_iload_n 2 g dX6_meanReward_2 rfl rfl ?_
  refine x_iload_n 3 g dX6_meanReward_3 rfl rfl ?_
  refine x_iload (i := 4) g dX6_meanReward_4 rfl ?_
  obtain ⟨q_1, h⟩ := gd_e h
  obtain ⟨r_3, S_4, q_2, h⟩ := gb2_e h
  refine x_cV [.int r_3] g (k_X6_rewardSum q_2) ca_X6_rewardSum in_X6_rewardSum se_X6_rewardSum lm_X6_181 gXX6 q_1 (Nat.le_of_ble_eq_true rfl) rfl rfl (Nat.le_of_ble_eq_true rfl) dX6_meanReward_6 rfl ?_
  refine x_istore (i := 5) g dX6_meanReward_9 (Nat.le_of_ble_eq_true rfl) rfl ?_
  refine x_aload_n 0 g dX6_meanReward_11 rfl rfl ?_
  refine x_geti g dX6_meanReward_12 gXX6 0 30 rfl (by decide) rfl lf_X6_1 q_1 ?_
  refine x_if_eq 20 g dX6_meanReward_15 (by decide) (fun c_5 => ?_) (fun c_5 => ?_)
  · have h := ite_t c_5 h
    refine x_aload_n 0 g dX6_meanReward_20 rfl rfl ?_
    refine x_iload_n 1 g dX6_meanReward_21 rfl rfl ?_
    refine x_iload_n 2 g dX6_meanReward_22 rfl rfl ?_
    refine x_iload_n 3 g dX6_meanReward_23 rfl rfl ?_
    refine x_iload (i := 4) g dX6_meanReward_24 rfl ?_
    refine x_if_eq 33 g dX6_meanReward_26 (by decide) (fun c_6 => ?_) (fun c_6 => ?_)
    · have h := ite_t c_6 h
      refine x_iconst (v := 0) g dX6_meanReward_33 (by decide) ?_
      obtain ⟨r_8, q_7, h⟩ := gb_e h
      refine x_cV [.int r_8] g (k_X6_triedTimes q_7) ca_X6_triedTimes in_X6_triedTimes se_X6_triedTimes lm_X6_70 gXX6 q_1 (Nat.le_of_ble_eq_true rfl) rfl rfl (Nat.le_of_ble_eq_true rfl) dX6_meanReward_34 rfl ?_
      refine x_istore (i := 6) g dX6_meanReward_37 (Nat.le_of_ble_eq_true rfl) rfl ?_
      refine x_iload (i := 6) g dX6_meanReward_39 rfl ?_
      refine x_if_ne 53 g dX6_meanReward_41 (by decide) (fun c_9 => ?_) (fun c_9 => ?_)
      · have h := ite_f c_9 h
        refine x_iload (i := 5) g dX6_meanReward_53 rfl ?_
        refine x_i2d g dX6_meanReward_55 ?_
        refine x_iload (i := 6) g dX6_meanReward_56 rfl ?_
        refine x_i2d g dX6_meanReward_58 ?_
        obtain ⟨q_10, h⟩ := gd_e h
        refine x_ddiv g dX6_meanReward_59 q_10 ?_
        cases h
        exact x_dret g e dX6_meanReward_60 rfl rfl
      · have h := ite_t c_9 h
        refine x_aload_n 0 g dX6_meanReward_44 rfl rfl ?_
        refine x_iconst (v := 3) g dX6_meanReward_45 (by decide) ?_
        obtain ⟨r_12, S_13, q_11, h⟩ := gb2_e h
        refine x_cV [.int r_12] g (k_X6_fails q_11) ca_X6_fails in_X6_fails se_X6_fails lm_X6_84 gXX6 q_1 (Nat.le_of_ble_eq_true rfl) rfl rfl (Nat.le_of_ble_eq_true rfl) dX6_meanReward_46 rfl ?_
        refine x_i2d g dX6_meanReward_49 ?_
        refine x_goto 60 g dX6_meanReward_50 (by decide) ?_
        cases h
        exact x_dret g e dX6_meanReward_60 rfl rfl
    · have h := ite_f c_6 h
      refine x_iconst (v := 1) g dX6_meanReward_29 (by decide) ?_
      refine x_goto 34 g dX6_meanReward_30 (by decide) ?_
      obtain ⟨r_15, q_14, h⟩ := gb_e h
      refine x_cV [.int r_15] g (k_X6_triedTimes q_14) ca_X6_triedTimes in_X6_triedTimes se_X6_triedTimes lm_X6_70 gXX6 q_1 (Nat.le_of_ble_eq_true rfl) rfl rfl (Nat.le_of_ble_eq_true rfl) dX6_meanReward_34 rfl ?_
      refine x_istore (i := 6) g dX6_meanReward_37 (Nat.le_of_ble_eq_true rfl) rfl ?_
      refine x_iload (i := 6) g dX6_meanReward_39 rfl ?_
      refine x_if_ne 53 g dX6_meanReward_41 (by decide) (fun c_16 => ?_) (fun c_16 => ?_)
      · have h := ite_f c_16 h
        refine x_iload (i := 5) g dX6_meanReward_53 rfl ?_
        refine x_i2d g dX6_meanReward_55 ?_
        refine x_iload (i := 6) g dX6_meanReward_56 rfl ?_
        refine x_i2d g dX6_meanReward_58 ?_
        obtain ⟨q_17, h⟩ := gd_e h
        refine x_ddiv g dX6_meanReward_59 q_17 ?_
        cases h
        exact x_dret g e dX6_meanReward_60 rfl rfl
      · have h := ite_t c_16 h
        refine x_aload_n 0 g dX6_meanReward_44 rfl rfl ?_
        refine x_iconst (v := 3) g dX6_meanReward_45 (by decide) ?_
        obtain ⟨r_19, S_20, q_18, h⟩ := gb2_e h
        refine x_cV [.int r_19] g (k_X6_fails q_18) ca_X6_fails in_X6_fails se_X6_fails lm_X6_84 gXX6 q_1 (Nat.le_of_ble_eq_true rfl) rfl rfl (Nat.le_of_ble_eq_true rfl) dX6_meanReward_46 rfl ?_
        refine x_i2d g dX6_meanReward_49 ?_
        refine x_goto 60 g dX6_meanReward_50 (by decide) ?_
        cases h
        exact x_dret g e dX6_meanReward_60 rfl rfl
  · have h := ite_f c_5 h
    refine x_dconst0 g dX6_meanReward_18 ?_
    cases h
    exact x_dret g e dX6_meanReward_19 rfl rfl
noncomputable def f_X6_rightHabits_L23 (G : gG) (a0 : Nat) (a1 : Int32) : Nat → Int32 → Int32 → gS → Option (Int32 × gS)
  | 0, _, _, _ => none
  | n23 + 1, x2, x3, S => if 16 ≤ x3 then (some (x2, S)) else (gd (gis G 3 a0) <| gb (f_X6_isRight G a0 a1 (x3 / 4) (x3 - x3 / 4 * 4) S) fun (r_10 : Bool) => if (gz r_10) = 0 then (glt (x2 + 0) fun (x2_12 : Int32) => glt (x3 + 1) fun (x3_14 : Int32) => f_X6_rightHabits_L23 G a0 a1 n23 x2_12 x3_14 S) else (glt (x2 + 1) fun (x2_16 : Int32) => glt (x3 + 1) fun (x3_18 : Int32) => f_X6_rightHabits_L23 G a0 a1 n23 x2_16 x3_18 S))
noncomputable def f_X6_rightHabits (G : gG) (a0 : Nat) (a1 : Int32) (S : gS) : Option (Int32 × gS) := gd (gis G 3 a0) <| glt (sI S 30 a0 0) fun (S_2 : gS) => gb (f_X6_isUmbrella G a0 a1 S_2) fun (r_5 : Bool) => if (gz r_5) = 0 then (gb2 (f_X6_fails G a0 1 S_2) fun (r_21 : Int32) (S_22 : gS) => some (r_21, S_22)) else (f_X6_rightHabits_L23 G a0 a1 gN 0 0 S_2)
set_option maxRecDepth 100000 in
set_option maxHeartbeats 4000000 in
theorem k_X6_rightHabits {ad : Nat → Nat} {G : gG} {a0 : Nat} {a1 : Int32} {S S1 : gS} {T : gT} {r : Int32} (h : f_X6_rightHabits G a0 a1 S = some (r, S1)) : Ct ad yX6_rightHabits (Cond.code yX6_rightHabits cX6_rightHabits 4 (some .int) :: gTb) 4 0 0 [.ref a0, .int a1] G S T (some (.int r)) G S1 T := by
  refine Ct.ofB rfl (Nat.le_of_ble_eq_true rfl) rfl (fun K g e hK => ?_)
  obtain ⟨rfl, -⟩ := hK
  show Xj K [] G 0 [some (.ref a0), some (.int a1), none, none] [] S T 0 0
  unfold f_X6_rightHabits at h
  refine x_aload_n 0 g dX6_rightHabits_0 rfl rfl ?_
  refine x_iconst (v := 0) g dX6_rightHabits_1 (by decide) ?_
  obtain ⟨q_1, h⟩ := gd_e h
  refine x_puti g dX6_rightHabits_2 gXX6 0 30 rfl (by decide) rfl rfl lf_X6_1 rfl rfl q_1 ?_
  refine x_nS (fun S_2 e_3 => ?_)
  have h := glt_e e_3 h
  refine x_aload_n 0 g dX6_rightHabits_5 rfl rfl ?_
  refine x_iload_n 1 g dX6_rightHabits_6 rfl rfl ?_
  obtain ⟨r_5, q_4, h⟩ := gb_e h
  refine x_cV [.int (gz r_5)] g (k_X6_isUmbrella q_4) ca_X6_isUmbrella in_X6_isUmbrella se_X6_isUmbrella lm_X6_110 gXX6 q_1 (Nat.le_of_ble_eq_true rfl) rfl rfl (Nat.le_of_ble_eq_true rfl) dX6_rightHabits_7 rfl ?_
  refine x_if_ne 19 g dX6_rightHabits_10 (by decide) (fun c_6 => ?_) (fun c_6 => ?_)
  · have h := ite_f c_6 h
    refine x_iconst (v := 0) g dX6_rightHabits_19 (by decide) ?_
    refine x_istore_n 2 g dX6_rightHabits_20 rfl (Nat.le_of_ble_eq_true rfl) rfl ?_
    refine x_iconst (v := 0) g dX6_rightHabits_21 (by decide) ?_
    refine x_istore_n 3 g dX6_rightHabits_22 rfl (Nat.le_of_ble_eq_true rfl) rfl ?_
    have L23 : ∀ (n23 : Nat) (x2 : Int32) (x3 : Int32) (S : gS), f_X6_rightHabits_L23 G a0 a1 n23 x2 x3 S = some (r, S1) → Xj K [] G 23 [some (.ref a0), some (.int a1), some (.int x2), some (.int x3)] [] S T 0 0 := by
      intro n23
      induction n23 with
      | zero =>
        intro x2 x3 S h
        rw [f_X6_rightHabits_L23] at h
        cases h
      | succ n23 ih =>
        intro x2 x3 S h
        rw [f_X6_rightHabits_L23] at h
        refine x_iload_n 3 g dX6_rightHabits_23 rfl rfl ?_
        refine x_bipush (v := 16) g dX6_rightHabits_24 (by decide) ?_
        refine x_icmp_ge 57 g dX6_rightHabits_26 (by decide) (fun c_7 => ?_) (fun c_7 => ?_)
        · have h := ite_t c_7 h
          refine x_iload_n 2 g dX6_rightHabits_57 rfl rfl ?_
          cases h
          exact x_iretS g e dX6_rightHabits_58 rfl rfl
        · have h := ite_f c_7 h
          refine x_iload_n 2 g dX6_rightHabits_29 rfl rfl ?_
          refine x_aload_n 0 g dX6_rightHabits_30 rfl rfl ?_
          refine x_iload_n 1 g dX6_rightHabits_31 rfl rfl ?_
          refine x_iload_n 3 g dX6_rightHabits_32 rfl rfl ?_
          refine x_iconst (v := 4) g dX6_rightHabits_33 (by decide) ?_
          refine x_idiv g dX6_rightHabits_34 (by decide) ?_
          refine x_iload_n 3 g dX6_rightHabits_35 rfl rfl ?_
          refine x_iconst (v := 4) g dX6_rightHabits_36 (by decide) ?_
          refine x_irem g dX6_rightHabits_37 (by decide) ?_
          obtain ⟨q_8, h⟩ := gd_e h
          obtain ⟨r_10, q_9, h⟩ := gb_e h
          refine x_cV [.int (gz r_10), .int x2] g (k_X6_isRight q_9) ca_X6_isRight in_X6_isRight se_X6_isRight lm_X6_153 gXX6 q_8 (Nat.le_of_ble_eq_true rfl) rfl rfl (Nat.le_of_ble_eq_true rfl) dX6_rightHabits_38 rfl ?_
          refine x_if_eq 48 g dX6_rightHabits_41 (by decide) (fun c_11 => ?_) (fun c_11 => ?_)
          · have h := ite_t c_11 h
            refine x_iconst (v := 0) g dX6_rightHabits_48 (by decide) ?_
            refine x_iadd g dX6_rightHabits_49 ?_
            refine x_nI (fun x2_12 e_13 => ?_)
            have h := glt_e e_13 h
            refine x_istore_n 2 g dX6_rightHabits_50 rfl (Nat.le_of_ble_eq_true rfl) rfl ?_
            obtain ⟨x3_14, e_15⟩ : ∃ z : Int32, z = x3 + 1 := ⟨_, rfl⟩
            have h := glt_e e_15 h
            refine x_iinc (v := x3_14) g dX6_rightHabits_51 rfl (by rw [e_15]; rfl) rfl ?_
            refine x_goto 23 g dX6_rightHabits_54 (by decide) ?_
            exact ih _ _ _ h
          · have h := ite_f c_11 h
            refine x_iconst (v := 1) g dX6_rightHabits_44 (by decide) ?_
            refine x_goto 49 g dX6_rightHabits_45 (by decide) ?_
            refine x_iadd g dX6_rightHabits_49 ?_
            refine x_nI (fun x2_16 e_17 => ?_)
            have h := glt_e e_17 h
            refine x_istore_n 2 g dX6_rightHabits_50 rfl (Nat.le_of_ble_eq_true rfl) rfl ?_
            obtain ⟨x3_18, e_19⟩ : ∃ z : Int32, z = x3 + 1 := ⟨_, rfl⟩
            have h := glt_e e_19 h
            refine x_iinc (v := x3_18) g dX6_rightHabits_51 rfl (by rw [e_19]; rfl) rfl ?_
            refine x_goto 23 g dX6_rightHabits_54 (by decide) ?_
            exact ih _ _ _ h
    exact L23 gN _ _ _ h
  · have h := ite_t c_6 h
    refine x_aload_n 0 g dX6_rightHabits_13 rfl rfl ?_
    refine x_iconst (v := 1) g dX6_rightHabits_14 (by decide) ?_
    obtain ⟨r_21, S_22, q_20, h⟩ := gb2_e h
    refine x_cV [.int r_21] g (k_X6_fails q_20) ca_X6_fails in_X6_fails se_X6_fails lm_X6_84 gXX6 q_1 (Nat.le_of_ble_eq_true rfl) rfl rfl (Nat.le_of_ble_eq_true rfl) dX6_rightHabits_15 rfl ?_
    cases h
    exact x_iretS g e dX6_rightHabits_18 rfl rfl
noncomputable def f_X6_trialsIn (G : gG) (a0 : Nat) (a1 : Int32) (a2 : Int32) (S : gS) : Option Int32 := gd (gis G 3 a0) <| gb (f_X6_triedTimes G a0 a1 (a2 / 4) (a2 - a2 / 4 * 4) 0 S) fun (r_3 : Int32) => gb (f_X6_triedTimes G a0 a1 (a2 / 4) (a2 - a2 / 4 * 4) 1 S) fun (r_5 : Int32) => some (r_3 + r_5)
set_option maxRecDepth 100000 in
set_option maxHeartbeats 4000000 in
theorem k_X6_trialsIn {ad : Nat → Nat} {G : gG} {a0 : Nat} {a1 : Int32} {a2 : Int32} {S : gS} {T : gT} {r : Int32} (h : f_X6_trialsIn G a0 a1 a2 S = some r) : Ct ad yX6_trialsIn (Cond.code yX6_trialsIn cX6_trialsIn 3 (some .int) :: gTb) 2 0 0 [.ref a0, .int a1, .int a2] G S T (some (.int r)) G S T := by
  refine Ct.ofB rfl (Nat.le_of_ble_eq_true rfl) rfl (fun K g e hK => ?_)
  obtain ⟨rfl, -⟩ := hK
  show Xj K [] G 0 [some (.ref a0), some (.int a1), some (.int a2)] [] S T 0 0
  unfold f_X6_trialsIn at h
  refine x_aload_n 0 g dX6_trialsIn_0 rfl rfl ?_
  refine x_iload_n 1 g dX6_trialsIn_1 rfl rfl ?_
  refine x_iload_n 2 g dX6_trialsIn_2 rfl rfl ?_
  refine x_iconst (v := 4) g dX6_trialsIn_3 (by decide) ?_
  refine x_idiv g dX6_trialsIn_4 (by decide) ?_
  refine x_iload_n 2 g dX6_trialsIn_5 rfl rfl ?_
  refine x_iconst (v := 4) g dX6_trialsIn_6 (by decide) ?_
  refine x_irem g dX6_trialsIn_7 (by decide) ?_
  refine x_iconst (v := 0) g dX6_trialsIn_8 (by decide) ?_
  obtain ⟨q_1, h⟩ := gd_e h
  obtain ⟨r_3, q_2, h⟩ := gb_e h
  refine x_cV [.int r_3] g (k_X6_triedTimes q_2) ca_X6_triedTimes in_X6_triedTimes se_X6_triedTimes lm_X6_70 gXX6 q_1 (Nat.le_of_ble_eq_true rfl) rfl rfl (Nat.le_of_ble_eq_true rfl) dX6_trialsIn_9 rfl ?_
  refine x_aload_n 0 g dX6_trialsIn_12 rfl rfl ?_
  refine x_iload_n 1 g dX6_trialsIn_13 rfl rfl ?_
  refine x_iload_n 2 g dX6_trialsIn_14 rfl rfl ?_
  refine x_iconst (v := 4) g dX6_trialsIn_15 (by decide) ?_
  refine x_idiv g dX6_trialsIn_16 (by decide) ?_
  refine x_iload_n 2 g dX6_trialsIn_17 rfl rfl ?_
  refine x_iconst (v := 4) g dX6_trialsIn_18 (by decide) ?_
  refine x_irem g dX6_trialsIn_19 (by decide) ?_
  refine x_iconst (v := 1) g dX6_trialsIn_20 (by decide) ?_
  obtain ⟨r_5, q_4, h⟩ := gb_e h
  refine x_cV [.int r_5, .int r_3] g (k_X6_triedTimes q_4) ca_X6_triedTimes in_X6_triedTimes se_X6_triedTimes lm_X6_70 gXX6 q_1 (Nat.le_of_ble_eq_true rfl) rfl rfl (Nat.le_of_ble_eq_true rfl) dX6_trialsIn_21 rfl ?_
  refine x_iadd g dX6_trialsIn_24 ?_
  cases h
  exact x_iretS g e dX6_trialsIn_25 rfl rfl
noncomputable def f_X6_knownSituations_L23 (G : gG) (a0 : Nat) (a1 : Int32) : Nat → Int32 → Int32 → gS → Option (Int32 × gS)
  | 0, _, _, _ => none
  | n23 + 1, x2, x3, S => if 16 ≤ x3 then (some (x2, S)) else (gd (gis G 3 a0) <| gb (f_X6_trialsIn G a0 a1 x3 S) fun (r_10 : Int32) => if r_10 ≤ 0 then (glt (x2 + 0) fun (x2_12 : Int32) => glt (x3 + 1) fun (x3_14 : Int32) => f_X6_knownSituations_L23 G a0 a1 n23 x2_12 x3_14 S) else (glt (x2 + 1) fun (x2_16 : Int32) => glt (x3 + 1) fun (x3_18 : Int32) => f_X6_knownSituations_L23 G a0 a1 n23 x2_16 x3_18 S))
noncomputable def f_X6_knownSituations (G : gG) (a0 : Nat) (a1 : Int32) (S : gS) : Option (Int32 × gS) := gd (gis G 3 a0) <| glt (sI S 30 a0 0) fun (S_2 : gS) => gb (f_X6_isUmbrella G a0 a1 S_2) fun (r_5 : Bool) => if (gz r_5) = 0 then (gb2 (f_X6_fails G a0 1 S_2) fun (r_21 : Int32) (S_22 : gS) => some (r_21, S_22)) else (f_X6_knownSituations_L23 G a0 a1 gN 0 0 S_2)
set_option maxRecDepth 100000 in
set_option maxHeartbeats 4000000 in
theorem k_X6_knownSituations {ad : Nat → Nat} {G : gG} {a0 : Nat} {a1 : Int32} {S S1 : gS} {T : gT} {r : Int32} (h : f_X6_knownSituations G a0 a1 S = some (r, S1)) : Ct ad yX6_knownSituations (Cond.code yX6_knownSituations cX6_knownSituations 4 (some .int) :: gTb) 3 0 0 [.ref a0, .int a1] G S T (some (.int r)) G S1 T := by
  refine Ct.ofB rfl (Nat.le_of_ble_eq_true rfl) rfl (fun K g e hK => ?_)
  obtain ⟨rfl, -⟩ := hK
  show Xj K [] G 0 [some (.ref a0), some (.int a1), none, none] [] S T 0 0
  unfold f_X6_knownSituations at h
  refine x_aload_n 0 g dX6_knownSituations_0 rfl rfl ?_
  refine x_iconst (v := 0) g dX6_knownSituations_1 (by decide) ?_
  obtain ⟨q_1, h⟩ := gd_e h
  refine x_puti g dX6_knownSituations_2 gXX6 0 30 rfl (by decide) rfl rfl lf_X6_1 rfl rfl q_1 ?_
  refine x_nS (fun S_2 e_3 => ?_)
  have h := glt_e e_3 h
  refine x_aload_n 0 g dX6_knownSituations_5 rfl rfl ?_
  refine x_iload_n 1 g dX6_knownSituations_6 rfl rfl ?_
  obtain ⟨r_5, q_4, h⟩ := gb_e h
  refine x_cV [.int (gz r_5)] g (k_X6_isUmbrella q_4) ca_X6_isUmbrella in_X6_isUmbrella se_X6_isUmbrella lm_X6_110 gXX6 q_1 (Nat.le_of_ble_eq_true rfl) rfl rfl (Nat.le_of_ble_eq_true rfl) dX6_knownSituations_7 rfl ?_
  refine x_if_ne 19 g dX6_knownSituations_10 (by decide) (fun c_6 => ?_) (fun c_6 => ?_)
  · have h := ite_f c_6 h
    refine x_iconst (v := 0) g dX6_knownSituations_19 (by decide) ?_
    refine x_istore_n 2 g dX6_knownSituations_20 rfl (Nat.le_of_ble_eq_true rfl) rfl ?_
    refine x_iconst (v := 0) g dX6_knownSituations_21 (by decide) ?_
    refine x_istore_n 3 g dX6_knownSituations_22 rfl (Nat.le_of_ble_eq_true rfl) rfl ?_
    have L23 : ∀ (n23 : Nat) (x2 : Int32) (x3 : Int32) (S : gS), f_X6_knownSituations_L23 G a0 a1 n23 x2 x3 S = some (r, S1) → Xj K [] G 23 [some (.ref a0), some (.int a1), some (.int x2), some (.int x3)] [] S T 0 0 := by
      intro n23
      induction n23 with
      | zero =>
        intro x2 x3 S h
        rw [f_X6_knownSituations_L23] at h
        cases h
      | succ n23 ih =>
        intro x2 x3 S h
        rw [f_X6_knownSituations_L23] at h
        refine x_iload_n 3 g dX6_knownSituations_23 rfl rfl ?_
        refine x_bipush (v := 16) g dX6_knownSituations_24 (by decide) ?_
        refine x_icmp_ge 52 g dX6_knownSituations_26 (by decide) (fun c_7 => ?_) (fun c_7 => ?_)
        · have h := ite_t c_7 h
          refine x_iload_n 2 g dX6_knownSituations_52 rfl rfl ?_
          cases h
          exact x_iretS g e dX6_knownSituations_53 rfl rfl
        · have h := ite_f c_7 h
          refine x_iload_n 2 g dX6_knownSituations_29 rfl rfl ?_
          refine x_aload_n 0 g dX6_knownSituations_30 rfl rfl ?_
          refine x_iload_n 1 g dX6_knownSituations_31 rfl rfl ?_
          refine x_iload_n 3 g dX6_knownSituations_32 rfl rfl ?_
          obtain ⟨q_8, h⟩ := gd_e h
          obtain ⟨r_10, q_9, h⟩ := gb_e h
          refine x_cV [.int r_10, .int x2] g (k_X6_trialsIn q_9) ca_X6_trialsIn in_X6_trialsIn se_X6_trialsIn lm_X6_185 gXX6 q_8 (Nat.le_of_ble_eq_true rfl) rfl rfl (Nat.le_of_ble_eq_true rfl) dX6_knownSituations_33 rfl ?_
          refine x_if_le 43 g dX6_knownSituations_36 (by decide) (fun c_11 => ?_) (fun c_11 => ?_)
          · have h := ite_t c_11 h
            refine x_iconst (v := 0) g dX6_knownSituations_43 (by decide) ?_
            refine x_iadd g dX6_knownSituations_44 ?_
            refine x_nI (fun x2_12 e_13 => ?_)
            have h := glt_e e_13 h
            refine x_istore_n 2 g dX6_knownSituations_45 rfl (Nat.le_of_ble_eq_true rfl) rfl ?_
            obtain ⟨x3_14, e_15⟩ : ∃ z : Int32, z = x3 + 1 := ⟨_, rfl⟩
            have h := glt_e e_15 h
            refine x_iinc (v := x3_14) g dX6_knownSituations_46 rfl (by rw [e_15]; rfl) rfl ?_
            refine x_goto 23 g dX6_knownSituations_49 (by decide) ?_
            exact ih _ _ _ h
          · have h := ite_f c_11 h
            refine x_iconst (v := 1) g dX6_knownSituations_39 (by decide) ?_
            refine x_goto 44 g dX6_knownSituations_40 (by decide) ?_
            refine x_iadd g dX6_knownSituations_44 ?_
            refine x_nI (fun x2_16 e_17 => ?_)
            have h := glt_e e_17 h
            refine x_istore_n 2 g dX6_knownSituations_45 rfl (Nat.le_of_ble_eq_true rfl) rfl ?_
            obtain ⟨x3_18, e_19⟩ : ∃ z : Int32, z = x3 + 1 := ⟨_, rfl⟩
            have h := glt_e e_19 h
            refine x_iinc (v := x3_18) g dX6_knownSituations_46 rfl (by rw [e_19]; rfl) rfl ?_
            refine x_goto 23 g dX6_knownSituations_49 (by decide) ?_
            exact ih _ _ _ h
    exact L23 gN _ _ _ h
  · have h := ite_t c_6 h
    refine x_aload_n 0 g dX6_knownSituations_13 rfl rfl ?_
    refine x_iconst (v := 1) g dX6_knownSituations_14 (by decide) ?_
    obtain ⟨r_21, S_22, q_20, h⟩ := gb2_e h
    refine x_cV [.int r_21] g (k_X6_fails q_20) ca_X6_fails in_X6_fails se_X6_fails lm_X6_84 gXX6 q_1 (Nat.le_of_ble_eq_true rfl) rfl rfl (Nat.le_of_ble_eq_true rfl) dX6_knownSituations_15 rfl ?_
    cases h
    exact x_iretS g e dX6_knownSituations_18 rfl rfl
noncomputable def f_X6_situationAt_L45 (G : gG) (a0 : Nat) (a1 : Int32) (a2 : Int32) (kO_21 : Int32 → gS → Option (Int32 × gS)) : Nat → Int32 → Int32 → Int32 → gS → Option (Int32 × gS)
  | 0, _, _, _, _ => none
  | n45 + 1, x3, x4, x5, S => if 16 ≤ x5 then (if x4 = a2 then (some (x3, S)) else (glt (x3 + 1) fun (x3_18 : Int32) => kO_21 x3_18 S)) else (gd (gis G 3 a0) <| gb (f_X6_trialsIn G a0 a1 x5 S) fun (r_22 : Int32) => gb (f_X6_trialsIn G a0 a1 x3 S) fun (r_24 : Int32) => glt (r_22 - r_24) fun (x6_25 : Int32) => if 0 < x6_25 then (glt (x4 + 1) fun (x4_28 : Int32) => glt (x5 + 1) fun (x5_30 : Int32) => f_X6_situationAt_L45 G a0 a1 a2 kO_21 n45 x3 x4_28 x5_30 S) else (if x6_25 = 0 then (if x3 ≤ x5 then (glt (x4 + 0) fun (x4_38 : Int32) => glt (x5 + 1) fun (x5_40 : Int32) => f_X6_situationAt_L45 G a0 a1 a2 kO_21 n45 x3 x4_38 x5_40 S) else (glt (x4 + 1) fun (x4_42 : Int32) => glt (x5 + 1) fun (x5_44 : Int32) => f_X6_situationAt_L45 G a0 a1 a2 kO_21 n45 x3 x4_42 x5_44 S)) else (glt (x4 + 0) fun (x4_33 : Int32) => glt (x5 + 1) fun (x5_35 : Int32) => f_X6_situationAt_L45 G a0 a1 a2 kO_21 n45 x3 x4_33 x5_35 S)))
noncomputable def f_X6_situationAt_L21 (G : gG) (a0 : Nat) (a1 : Int32) (a2 : Int32) : Nat → Int32 → gS → Option (Int32 × gS)
  | 0, _, _ => none
  | n21 + 1, x3, S => if 16 ≤ x3 then (gd (gis G 3 a0) <| gb2 (f_X6_fails G a0 2 S) fun (r_10 : Int32) (S_11 : gS) => some (r_10, S_11)) else (gd (gis G 3 a0) <| gb (f_X6_trialsIn G a0 a1 x3 S) fun (r_14 : Int32) => if r_14 = 0 then (glt (x3 + 1) fun (x3_46 : Int32) => f_X6_situationAt_L21 G a0 a1 a2 n21 x3_46 S) else (f_X6_situationAt_L45 G a0 a1 a2 (fun y3 Sy => f_X6_situationAt_L21 G a0 a1 a2 n21 y3 Sy) gN x3 0 0 S))
noncomputable def f_X6_situationAt (G : gG) (a0 : Nat) (a1 : Int32) (a2 : Int32) (S : gS) : Option (Int32 × gS) := gd (gis G 3 a0) <| glt (sI S 30 a0 0) fun (S_2 : gS) => gb (f_X6_isUmbrella G a0 a1 S_2) fun (r_5 : Bool) => if (gz r_5) = 0 then (gb2 (f_X6_fails G a0 1 S_2) fun (r_49 : Int32) (S_50 : gS) => some (r_49, S_50)) else (f_X6_situationAt_L21 G a0 a1 a2 gN 0 S_2)
set_option maxRecDepth 100000 in
set_option maxHeartbeats 4000000 in
theorem k_X6_situationAt {ad : Nat → Nat} {G : gG} {a0 : Nat} {a1 : Int32} {a2 : Int32} {S S1 : gS} {T : gT} {r : Int32} (h : f_X6_situationAt G a0 a1 a2 S = some (r, S1)) : Ct ad yX6_situationAt (Cond.code yX6_situationAt cX6_situationAt 7 (some .int) :: gTb) 3 0 0 [.ref a0, .int a1, .int a2] G S T (some (.int r)) G S1 T := by
  refine Ct.ofB rfl (Nat.le_of_ble_eq_true rfl) rfl (fun K g e hK => ?_)
  obtain ⟨rfl, -⟩ := hK
  show Xj K [] G 0 [some (.ref a0), some (.int a1), some (.int a2), none, none, none, none] [] S T 0 0
  unfold f_X6_situationAt at h
  refine x_aload_n 0 g dX6_situationAt_0 rfl rfl ?_
  refine x_iconst (v := 0) g dX6_situationAt_1 (by decide) ?_
  obtain ⟨q_1, h⟩ := gd_e h
  refine x_puti g dX6_situationAt_2 gXX6 0 30 rfl (by decide) rfl rfl lf_X6_1 rfl rfl q_1 ?_
  refine x_nS (fun S_2 e_3 => ?_)
  have h := glt_e e_3 h
  refine x_aload_n 0 g dX6_situationAt_5 rfl rfl ?_
  refine x_iload_n 1 g dX6_situationAt_6 rfl rfl ?_
  obtain ⟨r_5, q_4, h⟩ := gb_e h
  refine x_cV [.int (gz r_5)] g (k_X6_isUmbrella q_4) ca_X6_isUmbrella in_X6_isUmbrella se_X6_isUmbrella lm_X6_110 gXX6 q_1 (Nat.le_of_ble_eq_true rfl) rfl rfl (Nat.le_of_ble_eq_true rfl) dX6_situationAt_7 rfl ?_
  refine x_if_ne 19 g dX6_situationAt_10 (by decide) (fun c_6 => ?_) (fun c_6 => ?_)
  · have h := ite_f c_6 h
    refine x_iconst (v := 0) g dX6_situationAt_19 (by decide) ?_
    refine x_istore_n 3 g dX6_situationAt_20 rfl (Nat.le_of_ble_eq_true rfl) rfl ?_
    have L21 : ∀ (n21 : Nat) (x3 : Int32) (S : gS), f_X6_situationAt_L21 G a0 a1 a2 n21 x3 S = some (r, S1) → Xj K [] G 21 [some (.ref a0), some (.int a1), some (.int a2), some (.int x3), none, none, none] [] S T 0 0 := by
      intro n21
      induction n21 with
      | zero =>
        intro x3 S h
        rw [f_X6_situationAt_L21] at h
        cases h
      | succ n21 ih =>
        intro x3 S h
        rw [f_X6_situationAt_L21] at h
        refine x_iload_n 3 g dX6_situationAt_21 rfl rfl ?_
        refine x_bipush (v := 16) g dX6_situationAt_22 (by decide) ?_
        refine x_icmp_ge 114 g dX6_situationAt_24 (by decide) (fun c_7 => ?_) (fun c_7 => ?_)
        · have h := ite_t c_7 h
          refine x_aload_n 0 g dX6_situationAt_114 rfl rfl ?_
          refine x_iconst (v := 2) g dX6_situationAt_115 (by decide) ?_
          obtain ⟨q_8, h⟩ := gd_e h
          obtain ⟨r_10, S_11, q_9, h⟩ := gb2_e h
          refine x_cV [.int r_10] g (k_X6_fails q_9) ca_X6_fails in_X6_fails se_X6_fails lm_X6_84 gXX6 q_8 (Nat.le_of_ble_eq_true rfl) rfl rfl (Nat.le_of_ble_eq_true rfl) dX6_situationAt_116 rfl ?_
          cases h
          exact x_iretS g e dX6_situationAt_119 rfl rfl
        · have h := ite_f c_7 h
          refine x_aload_n 0 g dX6_situationAt_27 rfl rfl ?_
          refine x_iload_n 1 g dX6_situationAt_28 rfl rfl ?_
          refine x_iload_n 3 g dX6_situationAt_29 rfl rfl ?_
          obtain ⟨q_12, h⟩ := gd_e h
          obtain ⟨r_14, q_13, h⟩ := gb_e h
          refine x_cV [.int r_14] g (k_X6_trialsIn q_13) ca_X6_trialsIn in_X6_trialsIn se_X6_trialsIn lm_X6_185 gXX6 q_12 (Nat.le_of_ble_eq_true rfl) rfl rfl (Nat.le_of_ble_eq_true rfl) dX6_situationAt_30 rfl ?_
          refine x_if_ne 39 g dX6_situationAt_33 (by decide) (fun c_15 => ?_) (fun c_15 => ?_)
          · have h := ite_f c_15 h
            refine x_iconst (v := 0) g dX6_situationAt_39 (by decide) ?_
            refine x_istore (i := 4) g dX6_situationAt_40 (Nat.le_of_ble_eq_true rfl) rfl ?_
            refine x_iconst (v := 0) g dX6_situationAt_42 (by decide) ?_
            refine x_istore (i := 5) g dX6_situationAt_43 (Nat.le_of_ble_eq_true rfl) rfl ?_
            have ih_21 := ih
            have L45 : ∀ (n45 : Nat) (x3 : Int32) (x4 : Int32) (x5 : Int32) (S : gS), f_X6_situationAt_L45 G a0 a1 a2 (fun y3 Sy => f_X6_situationAt_L21 G a0 a1 a2 n21 y3 Sy) n45 x3 x4 x5 S = some (r, S1) → Xj K [] G 45 [some (.ref a0), some (.int a1), some (.int a2), some (.int x3), some (.int x4), some (.int x5), none] [] S T 0 0 := by
              intro n45
              induction n45 with
              | zero =>
                intro x3 x4 x5 S h
                rw [f_X6_situationAt_L45] at h
                cases h
              | succ n45 ih =>
                intro x3 x4 x5 S h
                rw [f_X6_situationAt_L45] at h
                refine x_iload (i := 5) g dX6_situationAt_45 rfl ?_
                refine x_bipush (v := 16) g dX6_situationAt_47 (by decide) ?_
                refine x_icmp_ge 100 g dX6_situationAt_49 (by decide) (fun c_16 => ?_) (fun c_16 => ?_)
                · have h := ite_t c_16 h
                  refine x_iload (i := 4) g dX6_situationAt_100 rfl ?_
                  refine x_iload_n 2 g dX6_situationAt_102 rfl rfl ?_
                  refine x_icmp_ne 108 g dX6_situationAt_103 (by decide) (fun c_17 => ?_) (fun c_17 => ?_)
                  · have h := ite_f c_17 h
                    obtain ⟨x3_18, e_19⟩ : ∃ z : Int32, z = x3 + 1 := ⟨_, rfl⟩
                    have h := glt_e e_19 h
                    refine x_iinc (v := x3_18) g dX6_situationAt_108 rfl (by rw [e_19]; rfl) rfl ?_
                    refine x_goto 21 g dX6_situationAt_111 (by decide) ?_
                    refine x_dr 4 ?_
                    refine x_dr 5 ?_
                    exact ih_21 _ _ h
                  · have h := ite_t c_17 h
                    refine x_iload_n 3 g dX6_situationAt_106 rfl rfl ?_
                    cases h
                    exact x_iretS g e dX6_situationAt_107 rfl rfl
                · have h := ite_f c_16 h
                  refine x_aload_n 0 g dX6_situationAt_52 rfl rfl ?_
                  refine x_iload_n 1 g dX6_situationAt_53 rfl rfl ?_
                  refine x_iload (i := 5) g dX6_situationAt_54 rfl ?_
                  obtain ⟨q_20, h⟩ := gd_e h
                  obtain ⟨r_22, q_21, h⟩ := gb_e h
                  refine x_cV [.int r_22] g (k_X6_trialsIn q_21) ca_X6_trialsIn in_X6_trialsIn se_X6_trialsIn lm_X6_185 gXX6 q_20 (Nat.le_of_ble_eq_true rfl) rfl rfl (Nat.le_of_ble_eq_true rfl) dX6_situationAt_56 rfl ?_
                  refine x_aload_n 0 g dX6_situationAt_59 rfl rfl ?_
                  refine x_iload_n 1 g dX6_situationAt_60 rfl rfl ?_
                  refine x_iload_n 3 g dX6_situationAt_61 rfl rfl ?_
                  obtain ⟨r_24, q_23, h⟩ := gb_e h
                  refine x_cV [.int r_24, .int r_22] g (k_X6_trialsIn q_23) ca_X6_trialsIn in_X6_trialsIn se_X6_trialsIn lm_X6_185 gXX6 q_20 (Nat.le_of_ble_eq_true rfl) rfl rfl (Nat.le_of_ble_eq_true rfl) dX6_situationAt_62 rfl ?_
                  refine x_isub g dX6_situationAt_65 ?_
                  refine x_nI (fun x6_25 e_26 => ?_)
                  have h := glt_e e_26 h
                  refine x_istore (i := 6) g dX6_situationAt_66 (Nat.le_of_ble_eq_true rfl) rfl ?_
                  refine x_iload (i := 4) g dX6_situationAt_68 rfl ?_
                  refine x_iload (i := 6) g dX6_situationAt_70 rfl ?_
                  refine x_if_gt 86 g dX6_situationAt_72 (by decide) (fun c_27 => ?_) (fun c_27 => ?_)
                  · have h := ite_t c_27 h
                    refine x_iconst (v := 1) g dX6_situationAt_86 (by decide) ?_
                    refine x_goto 91 g dX6_situationAt_87 (by decide) ?_
                    refine x_iadd g dX6_situationAt_91 ?_
                    refine x_nI (fun x4_28 e_29 => ?_)
                    have h := glt_e e_29 h
                    refine x_istore (i := 4) g dX6_situationAt_92 (Nat.le_of_ble_eq_true rfl) rfl ?_
                    obtain ⟨x5_30, e_31⟩ : ∃ z : Int32, z = x5 + 1 := ⟨_, rfl⟩
                    have h := glt_e e_31 h
                    refine x_iinc (v := x5_30) g dX6_situationAt_94 rfl (by rw [e_31]; rfl) rfl ?_
                    refine x_goto 45 g dX6_situationAt_97 (by decide) ?_
                    refine x_dr 6 ?_
                    exact ih _ _ _ _ h
                  · have h := ite_f c_27 h
                    refine x_iload (i := 6) g dX6_situationAt_75 rfl ?_
                    refine x_if_ne 90 g dX6_situationAt_77 (by decide) (fun c_32 => ?_) (fun c_32 => ?_)
                    · have h := ite_f c_32 h
                      refine x_iconst (v := 0) g dX6_situationAt_90 (by decide) ?_
                      refine x_iadd g dX6_situationAt_91 ?_
                      refine x_nI (fun x4_33 e_34 => ?_)
                      have h := glt_e e_34 h
                      refine x_istore (i := 4) g dX6_situationAt_92 (Nat.le_of_ble_eq_true rfl) rfl ?_
                      obtain ⟨x5_35, e_36⟩ : ∃ z : Int32, z = x5 + 1 := ⟨_, rfl⟩
                      have h := glt_e e_36 h
                      refine x_iinc (v := x5_35) g dX6_situationAt_94 rfl (by rw [e_36]; rfl) rfl ?_
                      refine x_goto 45 g dX6_situationAt_97 (by decide) ?_
                      refine x_dr 6 ?_
                      exact ih _ _ _ _ h
                    · have h := ite_t c_32 h
                      refine x_iload (i := 5) g dX6_situationAt_80 rfl ?_
                      refine x_iload_n 3 g dX6_situationAt_82 rfl rfl ?_
                      refine x_icmp_ge 90 g dX6_situationAt_83 (by decide) (fun c_37 => ?_) (fun c_37 => ?_)
                      · have h := ite_t c_37 h
                        refine x_iconst (v := 0) g dX6_situationAt_90 (by decide) ?_
                        refine x_iadd g dX6_situationAt_91 ?_
                        refine x_nI (fun x4_38 e_39 => ?_)
                        have h := glt_e e_39 h
                        refine x_istore (i := 4) g dX6_situationAt_92 (Nat.le_of_ble_eq_true rfl) rfl ?_
                        obtain ⟨x5_40, e_41⟩ : ∃ z : Int32, z = x5 + 1 := ⟨_, rfl⟩
                        have h := glt_e e_41 h
                        refine x_iinc (v := x5_40) g dX6_situationAt_94 rfl (by rw [e_41]; rfl) rfl ?_
                        refine x_goto 45 g dX6_situationAt_97 (by decide) ?_
                        refine x_dr 6 ?_
                        exact ih _ _ _ _ h
                      · have h := ite_f c_37 h
                        refine x_iconst (v := 1) g dX6_situationAt_86 (by decide) ?_
                        refine x_goto 91 g dX6_situationAt_87 (by decide) ?_
                        refine x_iadd g dX6_situationAt_91 ?_
                        refine x_nI (fun x4_42 e_43 => ?_)
                        have h := glt_e e_43 h
                        refine x_istore (i := 4) g dX6_situationAt_92 (Nat.le_of_ble_eq_true rfl) rfl ?_
                        obtain ⟨x5_44, e_45⟩ : ∃ z : Int32, z = x5 + 1 := ⟨_, rfl⟩
                        have h := glt_e e_45 h
                        refine x_iinc (v := x5_44) g dX6_situationAt_94 rfl (by rw [e_45]; rfl) rfl ?_
                        refine x_goto 45 g dX6_situationAt_97 (by decide) ?_
                        refine x_dr 6 ?_
                        exact ih _ _ _ _ h
            exact L45 gN _ _ _ _ h
          · have h := ite_t c_15 h
            refine x_goto 108 g dX6_situationAt_36 (by decide) ?_
            obtain ⟨x3_46, e_47⟩ : ∃ z : Int32, z = x3 + 1 := ⟨_, rfl⟩
            have h := glt_e e_47 h
            refine x_iinc (v := x3_46) g dX6_situationAt_108 rfl (by rw [e_47]; rfl) rfl ?_
            refine x_goto 21 g dX6_situationAt_111 (by decide) ?_
            exact ih _ _ h
    exact L21 gN _ _ h
  · have h := ite_t c_6 h
    refine x_aload_n 0 g dX6_situationAt_13 rfl rfl ?_
    refine x_iconst (v := 1) g dX6_situationAt_14 (by decide) ?_
    obtain ⟨r_49, S_50, q_48, h⟩ := gb2_e h
    refine x_cV [.int r_49] g (k_X6_fails q_48) ca_X6_fails in_X6_fails se_X6_fails lm_X6_84 gXX6 q_1 (Nat.le_of_ble_eq_true rfl) rfl rfl (Nat.le_of_ble_eq_true rfl) dX6_situationAt_15 rfl ?_
    cases h
    exact x_iretS g e dX6_situationAt_18 rfl rfl
noncomputable def f_X6_situationRain (G : gG) (a0 : Nat) (a1 : Int32) (a2 : Int32) (S : gS) : Option (Int32 × gS) := gd (gis G 3 a0) <| gb2 (f_X6_situationAt G a0 a1 a2 S) fun (r_3 : Int32) (S_4 : gS) => some (r_3 / 4, S_4)
set_option maxRecDepth 100000 in
set_option maxHeartbeats 4000000 in
theorem k_X6_situationRain {ad : Nat → Nat} {G : gG} {a0 : Nat} {a1 : Int32} {a2 : Int32} {S S1 : gS} {T : gT} {r : Int32} (h : f_X6_situationRain G a0 a1 a2 S = some (r, S1)) : Ct ad yX6_situationRain (Cond.code yX6_situationRain cX6_situationRain 3 (some .int) :: gTb) 4 0 0 [.ref a0, .int a1, .int a2] G S T (some (.int r)) G S1 T := by
  refine Ct.ofB rfl (Nat.le_of_ble_eq_true rfl) rfl (fun K g e hK => ?_)
  obtain ⟨rfl, -⟩ := hK
  show Xj K [] G 0 [some (.ref a0), some (.int a1), some (.int a2)] [] S T 0 0
  unfold f_X6_situationRain at h
  refine x_aload_n 0 g dX6_situationRain_0 rfl rfl ?_
  refine x_iload_n 1 g dX6_situationRain_1 rfl rfl ?_
  refine x_iload_n 2 g dX6_situationRain_2 rfl rfl ?_
  obtain ⟨q_1, h⟩ := gd_e h
  obtain ⟨r_3, S_4, q_2, h⟩ := gb2_e h
  refine x_cV [.int r_3] g (k_X6_situationAt q_2) ca_X6_situationAt in_X6_situationAt se_X6_situationAt lm_X6_188 gXX6 q_1 (Nat.le_of_ble_eq_true rfl) rfl rfl (Nat.le_of_ble_eq_true rfl) dX6_situationRain_3 rfl ?_
  refine x_iconst (v := 4) g dX6_situationRain_6 (by decide) ?_
  refine x_idiv g dX6_situationRain_7 (by decide) ?_
  cases h
  exact x_iretS g e dX6_situationRain_8 rfl rfl
noncomputable def f_X6_situationWind (G : gG) (a0 : Nat) (a1 : Int32) (a2 : Int32) (S : gS) : Option (Int32 × gS) := gd (gis G 3 a0) <| gb2 (f_X6_situationAt G a0 a1 a2 S) fun (r_3 : Int32) (S_4 : gS) => some (r_3 - r_3 / 4 * 4, S_4)
set_option maxRecDepth 100000 in
set_option maxHeartbeats 4000000 in
theorem k_X6_situationWind {ad : Nat → Nat} {G : gG} {a0 : Nat} {a1 : Int32} {a2 : Int32} {S S1 : gS} {T : gT} {r : Int32} (h : f_X6_situationWind G a0 a1 a2 S = some (r, S1)) : Ct ad yX6_situationWind (Cond.code yX6_situationWind cX6_situationWind 3 (some .int) :: gTb) 4 0 0 [.ref a0, .int a1, .int a2] G S T (some (.int r)) G S1 T := by
  refine Ct.ofB rfl (Nat.le_of_ble_eq_true rfl) rfl (fun K g e hK => ?_)
  obtain ⟨rfl, -⟩ := hK
  show Xj K [] G 0 [some (.ref a0), some (.int a1), some (.int a2)] [] S T 0 0
  unfold f_X6_situationWind at h
  refine x_aload_n 0 g dX6_situationWind_0 rfl rfl ?_
  refine x_iload_n 1 g dX6_situationWind_1 rfl rfl ?_
  refine x_iload_n 2 g dX6_situationWind_2 rfl rfl ?_
  obtain ⟨q_1, h⟩ := gd_e h
  obtain ⟨r_3, S_4, q_2, h⟩ := gb2_e h
  refine x_cV [.int r_3] g (k_X6_situationAt q_2) ca_X6_situationAt in_X6_situationAt se_X6_situationAt lm_X6_188 gXX6 q_1 (Nat.le_of_ble_eq_true rfl) rfl rfl (Nat.le_of_ble_eq_true rfl) dX6_situationWind_3 rfl ?_
  refine x_iconst (v := 4) g dX6_situationWind_6 (by decide) ?_
  refine x_irem g dX6_situationWind_7 (by decide) ?_
  cases h
  exact x_iretS g e dX6_situationWind_8 rfl rfl
noncomputable def f_X6_hasExam (G : gG) (a0 : Nat) (a1 : Int32) (a2 : Int32) (S : gS) : Option (Bool × gS) := gd (gis G 3 a0) <| glt (sI S 30 a0 0) fun (S_2 : gS) => gb (f_X6_notOne G a0 a1 a2 S_2) fun (r_5 : Int32) => if r_5 = 0 then (gb (f_X6_hasExamOf G a0 a1 a2 S_2) fun (r_8 : Bool) => some (r_8, S_2)) else (gb2 (f_X6_fails G a0 r_5 S_2) fun (r_10 : Int32) (S_11 : gS) => if r_10 ≤ 0 then (some (false, S_11)) else (some (true, S_11)))
set_option maxRecDepth 100000 in
set_option maxHeartbeats 4000000 in
theorem k_X6_hasExam {ad : Nat → Nat} {G : gG} {a0 : Nat} {a1 : Int32} {a2 : Int32} {S S1 : gS} {T : gT} {r : Bool} (h : f_X6_hasExam G a0 a1 a2 S = some (r, S1)) : Ct ad yX6_hasExam (Cond.code yX6_hasExam cX6_hasExam 4 (some .boolean) :: gTb) 3 0 0 [.ref a0, .int a1, .int a2] G S T (some (.int (gz r))) G S1 T := by
  refine Ct.ofB rfl (Nat.le_of_ble_eq_true rfl) rfl (fun K g e hK => ?_)
  obtain ⟨rfl, -⟩ := hK
  show Xj K [] G 0 [some (.ref a0), some (.int a1), some (.int a2), none] [] S T 0 0
  unfold f_X6_hasExam at h
  refine x_aload_n 0 g dX6_hasExam_0 rfl rfl ?_
  refine x_iconst (v := 0) g dX6_hasExam_1 (by decide) ?_
  obtain ⟨q_1, h⟩ := gd_e h
  refine x_puti g dX6_hasExam_2 gXX6 0 30 rfl (by decide) rfl rfl lf_X6_1 rfl rfl q_1 ?_
  refine x_nS (fun S_2 e_3 => ?_)
  have h := glt_e e_3 h
  refine x_aload_n 0 g dX6_hasExam_5 rfl rfl ?_
  refine x_iload_n 1 g dX6_hasExam_6 rfl rfl ?_
  refine x_iload_n 2 g dX6_hasExam_7 rfl rfl ?_
  obtain ⟨r_5, q_4, h⟩ := gb_e h
  refine x_cV [.int r_5] g (k_X6_notOne q_4) ca_X6_notOne in_X6_notOne se_X6_notOne lm_X6_144 gXX6 q_1 (Nat.le_of_ble_eq_true rfl) rfl rfl (Nat.le_of_ble_eq_true rfl) dX6_hasExam_8 rfl ?_
  refine x_istore_n 3 g dX6_hasExam_11 rfl (Nat.le_of_ble_eq_true rfl) rfl ?_
  refine x_iload_n 3 g dX6_hasExam_12 rfl rfl ?_
  refine x_if_eq 30 g dX6_hasExam_13 (by decide) (fun c_6 => ?_) (fun c_6 => ?_)
  · have h := ite_t c_6 h
    refine x_aload_n 0 g dX6_hasExam_30 rfl rfl ?_
    refine x_iload_n 1 g dX6_hasExam_31 rfl rfl ?_
    refine x_iload_n 2 g dX6_hasExam_32 rfl rfl ?_
    obtain ⟨r_8, q_7, h⟩ := gb_e h
    refine x_cV [.int (gz r_8)] g (k_X6_hasExamOf q_7) ca_X6_hasExamOf in_X6_hasExamOf se_X6_hasExamOf lm_X6_156 gXX6 q_1 (Nat.le_of_ble_eq_true rfl) rfl rfl (Nat.le_of_ble_eq_true rfl) dX6_hasExam_33 rfl ?_
    cases h
    exact x_zretS g e dX6_hasExam_36 rfl rfl rfl
  · have h := ite_f c_6 h
    refine x_aload_n 0 g dX6_hasExam_16 rfl rfl ?_
    refine x_iload_n 3 g dX6_hasExam_17 rfl rfl ?_
    obtain ⟨r_10, S_11, q_9, h⟩ := gb2_e h
    refine x_cV [.int r_10] g (k_X6_fails q_9) ca_X6_fails in_X6_fails se_X6_fails lm_X6_84 gXX6 q_1 (Nat.le_of_ble_eq_true rfl) rfl rfl (Nat.le_of_ble_eq_true rfl) dX6_hasExam_18 rfl ?_
    refine x_if_le 28 g dX6_hasExam_21 (by decide) (fun c_12 => ?_) (fun c_12 => ?_)
    · have h := ite_t c_12 h
      refine x_iconst (v := 0) g dX6_hasExam_28 (by decide) ?_
      cases h
      exact x_zretS (b := false) g e dX6_hasExam_29 rfl rfl rfl
    · have h := ite_f c_12 h
      refine x_iconst (v := 1) g dX6_hasExam_24 (by decide) ?_
      refine x_goto 29 g dX6_hasExam_25 (by decide) ?_
      cases h
      exact x_zretS (b := true) g e dX6_hasExam_29 rfl rfl rfl
noncomputable def f_X6_isGraduate (G : gG) (a0 : Nat) (a1 : Int32) (S : gS) : Option (Bool × gS) := gd (gis G 3 a0) <| glt (sI S 30 a0 0) fun (S_2 : gS) => gb (f_X6_isUmbrella G a0 a1 S_2) fun (r_5 : Bool) => if (gz r_5) = 0 then (gb2 (f_X6_fails G a0 1 S_2) fun (r_11 : Int32) (S_12 : gS) => if r_11 ≤ 0 then (some (false, S_12)) else (some (true, S_12))) else (gb (f_X6_of G a0 a1 7 S_2) fun (r_8 : Int32) => if r_8 = 15 then (some (true, S_2)) else (some (false, S_2)))
set_option maxRecDepth 100000 in
set_option maxHeartbeats 4000000 in
theorem k_X6_isGraduate {ad : Nat → Nat} {G : gG} {a0 : Nat} {a1 : Int32} {S S1 : gS} {T : gT} {r : Bool} (h : f_X6_isGraduate G a0 a1 S = some (r, S1)) : Ct ad yX6_isGraduate (Cond.code yX6_isGraduate cX6_isGraduate 2 (some .boolean) :: gTb) 2 0 0 [.ref a0, .int a1] G S T (some (.int (gz r))) G S1 T := by
  refine Ct.ofB rfl (Nat.le_of_ble_eq_true rfl) rfl (fun K g e hK => ?_)
  obtain ⟨rfl, -⟩ := hK
  show Xj K [] G 0 [some (.ref a0), some (.int a1)] [] S T 0 0
  unfold f_X6_isGraduate at h
  refine x_aload_n 0 g dX6_isGraduate_0 rfl rfl ?_
  refine x_iconst (v := 0) g dX6_isGraduate_1 (by decide) ?_
  obtain ⟨q_1, h⟩ := gd_e h
  refine x_puti g dX6_isGraduate_2 gXX6 0 30 rfl (by decide) rfl rfl lf_X6_1 rfl rfl q_1 ?_
  refine x_nS (fun S_2 e_3 => ?_)
  have h := glt_e e_3 h
  refine x_aload_n 0 g dX6_isGraduate_5 rfl rfl ?_
  refine x_iload_n 1 g dX6_isGraduate_6 rfl rfl ?_
  obtain ⟨r_5, q_4, h⟩ := gb_e h
  refine x_cV [.int (gz r_5)] g (k_X6_isUmbrella q_4) ca_X6_isUmbrella in_X6_isUmbrella se_X6_isUmbrella lm_X6_110 gXX6 q_1 (Nat.le_of_ble_eq_true rfl) rfl rfl (Nat.le_of_ble_eq_true rfl) dX6_isGraduate_7 rfl ?_
  refine x_if_ne 27 g dX6_isGraduate_10 (by decide) (fun c_6 => ?_) (fun c_6 => ?_)
  · have h := ite_f c_6 h
    refine x_aload_n 0 g dX6_isGraduate_27 rfl rfl ?_
    refine x_iload_n 1 g dX6_isGraduate_28 rfl rfl ?_
    refine x_bipush (v := 7) g dX6_isGraduate_29 (by decide) ?_
    obtain ⟨r_8, q_7, h⟩ := gb_e h
    refine x_cV [.int r_8] g (k_X6_of q_7) ca_X6_of in_X6_of se_X6_of lm_X6_62 gXX6 q_1 (Nat.le_of_ble_eq_true rfl) rfl rfl (Nat.le_of_ble_eq_true rfl) dX6_isGraduate_31 rfl ?_
    refine x_bipush (v := 15) g dX6_isGraduate_34 (by decide) ?_
    refine x_icmp_ne 43 g dX6_isGraduate_36 (by decide) (fun c_9 => ?_) (fun c_9 => ?_)
    · have h := ite_f c_9 h
      refine x_iconst (v := 0) g dX6_isGraduate_43 (by decide) ?_
      cases h
      exact x_zretS (b := false) g e dX6_isGraduate_44 rfl rfl rfl
    · have h := ite_t c_9 h
      refine x_iconst (v := 1) g dX6_isGraduate_39 (by decide) ?_
      refine x_goto 44 g dX6_isGraduate_40 (by decide) ?_
      cases h
      exact x_zretS (b := true) g e dX6_isGraduate_44 rfl rfl rfl
  · have h := ite_t c_6 h
    refine x_aload_n 0 g dX6_isGraduate_13 rfl rfl ?_
    refine x_iconst (v := 1) g dX6_isGraduate_14 (by decide) ?_
    obtain ⟨r_11, S_12, q_10, h⟩ := gb2_e h
    refine x_cV [.int r_11] g (k_X6_fails q_10) ca_X6_fails in_X6_fails se_X6_fails lm_X6_84 gXX6 q_1 (Nat.le_of_ble_eq_true rfl) rfl rfl (Nat.le_of_ble_eq_true rfl) dX6_isGraduate_15 rfl ?_
    refine x_if_le 25 g dX6_isGraduate_18 (by decide) (fun c_13 => ?_) (fun c_13 => ?_)
    · have h := ite_t c_13 h
      refine x_iconst (v := 0) g dX6_isGraduate_25 (by decide) ?_
      cases h
      exact x_zretS (b := false) g e dX6_isGraduate_26 rfl rfl rfl
    · have h := ite_f c_13 h
      refine x_iconst (v := 1) g dX6_isGraduate_21 (by decide) ?_
      refine x_goto 26 g dX6_isGraduate_22 (by decide) ?_
      cases h
      exact x_zretS (b := true) g e dX6_isGraduate_26 rfl rfl rfl
noncomputable def f_X6_totalReward (G : gG) (a0 : Nat) (a1 : Int32) (S : gS) : Option (Int32 × gS) := gd (gis G 3 a0) <| gb2 (f_X6_asksUmbrella G a0 a1 4 S) fun (r_3 : Int32) (S_4 : gS) => some (r_3, S_4)
set_option maxRecDepth 100000 in
set_option maxHeartbeats 4000000 in
theorem k_X6_totalReward {ad : Nat → Nat} {G : gG} {a0 : Nat} {a1 : Int32} {S S1 : gS} {T : gT} {r : Int32} (h : f_X6_totalReward G a0 a1 S = some (r, S1)) : Ct ad yX6_totalReward (Cond.code yX6_totalReward cX6_totalReward 2 (some .int) :: gTb) 3 0 0 [.ref a0, .int a1] G S T (some (.int r)) G S1 T := by
  refine Ct.ofB rfl (Nat.le_of_ble_eq_true rfl) rfl (fun K g e hK => ?_)
  obtain ⟨rfl, -⟩ := hK
  show Xj K [] G 0 [some (.ref a0), some (.int a1)] [] S T 0 0
  unfold f_X6_totalReward at h
  refine x_aload_n 0 g dX6_totalReward_0 rfl rfl ?_
  refine x_iload_n 1 g dX6_totalReward_1 rfl rfl ?_
  refine x_iconst (v := 4) g dX6_totalReward_2 (by decide) ?_
  obtain ⟨q_1, h⟩ := gd_e h
  obtain ⟨r_3, S_4, q_2, h⟩ := gb2_e h
  refine x_cV [.int r_3] g (k_X6_asksUmbrella q_2) ca_X6_asksUmbrella in_X6_asksUmbrella se_X6_asksUmbrella lm_X6_172 gXX6 q_1 (Nat.le_of_ble_eq_true rfl) rfl rfl (Nat.le_of_ble_eq_true rfl) dX6_totalReward_3 rfl ?_
  cases h
  exact x_iretS g e dX6_totalReward_6 rfl rfl
noncomputable def f_X6_termReward (G : gG) (a0 : Nat) (a1 : Int32) (S : gS) : Option (Int32 × gS) := gd (gis G 3 a0) <| gb2 (f_X6_asksUmbrella G a0 a1 5 S) fun (r_3 : Int32) (S_4 : gS) => some (r_3, S_4)
set_option maxRecDepth 100000 in
set_option maxHeartbeats 4000000 in
theorem k_X6_termReward {ad : Nat → Nat} {G : gG} {a0 : Nat} {a1 : Int32} {S S1 : gS} {T : gT} {r : Int32} (h : f_X6_termReward G a0 a1 S = some (r, S1)) : Ct ad yX6_termReward (Cond.code yX6_termReward cX6_termReward 2 (some .int) :: gTb) 3 0 0 [.ref a0, .int a1] G S T (some (.int r)) G S1 T := by
  refine Ct.ofB rfl (Nat.le_of_ble_eq_true rfl) rfl (fun K g e hK => ?_)
  obtain ⟨rfl, -⟩ := hK
  show Xj K [] G 0 [some (.ref a0), some (.int a1)] [] S T 0 0
  unfold f_X6_termReward at h
  refine x_aload_n 0 g dX6_termReward_0 rfl rfl ?_
  refine x_iload_n 1 g dX6_termReward_1 rfl rfl ?_
  refine x_iconst (v := 5) g dX6_termReward_2 (by decide) ?_
  obtain ⟨q_1, h⟩ := gd_e h
  obtain ⟨r_3, S_4, q_2, h⟩ := gb2_e h
  refine x_cV [.int r_3] g (k_X6_asksUmbrella q_2) ca_X6_asksUmbrella in_X6_asksUmbrella se_X6_asksUmbrella lm_X6_172 gXX6 q_1 (Nat.le_of_ble_eq_true rfl) rfl rfl (Nat.le_of_ble_eq_true rfl) dX6_termReward_3 rfl ?_
  cases h
  exact x_iretS g e dX6_termReward_6 rfl rfl
noncomputable def f_X6_stars (G : gG) (a0 : Nat) (a1 : Int32) (S : gS) : Option (Int32 × gS) := gd (gis G 3 a0) <| gb2 (f_X6_asksUmbrella G a0 a1 6 S) fun (r_3 : Int32) (S_4 : gS) => some (r_3, S_4)
set_option maxRecDepth 100000 in
set_option maxHeartbeats 4000000 in
theorem k_X6_stars {ad : Nat → Nat} {G : gG} {a0 : Nat} {a1 : Int32} {S S1 : gS} {T : gT} {r : Int32} (h : f_X6_stars G a0 a1 S = some (r, S1)) : Ct ad yX6_stars (Cond.code yX6_stars cX6_stars 2 (some .int) :: gTb) 3 0 0 [.ref a0, .int a1] G S T (some (.int r)) G S1 T := by
  refine Ct.ofB rfl (Nat.le_of_ble_eq_true rfl) rfl (fun K g e hK => ?_)
  obtain ⟨rfl, -⟩ := hK
  show Xj K [] G 0 [some (.ref a0), some (.int a1)] [] S T 0 0
  unfold f_X6_stars at h
  refine x_aload_n 0 g dX6_stars_0 rfl rfl ?_
  refine x_iload_n 1 g dX6_stars_1 rfl rfl ?_
  refine x_bipush (v := 6) g dX6_stars_2 (by decide) ?_
  obtain ⟨q_1, h⟩ := gd_e h
  obtain ⟨r_3, S_4, q_2, h⟩ := gb2_e h
  refine x_cV [.int r_3] g (k_X6_asksUmbrella q_2) ca_X6_asksUmbrella in_X6_asksUmbrella se_X6_asksUmbrella lm_X6_172 gXX6 q_1 (Nat.le_of_ble_eq_true rfl) rfl rfl (Nat.le_of_ble_eq_true rfl) dX6_stars_4 rfl ?_
  cases h
  exact x_iretS g e dX6_stars_7 rfl rfl
noncomputable def f_X6_isAhead (G : gG) (a0 : Nat) (a1 : Int32) (a2 : Int32) (S : gS) : Option Bool := gd (gis G 3 a0) <| gb (f_X6_of G a0 a1 6 S) fun (r_3 : Int32) => gb (f_X6_of G a0 a2 6 S) fun (r_5 : Int32) => glt (r_3 - r_5) fun (x3_6 : Int32) => gb (f_X6_of G a0 a1 4 S) fun (r_9 : Int32) => gb (f_X6_of G a0 a2 4 S) fun (r_11 : Int32) => glt (r_9 - r_11) fun (x4_12 : Int32) => if x3_6 = 0 then (if x4_12 = 0 then (if a2 ≤ a1 then (some false) else (some true)) else (if x4_12 ≤ 0 then (some false) else (some true))) else (if x3_6 ≤ 0 then (some false) else (some true))
set_option maxRecDepth 100000 in
set_option maxHeartbeats 4000000 in
theorem k_X6_isAhead {ad : Nat → Nat} {G : gG} {a0 : Nat} {a1 : Int32} {a2 : Int32} {S : gS} {T : gT} {r : Bool} (h : f_X6_isAhead G a0 a1 a2 S = some r) : Ct ad yX6_isAhead (Cond.code yX6_isAhead cX6_isAhead 5 (some .boolean) :: gTb) 1 0 0 [.ref a0, .int a1, .int a2] G S T (some (.int (gz r))) G S T := by
  refine Ct.ofB rfl (Nat.le_of_ble_eq_true rfl) rfl (fun K g e hK => ?_)
  obtain ⟨rfl, -⟩ := hK
  show Xj K [] G 0 [some (.ref a0), some (.int a1), some (.int a2), none, none] [] S T 0 0
  unfold f_X6_isAhead at h
  refine x_aload_n 0 g dX6_isAhead_0 rfl rfl ?_
  refine x_iload_n 1 g dX6_isAhead_1 rfl rfl ?_
  refine x_bipush (v := 6) g dX6_isAhead_2 (by decide) ?_
  obtain ⟨q_1, h⟩ := gd_e h
  obtain ⟨r_3, q_2, h⟩ := gb_e h
  refine x_cV [.int r_3] g (k_X6_of q_2) ca_X6_of in_X6_of se_X6_of lm_X6_62 gXX6 q_1 (Nat.le_of_ble_eq_true rfl) rfl rfl (Nat.le_of_ble_eq_true rfl) dX6_isAhead_4 rfl ?_
  refine x_aload_n 0 g dX6_isAhead_7 rfl rfl ?_
  refine x_iload_n 2 g dX6_isAhead_8 rfl rfl ?_
  refine x_bipush (v := 6) g dX6_isAhead_9 (by decide) ?_
  obtain ⟨r_5, q_4, h⟩ := gb_e h
  refine x_cV [.int r_5, .int r_3] g (k_X6_of q_4) ca_X6_of in_X6_of se_X6_of lm_X6_62 gXX6 q_1 (Nat.le_of_ble_eq_true rfl) rfl rfl (Nat.le_of_ble_eq_true rfl) dX6_isAhead_11 rfl ?_
  refine x_isub g dX6_isAhead_14 ?_
  refine x_nI (fun x3_6 e_7 => ?_)
  have h := glt_e e_7 h
  refine x_istore_n 3 g dX6_isAhead_15 rfl (Nat.le_of_ble_eq_true rfl) rfl ?_
  refine x_aload_n 0 g dX6_isAhead_16 rfl rfl ?_
  refine x_iload_n 1 g dX6_isAhead_17 rfl rfl ?_
  refine x_iconst (v := 4) g dX6_isAhead_18 (by decide) ?_
  obtain ⟨r_9, q_8, h⟩ := gb_e h
  refine x_cV [.int r_9] g (k_X6_of q_8) ca_X6_of in_X6_of se_X6_of lm_X6_62 gXX6 q_1 (Nat.le_of_ble_eq_true rfl) rfl rfl (Nat.le_of_ble_eq_true rfl) dX6_isAhead_19 rfl ?_
  refine x_aload_n 0 g dX6_isAhead_22 rfl rfl ?_
  refine x_iload_n 2 g dX6_isAhead_23 rfl rfl ?_
  refine x_iconst (v := 4) g dX6_isAhead_24 (by decide) ?_
  obtain ⟨r_11, q_10, h⟩ := gb_e h
  refine x_cV [.int r_11, .int r_9] g (k_X6_of q_10) ca_X6_of in_X6_of se_X6_of lm_X6_62 gXX6 q_1 (Nat.le_of_ble_eq_true rfl) rfl rfl (Nat.le_of_ble_eq_true rfl) dX6_isAhead_25 rfl ?_
  refine x_isub g dX6_isAhead_28 ?_
  refine x_nI (fun x4_12 e_13 => ?_)
  have h := glt_e e_13 h
  refine x_istore (i := 4) g dX6_isAhead_29 (Nat.le_of_ble_eq_true rfl) rfl ?_
  refine x_iload_n 3 g dX6_isAhead_31 rfl rfl ?_
  refine x_if_eq 45 g dX6_isAhead_32 (by decide) (fun c_14 => ?_) (fun c_14 => ?_)
  · have h := ite_t c_14 h
    refine x_iload (i := 4) g dX6_isAhead_45 rfl ?_
    refine x_if_eq 63 g dX6_isAhead_47 (by decide) (fun c_15 => ?_) (fun c_15 => ?_)
    · have h := ite_t c_15 h
      refine x_iload_n 1 g dX6_isAhead_63 rfl rfl ?_
      refine x_iload_n 2 g dX6_isAhead_64 rfl rfl ?_
      refine x_icmp_ge 72 g dX6_isAhead_65 (by decide) (fun c_16 => ?_) (fun c_16 => ?_)
      · have h := ite_t c_16 h
        refine x_iconst (v := 0) g dX6_isAhead_72 (by decide) ?_
        cases h
        exact x_zretS (b := false) g e dX6_isAhead_73 rfl rfl rfl
      · have h := ite_f c_16 h
        refine x_iconst (v := 1) g dX6_isAhead_68 (by decide) ?_
        refine x_goto 73 g dX6_isAhead_69 (by decide) ?_
        cases h
        exact x_zretS (b := true) g e dX6_isAhead_73 rfl rfl rfl
    · have h := ite_f c_15 h
      refine x_iload (i := 4) g dX6_isAhead_50 rfl ?_
      refine x_if_le 59 g dX6_isAhead_52 (by decide) (fun c_17 => ?_) (fun c_17 => ?_)
      · have h := ite_t c_17 h
        refine x_iconst (v := 0) g dX6_isAhead_59 (by decide) ?_
        refine x_goto 73 g dX6_isAhead_60 (by decide) ?_
        cases h
        exact x_zretS (b := false) g e dX6_isAhead_73 rfl rfl rfl
      · have h := ite_f c_17 h
        refine x_iconst (v := 1) g dX6_isAhead_55 (by decide) ?_
        refine x_goto 73 g dX6_isAhead_56 (by decide) ?_
        cases h
        exact x_zretS (b := true) g e dX6_isAhead_73 rfl rfl rfl
  · have h := ite_f c_14 h
    refine x_iload_n 3 g dX6_isAhead_35 rfl rfl ?_
    refine x_if_le 43 g dX6_isAhead_36 (by decide) (fun c_18 => ?_) (fun c_18 => ?_)
    · have h := ite_t c_18 h
      refine x_iconst (v := 0) g dX6_isAhead_43 (by decide) ?_
      cases h
      exact x_zretS (b := false) g e dX6_isAhead_44 rfl rfl rfl
    · have h := ite_f c_18 h
      refine x_iconst (v := 1) g dX6_isAhead_39 (by decide) ?_
      refine x_goto 44 g dX6_isAhead_40 (by decide) ?_
      cases h
      exact x_zretS (b := true) g e dX6_isAhead_44 rfl rfl rfl
noncomputable def f_X6_umbrellaByStars_L22 (G : gG) (a0 : Nat) (a1 : Int32) (kO_7 : Int32 → gS → Option (Int32 × gS)) : Nat → Int32 → Int32 → Int32 → gS → Option (Int32 × gS)
  | 0, _, _, _, _ => none
  | n22 + 1, x2, x3, x4, S => gd (gis G 3 a0) <| gb (gP S 10 a0) fun (b_14 : Nat) => gd (gis G 7 b_14) <| gd (vp_in 0 (gn G b_14)) <| if (gr S b_14 (Int32.toNatClampNeg 0)) ≤ x4 then (if x3 = a1 then (some (x2, S)) else (glt (x2 + 1) fun (x2_20 : Int32) => kO_7 x2_20 S)) else (gb (f_X6_isAhead G a0 x4 x2 S) fun (r_23 : Bool) => if (gz r_23) = 0 then (glt (x3 + 0) fun (x3_25 : Int32) => glt (x4 + 1) fun (x4_27 : Int32) => f_X6_umbrellaByStars_L22 G a0 a1 kO_7 n22 x2 x3_25 x4_27 S) else (glt (x3 + 1) fun (x3_29 : Int32) => glt (x4 + 1) fun (x4_31 : Int32) => f_X6_umbrellaByStars_L22 G a0 a1 kO_7 n22 x2 x3_29 x4_31 S))
noncomputable def f_X6_umbrellaByStars_L7 (G : gG) (a0 : Nat) (a1 : Int32) : Nat → Int32 → gS → Option (Int32 × gS)
  | 0, _, _ => none
  | n7 + 1, x2, S => gd (gis G 3 a0) <| gb (gP S 10 a0) fun (b_5 : Nat) => gd (gis G 7 b_5) <| gd (vp_in 0 (gn G b_5)) <| if (gr S b_5 (Int32.toNatClampNeg 0)) ≤ x2 then (gb2 (f_X6_fails G a0 1 S) fun (r_11 : Int32) (S_12 : gS) => some (r_11, S_12)) else (f_X6_umbrellaByStars_L22 G a0 a1 (fun y2 Sy => f_X6_umbrellaByStars_L7 G a0 a1 n7 y2 Sy) gN x2 0 0 S)
noncomputable def f_X6_umbrellaByStars (G : gG) (a0 : Nat) (a1 : Int32) (S : gS) : Option (Int32 × gS) := gd (gis G 3 a0) <| glt (sI S 30 a0 0) fun (S_2 : gS) => f_X6_umbrellaByStars_L7 G a0 a1 gN 0 S_2
set_option maxRecDepth 100000 in
set_option maxHeartbeats 4000000 in
theorem k_X6_umbrellaByStars {ad : Nat → Nat} {G : gG} {a0 : Nat} {a1 : Int32} {S S1 : gS} {T : gT} {r : Int32} (h : f_X6_umbrellaByStars G a0 a1 S = some (r, S1)) : Ct ad yX6_umbrellaByStars (Cond.code yX6_umbrellaByStars cX6_umbrellaByStars 5 (some .int) :: gTb) 2 0 0 [.ref a0, .int a1] G S T (some (.int r)) G S1 T := by
  refine Ct.ofB rfl (Nat.le_of_ble_eq_true rfl) rfl (fun K g e hK => ?_)
  obtain ⟨rfl, -⟩ := hK
  show Xj K [] G 0 [some (.ref a0), some (.int a1), none, none, none] [] S T 0 0
  unfold f_X6_umbrellaByStars at h
  refine x_aload_n 0 g dX6_umbrellaByStars_0 rfl rfl ?_
  refine x_iconst (v := 0) g dX6_umbrellaByStars_1 (by decide) ?_
  obtain ⟨q_1, h⟩ := gd_e h
  refine x_puti g dX6_umbrellaByStars_2 gXX6 0 30 rfl (by decide) rfl rfl lf_X6_1 rfl rfl q_1 ?_
  refine x_nS (fun S_2 e_3 => ?_)
  have h := glt_e e_3 h
  refine x_iconst (v := 0) g dX6_umbrellaByStars_5 (by decide) ?_
  refine x_istore_n 2 g dX6_umbrellaByStars_6 rfl (Nat.le_of_ble_eq_true rfl) rfl ?_
  have L7 : ∀ (n7 : Nat) (x2 : Int32) (S : gS), f_X6_umbrellaByStars_L7 G a0 a1 n7 x2 S = some (r, S1) → Xj K [] G 7 [some (.ref a0), some (.int a1), some (.int x2), none, none] [] S T 0 0 := by
    intro n7
    induction n7 with
    | zero =>
      intro x2 S h
      rw [f_X6_umbrellaByStars_L7] at h
      cases h
    | succ n7 ih =>
      intro x2 S h
      rw [f_X6_umbrellaByStars_L7] at h
      refine x_iload_n 2 g dX6_umbrellaByStars_7 rfl rfl ?_
      refine x_aload_n 0 g dX6_umbrellaByStars_8 rfl rfl ?_
      obtain ⟨q_4, h⟩ := gd_e h
      obtain ⟨b_5, e_6, h⟩ := gb_e h
      refine x_getr g dX6_umbrellaByStars_9 gXX6 1 10 rfl (by decide) rfl lf_X6_13 q_4 e_6 ?_
      refine x_iconst (v := 0) g dX6_umbrellaByStars_12 (by decide) ?_
      obtain ⟨q_7, h⟩ := gd_e h
      obtain ⟨q_8, h⟩ := gd_e h
      refine x_iald g dX6_umbrellaByStars_13 q_7 q_8 ?_
      refine x_icmp_ge 70 g dX6_umbrellaByStars_14 (by decide) (fun c_9 => ?_) (fun c_9 => ?_)
      · have h := ite_t c_9 h
        refine x_aload_n 0 g dX6_umbrellaByStars_70 rfl rfl ?_
        refine x_iconst (v := 1) g dX6_umbrellaByStars_71 (by decide) ?_
        obtain ⟨r_11, S_12, q_10, h⟩ := gb2_e h
        refine x_cV [.int r_11] g (k_X6_fails q_10) ca_X6_fails in_X6_fails se_X6_fails lm_X6_84 gXX6 q_4 (Nat.le_of_ble_eq_true rfl) rfl rfl (Nat.le_of_ble_eq_true rfl) dX6_umbrellaByStars_72 rfl ?_
        cases h
        exact x_iretS g e dX6_umbrellaByStars_75 rfl rfl
      · have h := ite_f c_9 h
        refine x_iconst (v := 0) g dX6_umbrellaByStars_17 (by decide) ?_
        refine x_istore_n 3 g dX6_umbrellaByStars_18 rfl (Nat.le_of_ble_eq_true rfl) rfl ?_
        refine x_iconst (v := 0) g dX6_umbrellaByStars_19 (by decide) ?_
        refine x_istore (i := 4) g dX6_umbrellaByStars_20 (Nat.le_of_ble_eq_true rfl) rfl ?_
        have ih_7 := ih
        have L22 : ∀ (n22 : Nat) (x2 : Int32) (x3 : Int32) (x4 : Int32) (S : gS), f_X6_umbrellaByStars_L22 G a0 a1 (fun y2 Sy => f_X6_umbrellaByStars_L7 G a0 a1 n7 y2 Sy) n22 x2 x3 x4 S = some (r, S1) → Xj K [] G 22 [some (.ref a0), some (.int a1), some (.int x2), some (.int x3), some (.int x4)] [] S T 0 0 := by
          intro n22
          induction n22 with
          | zero =>
            intro x2 x3 x4 S h
            rw [f_X6_umbrellaByStars_L22] at h
            cases h
          | succ n22 ih =>
            intro x2 x3 x4 S h
            rw [f_X6_umbrellaByStars_L22] at h
            refine x_iload (i := 4) g dX6_umbrellaByStars_22 rfl ?_
            refine x_aload_n 0 g dX6_umbrellaByStars_24 rfl rfl ?_
            obtain ⟨q_13, h⟩ := gd_e h
            obtain ⟨b_14, e_15, h⟩ := gb_e h
            refine x_getr g dX6_umbrellaByStars_25 gXX6 1 10 rfl (by decide) rfl lf_X6_13 q_13 e_15 ?_
            refine x_iconst (v := 0) g dX6_umbrellaByStars_28 (by decide) ?_
            obtain ⟨q_16, h⟩ := gd_e h
            obtain ⟨q_17, h⟩ := gd_e h
            refine x_iald g dX6_umbrellaByStars_29 q_16 q_17 ?_
            refine x_icmp_ge 57 g dX6_umbrellaByStars_30 (by decide) (fun c_18 => ?_) (fun c_18 => ?_)
            · have h := ite_t c_18 h
              refine x_iload_n 3 g dX6_umbrellaByStars_57 rfl rfl ?_
              refine x_iload_n 1 g dX6_umbrellaByStars_58 rfl rfl ?_
              refine x_icmp_ne 64 g dX6_umbrellaByStars_59 (by decide) (fun c_19 => ?_) (fun c_19 => ?_)
              · have h := ite_f c_19 h
                obtain ⟨x2_20, e_21⟩ : ∃ z : Int32, z = x2 + 1 := ⟨_, rfl⟩
                have h := glt_e e_21 h
                refine x_iinc (v := x2_20) g dX6_umbrellaByStars_64 rfl (by rw [e_21]; rfl) rfl ?_
                refine x_goto 7 g dX6_umbrellaByStars_67 (by decide) ?_
                refine x_dr 3 ?_
                refine x_dr 4 ?_
                exact ih_7 _ _ h
              · have h := ite_t c_19 h
                refine x_iload_n 2 g dX6_umbrellaByStars_62 rfl rfl ?_
                cases h
                exact x_iretS g e dX6_umbrellaByStars_63 rfl rfl
            · have h := ite_f c_18 h
              refine x_iload_n 3 g dX6_umbrellaByStars_33 rfl rfl ?_
              refine x_aload_n 0 g dX6_umbrellaByStars_34 rfl rfl ?_
              refine x_iload (i := 4) g dX6_umbrellaByStars_35 rfl ?_
              refine x_iload_n 2 g dX6_umbrellaByStars_37 rfl rfl ?_
              obtain ⟨r_23, q_22, h⟩ := gb_e h
              refine x_cV [.int (gz r_23), .int x3] g (k_X6_isAhead q_22) ca_X6_isAhead in_X6_isAhead se_X6_isAhead lm_X6_191 gXX6 q_13 (Nat.le_of_ble_eq_true rfl) rfl rfl (Nat.le_of_ble_eq_true rfl) dX6_umbrellaByStars_38 rfl ?_
              refine x_if_eq 48 g dX6_umbrellaByStars_41 (by decide) (fun c_24 => ?_) (fun c_24 => ?_)
              · have h := ite_t c_24 h
                refine x_iconst (v := 0) g dX6_umbrellaByStars_48 (by decide) ?_
                refine x_iadd g dX6_umbrellaByStars_49 ?_
                refine x_nI (fun x3_25 e_26 => ?_)
                have h := glt_e e_26 h
                refine x_istore_n 3 g dX6_umbrellaByStars_50 rfl (Nat.le_of_ble_eq_true rfl) rfl ?_
                obtain ⟨x4_27, e_28⟩ : ∃ z : Int32, z = x4 + 1 := ⟨_, rfl⟩
                have h := glt_e e_28 h
                refine x_iinc (v := x4_27) g dX6_umbrellaByStars_51 rfl (by rw [e_28]; rfl) rfl ?_
                refine x_goto 22 g dX6_umbrellaByStars_54 (by decide) ?_
                exact ih _ _ _ _ h
              · have h := ite_f c_24 h
                refine x_iconst (v := 1) g dX6_umbrellaByStars_44 (by decide) ?_
                refine x_goto 49 g dX6_umbrellaByStars_45 (by decide) ?_
                refine x_iadd g dX6_umbrellaByStars_49 ?_
                refine x_nI (fun x3_29 e_30 => ?_)
                have h := glt_e e_30 h
                refine x_istore_n 3 g dX6_umbrellaByStars_50 rfl (Nat.le_of_ble_eq_true rfl) rfl ?_
                obtain ⟨x4_31, e_32⟩ : ∃ z : Int32, z = x4 + 1 := ⟨_, rfl⟩
                have h := glt_e e_32 h
                refine x_iinc (v := x4_31) g dX6_umbrellaByStars_51 rfl (by rw [e_32]; rfl) rfl ?_
                refine x_goto 22 g dX6_umbrellaByStars_54 (by decide) ?_
                exact ih _ _ _ _ h
        exact L22 gN _ _ _ _ h
  exact L7 gN _ _ h
noncomputable def f_X6_wetPenalty (G : gG) (a0 : Nat) (S : gS) : Option (Int32 × gS) := gd (gis G 3 a0) <| gb2 (f_X6_asks G a0 1 S) fun (r_3 : Int32) (S_4 : gS) => some (r_3, S_4)
set_option maxRecDepth 100000 in
set_option maxHeartbeats 4000000 in
theorem k_X6_wetPenalty {ad : Nat → Nat} {G : gG} {a0 : Nat} {S S1 : gS} {T : gT} {r : Int32} (h : f_X6_wetPenalty G a0 S = some (r, S1)) : Ct ad yX6_wetPenalty (Cond.code yX6_wetPenalty cX6_wetPenalty 1 (some .int) :: gTb) 1 0 0 [.ref a0] G S T (some (.int r)) G S1 T := by
  refine Ct.ofB rfl (Nat.le_of_ble_eq_true rfl) rfl (fun K g e hK => ?_)
  obtain ⟨rfl, -⟩ := hK
  show Xj K [] G 0 [some (.ref a0)] [] S T 0 0
  unfold f_X6_wetPenalty at h
  refine x_aload_n 0 g dX6_wetPenalty_0 rfl rfl ?_
  refine x_iconst (v := 1) g dX6_wetPenalty_1 (by decide) ?_
  obtain ⟨q_1, h⟩ := gd_e h
  obtain ⟨r_3, S_4, q_2, h⟩ := gb2_e h
  refine x_cV [.int r_3] g (k_X6_asks q_2) ca_X6_asks in_X6_asks se_X6_asks lm_X6_169 gXX6 q_1 (Nat.le_of_ble_eq_true rfl) rfl rfl (Nat.le_of_ble_eq_true rfl) dX6_wetPenalty_2 rfl ?_
  cases h
  exact x_iretS g e dX6_wetPenalty_5 rfl rfl
noncomputable def f_X6_galePenalty (G : gG) (a0 : Nat) (S : gS) : Option (Int32 × gS) := gd (gis G 3 a0) <| gb2 (f_X6_asks G a0 2 S) fun (r_3 : Int32) (S_4 : gS) => some (r_3, S_4)
set_option maxRecDepth 100000 in
set_option maxHeartbeats 4000000 in
theorem k_X6_galePenalty {ad : Nat → Nat} {G : gG} {a0 : Nat} {S S1 : gS} {T : gT} {r : Int32} (h : f_X6_galePenalty G a0 S = some (r, S1)) : Ct ad yX6_galePenalty (Cond.code yX6_galePenalty cX6_galePenalty 1 (some .int) :: gTb) 1 0 0 [.ref a0] G S T (some (.int r)) G S1 T := by
  refine Ct.ofB rfl (Nat.le_of_ble_eq_true rfl) rfl (fun K g e hK => ?_)
  obtain ⟨rfl, -⟩ := hK
  show Xj K [] G 0 [some (.ref a0)] [] S T 0 0
  unfold f_X6_galePenalty at h
  refine x_aload_n 0 g dX6_galePenalty_0 rfl rfl ?_
  refine x_iconst (v := 2) g dX6_galePenalty_1 (by decide) ?_
  obtain ⟨q_1, h⟩ := gd_e h
  obtain ⟨r_3, S_4, q_2, h⟩ := gb2_e h
  refine x_cV [.int r_3] g (k_X6_asks q_2) ca_X6_asks in_X6_asks se_X6_asks lm_X6_169 gXX6 q_1 (Nat.le_of_ble_eq_true rfl) rfl rfl (Nat.le_of_ble_eq_true rfl) dX6_galePenalty_2 rfl ?_
  cases h
  exact x_iretS g e dX6_galePenalty_5 rfl rfl
noncomputable def f_X6_term (G : gG) (a0 : Nat) (S : gS) : Option (Int32 × gS) := gd (gis G 3 a0) <| gb2 (f_X6_asks G a0 3 S) fun (r_3 : Int32) (S_4 : gS) => some (r_3, S_4)
set_option maxRecDepth 100000 in
set_option maxHeartbeats 4000000 in
theorem k_X6_term {ad : Nat → Nat} {G : gG} {a0 : Nat} {S S1 : gS} {T : gT} {r : Int32} (h : f_X6_term G a0 S = some (r, S1)) : Ct ad yX6_term (Cond.code yX6_term cX6_term 1 (some .int) :: gTb) 1 0 0 [.ref a0] G S T (some (.int r)) G S1 T := by
  refine Ct.ofB rfl (Nat.le_of_ble_eq_true rfl) rfl (fun K g e hK => ?_)
  obtain ⟨rfl, -⟩ := hK
  show Xj K [] G 0 [some (.ref a0)] [] S T 0 0
  unfold f_X6_term at h
  refine x_aload_n 0 g dX6_term_0 rfl rfl ?_
  refine x_iconst (v := 3) g dX6_term_1 (by decide) ?_
  obtain ⟨q_1, h⟩ := gd_e h
  obtain ⟨r_3, S_4, q_2, h⟩ := gb2_e h
  refine x_cV [.int r_3] g (k_X6_asks q_2) ca_X6_asks in_X6_asks se_X6_asks lm_X6_169 gXX6 q_1 (Nat.le_of_ble_eq_true rfl) rfl rfl (Nat.le_of_ble_eq_true rfl) dX6_term_2 rfl ?_
  cases h
  exact x_iretS g e dX6_term_5 rfl rfl
noncomputable def f_X6_rewardAll_L4 (G : gG) (a0 : Nat) (S : gS) : Nat → Int32 → Int32 → Option Int32
  | 0, _, _ => none
  | n4 + 1, x1, x2 => gd (gis G 3 a0) <| gb (gP S 10 a0) fun (b_2 : Nat) => gd (gis G 7 b_2) <| gd (vp_in 0 (gn G b_2)) <| if (gr S b_2 (Int32.toNatClampNeg 0)) ≤ x2 then (some x1) else (gb (f_X6_of G a0 x2 4 S) fun (r_8 : Int32) => glt (x1 + r_8) fun (x1_9 : Int32) => glt (x2 + 1) fun (x2_11 : Int32) => f_X6_rewardAll_L4 G a0 S n4 x1_9 x2_11)
noncomputable def f_X6_rewardAll (G : gG) (a0 : Nat) (S : gS) : Option Int32 := f_X6_rewardAll_L4 G a0 S gN 0 0
set_option maxRecDepth 100000 in
set_option maxHeartbeats 4000000 in
theorem k_X6_rewardAll {ad : Nat → Nat} {G : gG} {a0 : Nat} {S : gS} {T : gT} {r : Int32} (h : f_X6_rewardAll G a0 S = some r) : Ct ad yX6_rewardAll (Cond.code yX6_rewardAll cX6_rewardAll 3 (some .int) :: gTb) 1 0 0 [.ref a0] G S T (some (.int r)) G S T := by
  refine Ct.ofB rfl (Nat.le_of_ble_eq_true rfl) rfl (fun K g e hK => ?_)
  obtain ⟨rfl, -⟩ := hK
  show Xj K [] G 0 [some (.ref a0), none, none] [] S T 0 0
  unfold f_X6_rewardAll at h
  refine x_iconst (v := 0) g dX6_rewardAll_0 (by decide) ?_
  refine x_istore_n 1 g dX6_rewardAll_1 rfl (Nat.le_of_ble_eq_true rfl) rfl ?_
  refine x_iconst (v := 0) g dX6_rewardAll_2 (by decide) ?_
  refine x_istore_n 2 g dX6_rewardAll_3 rfl (Nat.le_of_ble_eq_true rfl) rfl ?_
  have L4 : ∀ (n4 : Nat) (x1 : Int32) (x2 : Int32), f_X6_rewardAll_L4 G a0 S n4 x1 x2 = some r → Xj K [] G 4 [some (.ref a0), some (.int x1), some (.int x2)] [] S T 0 0 := by
    intro n4
    induction n4 with
    | zero =>
      intro x1 x2 h
      rw [f_X6_rewardAll_L4] at h
      cases h
    | succ n4 ih =>
      intro x1 x2 h
      rw [f_X6_rewardAll_L4] at h
      refine x_iload_n 2 g dX6_rewardAll_4 rfl rfl ?_
      refine x_aload_n 0 g dX6_rewardAll_5 rfl rfl ?_
      obtain ⟨q_1, h⟩ := gd_e h
      obtain ⟨b_2, e_3, h⟩ := gb_e h
      refine x_getr g dX6_rewardAll_6 gXX6 1 10 rfl (by decide) rfl lf_X6_13 q_1 e_3 ?_
      refine x_iconst (v := 0) g dX6_rewardAll_9 (by decide) ?_
      obtain ⟨q_4, h⟩ := gd_e h
      obtain ⟨q_5, h⟩ := gd_e h
      refine x_iald g dX6_rewardAll_10 q_4 q_5 ?_
      refine x_icmp_ge 29 g dX6_rewardAll_11 (by decide) (fun c_6 => ?_) (fun c_6 => ?_)
      · have h := ite_t c_6 h
        refine x_iload_n 1 g dX6_rewardAll_29 rfl rfl ?_
        cases h
        exact x_iretS g e dX6_rewardAll_30 rfl rfl
      · have h := ite_f c_6 h
        refine x_iload_n 1 g dX6_rewardAll_14 rfl rfl ?_
        refine x_aload_n 0 g dX6_rewardAll_15 rfl rfl ?_
        refine x_iload_n 2 g dX6_rewardAll_16 rfl rfl ?_
        refine x_iconst (v := 4) g dX6_rewardAll_17 (by decide) ?_
        obtain ⟨r_8, q_7, h⟩ := gb_e h
        refine x_cV [.int r_8, .int x1] g (k_X6_of q_7) ca_X6_of in_X6_of se_X6_of lm_X6_62 gXX6 q_1 (Nat.le_of_ble_eq_true rfl) rfl rfl (Nat.le_of_ble_eq_true rfl) dX6_rewardAll_18 rfl ?_
        refine x_iadd g dX6_rewardAll_21 ?_
        refine x_nI (fun x1_9 e_10 => ?_)
        have h := glt_e e_10 h
        refine x_istore_n 1 g dX6_rewardAll_22 rfl (Nat.le_of_ble_eq_true rfl) rfl ?_
        obtain ⟨x2_11, e_12⟩ : ∃ z : Int32, z = x2 + 1 := ⟨_, rfl⟩
        have h := glt_e e_12 h
        refine x_iinc (v := x2_11) g dX6_rewardAll_23 rfl (by rw [e_12]; rfl) rfl ?_
        refine x_goto 4 g dX6_rewardAll_26 (by decide) ?_
        exact ih _ _ h
  exact L4 gN _ _ h
noncomputable def f_X6_schoolReward (G : gG) (a0 : Nat) (S : gS) : Option (Int32 × gS) := gd (gis G 3 a0) <| glt (sI S 30 a0 0) fun (S_2 : gS) => gb (f_X6_rewardAll G a0 S_2) fun (r_5 : Int32) => some (r_5, S_2)
set_option maxRecDepth 100000 in
set_option maxHeartbeats 4000000 in
theorem k_X6_schoolReward {ad : Nat → Nat} {G : gG} {a0 : Nat} {S S1 : gS} {T : gT} {r : Int32} (h : f_X6_schoolReward G a0 S = some (r, S1)) : Ct ad yX6_schoolReward (Cond.code yX6_schoolReward cX6_schoolReward 1 (some .int) :: gTb) 2 0 0 [.ref a0] G S T (some (.int r)) G S1 T := by
  refine Ct.ofB rfl (Nat.le_of_ble_eq_true rfl) rfl (fun K g e hK => ?_)
  obtain ⟨rfl, -⟩ := hK
  show Xj K [] G 0 [some (.ref a0)] [] S T 0 0
  unfold f_X6_schoolReward at h
  refine x_aload_n 0 g dX6_schoolReward_0 rfl rfl ?_
  refine x_iconst (v := 0) g dX6_schoolReward_1 (by decide) ?_
  obtain ⟨q_1, h⟩ := gd_e h
  refine x_puti g dX6_schoolReward_2 gXX6 0 30 rfl (by decide) rfl rfl lf_X6_1 rfl rfl q_1 ?_
  refine x_nS (fun S_2 e_3 => ?_)
  have h := glt_e e_3 h
  refine x_aload_n 0 g dX6_schoolReward_5 rfl rfl ?_
  obtain ⟨r_5, q_4, h⟩ := gb_e h
  refine x_cV [.int r_5] g (k_X6_rewardAll q_4) ca_X6_rewardAll in_X6_rewardAll se_X6_rewardAll lm_X6_194 gXX6 q_1 (Nat.le_of_ble_eq_true rfl) rfl rfl (Nat.le_of_ble_eq_true rfl) dX6_schoolReward_6 rfl ?_
  cases h
  exact x_iretS g e dX6_schoolReward_9 rfl rfl
noncomputable def f_X6_schoolRewardByActions (G : gG) (a0 : Nat) (S : gS) : Option (Int32 × gS) := gd (gis G 3 a0) <| glt (sI S 30 a0 0) fun (S_2 : gS) => gb (gP S_2 10 a0) fun (b_4 : Nat) => gd (gis G 7 b_4) <| gd (vp_in 4 (gn G b_4)) <| gb (gP S_2 10 a0) fun (b_8 : Nat) => gd (gis G 7 b_8) <| gd (vp_in 5 (gn G b_8)) <| some ((gr S_2 b_4 (Int32.toNatClampNeg 4)) + (gr S_2 b_8 (Int32.toNatClampNeg 5)), S_2)
set_option maxRecDepth 100000 in
set_option maxHeartbeats 4000000 in
theorem k_X6_schoolRewardByActions {ad : Nat → Nat} {G : gG} {a0 : Nat} {S S1 : gS} {T : gT} {r : Int32} (h : f_X6_schoolRewardByActions G a0 S = some (r, S1)) : Ct ad yX6_schoolRewardByActions (Cond.code yX6_schoolRewardByActions cX6_schoolRewardByActions 1 (some .int) :: gTb) 0 0 0 [.ref a0] G S T (some (.int r)) G S1 T := by
  refine Ct.ofB rfl (Nat.le_of_ble_eq_true rfl) rfl (fun K g e hK => ?_)
  obtain ⟨rfl, -⟩ := hK
  show Xj K [] G 0 [some (.ref a0)] [] S T 0 0
  unfold f_X6_schoolRewardByActions at h
  refine x_aload_n 0 g dX6_schoolRewardByActions_0 rfl rfl ?_
  refine x_iconst (v := 0) g dX6_schoolRewardByActions_1 (by decide) ?_
  obtain ⟨q_1, h⟩ := gd_e h
  refine x_puti g dX6_schoolRewardByActions_2 gXX6 0 30 rfl (by decide) rfl rfl lf_X6_1 rfl rfl q_1 ?_
  refine x_nS (fun S_2 e_3 => ?_)
  have h := glt_e e_3 h
  refine x_aload_n 0 g dX6_schoolRewardByActions_5 rfl rfl ?_
  obtain ⟨b_4, e_5, h⟩ := gb_e h
  refine x_getr g dX6_schoolRewardByActions_6 gXX6 1 10 rfl (by decide) rfl lf_X6_13 q_1 e_5 ?_
  refine x_iconst (v := 4) g dX6_schoolRewardByActions_9 (by decide) ?_
  obtain ⟨q_6, h⟩ := gd_e h
  obtain ⟨q_7, h⟩ := gd_e h
  refine x_iald g dX6_schoolRewardByActions_10 q_6 q_7 ?_
  refine x_aload_n 0 g dX6_schoolRewardByActions_11 rfl rfl ?_
  obtain ⟨b_8, e_9, h⟩ := gb_e h
  refine x_getr g dX6_schoolRewardByActions_12 gXX6 1 10 rfl (by decide) rfl lf_X6_13 q_1 e_9 ?_
  refine x_iconst (v := 5) g dX6_schoolRewardByActions_15 (by decide) ?_
  obtain ⟨q_10, h⟩ := gd_e h
  obtain ⟨q_11, h⟩ := gd_e h
  refine x_iald g dX6_schoolRewardByActions_16 q_10 q_11 ?_
  refine x_iadd g dX6_schoolRewardByActions_17 ?_
  cases h
  exact x_iretS g e dX6_schoolRewardByActions_18 rfl rfl
noncomputable def f_X6_meanSchoolReward (G : gG) (a0 : Nat) (S : gS) : Option (UInt64 × gS) := gd (gis G 3 a0) <| glt (sI S 30 a0 0) fun (S_2 : gS) => gb (gP S_2 10 a0) fun (b_4 : Nat) => gd (gis G 7 b_4) <| gd (vp_in 7 (gn G b_4)) <| if (gr S_2 b_4 (Int32.toNatClampNeg 7)) = 0 then (gb2 (f_X6_fails G a0 1 S_2) fun (r_17 : Int32) (S_18 : gS) => some (FP.i2d r_17, S_18)) else (gb (f_X6_rewardAll G a0 S_2) fun (r_10 : Int32) => gb (gP S_2 10 a0) fun (b_11 : Nat) => gd (gis G 7 b_11) <| gd (vp_in 7 (gn G b_11)) <| gd (vf_n64 (FP.ddiv (FP.i2d r_10) (FP.i2d (gr S_2 b_11 (Int32.toNatClampNeg 7))))) <| some (FP.ddiv (FP.i2d r_10) (FP.i2d (gr S_2 b_11 (Int32.toNatClampNeg 7))), S_2))
set_option maxRecDepth 100000 in
set_option maxHeartbeats 4000000 in
theorem k_X6_meanSchoolReward {ad : Nat → Nat} {G : gG} {a0 : Nat} {S S1 : gS} {T : gT} {r : UInt64} (h : f_X6_meanSchoolReward G a0 S = some (r, S1)) : Ct ad yX6_meanSchoolReward (Cond.code yX6_meanSchoolReward cX6_meanSchoolReward 1 (some .double) :: gTb) 2 0 0 [.ref a0] G S T (some (.double r)) G S1 T := by
  refine Ct.ofB rfl (Nat.le_of_ble_eq_true rfl) rfl (fun K g e hK => ?_)
  obtain ⟨rfl, -⟩ := hK
  show Xj K [] G 0 [some (.ref a0)] [] S T 0 0
  unfold f_X6_meanSchoolReward at h
  refine x_aload_n 0 g dX6_meanSchoolReward_0 rfl rfl ?_
  refine x_iconst (v := 0) g dX6_meanSchoolReward_1 (by decide) ?_
  obtain ⟨q_1, h⟩ := gd_e h
  refine x_puti g dX6_meanSchoolReward_2 gXX6 0 30 rfl (by decide) rfl rfl lf_X6_1 rfl rfl q_1 ?_
  refine x_nS (fun S_2 e_3 => ?_)
  have h := glt_e e_3 h
  refine x_aload_n 0 g dX6_meanSchoolReward_5 rfl rfl ?_
  obtain ⟨b_4, e_5, h⟩ := gb_e h
  refine x_getr g dX6_meanSchoolReward_6 gXX6 1 10 rfl (by decide) rfl lf_X6_13 q_1 e_5 ?_
  refine x_bipush (v := 7) g dX6_meanSchoolReward_9 (by decide) ?_
  obtain ⟨q_6, h⟩ := gd_e h
  obtain ⟨q_7, h⟩ := gd_e h
  refine x_iald g dX6_meanSchoolReward_11 q_6 q_7 ?_
  refine x_if_ne 24 g dX6_meanSchoolReward_12 (by decide) (fun c_8 => ?_) (fun c_8 => ?_)
  · have h := ite_f c_8 h
    refine x_aload_n 0 g dX6_meanSchoolReward_24 rfl rfl ?_
    obtain ⟨r_10, q_9, h⟩ := gb_e h
    refine x_cV [.int r_10] g (k_X6_rewardAll q_9) ca_X6_rewardAll in_X6_rewardAll se_X6_rewardAll lm_X6_194 gXX6 q_1 (Nat.le_of_ble_eq_true rfl) rfl rfl (Nat.le_of_ble_eq_true rfl) dX6_meanSchoolReward_25 rfl ?_
    refine x_i2d g dX6_meanSchoolReward_28 ?_
    refine x_aload_n 0 g dX6_meanSchoolReward_29 rfl rfl ?_
    obtain ⟨b_11, e_12, h⟩ := gb_e h
    refine x_getr g dX6_meanSchoolReward_30 gXX6 1 10 rfl (by decide) rfl lf_X6_13 q_1 e_12 ?_
    refine x_bipush (v := 7) g dX6_meanSchoolReward_33 (by decide) ?_
    obtain ⟨q_13, h⟩ := gd_e h
    obtain ⟨q_14, h⟩ := gd_e h
    refine x_iald g dX6_meanSchoolReward_35 q_13 q_14 ?_
    refine x_i2d g dX6_meanSchoolReward_36 ?_
    obtain ⟨q_15, h⟩ := gd_e h
    refine x_ddiv g dX6_meanSchoolReward_37 q_15 ?_
    cases h
    exact x_dret g e dX6_meanSchoolReward_38 rfl rfl
  · have h := ite_t c_8 h
    refine x_aload_n 0 g dX6_meanSchoolReward_15 rfl rfl ?_
    refine x_iconst (v := 1) g dX6_meanSchoolReward_16 (by decide) ?_
    obtain ⟨r_17, S_18, q_16, h⟩ := gb2_e h
    refine x_cV [.int r_17] g (k_X6_fails q_16) ca_X6_fails in_X6_fails se_X6_fails lm_X6_84 gXX6 q_1 (Nat.le_of_ble_eq_true rfl) rfl rfl (Nat.le_of_ble_eq_true rfl) dX6_meanSchoolReward_17 rfl ?_
    refine x_i2d g dX6_meanSchoolReward_20 ?_
    refine x_goto 38 g dX6_meanSchoolReward_21 (by decide) ?_
    cases h
    exact x_dret g e dX6_meanSchoolReward_38 rfl rfl
noncomputable def f_X6_openShare (G : gG) (a0 : Nat) (S : gS) : Option (UInt32 × gS) := gd (gis G 3 a0) <| glt (sI S 30 a0 0) fun (S_2 : gS) => gb (gP S_2 10 a0) fun (b_4 : Nat) => gd (gis G 7 b_4) <| gd (vp_in 7 (gn G b_4)) <| if (gr S_2 b_4 (Int32.toNatClampNeg 7)) = 0 then (gb2 (f_X6_fails G a0 1 S_2) fun (r_19 : Int32) (S_20 : gS) => some (FP.i2f r_19, S_20)) else (gb (gP S_2 10 a0) fun (b_9 : Nat) => gd (gis G 7 b_9) <| gd (vp_in 6 (gn G b_9)) <| gb (gP S_2 10 a0) fun (b_13 : Nat) => gd (gis G 7 b_13) <| gd (vp_in 7 (gn G b_13)) <| gd (vf_n32 (FP.fdiv (FP.i2f (gr S_2 b_9 (Int32.toNatClampNeg 6))) (FP.i2f (gr S_2 b_13 (Int32.toNatClampNeg 7))))) <| some (FP.fdiv (FP.i2f (gr S_2 b_9 (Int32.toNatClampNeg 6))) (FP.i2f (gr S_2 b_13 (Int32.toNatClampNeg 7))), S_2))
set_option maxRecDepth 100000 in
set_option maxHeartbeats 4000000 in
theorem k_X6_openShare {ad : Nat → Nat} {G : gG} {a0 : Nat} {S S1 : gS} {T : gT} {r : UInt32} (h : f_X6_openShare G a0 S = some (r, S1)) : Ct ad yX6_openShare (Cond.code yX6_openShare cX6_openShare 1 (some .float) :: gTb) 1 0 0 [.ref a0] G S T (some (.float r)) G S1 T := by
  refine Ct.ofB rfl (Nat.le_of_ble_eq_true rfl) rfl (fun K g e hK => ?_)
  obtain ⟨rfl, -⟩ := hK
  show Xj K [] G 0 [some (.ref a0)] [] S T 0 0
  unfold f_X6_openShare at h
  refine x_aload_n 0 g dX6_openShare_0 rfl rfl ?_
  refine x_iconst (v := 0) g dX6_openShare_1 (by decide) ?_
  obtain ⟨q_1, h⟩ := gd_e h
  refine x_puti g dX6_openShare_2 gXX6 0 30 rfl (by decide) rfl rfl lf_X6_1 rfl rfl q_1 ?_
  refine x_nS (fun S_2 e_3 => ?_)
  have h := glt_e e_3 h
  refine x_aload_n 0 g dX6_openShare_5 rfl rfl ?_
  obtain ⟨b_4, e_5, h⟩ := gb_e h
  refine x_getr g dX6_openShare_6 gXX6 1 10 rfl (by decide) rfl lf_X6_13 q_1 e_5 ?_
  refine x_bipush (v := 7) g dX6_openShare_9 (by decide) ?_
  obtain ⟨q_6, h⟩ := gd_e h
  obtain ⟨q_7, h⟩ := gd_e h
  refine x_iald g dX6_openShare_11 q_6 q_7 ?_
  refine x_if_ne 24 g dX6_openShare_12 (by decide) (fun c_8 => ?_) (fun c_8 => ?_)
  · have h := ite_f c_8 h
    refine x_aload_n 0 g dX6_openShare_24 rfl rfl ?_
    obtain ⟨b_9, e_10, h⟩ := gb_e h
    refine x_getr g dX6_openShare_25 gXX6 1 10 rfl (by decide) rfl lf_X6_13 q_1 e_10 ?_
    refine x_bipush (v := 6) g dX6_openShare_28 (by decide) ?_
    obtain ⟨q_11, h⟩ := gd_e h
    obtain ⟨q_12, h⟩ := gd_e h
    refine x_iald g dX6_openShare_30 q_11 q_12 ?_
    refine x_i2f g dX6_openShare_31 ?_
    refine x_aload_n 0 g dX6_openShare_32 rfl rfl ?_
    obtain ⟨b_13, e_14, h⟩ := gb_e h
    refine x_getr g dX6_openShare_33 gXX6 1 10 rfl (by decide) rfl lf_X6_13 q_1 e_14 ?_
    refine x_bipush (v := 7) g dX6_openShare_36 (by decide) ?_
    obtain ⟨q_15, h⟩ := gd_e h
    obtain ⟨q_16, h⟩ := gd_e h
    refine x_iald g dX6_openShare_38 q_15 q_16 ?_
    refine x_i2f g dX6_openShare_39 ?_
    obtain ⟨q_17, h⟩ := gd_e h
    refine x_fdiv g dX6_openShare_40 q_17 ?_
    cases h
    exact x_fret g e dX6_openShare_41 rfl rfl
  · have h := ite_t c_8 h
    refine x_aload_n 0 g dX6_openShare_15 rfl rfl ?_
    refine x_iconst (v := 1) g dX6_openShare_16 (by decide) ?_
    obtain ⟨r_19, S_20, q_18, h⟩ := gb2_e h
    refine x_cV [.int r_19] g (k_X6_fails q_18) ca_X6_fails in_X6_fails se_X6_fails lm_X6_84 gXX6 q_1 (Nat.le_of_ble_eq_true rfl) rfl rfl (Nat.le_of_ble_eq_true rfl) dX6_openShare_17 rfl ?_
    refine x_i2f g dX6_openShare_20 ?_
    refine x_goto 41 g dX6_openShare_21 (by decide) ?_
    cases h
    exact x_fret g e dX6_openShare_41 rfl rfl
noncomputable def f_X6_isConsistent_L9 (G : gG) (a0 : Nat) : Nat → Int32 → Int32 → gS → Option (Bool × gS)
  | 0, _, _, _ => none
  | n9 + 1, x1, x2, S => gd (gis G 3 a0) <| gb (gP S 10 a0) fun (b_5 : Nat) => gd (gis G 7 b_5) <| gd (vp_in 0 (gn G b_5)) <| if (gr S b_5 (Int32.toNatClampNeg 0)) ≤ x2 then (gb (gP S 10 a0) fun (b_10 : Nat) => gd (gis G 7 b_10) <| gd (vp_in 3 (gn G b_10)) <| if x1 = (gr S b_10 (Int32.toNatClampNeg 3)) then (gb (f_X6_rewardAll G a0 S) fun (r_16 : Int32) => gb (gP S 10 a0) fun (b_17 : Nat) => gd (gis G 7 b_17) <| gd (vp_in 4 (gn G b_17)) <| gb (gP S 10 a0) fun (b_21 : Nat) => gd (gis G 7 b_21) <| gd (vp_in 5 (gn G b_21)) <| if r_16 = ((gr S b_17 (Int32.toNatClampNeg 4)) + (gr S b_21 (Int32.toNatClampNeg 5))) then (some (true, S)) else (some (false, S))) else (some (false, S))) else (gb (f_X6_of G a0 x2 6 S) fun (r_27 : Int32) => glt (x1 + r_27) fun (x1_28 : Int32) => gb (f_X6_of G a0 x2 3 S) fun (r_31 : Int32) => gb (f_X6_of G a0 x2 0 S) fun (r_33 : Int32) => if r_31 ≤ r_33 then (glt (x2 + 1) fun (x2_35 : Int32) => f_X6_isConsistent_L9 G a0 n9 x1_28 x2_35 S) else (some (false, S)))
noncomputable def f_X6_isConsistent (G : gG) (a0 : Nat) (S : gS) : Option (Bool × gS) := gd (gis G 3 a0) <| glt (sI S 30 a0 0) fun (S_2 : gS) => f_X6_isConsistent_L9 G a0 gN 0 0 S_2
set_option maxRecDepth 100000 in
set_option maxHeartbeats 4000000 in
theorem k_X6_isConsistent {ad : Nat → Nat} {G : gG} {a0 : Nat} {S S1 : gS} {T : gT} {r : Bool} (h : f_X6_isConsistent G a0 S = some (r, S1)) : Ct ad yX6_isConsistent (Cond.code yX6_isConsistent cX6_isConsistent 3 (some .boolean) :: gTb) 2 0 0 [.ref a0] G S T (some (.int (gz r))) G S1 T := by
  refine Ct.ofB rfl (Nat.le_of_ble_eq_true rfl) rfl (fun K g e hK => ?_)
  obtain ⟨rfl, -⟩ := hK
  show Xj K [] G 0 [some (.ref a0), none, none] [] S T 0 0
  unfold f_X6_isConsistent at h
  refine x_aload_n 0 g dX6_isConsistent_0 rfl rfl ?_
  refine x_iconst (v := 0) g dX6_isConsistent_1 (by decide) ?_
  obtain ⟨q_1, h⟩ := gd_e h
  refine x_puti g dX6_isConsistent_2 gXX6 0 30 rfl (by decide) rfl rfl lf_X6_1 rfl rfl q_1 ?_
  refine x_nS (fun S_2 e_3 => ?_)
  have h := glt_e e_3 h
  refine x_iconst (v := 0) g dX6_isConsistent_5 (by decide) ?_
  refine x_istore_n 1 g dX6_isConsistent_6 rfl (Nat.le_of_ble_eq_true rfl) rfl ?_
  refine x_iconst (v := 0) g dX6_isConsistent_7 (by decide) ?_
  refine x_istore_n 2 g dX6_isConsistent_8 rfl (Nat.le_of_ble_eq_true rfl) rfl ?_
  have L9 : ∀ (n9 : Nat) (x1 : Int32) (x2 : Int32) (S : gS), f_X6_isConsistent_L9 G a0 n9 x1 x2 S = some (r, S1) → Xj K [] G 9 [some (.ref a0), some (.int x1), some (.int x2)] [] S T 0 0 := by
    intro n9
    induction n9 with
    | zero =>
      intro x1 x2 S h
      rw [f_X6_isConsistent_L9] at h
      cases h
    | succ n9 ih =>
      intro x1 x2 S h
      rw [f_X6_isConsistent_L9] at h
      refine x_iload_n 2 g dX6_isConsistent_9 rfl rfl ?_
      refine x_aload_n 0 g dX6_isConsistent_10 rfl rfl ?_
      obtain ⟨q_4, h⟩ := gd_e h
      obtain ⟨b_5, e_6, h⟩ := gb_e h
      refine x_getr g dX6_isConsistent_11 gXX6 1 10 rfl (by decide) rfl lf_X6_13 q_4 e_6 ?_
      refine x_iconst (v := 0) g dX6_isConsistent_14 (by decide) ?_
      obtain ⟨q_7, h⟩ := gd_e h
      obtain ⟨q_8, h⟩ := gd_e h
      refine x_iald g dX6_isConsistent_15 q_7 q_8 ?_
      refine x_icmp_ge 52 g dX6_isConsistent_16 (by decide) (fun c_9 => ?_) (fun c_9 => ?_)
      · have h := ite_t c_9 h
        refine x_iload_n 1 g dX6_isConsistent_52 rfl rfl ?_
        refine x_aload_n 0 g dX6_isConsistent_53 rfl rfl ?_
        obtain ⟨b_10, e_11, h⟩ := gb_e h
        refine x_getr g dX6_isConsistent_54 gXX6 1 10 rfl (by decide) rfl lf_X6_13 q_4 e_11 ?_
        refine x_iconst (v := 3) g dX6_isConsistent_57 (by decide) ?_
        obtain ⟨q_12, h⟩ := gd_e h
        obtain ⟨q_13, h⟩ := gd_e h
        refine x_iald g dX6_isConsistent_58 q_12 q_13 ?_
        refine x_icmp_ne 86 g dX6_isConsistent_59 (by decide) (fun c_14 => ?_) (fun c_14 => ?_)
        · have h := ite_f c_14 h
          refine x_iconst (v := 0) g dX6_isConsistent_86 (by decide) ?_
          cases h
          exact x_zretS (b := false) g e dX6_isConsistent_87 rfl rfl rfl
        · have h := ite_t c_14 h
          refine x_aload_n 0 g dX6_isConsistent_62 rfl rfl ?_
          obtain ⟨r_16, q_15, h⟩ := gb_e h
          refine x_cV [.int r_16] g (k_X6_rewardAll q_15) ca_X6_rewardAll in_X6_rewardAll se_X6_rewardAll lm_X6_194 gXX6 q_4 (Nat.le_of_ble_eq_true rfl) rfl rfl (Nat.le_of_ble_eq_true rfl) dX6_isConsistent_63 rfl ?_
          refine x_aload_n 0 g dX6_isConsistent_66 rfl rfl ?_
          obtain ⟨b_17, e_18, h⟩ := gb_e h
          refine x_getr g dX6_isConsistent_67 gXX6 1 10 rfl (by decide) rfl lf_X6_13 q_4 e_18 ?_
          refine x_iconst (v := 4) g dX6_isConsistent_70 (by decide) ?_
          obtain ⟨q_19, h⟩ := gd_e h
          obtain ⟨q_20, h⟩ := gd_e h
          refine x_iald g dX6_isConsistent_71 q_19 q_20 ?_
          refine x_aload_n 0 g dX6_isConsistent_72 rfl rfl ?_
          obtain ⟨b_21, e_22, h⟩ := gb_e h
          refine x_getr g dX6_isConsistent_73 gXX6 1 10 rfl (by decide) rfl lf_X6_13 q_4 e_22 ?_
          refine x_iconst (v := 5) g dX6_isConsistent_76 (by decide) ?_
          obtain ⟨q_23, h⟩ := gd_e h
          obtain ⟨q_24, h⟩ := gd_e h
          refine x_iald g dX6_isConsistent_77 q_23 q_24 ?_
          refine x_iadd g dX6_isConsistent_78 ?_
          refine x_icmp_ne 86 g dX6_isConsistent_79 (by decide) (fun c_25 => ?_) (fun c_25 => ?_)
          · have h := ite_f c_25 h
            refine x_iconst (v := 0) g dX6_isConsistent_86 (by decide) ?_
            cases h
            exact x_zretS (b := false) g e dX6_isConsistent_87 rfl rfl rfl
          · have h := ite_t c_25 h
            refine x_iconst (v := 1) g dX6_isConsistent_82 (by decide) ?_
            refine x_goto 87 g dX6_isConsistent_83 (by decide) ?_
            cases h
            exact x_zretS (b := true) g e dX6_isConsistent_87 rfl rfl rfl
      · have h := ite_f c_9 h
        refine x_iload_n 1 g dX6_isConsistent_19 rfl rfl ?_
        refine x_aload_n 0 g dX6_isConsistent_20 rfl rfl ?_
        refine x_iload_n 2 g dX6_isConsistent_21 rfl rfl ?_
        refine x_bipush (v := 6) g dX6_isConsistent_22 (by decide) ?_
        obtain ⟨r_27, q_26, h⟩ := gb_e h
        refine x_cV [.int r_27, .int x1] g (k_X6_of q_26) ca_X6_of in_X6_of se_X6_of lm_X6_62 gXX6 q_4 (Nat.le_of_ble_eq_true rfl) rfl rfl (Nat.le_of_ble_eq_true rfl) dX6_isConsistent_24 rfl ?_
        refine x_iadd g dX6_isConsistent_27 ?_
        refine x_nI (fun x1_28 e_29 => ?_)
        have h := glt_e e_29 h
        refine x_istore_n 1 g dX6_isConsistent_28 rfl (Nat.le_of_ble_eq_true rfl) rfl ?_
        refine x_aload_n 0 g dX6_isConsistent_29 rfl rfl ?_
        refine x_iload_n 2 g dX6_isConsistent_30 rfl rfl ?_
        refine x_iconst (v := 3) g dX6_isConsistent_31 (by decide) ?_
        obtain ⟨r_31, q_30, h⟩ := gb_e h
        refine x_cV [.int r_31] g (k_X6_of q_30) ca_X6_of in_X6_of se_X6_of lm_X6_62 gXX6 q_4 (Nat.le_of_ble_eq_true rfl) rfl rfl (Nat.le_of_ble_eq_true rfl) dX6_isConsistent_32 rfl ?_
        refine x_aload_n 0 g dX6_isConsistent_35 rfl rfl ?_
        refine x_iload_n 2 g dX6_isConsistent_36 rfl rfl ?_
        refine x_iconst (v := 0) g dX6_isConsistent_37 (by decide) ?_
        obtain ⟨r_33, q_32, h⟩ := gb_e h
        refine x_cV [.int r_33, .int r_31] g (k_X6_of q_32) ca_X6_of in_X6_of se_X6_of lm_X6_62 gXX6 q_4 (Nat.le_of_ble_eq_true rfl) rfl rfl (Nat.le_of_ble_eq_true rfl) dX6_isConsistent_38 rfl ?_
        refine x_icmp_le 46 g dX6_isConsistent_41 (by decide) (fun c_34 => ?_) (fun c_34 => ?_)
        · have h := ite_t c_34 h
          obtain ⟨x2_35, e_36⟩ : ∃ z : Int32, z = x2 + 1 := ⟨_, rfl⟩
          have h := glt_e e_36 h
          refine x_iinc (v := x2_35) g dX6_isConsistent_46 rfl (by rw [e_36]; rfl) rfl ?_
          refine x_goto 9 g dX6_isConsistent_49 (by decide) ?_
          exact ih _ _ _ h
        · have h := ite_f c_34 h
          refine x_iconst (v := 0) g dX6_isConsistent_44 (by decide) ?_
          cases h
          exact x_zretS (b := false) g e dX6_isConsistent_45 rfl rfl rfl
  exact L9 gN _ _ _ h
noncomputable def f_X6_writes (G : gG) (a0 : Nat) (a1 : Int32) (S : gS) : Option gS := gd (gis G 3 a0) <| gb (gP S 14 a0) fun (b_2 : Nat) => gd (gis G 6 b_2) <| gd (vp_in (gI S 34 a0) (gn G b_2)) <| glt (sr S b_2 (Int32.toNatClampNeg (gI S 34 a0)) (vp_nar .char ((a1.toUInt32 % 65536).toInt32))) fun (S_6 : gS) => glt (sI S_6 34 a0 ((gI S_6 34 a0) + 1)) fun (S_8 : gS) => some S_8
set_option maxRecDepth 100000 in
set_option maxHeartbeats 4000000 in
theorem k_X6_writes {ad : Nat → Nat} {G : gG} {a0 : Nat} {a1 : Int32} {S S1 : gS} {T : gT} (h : f_X6_writes G a0 a1 S = some S1) : Ct ad yX6_writes (Cond.code yX6_writes cX6_writes 2 none :: gTb) 0 0 0 [.ref a0, .int a1] G S T none G S1 T := by
  refine Ct.ofB rfl (Nat.le_of_ble_eq_true rfl) rfl (fun K g e hK => ?_)
  obtain ⟨rfl, -⟩ := hK
  show Xj K [] G 0 [some (.ref a0), some (.int a1)] [] S T 0 0
  unfold f_X6_writes at h
  refine x_aload_n 0 g dX6_writes_0 rfl rfl ?_
  obtain ⟨q_1, h⟩ := gd_e h
  obtain ⟨b_2, e_3, h⟩ := gb_e h
  refine x_getr g dX6_writes_1 gXX6 8 14 rfl (by decide) rfl lf_X6_26 q_1 e_3 ?_
  refine x_aload_n 0 g dX6_writes_4 rfl rfl ?_
  refine x_geti g dX6_writes_5 gXX6 9 34 rfl (by decide) rfl lf_X6_197 q_1 ?_
  refine x_iload_n 1 g dX6_writes_8 rfl rfl ?_
  refine x_i2c g dX6_writes_9 rfl ?_
  obtain ⟨q_4, h⟩ := gd_e h
  obtain ⟨q_5, h⟩ := gd_e h
  refine x_cast g dX6_writes_10 q_4 q_5 ?_
  refine x_nS (fun S_6 e_7 => ?_)
  have h := glt_e e_7 h
  refine x_aload_n 0 g dX6_writes_11 rfl rfl ?_
  refine x_dup g dX6_writes_12 rfl ?_
  refine x_geti g dX6_writes_13 gXX6 9 34 rfl (by decide) rfl lf_X6_197 q_1 ?_
  refine x_iconst (v := 1) g dX6_writes_16 (by decide) ?_
  refine x_iadd g dX6_writes_17 ?_
  refine x_puti g dX6_writes_18 gXX6 9 34 rfl (by decide) rfl rfl lf_X6_197 rfl rfl q_1 ?_
  refine x_nS (fun S_8 e_9 => ?_)
  have h := glt_e e_9 h
  cases h
  exact x_vretS g e dX6_writes_21 rfl
noncomputable def f_X6_writesNumber_L20 (G : gG) (a0 : Nat) (a1 : Int32) (kO_2 : Int32 → gS → Option gS) : Nat → Int32 → Int32 → gS → Option gS
  | 0, _, _, _ => none
  | n20 + 1, x2, x3, S => if x3 ≤ 0 then (some S) else (gd (¬ x3 = (0 : Int32)) <| gd (gis G 3 a0) <| gb (f_X6_writes G a0 (48 + ((a1 / x3) - (a1 / x3) / 10 * 10)) S) fun (S_7 : gS) => glt (x3 / 10) fun (x3_8 : Int32) => f_X6_writesNumber_L20 G a0 a1 kO_2 n20 x2 x3_8 S_7)
noncomputable def f_X6_writesNumber_L2 (G : gG) (a0 : Nat) (a1 : Int32) : Nat → Int32 → gS → Option gS
  | 0, _, _ => none
  | n2 + 1, x2, S => gd (¬ x2 = (0 : Int32)) <| if (a1 / x2) ≤ 9 then (f_X6_writesNumber_L20 G a0 a1 (fun y2 Sy => f_X6_writesNumber_L2 G a0 a1 n2 y2 Sy) gN x2 x2 S) else (glt (x2 * 10) fun (x2_10 : Int32) => f_X6_writesNumber_L2 G a0 a1 n2 x2_10 S)
noncomputable def f_X6_writesNumber (G : gG) (a0 : Nat) (a1 : Int32) (S : gS) : Option gS := f_X6_writesNumber_L2 G a0 a1 gN 1 S
set_option maxRecDepth 100000 in
set_option maxHeartbeats 4000000 in
theorem k_X6_writesNumber {ad : Nat → Nat} {G : gG} {a0 : Nat} {a1 : Int32} {S S1 : gS} {T : gT} (h : f_X6_writesNumber G a0 a1 S = some S1) : Ct ad yX6_writesNumber (Cond.code yX6_writesNumber cX6_writesNumber 4 none :: gTb) 1 0 0 [.ref a0, .int a1] G S T none G S1 T := by
  refine Ct.ofB rfl (Nat.le_of_ble_eq_true rfl) rfl (fun K g e hK => ?_)
  obtain ⟨rfl, -⟩ := hK
  show Xj K [] G 0 [some (.ref a0), some (.int a1), none, none] [] S T 0 0
  unfold f_X6_writesNumber at h
  refine x_iconst (v := 1) g dX6_writesNumber_0 (by decide) ?_
  refine x_istore_n 2 g dX6_writesNumber_1 rfl (Nat.le_of_ble_eq_true rfl) rfl ?_
  have L2 : ∀ (n2 : Nat) (x2 : Int32) (S : gS), f_X6_writesNumber_L2 G a0 a1 n2 x2 S = some S1 → Xj K [] G 2 [some (.ref a0), some (.int a1), some (.int x2), none] [] S T 0 0 := by
    intro n2
    induction n2 with
    | zero =>
      intro x2 S h
      rw [f_X6_writesNumber_L2] at h
      cases h
    | succ n2 ih =>
      intro x2 S h
      rw [f_X6_writesNumber_L2] at h
      refine x_iload_n 1 g dX6_writesNumber_2 rfl rfl ?_
      refine x_iload_n 2 g dX6_writesNumber_3 rfl rfl ?_
      obtain ⟨q_1, h⟩ := gd_e h
      refine x_idiv g dX6_writesNumber_4 q_1 ?_
      refine x_bipush (v := 9) g dX6_writesNumber_5 (by decide) ?_
      refine x_icmp_le 18 g dX6_writesNumber_7 (by decide) (fun c_2 => ?_) (fun c_2 => ?_)
      · have h := ite_t c_2 h
        refine x_iload_n 2 g dX6_writesNumber_18 rfl rfl ?_
        refine x_istore_n 3 g dX6_writesNumber_19 rfl (Nat.le_of_ble_eq_true rfl) rfl ?_
        have ih_2 := ih
        have L20 : ∀ (n20 : Nat) (x2 : Int32) (x3 : Int32) (S : gS), f_X6_writesNumber_L20 G a0 a1 (fun y2 Sy => f_X6_writesNumber_L2 G a0 a1 n2 y2 Sy) n20 x2 x3 S = some S1 → Xj K [] G 20 [some (.ref a0), some (.int a1), some (.int x2), some (.int x3)] [] S T 0 0 := by
          intro n20
          induction n20 with
          | zero =>
            intro x2 x3 S h
            rw [f_X6_writesNumber_L20] at h
            cases h
          | succ n20 ih =>
            intro x2 x3 S h
            rw [f_X6_writesNumber_L20] at h
            refine x_iload_n 3 g dX6_writesNumber_20 rfl rfl ?_
            refine x_if_le 45 g dX6_writesNumber_21 (by decide) (fun c_3 => ?_) (fun c_3 => ?_)
            · have h := ite_t c_3 h
              cases h
              exact x_vretS g e dX6_writesNumber_45 rfl
            · have h := ite_f c_3 h
              refine x_aload_n 0 g dX6_writesNumber_24 rfl rfl ?_
              refine x_bipush (v := 48) g dX6_writesNumber_25 (by decide) ?_
              refine x_iload_n 1 g dX6_writesNumber_27 rfl rfl ?_
              refine x_iload_n 3 g dX6_writesNumber_28 rfl rfl ?_
              obtain ⟨q_4, h⟩ := gd_e h
              refine x_idiv g dX6_writesNumber_29 q_4 ?_
              refine x_bipush (v := 10) g dX6_writesNumber_30 (by decide) ?_
              refine x_irem g dX6_writesNumber_32 (by decide) ?_
              refine x_iadd g dX6_writesNumber_33 ?_
              obtain ⟨q_5, h⟩ := gd_e h
              obtain ⟨S_7, q_6, h⟩ := gb_e h
              refine x_cV [] g (k_X6_writes q_6) ca_X6_writes in_X6_writes se_X6_writes lm_X6_200 gXX6 q_5 (Nat.le_of_ble_eq_true rfl) rfl rfl (Nat.le_of_ble_eq_true rfl) dX6_writesNumber_34 rfl ?_
              refine x_iload_n 3 g dX6_writesNumber_37 rfl rfl ?_
              refine x_bipush (v := 10) g dX6_writesNumber_38 (by decide) ?_
              refine x_idiv g dX6_writesNumber_40 (by decide) ?_
              refine x_nI (fun x3_8 e_9 => ?_)
              have h := glt_e e_9 h
              refine x_istore_n 3 g dX6_writesNumber_41 rfl (Nat.le_of_ble_eq_true rfl) rfl ?_
              refine x_goto 20 g dX6_writesNumber_42 (by decide) ?_
              exact ih _ _ _ h
        exact L20 gN _ _ _ h
      · have h := ite_f c_2 h
        refine x_iload_n 2 g dX6_writesNumber_10 rfl rfl ?_
        refine x_bipush (v := 10) g dX6_writesNumber_11 (by decide) ?_
        refine x_imul g dX6_writesNumber_13 ?_
        refine x_nI (fun x2_10 e_11 => ?_)
        have h := glt_e e_11 h
        refine x_istore_n 2 g dX6_writesNumber_14 rfl (Nat.le_of_ble_eq_true rfl) rfl ?_
        refine x_goto 2 g dX6_writesNumber_15 (by decide) ?_
        exact ih _ _ h
  exact L2 gN _ _ h
noncomputable def f_X6_renderHabits_L26 (G : gG) (a0 : Nat) (a1 : Int32) : Nat → Int32 → gS → Option (Int32 × gS)
  | 0, _, _ => none
  | n26 + 1, x2, S => if 16 ≤ x2 then (gd (gis G 3 a0) <| some (gI S 34 a0, S)) else (if x2 ≤ 0 then (gd (gis G 3 a0) <| gb (f_X6_habit G a0 a1 (x2 / 4) (x2 - x2 / 4 * 4) S) fun (r_14 : Int32) => if r_14 = 1 then (gb (f_X6_writes G a0 111 S) fun (S_21 : gS) => glt (x2 + 1) fun (x2_22 : Int32) => f_X6_renderHabits_L26 G a0 a1 n26 x2_22 S_21) else (gb (f_X6_writes G a0 99 S) fun (S_17 : gS) => glt (x2 + 1) fun (x2_18 : Int32) => f_X6_renderHabits_L26 G a0 a1 n26 x2_18 S_17)) else (if (x2 - x2 / 4 * 4) = 0 then (gd (gis G 3 a0) <| gb (f_X6_writes G a0 47 S) fun (S_39 : gS) => gb (f_X6_habit G a0 a1 (x2 / 4) (x2 - x2 / 4 * 4) S_39) fun (r_41 : Int32) => if r_41 = 1 then (gb (f_X6_writes G a0 111 S_39) fun (S_48 : gS) => glt (x2 + 1) fun (x2_49 : Int32) => f_X6_renderHabits_L26 G a0 a1 n26 x2_49 S_48) else (gb (f_X6_writes G a0 99 S_39) fun (S_44 : gS) => glt (x2 + 1) fun (x2_45 : Int32) => f_X6_renderHabits_L26 G a0 a1 n26 x2_45 S_44)) else (gd (gis G 3 a0) <| gb (f_X6_habit G a0 a1 (x2 / 4) (x2 - x2 / 4 * 4) S) fun (r_27 : Int32) => if r_27 = 1 then (gb (f_X6_writes G a0 111 S) fun (S_34 : gS) => glt (x2 + 1) fun (x2_35 : Int32) => f_X6_renderHabits_L26 G a0 a1 n26 x2_35 S_34) else (gb (f_X6_writes G a0 99 S) fun (S_30 : gS) => glt (x2 + 1) fun (x2_31 : Int32) => f_X6_renderHabits_L26 G a0 a1 n26 x2_31 S_30))))
noncomputable def f_X6_renderHabits (G : gG) (a0 : Nat) (a1 : Int32) (S : gS) : Option (Int32 × gS) := gd (gis G 3 a0) <| glt (sI S 30 a0 0) fun (S_2 : gS) => gb (f_X6_isUmbrella G a0 a1 S_2) fun (r_5 : Bool) => if (gz r_5) = 0 then (gb2 (f_X6_fails G a0 1 S_2) fun (r_52 : Int32) (S_53 : gS) => some (r_52, S_53)) else (glt (sI S_2 34 a0 0) fun (S_7 : gS) => f_X6_renderHabits_L26 G a0 a1 gN 0 S_7)
set_option maxRecDepth 100000 in
set_option maxHeartbeats 4000000 in
theorem k_X6_renderHabits {ad : Nat → Nat} {G : gG} {a0 : Nat} {a1 : Int32} {S S1 : gS} {T : gT} {r : Int32} (h : f_X6_renderHabits G a0 a1 S = some (r, S1)) : Ct ad yX6_renderHabits (Cond.code yX6_renderHabits cX6_renderHabits 3 (some .int) :: gTb) 3 0 0 [.ref a0, .int a1] G S T (some (.int r)) G S1 T := by
  refine Ct.ofB rfl (Nat.le_of_ble_eq_true rfl) rfl (fun K g e hK => ?_)
  obtain ⟨rfl, -⟩ := hK
  show Xj K [] G 0 [some (.ref a0), some (.int a1), none] [] S T 0 0
  unfold f_X6_renderHabits at h
  refine x_aload_n 0 g dX6_renderHabits_0 rfl rfl ?_
  refine x_iconst (v := 0) g dX6_renderHabits_1 (by decide) ?_
  obtain ⟨q_1, h⟩ := gd_e h
  refine x_puti g dX6_renderHabits_2 gXX6 0 30 rfl (by decide) rfl rfl lf_X6_1 rfl rfl q_1 ?_
  refine x_nS (fun S_2 e_3 => ?_)
  have h := glt_e e_3 h
  refine x_aload_n 0 g dX6_renderHabits_5 rfl rfl ?_
  refine x_iload_n 1 g dX6_renderHabits_6 rfl rfl ?_
  obtain ⟨r_5, q_4, h⟩ := gb_e h
  refine x_cV [.int (gz r_5)] g (k_X6_isUmbrella q_4) ca_X6_isUmbrella in_X6_isUmbrella se_X6_isUmbrella lm_X6_110 gXX6 q_1 (Nat.le_of_ble_eq_true rfl) rfl rfl (Nat.le_of_ble_eq_true rfl) dX6_renderHabits_7 rfl ?_
  refine x_if_ne 19 g dX6_renderHabits_10 (by decide) (fun c_6 => ?_) (fun c_6 => ?_)
  · have h := ite_f c_6 h
    refine x_aload_n 0 g dX6_renderHabits_19 rfl rfl ?_
    refine x_iconst (v := 0) g dX6_renderHabits_20 (by decide) ?_
    refine x_puti g dX6_renderHabits_21 gXX6 9 34 rfl (by decide) rfl rfl lf_X6_197 rfl rfl q_1 ?_
    refine x_nS (fun S_7 e_8 => ?_)
    have h := glt_e e_8 h
    refine x_iconst (v := 0) g dX6_renderHabits_24 (by decide) ?_
    refine x_istore_n 2 g dX6_renderHabits_25 rfl (Nat.le_of_ble_eq_true rfl) rfl ?_
    have L26 : ∀ (n26 : Nat) (x2 : Int32) (S : gS), f_X6_renderHabits_L26 G a0 a1 n26 x2 S = some (r, S1) → Xj K [] G 26 [some (.ref a0), some (.int a1), some (.int x2)] [] S T 0 0 := by
      intro n26
      induction n26 with
      | zero =>
        intro x2 S h
        rw [f_X6_renderHabits_L26] at h
        cases h
      | succ n26 ih =>
        intro x2 S h
        rw [f_X6_renderHabits_L26] at h
        refine x_iload_n 2 g dX6_renderHabits_26 rfl rfl ?_
        refine x_bipush (v := 16) g dX6_renderHabits_27 (by decide) ?_
        refine x_icmp_ge 80 g dX6_renderHabits_29 (by decide) (fun c_9 => ?_) (fun c_9 => ?_)
        · have h := ite_t c_9 h
          refine x_aload_n 0 g dX6_renderHabits_80 rfl rfl ?_
          obtain ⟨q_10, h⟩ := gd_e h
          refine x_geti g dX6_renderHabits_81 gXX6 9 34 rfl (by decide) rfl lf_X6_197 q_10 ?_
          cases h
          exact x_iretS g e dX6_renderHabits_84 rfl rfl
        · have h := ite_f c_9 h
          refine x_iload_n 2 g dX6_renderHabits_32 rfl rfl ?_
          refine x_if_le 48 g dX6_renderHabits_33 (by decide) (fun c_11 => ?_) (fun c_11 => ?_)
          · have h := ite_t c_11 h
            refine x_aload_n 0 g dX6_renderHabits_48 rfl rfl ?_
            refine x_aload_n 0 g dX6_renderHabits_49 rfl rfl ?_
            refine x_iload_n 1 g dX6_renderHabits_50 rfl rfl ?_
            refine x_iload_n 2 g dX6_renderHabits_51 rfl rfl ?_
            refine x_iconst (v := 4) g dX6_renderHabits_52 (by decide) ?_
            refine x_idiv g dX6_renderHabits_53 (by decide) ?_
            refine x_iload_n 2 g dX6_renderHabits_54 rfl rfl ?_
            refine x_iconst (v := 4) g dX6_renderHabits_55 (by decide) ?_
            refine x_irem g dX6_renderHabits_56 (by decide) ?_
            obtain ⟨q_12, h⟩ := gd_e h
            obtain ⟨r_14, q_13, h⟩ := gb_e h
            refine x_cV [.int r_14, .ref a0] g (k_X6_habit q_13) ca_X6_habit in_X6_habit se_X6_habit lm_X6_96 gXX6 q_12 (Nat.le_of_ble_eq_true rfl) rfl rfl (Nat.le_of_ble_eq_true rfl) dX6_renderHabits_57 rfl ?_
            refine x_iconst (v := 1) g dX6_renderHabits_60 (by decide) ?_
            refine x_icmp_ne 69 g dX6_renderHabits_61 (by decide) (fun c_15 => ?_) (fun c_15 => ?_)
            · have h := ite_f c_15 h
              refine x_bipush (v := 99) g dX6_renderHabits_69 (by decide) ?_
              obtain ⟨S_17, q_16, h⟩ := gb_e h
              refine x_cV [] g (k_X6_writes q_16) ca_X6_writes in_X6_writes se_X6_writes lm_X6_200 gXX6 q_12 (Nat.le_of_ble_eq_true rfl) rfl rfl (Nat.le_of_ble_eq_true rfl) dX6_renderHabits_71 rfl ?_
              obtain ⟨x2_18, e_19⟩ : ∃ z : Int32, z = x2 + 1 := ⟨_, rfl⟩
              have h := glt_e e_19 h
              refine x_iinc (v := x2_18) g dX6_renderHabits_74 rfl (by rw [e_19]; rfl) rfl ?_
              refine x_goto 26 g dX6_renderHabits_77 (by decide) ?_
              exact ih _ _ h
            · have h := ite_t c_15 h
              refine x_bipush (v := 111) g dX6_renderHabits_64 (by decide) ?_
              refine x_goto 71 g dX6_renderHabits_66 (by decide) ?_
              obtain ⟨S_21, q_20, h⟩ := gb_e h
              refine x_cV [] g (k_X6_writes q_20) ca_X6_writes in_X6_writes se_X6_writes lm_X6_200 gXX6 q_12 (Nat.le_of_ble_eq_true rfl) rfl rfl (Nat.le_of_ble_eq_true rfl) dX6_renderHabits_71 rfl ?_
              obtain ⟨x2_22, e_23⟩ : ∃ z : Int32, z = x2 + 1 := ⟨_, rfl⟩
              have h := glt_e e_23 h
              refine x_iinc (v := x2_22) g dX6_renderHabits_74 rfl (by rw [e_23]; rfl) rfl ?_
              refine x_goto 26 g dX6_renderHabits_77 (by decide) ?_
              exact ih _ _ h
          · have h := ite_f c_11 h
            refine x_iload_n 2 g dX6_renderHabits_36 rfl rfl ?_
            refine x_iconst (v := 4) g dX6_renderHabits_37 (by decide) ?_
            refine x_irem g dX6_renderHabits_38 (by decide) ?_
            refine x_if_ne 48 g dX6_renderHabits_39 (by decide) (fun c_24 => ?_) (fun c_24 => ?_)
            · have h := ite_f c_24 h
              refine x_aload_n 0 g dX6_renderHabits_48 rfl rfl ?_
              refine x_aload_n 0 g dX6_renderHabits_49 rfl rfl ?_
              refine x_iload_n 1 g dX6_renderHabits_50 rfl rfl ?_
              refine x_iload_n 2 g dX6_renderHabits_51 rfl rfl ?_
              refine x_iconst (v := 4) g dX6_renderHabits_52 (by decide) ?_
              refine x_idiv g dX6_renderHabits_53 (by decide) ?_
              refine x_iload_n 2 g dX6_renderHabits_54 rfl rfl ?_
              refine x_iconst (v := 4) g dX6_renderHabits_55 (by decide) ?_
              refine x_irem g dX6_renderHabits_56 (by decide) ?_
              obtain ⟨q_25, h⟩ := gd_e h
              obtain ⟨r_27, q_26, h⟩ := gb_e h
              refine x_cV [.int r_27, .ref a0] g (k_X6_habit q_26) ca_X6_habit in_X6_habit se_X6_habit lm_X6_96 gXX6 q_25 (Nat.le_of_ble_eq_true rfl) rfl rfl (Nat.le_of_ble_eq_true rfl) dX6_renderHabits_57 rfl ?_
              refine x_iconst (v := 1) g dX6_renderHabits_60 (by decide) ?_
              refine x_icmp_ne 69 g dX6_renderHabits_61 (by decide) (fun c_28 => ?_) (fun c_28 => ?_)
              · have h := ite_f c_28 h
                refine x_bipush (v := 99) g dX6_renderHabits_69 (by decide) ?_
                obtain ⟨S_30, q_29, h⟩ := gb_e h
                refine x_cV [] g (k_X6_writes q_29) ca_X6_writes in_X6_writes se_X6_writes lm_X6_200 gXX6 q_25 (Nat.le_of_ble_eq_true rfl) rfl rfl (Nat.le_of_ble_eq_true rfl) dX6_renderHabits_71 rfl ?_
                obtain ⟨x2_31, e_32⟩ : ∃ z : Int32, z = x2 + 1 := ⟨_, rfl⟩
                have h := glt_e e_32 h
                refine x_iinc (v := x2_31) g dX6_renderHabits_74 rfl (by rw [e_32]; rfl) rfl ?_
                refine x_goto 26 g dX6_renderHabits_77 (by decide) ?_
                exact ih _ _ h
              · have h := ite_t c_28 h
                refine x_bipush (v := 111) g dX6_renderHabits_64 (by decide) ?_
                refine x_goto 71 g dX6_renderHabits_66 (by decide) ?_
                obtain ⟨S_34, q_33, h⟩ := gb_e h
                refine x_cV [] g (k_X6_writes q_33) ca_X6_writes in_X6_writes se_X6_writes lm_X6_200 gXX6 q_25 (Nat.le_of_ble_eq_true rfl) rfl rfl (Nat.le_of_ble_eq_true rfl) dX6_renderHabits_71 rfl ?_
                obtain ⟨x2_35, e_36⟩ : ∃ z : Int32, z = x2 + 1 := ⟨_, rfl⟩
                have h := glt_e e_36 h
                refine x_iinc (v := x2_35) g dX6_renderHabits_74 rfl (by rw [e_36]; rfl) rfl ?_
                refine x_goto 26 g dX6_renderHabits_77 (by decide) ?_
                exact ih _ _ h
            · have h := ite_t c_24 h
              refine x_aload_n 0 g dX6_renderHabits_42 rfl rfl ?_
              refine x_bipush (v := 47) g dX6_renderHabits_43 (by decide) ?_
              obtain ⟨q_37, h⟩ := gd_e h
              obtain ⟨S_39, q_38, h⟩ := gb_e h
              refine x_cV [] g (k_X6_writes q_38) ca_X6_writes in_X6_writes se_X6_writes lm_X6_200 gXX6 q_37 (Nat.le_of_ble_eq_true rfl) rfl rfl (Nat.le_of_ble_eq_true rfl) dX6_renderHabits_45 rfl ?_
              refine x_aload_n 0 g dX6_renderHabits_48 rfl rfl ?_
              refine x_aload_n 0 g dX6_renderHabits_49 rfl rfl ?_
              refine x_iload_n 1 g dX6_renderHabits_50 rfl rfl ?_
              refine x_iload_n 2 g dX6_renderHabits_51 rfl rfl ?_
              refine x_iconst (v := 4) g dX6_renderHabits_52 (by decide) ?_
              refine x_idiv g dX6_renderHabits_53 (by decide) ?_
              refine x_iload_n 2 g dX6_renderHabits_54 rfl rfl ?_
              refine x_iconst (v := 4) g dX6_renderHabits_55 (by decide) ?_
              refine x_irem g dX6_renderHabits_56 (by decide) ?_
              obtain ⟨r_41, q_40, h⟩ := gb_e h
              refine x_cV [.int r_41, .ref a0] g (k_X6_habit q_40) ca_X6_habit in_X6_habit se_X6_habit lm_X6_96 gXX6 q_37 (Nat.le_of_ble_eq_true rfl) rfl rfl (Nat.le_of_ble_eq_true rfl) dX6_renderHabits_57 rfl ?_
              refine x_iconst (v := 1) g dX6_renderHabits_60 (by decide) ?_
              refine x_icmp_ne 69 g dX6_renderHabits_61 (by decide) (fun c_42 => ?_) (fun c_42 => ?_)
              · have h := ite_f c_42 h
                refine x_bipush (v := 99) g dX6_renderHabits_69 (by decide) ?_
                obtain ⟨S_44, q_43, h⟩ := gb_e h
                refine x_cV [] g (k_X6_writes q_43) ca_X6_writes in_X6_writes se_X6_writes lm_X6_200 gXX6 q_37 (Nat.le_of_ble_eq_true rfl) rfl rfl (Nat.le_of_ble_eq_true rfl) dX6_renderHabits_71 rfl ?_
                obtain ⟨x2_45, e_46⟩ : ∃ z : Int32, z = x2 + 1 := ⟨_, rfl⟩
                have h := glt_e e_46 h
                refine x_iinc (v := x2_45) g dX6_renderHabits_74 rfl (by rw [e_46]; rfl) rfl ?_
                refine x_goto 26 g dX6_renderHabits_77 (by decide) ?_
                exact ih _ _ h
              · have h := ite_t c_42 h
                refine x_bipush (v := 111) g dX6_renderHabits_64 (by decide) ?_
                refine x_goto 71 g dX6_renderHabits_66 (by decide) ?_
                obtain ⟨S_48, q_47, h⟩ := gb_e h
                refine x_cV [] g (k_X6_writes q_47) ca_X6_writes in_X6_writes se_X6_writes lm_X6_200 gXX6 q_37 (Nat.le_of_ble_eq_true rfl) rfl rfl (Nat.le_of_ble_eq_true rfl) dX6_renderHabits_71 rfl ?_
                obtain ⟨x2_49, e_50⟩ : ∃ z : Int32, z = x2 + 1 := ⟨_, rfl⟩
                have h := glt_e e_50 h
                refine x_iinc (v := x2_49) g dX6_renderHabits_74 rfl (by rw [e_50]; rfl) rfl ?_
                refine x_goto 26 g dX6_renderHabits_77 (by decide) ?_
                exact ih _ _ h
    exact L26 gN _ _ h
  · have h := ite_t c_6 h
    refine x_aload_n 0 g dX6_renderHabits_13 rfl rfl ?_
    refine x_iconst (v := 1) g dX6_renderHabits_14 (by decide) ?_
    obtain ⟨r_52, S_53, q_51, h⟩ := gb2_e h
    refine x_cV [.int r_52] g (k_X6_fails q_51) ca_X6_fails in_X6_fails se_X6_fails lm_X6_84 gXX6 q_1 (Nat.le_of_ble_eq_true rfl) rfl rfl (Nat.le_of_ble_eq_true rfl) dX6_renderHabits_15 rfl ?_
    cases h
    exact x_iretS g e dX6_renderHabits_18 rfl rfl
noncomputable def f_X6_renderUmbrella_L91 (G : gG) (a0 : Nat) (a1 : Int32) : Nat → Int32 → gS → Option (Int32 × gS)
  | 0, _, _ => none
  | n91 + 1, x2, S => if 4 ≤ x2 then (gd (gis G 3 a0) <| some (gI S 34 a0, S)) else (gd (gis G 3 a0) <| gb (f_X6_hasExamOf G a0 a1 x2 S) fun (r_37 : Bool) => if (gz r_37) = 0 then (glt (x2 + 1) fun (x2_39 : Int32) => f_X6_renderUmbrella_L91 G a0 a1 n91 x2_39 S) else (gb (f_X6_writes G a0 (48 + x2) S) fun (S_42 : gS) => glt (x2 + 1) fun (x2_43 : Int32) => f_X6_renderUmbrella_L91 G a0 a1 n91 x2_43 S_42))
noncomputable def f_X6_renderUmbrella (G : gG) (a0 : Nat) (a1 : Int32) (S : gS) : Option (Int32 × gS) := gd (gis G 3 a0) <| glt (sI S 30 a0 0) fun (S_2 : gS) => gb (f_X6_isUmbrella G a0 a1 S_2) fun (r_5 : Bool) => if (gz r_5) = 0 then (gb2 (f_X6_fails G a0 1 S_2) fun (r_46 : Int32) (S_47 : gS) => some (r_46, S_47)) else (glt (sI S_2 34 a0 0) fun (S_7 : gS) => gb (f_X6_of G a0 a1 3 S_7) fun (r_10 : Int32) => gb (f_X6_writesNumber G a0 r_10 S_7) fun (S_12 : gS) => gb (f_X6_writes G a0 47 S_12) fun (S_14 : gS) => gb (f_X6_of G a0 a1 0 S_14) fun (r_16 : Int32) => gb (f_X6_writesNumber G a0 r_16 S_14) fun (S_18 : gS) => gb (f_X6_writes G a0 112 S_18) fun (S_20 : gS) => gb (f_X6_of G a0 a1 1 S_20) fun (r_22 : Int32) => gb (f_X6_writesNumber G a0 r_22 S_20) fun (S_24 : gS) => gb (f_X6_writes G a0 42 S_24) fun (S_26 : gS) => gb (f_X6_of G a0 a1 6 S_26) fun (r_28 : Int32) => gb (f_X6_writesNumber G a0 r_28 S_26) fun (S_30 : gS) => gb (f_X6_writes G a0 58 S_30) fun (S_32 : gS) => f_X6_renderUmbrella_L91 G a0 a1 gN 0 S_32)
set_option maxRecDepth 100000 in
set_option maxHeartbeats 4000000 in
theorem k_X6_renderUmbrella {ad : Nat → Nat} {G : gG} {a0 : Nat} {a1 : Int32} {S S1 : gS} {T : gT} {r : Int32} (h : f_X6_renderUmbrella G a0 a1 S = some (r, S1)) : Ct ad yX6_renderUmbrella (Cond.code yX6_renderUmbrella cX6_renderUmbrella 3 (some .int) :: gTb) 2 0 0 [.ref a0, .int a1] G S T (some (.int r)) G S1 T := by
  refine Ct.ofB rfl (Nat.le_of_ble_eq_true rfl) rfl (fun K g e hK => ?_)
  obtain ⟨rfl, -⟩ := hK
  show Xj K [] G 0 [some (.ref a0), some (.int a1), none] [] S T 0 0
  unfold f_X6_renderUmbrella at h
  refine x_aload_n 0 g dX6_renderUmbrella_0 rfl rfl ?_
  refine x_iconst (v := 0) g dX6_renderUmbrella_1 (by decide) ?_
  obtain ⟨q_1, h⟩ := gd_e h
  refine x_puti g dX6_renderUmbrella_2 gXX6 0 30 rfl (by decide) rfl rfl lf_X6_1 rfl rfl q_1 ?_
  refine x_nS (fun S_2 e_3 => ?_)
  have h := glt_e e_3 h
  refine x_aload_n 0 g dX6_renderUmbrella_5 rfl rfl ?_
  refine x_iload_n 1 g dX6_renderUmbrella_6 rfl rfl ?_
  obtain ⟨r_5, q_4, h⟩ := gb_e h
  refine x_cV [.int (gz r_5)] g (k_X6_isUmbrella q_4) ca_X6_isUmbrella in_X6_isUmbrella se_X6_isUmbrella lm_X6_110 gXX6 q_1 (Nat.le_of_ble_eq_true rfl) rfl rfl (Nat.le_of_ble_eq_true rfl) dX6_renderUmbrella_7 rfl ?_
  refine x_if_ne 19 g dX6_renderUmbrella_10 (by decide) (fun c_6 => ?_) (fun c_6 => ?_)
  · have h := ite_f c_6 h
    refine x_aload_n 0 g dX6_renderUmbrella_19 rfl rfl ?_
    refine x_iconst (v := 0) g dX6_renderUmbrella_20 (by decide) ?_
    refine x_puti g dX6_renderUmbrella_21 gXX6 9 34 rfl (by decide) rfl rfl lf_X6_197 rfl rfl q_1 ?_
    refine x_nS (fun S_7 e_8 => ?_)
    have h := glt_e e_8 h
    refine x_aload_n 0 g dX6_renderUmbrella_24 rfl rfl ?_
    refine x_aload_n 0 g dX6_renderUmbrella_25 rfl rfl ?_
    refine x_iload_n 1 g dX6_renderUmbrella_26 rfl rfl ?_
    refine x_iconst (v := 3) g dX6_renderUmbrella_27 (by decide) ?_
    obtain ⟨r_10, q_9, h⟩ := gb_e h
    refine x_cV [.int r_10, .ref a0] g (k_X6_of q_9) ca_X6_of in_X6_of se_X6_of lm_X6_62 gXX6 q_1 (Nat.le_of_ble_eq_true rfl) rfl rfl (Nat.le_of_ble_eq_true rfl) dX6_renderUmbrella_28 rfl ?_
    obtain ⟨S_12, q_11, h⟩ := gb_e h
    refine x_cV [] g (k_X6_writesNumber q_11) ca_X6_writesNumber in_X6_writesNumber se_X6_writesNumber lm_X6_204 gXX6 q_1 (Nat.le_of_ble_eq_true rfl) rfl rfl (Nat.le_of_ble_eq_true rfl) dX6_renderUmbrella_31 rfl ?_
    refine x_aload_n 0 g dX6_renderUmbrella_34 rfl rfl ?_
    refine x_bipush (v := 47) g dX6_renderUmbrella_35 (by decide) ?_
    obtain ⟨S_14, q_13, h⟩ := gb_e h
    refine x_cV [] g (k_X6_writes q_13) ca_X6_writes in_X6_writes se_X6_writes lm_X6_200 gXX6 q_1 (Nat.le_of_ble_eq_true rfl) rfl rfl (Nat.le_of_ble_eq_true rfl) dX6_renderUmbrella_37 rfl ?_
    refine x_aload_n 0 g dX6_renderUmbrella_40 rfl rfl ?_
    refine x_aload_n 0 g dX6_renderUmbrella_41 rfl rfl ?_
    refine x_iload_n 1 g dX6_renderUmbrella_42 rfl rfl ?_
    refine x_iconst (v := 0) g dX6_renderUmbrella_43 (by decide) ?_
    obtain ⟨r_16, q_15, h⟩ := gb_e h
    refine x_cV [.int r_16, .ref a0] g (k_X6_of q_15) ca_X6_of in_X6_of se_X6_of lm_X6_62 gXX6 q_1 (Nat.le_of_ble_eq_true rfl) rfl rfl (Nat.le_of_ble_eq_true rfl) dX6_renderUmbrella_44 rfl ?_
    obtain ⟨S_18, q_17, h⟩ := gb_e h
    refine x_cV [] g (k_X6_writesNumber q_17) ca_X6_writesNumber in_X6_writesNumber se_X6_writesNumber lm_X6_204 gXX6 q_1 (Nat.le_of_ble_eq_true rfl) rfl rfl (Nat.le_of_ble_eq_true rfl) dX6_renderUmbrella_47 rfl ?_
    refine x_aload_n 0 g dX6_renderUmbrella_50 rfl rfl ?_
    refine x_bipush (v := 112) g dX6_renderUmbrella_51 (by decide) ?_
    obtain ⟨S_20, q_19, h⟩ := gb_e h
    refine x_cV [] g (k_X6_writes q_19) ca_X6_writes in_X6_writes se_X6_writes lm_X6_200 gXX6 q_1 (Nat.le_of_ble_eq_true rfl) rfl rfl (Nat.le_of_ble_eq_true rfl) dX6_renderUmbrella_53 rfl ?_
    refine x_aload_n 0 g dX6_renderUmbrella_56 rfl rfl ?_
    refine x_aload_n 0 g dX6_renderUmbrella_57 rfl rfl ?_
    refine x_iload_n 1 g dX6_renderUmbrella_58 rfl rfl ?_
    refine x_iconst (v := 1) g dX6_renderUmbrella_59 (by decide) ?_
    obtain ⟨r_22, q_21, h⟩ := gb_e h
    refine x_cV [.int r_22, .ref a0] g (k_X6_of q_21) ca_X6_of in_X6_of se_X6_of lm_X6_62 gXX6 q_1 (Nat.le_of_ble_eq_true rfl) rfl rfl (Nat.le_of_ble_eq_true rfl) dX6_renderUmbrella_60 rfl ?_
    obtain ⟨S_24, q_23, h⟩ := gb_e h
    refine x_cV [] g (k_X6_writesNumber q_23) ca_X6_writesNumber in_X6_writesNumber se_X6_writesNumber lm_X6_204 gXX6 q_1 (Nat.le_of_ble_eq_true rfl) rfl rfl (Nat.le_of_ble_eq_true rfl) dX6_renderUmbrella_63 rfl ?_
    refine x_aload_n 0 g dX6_renderUmbrella_66 rfl rfl ?_
    refine x_bipush (v := 42) g dX6_renderUmbrella_67 (by decide) ?_
    obtain ⟨S_26, q_25, h⟩ := gb_e h
    refine x_cV [] g (k_X6_writes q_25) ca_X6_writes in_X6_writes se_X6_writes lm_X6_200 gXX6 q_1 (Nat.le_of_ble_eq_true rfl) rfl rfl (Nat.le_of_ble_eq_true rfl) dX6_renderUmbrella_69 rfl ?_
    refine x_aload_n 0 g dX6_renderUmbrella_72 rfl rfl ?_
    refine x_aload_n 0 g dX6_renderUmbrella_73 rfl rfl ?_
    refine x_iload_n 1 g dX6_renderUmbrella_74 rfl rfl ?_
    refine x_bipush (v := 6) g dX6_renderUmbrella_75 (by decide) ?_
    obtain ⟨r_28, q_27, h⟩ := gb_e h
    refine x_cV [.int r_28, .ref a0] g (k_X6_of q_27) ca_X6_of in_X6_of se_X6_of lm_X6_62 gXX6 q_1 (Nat.le_of_ble_eq_true rfl) rfl rfl (Nat.le_of_ble_eq_true rfl) dX6_renderUmbrella_77 rfl ?_
    obtain ⟨S_30, q_29, h⟩ := gb_e h
    refine x_cV [] g (k_X6_writesNumber q_29) ca_X6_writesNumber in_X6_writesNumber se_X6_writesNumber lm_X6_204 gXX6 q_1 (Nat.le_of_ble_eq_true rfl) rfl rfl (Nat.le_of_ble_eq_true rfl) dX6_renderUmbrella_80 rfl ?_
    refine x_aload_n 0 g dX6_renderUmbrella_83 rfl rfl ?_
    refine x_bipush (v := 58) g dX6_renderUmbrella_84 (by decide) ?_
    obtain ⟨S_32, q_31, h⟩ := gb_e h
    refine x_cV [] g (k_X6_writes q_31) ca_X6_writes in_X6_writes se_X6_writes lm_X6_200 gXX6 q_1 (Nat.le_of_ble_eq_true rfl) rfl rfl (Nat.le_of_ble_eq_true rfl) dX6_renderUmbrella_86 rfl ?_
    refine x_iconst (v := 0) g dX6_renderUmbrella_89 (by decide) ?_
    refine x_istore_n 2 g dX6_renderUmbrella_90 rfl (Nat.le_of_ble_eq_true rfl) rfl ?_
    have L91 : ∀ (n91 : Nat) (x2 : Int32) (S : gS), f_X6_renderUmbrella_L91 G a0 a1 n91 x2 S = some (r, S1) → Xj K [] G 91 [some (.ref a0), some (.int a1), some (.int x2)] [] S T 0 0 := by
      intro n91
      induction n91 with
      | zero =>
        intro x2 S h
        rw [f_X6_renderUmbrella_L91] at h
        cases h
      | succ n91 ih =>
        intro x2 S h
        rw [f_X6_renderUmbrella_L91] at h
        refine x_iload_n 2 g dX6_renderUmbrella_91 rfl rfl ?_
        refine x_iconst (v := 4) g dX6_renderUmbrella_92 (by decide) ?_
        refine x_icmp_ge 119 g dX6_renderUmbrella_93 (by decide) (fun c_33 => ?_) (fun c_33 => ?_)
        · have h := ite_t c_33 h
          refine x_aload_n 0 g dX6_renderUmbrella_119 rfl rfl ?_
          obtain ⟨q_34, h⟩ := gd_e h
          refine x_geti g dX6_renderUmbrella_120 gXX6 9 34 rfl (by decide) rfl lf_X6_197 q_34 ?_
          cases h
          exact x_iretS g e dX6_renderUmbrella_123 rfl rfl
        · have h := ite_f c_33 h
          refine x_aload_n 0 g dX6_renderUmbrella_96 rfl rfl ?_
          refine x_iload_n 1 g dX6_renderUmbrella_97 rfl rfl ?_
          refine x_iload_n 2 g dX6_renderUmbrella_98 rfl rfl ?_
          obtain ⟨q_35, h⟩ := gd_e h
          obtain ⟨r_37, q_36, h⟩ := gb_e h
          refine x_cV [.int (gz r_37)] g (k_X6_hasExamOf q_36) ca_X6_hasExamOf in_X6_hasExamOf se_X6_hasExamOf lm_X6_156 gXX6 q_35 (Nat.le_of_ble_eq_true rfl) rfl rfl (Nat.le_of_ble_eq_true rfl) dX6_renderUmbrella_99 rfl ?_
          refine x_if_eq 113 g dX6_renderUmbrella_102 (by decide) (fun c_38 => ?_) (fun c_38 => ?_)
          · have h := ite_t c_38 h
            obtain ⟨x2_39, e_40⟩ : ∃ z : Int32, z = x2 + 1 := ⟨_, rfl⟩
            have h := glt_e e_40 h
            refine x_iinc (v := x2_39) g dX6_renderUmbrella_113 rfl (by rw [e_40]; rfl) rfl ?_
            refine x_goto 91 g dX6_renderUmbrella_116 (by decide) ?_
            exact ih _ _ h
          · have h := ite_f c_38 h
            refine x_aload_n 0 g dX6_renderUmbrella_105 rfl rfl ?_
            refine x_bipush (v := 48) g dX6_renderUmbrella_106 (by decide) ?_
            refine x_iload_n 2 g dX6_renderUmbrella_108 rfl rfl ?_
            refine x_iadd g dX6_renderUmbrella_109 ?_
            obtain ⟨S_42, q_41, h⟩ := gb_e h
            refine x_cV [] g (k_X6_writes q_41) ca_X6_writes in_X6_writes se_X6_writes lm_X6_200 gXX6 q_35 (Nat.le_of_ble_eq_true rfl) rfl rfl (Nat.le_of_ble_eq_true rfl) dX6_renderUmbrella_110 rfl ?_
            obtain ⟨x2_43, e_44⟩ : ∃ z : Int32, z = x2 + 1 := ⟨_, rfl⟩
            have h := glt_e e_44 h
            refine x_iinc (v := x2_43) g dX6_renderUmbrella_113 rfl (by rw [e_44]; rfl) rfl ?_
            refine x_goto 91 g dX6_renderUmbrella_116 (by decide) ?_
            exact ih _ _ h
    exact L91 gN _ _ h
  · have h := ite_t c_6 h
    refine x_aload_n 0 g dX6_renderUmbrella_13 rfl rfl ?_
    refine x_iconst (v := 1) g dX6_renderUmbrella_14 (by decide) ?_
    obtain ⟨r_46, S_47, q_45, h⟩ := gb2_e h
    refine x_cV [.int r_46] g (k_X6_fails q_45) ca_X6_fails in_X6_fails se_X6_fails lm_X6_84 gXX6 q_1 (Nat.le_of_ble_eq_true rfl) rfl rfl (Nat.le_of_ble_eq_true rfl) dX6_renderUmbrella_15 rfl ?_
    cases h
    exact x_iretS g e dX6_renderUmbrella_18 rfl rfl
noncomputable def f_X6_outputAt (G : gG) (a0 : Nat) (a1 : Int32) (S : gS) : Option (Int32 × gS) := gd (gis G 3 a0) <| glt (sI S 30 a0 0) fun (S_2 : gS) => gb (f_X6_isBetween a1 0 ((gI S_2 34 a0) - 1)) fun (r_5 : Bool) => if (gz r_5) = 0 then (gb2 (f_X6_fails G a0 1 S_2) fun (r_8 : Int32) (S_9 : gS) => gd (narrow .char (.int ((r_8.toUInt32 % 65536).toInt32)) = .int ((r_8.toUInt32 % 65536).toInt32)) <| some (((r_8.toUInt32 % 65536).toInt32), S_9)) else (gb (gP S_2 14 a0) fun (b_11 : Nat) => gd (gis G 6 b_11) <| gd (vp_in a1 (gn G b_11)) <| gd (narrow .char (.int (gr S_2 b_11 (Int32.toNatClampNeg a1))) = .int (gr S_2 b_11 (Int32.toNatClampNeg a1))) <| some ((gr S_2 b_11 (Int32.toNatClampNeg a1)), S_2))
set_option maxRecDepth 100000 in
set_option maxHeartbeats 4000000 in
theorem k_X6_outputAt {ad : Nat → Nat} {G : gG} {a0 : Nat} {a1 : Int32} {S S1 : gS} {T : gT} {r : Int32} (h : f_X6_outputAt G a0 a1 S = some (r, S1)) : Ct ad yX6_outputAt (Cond.code yX6_outputAt cX6_outputAt 2 (some .char) :: gTb) 1 0 0 [.ref a0, .int a1] G S T (some (.int r)) G S1 T := by
  refine Ct.ofB rfl (Nat.le_of_ble_eq_true rfl) rfl (fun K g e hK => ?_)
  obtain ⟨rfl, -⟩ := hK
  show Xj K [] G 0 [some (.ref a0), some (.int a1)] [] S T 0 0
  unfold f_X6_outputAt at h
  refine x_aload_n 0 g dX6_outputAt_0 rfl rfl ?_
  refine x_iconst (v := 0) g dX6_outputAt_1 (by decide) ?_
  obtain ⟨q_1, h⟩ := gd_e h
  refine x_puti g dX6_outputAt_2 gXX6 0 30 rfl (by decide) rfl rfl lf_X6_1 rfl rfl q_1 ?_
  refine x_nS (fun S_2 e_3 => ?_)
  have h := glt_e e_3 h
  refine x_iload_n 1 g dX6_outputAt_5 rfl rfl ?_
  refine x_iconst (v := 0) g dX6_outputAt_6 (by decide) ?_
  refine x_aload_n 0 g dX6_outputAt_7 rfl rfl ?_
  refine x_geti g dX6_outputAt_8 gXX6 9 34 rfl (by decide) rfl lf_X6_197 q_1 ?_
  refine x_iconst (v := 1) g dX6_outputAt_11 (by decide) ?_
  refine x_isub g dX6_outputAt_12 ?_
  obtain ⟨r_5, q_4, h⟩ := gb_e h
  refine x_cS [.int (gz r_5)] g (k_X6_isBetween q_4) ca_X6_isBetween st_X6_isBetween lm_X6_54 (Nat.le_of_ble_eq_true rfl) rfl rfl (Nat.le_of_ble_eq_true rfl) dX6_outputAt_13 rfl ?_
  refine x_if_eq 26 g dX6_outputAt_16 (by decide) (fun c_6 => ?_) (fun c_6 => ?_)
  · have h := ite_t c_6 h
    refine x_aload_n 0 g dX6_outputAt_26 rfl rfl ?_
    refine x_iconst (v := 1) g dX6_outputAt_27 (by decide) ?_
    obtain ⟨r_8, S_9, q_7, h⟩ := gb2_e h
    refine x_cV [.int r_8] g (k_X6_fails q_7) ca_X6_fails in_X6_fails se_X6_fails lm_X6_84 gXX6 q_1 (Nat.le_of_ble_eq_true rfl) rfl rfl (Nat.le_of_ble_eq_true rfl) dX6_outputAt_28 rfl ?_
    refine x_i2c g dX6_outputAt_31 rfl ?_
    obtain ⟨q_10, h⟩ := gd_e h
    cases h
    exact x_cretS g e dX6_outputAt_32 q_10 rfl rfl
  · have h := ite_f c_6 h
    refine x_aload_n 0 g dX6_outputAt_19 rfl rfl ?_
    obtain ⟨b_11, e_12, h⟩ := gb_e h
    refine x_getr g dX6_outputAt_20 gXX6 8 14 rfl (by decide) rfl lf_X6_26 q_1 e_12 ?_
    refine x_iload_n 1 g dX6_outputAt_23 rfl rfl ?_
    obtain ⟨q_13, h⟩ := gd_e h
    obtain ⟨q_14, h⟩ := gd_e h
    refine x_cald g dX6_outputAt_24 q_13 q_14 ?_
    obtain ⟨q_15, h⟩ := gd_e h
    cases h
    exact x_cretS g e dX6_outputAt_25 q_15 rfl rfl
noncomputable def f_X6_type (G : gG) (a0 : Nat) (a1 : Int32) (S : gS) : Option (Int32 × gS) := gd (gis G 3 a0) <| glt (sI S 30 a0 0) fun (S_2 : gS) => gb (f_X6_isBetween a1 32 126) fun (r_5 : Bool) => if (gz r_5) = 0 then (gb2 (f_X6_fails G a0 1 S_2) fun (r_20 : Int32) (S_21 : gS) => some (r_20, S_21)) else (if (gI S_2 35 a0) = 60 then (gb2 (f_X6_fails G a0 2 S_2) fun (r_17 : Int32) (S_18 : gS) => some (r_17, S_18)) else (gb (gP S_2 15 a0) fun (b_8 : Nat) => gd (gis G 6 b_8) <| gd (vp_in (gI S_2 35 a0) (gn G b_8)) <| glt (sr S_2 b_8 (Int32.toNatClampNeg (gI S_2 35 a0)) (vp_nar .char a1)) fun (S_12 : gS) => glt (sI S_12 35 a0 ((gI S_12 35 a0) + 1)) fun (S_14 : gS) => some (gI S_14 35 a0, S_14)))
set_option maxRecDepth 100000 in
set_option maxHeartbeats 4000000 in
theorem k_X6_type {ad : Nat → Nat} {G : gG} {a0 : Nat} {a1 : Int32} {S S1 : gS} {T : gT} {r : Int32} (h : f_X6_type G a0 a1 S = some (r, S1)) : Ct ad yX6_type (Cond.code yX6_type cX6_type 2 (some .int) :: gTb) 1 0 0 [.ref a0, .int a1] G S T (some (.int r)) G S1 T := by
  refine Ct.ofB rfl (Nat.le_of_ble_eq_true rfl) rfl (fun K g e hK => ?_)
  obtain ⟨rfl, -⟩ := hK
  show Xj K [] G 0 [some (.ref a0), some (.int a1)] [] S T 0 0
  unfold f_X6_type at h
  refine x_aload_n 0 g dX6_type_0 rfl rfl ?_
  refine x_iconst (v := 0) g dX6_type_1 (by decide) ?_
  obtain ⟨q_1, h⟩ := gd_e h
  refine x_puti g dX6_type_2 gXX6 0 30 rfl (by decide) rfl rfl lf_X6_1 rfl rfl q_1 ?_
  refine x_nS (fun S_2 e_3 => ?_)
  have h := glt_e e_3 h
  refine x_iload_n 1 g dX6_type_5 rfl rfl ?_
  refine x_bipush (v := 32) g dX6_type_6 (by decide) ?_
  refine x_bipush (v := 126) g dX6_type_8 (by decide) ?_
  obtain ⟨r_5, q_4, h⟩ := gb_e h
  refine x_cS [.int (gz r_5)] g (k_X6_isBetween q_4) ca_X6_isBetween st_X6_isBetween lm_X6_54 (Nat.le_of_ble_eq_true rfl) rfl rfl (Nat.le_of_ble_eq_true rfl) dX6_type_10 rfl ?_
  refine x_if_ne 22 g dX6_type_13 (by decide) (fun c_6 => ?_) (fun c_6 => ?_)
  · have h := ite_f c_6 h
    refine x_aload_n 0 g dX6_type_22 rfl rfl ?_
    refine x_geti g dX6_type_23 gXX6 11 35 rfl (by decide) rfl lf_X6_207 q_1 ?_
    refine x_bipush (v := 60) g dX6_type_26 (by decide) ?_
    refine x_icmp_ne 37 g dX6_type_28 (by decide) (fun c_7 => ?_) (fun c_7 => ?_)
    · have h := ite_f c_7 h
      refine x_aload_n 0 g dX6_type_37 rfl rfl ?_
      obtain ⟨b_8, e_9, h⟩ := gb_e h
      refine x_getr g dX6_type_38 gXX6 10 15 rfl (by decide) rfl lf_X6_30 q_1 e_9 ?_
      refine x_aload_n 0 g dX6_type_41 rfl rfl ?_
      refine x_geti g dX6_type_42 gXX6 11 35 rfl (by decide) rfl lf_X6_207 q_1 ?_
      refine x_iload_n 1 g dX6_type_45 rfl rfl ?_
      obtain ⟨q_10, h⟩ := gd_e h
      obtain ⟨q_11, h⟩ := gd_e h
      refine x_cast g dX6_type_46 q_10 q_11 ?_
      refine x_nS (fun S_12 e_13 => ?_)
      have h := glt_e e_13 h
      refine x_aload_n 0 g dX6_type_47 rfl rfl ?_
      refine x_dup g dX6_type_48 rfl ?_
      refine x_geti g dX6_type_49 gXX6 11 35 rfl (by decide) rfl lf_X6_207 q_1 ?_
      refine x_iconst (v := 1) g dX6_type_52 (by decide) ?_
      refine x_iadd g dX6_type_53 ?_
      refine x_puti g dX6_type_54 gXX6 11 35 rfl (by decide) rfl rfl lf_X6_207 rfl rfl q_1 ?_
      refine x_nS (fun S_14 e_15 => ?_)
      have h := glt_e e_15 h
      refine x_aload_n 0 g dX6_type_57 rfl rfl ?_
      refine x_geti g dX6_type_58 gXX6 11 35 rfl (by decide) rfl lf_X6_207 q_1 ?_
      cases h
      exact x_iretS g e dX6_type_61 rfl rfl
    · have h := ite_t c_7 h
      refine x_aload_n 0 g dX6_type_31 rfl rfl ?_
      refine x_iconst (v := 2) g dX6_type_32 (by decide) ?_
      obtain ⟨r_17, S_18, q_16, h⟩ := gb2_e h
      refine x_cV [.int r_17] g (k_X6_fails q_16) ca_X6_fails in_X6_fails se_X6_fails lm_X6_84 gXX6 q_1 (Nat.le_of_ble_eq_true rfl) rfl rfl (Nat.le_of_ble_eq_true rfl) dX6_type_33 rfl ?_
      cases h
      exact x_iretS g e dX6_type_36 rfl rfl
  · have h := ite_t c_6 h
    refine x_aload_n 0 g dX6_type_16 rfl rfl ?_
    refine x_iconst (v := 1) g dX6_type_17 (by decide) ?_
    obtain ⟨r_20, S_21, q_19, h⟩ := gb2_e h
    refine x_cV [.int r_20] g (k_X6_fails q_19) ca_X6_fails in_X6_fails se_X6_fails lm_X6_84 gXX6 q_1 (Nat.le_of_ble_eq_true rfl) rfl rfl (Nat.le_of_ble_eq_true rfl) dX6_type_18 rfl ?_
    cases h
    exact x_iretS g e dX6_type_21 rfl rfl
noncomputable def f_X6_nextChar (G : gG) (a0 : Nat) (S : gS) : Option Int32 := gd (gis G 3 a0) <| if (gI S 35 a0) ≤ (gI S 36 a0) then (some (-1)) else (gb (gP S 15 a0) fun (b_3 : Nat) => gd (gis G 6 b_3) <| gd (vp_in (gI S 36 a0) (gn G b_3)) <| some (gr S b_3 (Int32.toNatClampNeg (gI S 36 a0))))
set_option maxRecDepth 100000 in
set_option maxHeartbeats 4000000 in
theorem k_X6_nextChar {ad : Nat → Nat} {G : gG} {a0 : Nat} {S : gS} {T : gT} {r : Int32} (h : f_X6_nextChar G a0 S = some r) : Ct ad yX6_nextChar (Cond.code yX6_nextChar cX6_nextChar 1 (some .int) :: gTb) 0 0 0 [.ref a0] G S T (some (.int r)) G S T := by
  refine Ct.ofB rfl (Nat.le_of_ble_eq_true rfl) rfl (fun K g e hK => ?_)
  obtain ⟨rfl, -⟩ := hK
  show Xj K [] G 0 [some (.ref a0)] [] S T 0 0
  unfold f_X6_nextChar at h
  refine x_aload_n 0 g dX6_nextChar_0 rfl rfl ?_
  obtain ⟨q_1, h⟩ := gd_e h
  refine x_geti g dX6_nextChar_1 gXX6 12 36 rfl (by decide) rfl lf_X6_210 q_1 ?_
  refine x_aload_n 0 g dX6_nextChar_4 rfl rfl ?_
  refine x_geti g dX6_nextChar_5 gXX6 11 35 rfl (by decide) rfl lf_X6_207 q_1 ?_
  refine x_icmp_ge 23 g dX6_nextChar_8 (by decide) (fun c_2 => ?_) (fun c_2 => ?_)
  · have h := ite_t c_2 h
    refine x_iconst (v := (-1)) g dX6_nextChar_23 (by decide) ?_
    cases h
    exact x_iretS g e dX6_nextChar_24 rfl rfl
  · have h := ite_f c_2 h
    refine x_aload_n 0 g dX6_nextChar_11 rfl rfl ?_
    obtain ⟨b_3, e_4, h⟩ := gb_e h
    refine x_getr g dX6_nextChar_12 gXX6 10 15 rfl (by decide) rfl lf_X6_30 q_1 e_4 ?_
    refine x_aload_n 0 g dX6_nextChar_15 rfl rfl ?_
    refine x_geti g dX6_nextChar_16 gXX6 12 36 rfl (by decide) rfl lf_X6_210 q_1 ?_
    obtain ⟨q_5, h⟩ := gd_e h
    obtain ⟨q_6, h⟩ := gd_e h
    refine x_cald g dX6_nextChar_19 q_5 q_6 ?_
    refine x_goto 24 g dX6_nextChar_20 (by decide) ?_
    cases h
    exact x_iretS g e dX6_nextChar_24 rfl rfl
noncomputable def f_X6_reads (G : gG) (a0 : Nat) (a1 : Int32) (S : gS) : Option (Bool × gS) := gd (gis G 3 a0) <| gb (f_X6_nextChar G a0 S) fun (r_3 : Int32) => if r_3 = a1 then (glt (sI S 36 a0 ((gI S 36 a0) + 1)) fun (S_5 : gS) => some (true, S_5)) else (some (false, S))
set_option maxRecDepth 100000 in
set_option maxHeartbeats 4000000 in
theorem k_X6_reads {ad : Nat → Nat} {G : gG} {a0 : Nat} {a1 : Int32} {S S1 : gS} {T : gT} {r : Bool} (h : f_X6_reads G a0 a1 S = some (r, S1)) : Ct ad yX6_reads (Cond.code yX6_reads cX6_reads 2 (some .boolean) :: gTb) 1 0 0 [.ref a0, .int a1] G S T (some (.int (gz r))) G S1 T := by
  refine Ct.ofB rfl (Nat.le_of_ble_eq_true rfl) rfl (fun K g e hK => ?_)
  obtain ⟨rfl, -⟩ := hK
  show Xj K [] G 0 [some (.ref a0), some (.int a1)] [] S T 0 0
  unfold f_X6_reads at h
  refine x_aload_n 0 g dX6_reads_0 rfl rfl ?_
  obtain ⟨q_1, h⟩ := gd_e h
  obtain ⟨r_3, q_2, h⟩ := gb_e h
  refine x_cV [.int r_3] g (k_X6_nextChar q_2) ca_X6_nextChar in_X6_nextChar se_X6_nextChar lm_X6_213 gXX6 q_1 (Nat.le_of_ble_eq_true rfl) rfl rfl (Nat.le_of_ble_eq_true rfl) dX6_reads_1 rfl ?_
  refine x_iload_n 1 g dX6_reads_4 rfl rfl ?_
  refine x_icmp_eq 10 g dX6_reads_5 (by decide) (fun c_4 => ?_) (fun c_4 => ?_)
  · have h := ite_t c_4 h
    refine x_aload_n 0 g dX6_reads_10 rfl rfl ?_
    refine x_dup g dX6_reads_11 rfl ?_
    refine x_geti g dX6_reads_12 gXX6 12 36 rfl (by decide) rfl lf_X6_210 q_1 ?_
    refine x_iconst (v := 1) g dX6_reads_15 (by decide) ?_
    refine x_iadd g dX6_reads_16 ?_
    refine x_puti g dX6_reads_17 gXX6 12 36 rfl (by decide) rfl rfl lf_X6_210 rfl rfl q_1 ?_
    refine x_nS (fun S_5 e_6 => ?_)
    have h := glt_e e_6 h
    refine x_iconst (v := 1) g dX6_reads_20 (by decide) ?_
    cases h
    exact x_zretS (b := true) g e dX6_reads_21 rfl rfl rfl
  · have h := ite_f c_4 h
    refine x_iconst (v := 0) g dX6_reads_8 (by decide) ?_
    cases h
    exact x_zretS (b := false) g e dX6_reads_9 rfl rfl rfl
noncomputable def f_X6_readsDigit (G : gG) (a0 : Nat) (a1 : Int32) (S : gS) : Option (Bool × gS) := gd (gis G 3 a0) <| gb (f_X6_nextChar G a0 S) fun (r_3 : Int32) => gb (f_X6_isBetween r_3 48 57) fun (r_5 : Bool) => if (gz r_5) = 0 then (some (false, S)) else (gb (gP S 16 a0) fun (b_7 : Nat) => gb (f_X6_nextChar G a0 S) fun (r_10 : Int32) => gd (gis G 7 b_7) <| gd (vp_in a1 (gn G b_7)) <| glt (sr S b_7 (Int32.toNatClampNeg a1) (r_10 - 48)) fun (S_13 : gS) => glt (sI S_13 36 a0 ((gI S_13 36 a0) + 1)) fun (S_15 : gS) => some (true, S_15))
set_option maxRecDepth 100000 in
set_option maxHeartbeats 4000000 in
theorem k_X6_readsDigit {ad : Nat → Nat} {G : gG} {a0 : Nat} {a1 : Int32} {S S1 : gS} {T : gT} {r : Bool} (h : f_X6_readsDigit G a0 a1 S = some (r, S1)) : Ct ad yX6_readsDigit (Cond.code yX6_readsDigit cX6_readsDigit 2 (some .boolean) :: gTb) 1 0 0 [.ref a0, .int a1] G S T (some (.int (gz r))) G S1 T := by
  refine Ct.ofB rfl (Nat.le_of_ble_eq_true rfl) rfl (fun K g e hK => ?_)
  obtain ⟨rfl, -⟩ := hK
  show Xj K [] G 0 [some (.ref a0), some (.int a1)] [] S T 0 0
  unfold f_X6_readsDigit at h
  refine x_aload_n 0 g dX6_readsDigit_0 rfl rfl ?_
  obtain ⟨q_1, h⟩ := gd_e h
  obtain ⟨r_3, q_2, h⟩ := gb_e h
  refine x_cV [.int r_3] g (k_X6_nextChar q_2) ca_X6_nextChar in_X6_nextChar se_X6_nextChar lm_X6_213 gXX6 q_1 (Nat.le_of_ble_eq_true rfl) rfl rfl (Nat.le_of_ble_eq_true rfl) dX6_readsDigit_1 rfl ?_
  refine x_bipush (v := 48) g dX6_readsDigit_4 (by decide) ?_
  refine x_bipush (v := 57) g dX6_readsDigit_6 (by decide) ?_
  obtain ⟨r_5, q_4, h⟩ := gb_e h
  refine x_cS [.int (gz r_5)] g (k_X6_isBetween q_4) ca_X6_isBetween st_X6_isBetween lm_X6_54 (Nat.le_of_ble_eq_true rfl) rfl rfl (Nat.le_of_ble_eq_true rfl) dX6_readsDigit_8 rfl ?_
  refine x_if_ne 16 g dX6_readsDigit_11 (by decide) (fun c_6 => ?_) (fun c_6 => ?_)
  · have h := ite_f c_6 h
    refine x_aload_n 0 g dX6_readsDigit_16 rfl rfl ?_
    obtain ⟨b_7, e_8, h⟩ := gb_e h
    refine x_getr g dX6_readsDigit_17 gXX6 15 16 rfl (by decide) rfl lf_X6_39 q_1 e_8 ?_
    refine x_iload_n 1 g dX6_readsDigit_20 rfl rfl ?_
    refine x_aload_n 0 g dX6_readsDigit_21 rfl rfl ?_
    obtain ⟨r_10, q_9, h⟩ := gb_e h
    refine x_cV [.int r_10, .int a1, .ref b_7] g (k_X6_nextChar q_9) ca_X6_nextChar in_X6_nextChar se_X6_nextChar lm_X6_213 gXX6 q_1 (Nat.le_of_ble_eq_true rfl) rfl rfl (Nat.le_of_ble_eq_true rfl) dX6_readsDigit_22 rfl ?_
    refine x_bipush (v := 48) g dX6_readsDigit_25 (by decide) ?_
    refine x_isub g dX6_readsDigit_27 ?_
    obtain ⟨q_11, h⟩ := gd_e h
    obtain ⟨q_12, h⟩ := gd_e h
    refine x_iast g dX6_readsDigit_28 q_11 q_12 ?_
    refine x_nS (fun S_13 e_14 => ?_)
    have h := glt_e e_14 h
    refine x_aload_n 0 g dX6_readsDigit_29 rfl rfl ?_
    refine x_dup g dX6_readsDigit_30 rfl ?_
    refine x_geti g dX6_readsDigit_31 gXX6 12 36 rfl (by decide) rfl lf_X6_210 q_1 ?_
    refine x_iconst (v := 1) g dX6_readsDigit_34 (by decide) ?_
    refine x_iadd g dX6_readsDigit_35 ?_
    refine x_puti g dX6_readsDigit_36 gXX6 12 36 rfl (by decide) rfl rfl lf_X6_210 rfl rfl q_1 ?_
    refine x_nS (fun S_15 e_16 => ?_)
    have h := glt_e e_16 h
    refine x_iconst (v := 1) g dX6_readsDigit_39 (by decide) ?_
    cases h
    exact x_zretS (b := true) g e dX6_readsDigit_40 rfl rfl rfl
  · have h := ite_t c_6 h
    refine x_iconst (v := 0) g dX6_readsDigit_14 (by decide) ?_
    cases h
    exact x_zretS (b := false) g e dX6_readsDigit_15 rfl rfl rfl
noncomputable def f_X6_readsNumber (G : gG) (a0 : Nat) (a1 : Int32) (S : gS) : Option (Bool × gS) := gd (gis G 3 a0) <| gb2 (f_X6_readsDigit G a0 a1 S) fun (r_3 : Bool) (S_4 : gS) => if (gz r_3) = 0 then (some (false, S_4)) else (gb (f_X6_nextChar G a0 S_4) fun (r_7 : Int32) => gb (f_X6_isBetween r_7 48 57) fun (r_9 : Bool) => if (gz r_9) = 0 then (some (true, S_4)) else (gb (gP S_4 16 a0) fun (b_11 : Nat) => gb (gP S_4 16 a0) fun (b_13 : Nat) => gd (gis G 7 b_13) <| gd (vp_in a1 (gn G b_13)) <| gb (f_X6_nextChar G a0 S_4) fun (r_18 : Int32) => gd (gis G 7 b_11) <| gd (vp_in a1 (gn G b_11)) <| glt (sr S_4 b_11 (Int32.toNatClampNeg a1) (((10 * (gr S_4 b_13 (Int32.toNatClampNeg a1))) + r_18) - 48)) fun (S_21 : gS) => glt (sI S_21 36 a0 ((gI S_21 36 a0) + 1)) fun (S_23 : gS) => some (true, S_23)))
set_option maxRecDepth 100000 in
set_option maxHeartbeats 4000000 in
theorem k_X6_readsNumber {ad : Nat → Nat} {G : gG} {a0 : Nat} {a1 : Int32} {S S1 : gS} {T : gT} {r : Bool} (h : f_X6_readsNumber G a0 a1 S = some (r, S1)) : Ct ad yX6_readsNumber (Cond.code yX6_readsNumber cX6_readsNumber 2 (some .boolean) :: gTb) 2 0 0 [.ref a0, .int a1] G S T (some (.int (gz r))) G S1 T := by
  refine Ct.ofB rfl (Nat.le_of_ble_eq_true rfl) rfl (fun K g e hK => ?_)
  obtain ⟨rfl, -⟩ := hK
  show Xj K [] G 0 [some (.ref a0), some (.int a1)] [] S T 0 0
  unfold f_X6_readsNumber at h
  refine x_aload_n 0 g dX6_readsNumber_0 rfl rfl ?_
  refine x_iload_n 1 g dX6_readsNumber_1 rfl rfl ?_
  obtain ⟨q_1, h⟩ := gd_e h
  obtain ⟨r_3, S_4, q_2, h⟩ := gb2_e h
  refine x_cV [.int (gz r_3)] g (k_X6_readsDigit q_2) ca_X6_readsDigit in_X6_readsDigit se_X6_readsDigit lm_X6_216 gXX6 q_1 (Nat.le_of_ble_eq_true rfl) rfl rfl (Nat.le_of_ble_eq_true rfl) dX6_readsNumber_2 rfl ?_
  refine x_if_ne 10 g dX6_readsNumber_5 (by decide) (fun c_5 => ?_) (fun c_5 => ?_)
  · have h := ite_f c_5 h
    refine x_aload_n 0 g dX6_readsNumber_10 rfl rfl ?_
    obtain ⟨r_7, q_6, h⟩ := gb_e h
    refine x_cV [.int r_7] g (k_X6_nextChar q_6) ca_X6_nextChar in_X6_nextChar se_X6_nextChar lm_X6_213 gXX6 q_1 (Nat.le_of_ble_eq_true rfl) rfl rfl (Nat.le_of_ble_eq_true rfl) dX6_readsNumber_11 rfl ?_
    refine x_bipush (v := 48) g dX6_readsNumber_14 (by decide) ?_
    refine x_bipush (v := 57) g dX6_readsNumber_16 (by decide) ?_
    obtain ⟨r_9, q_8, h⟩ := gb_e h
    refine x_cS [.int (gz r_9)] g (k_X6_isBetween q_8) ca_X6_isBetween st_X6_isBetween lm_X6_54 (Nat.le_of_ble_eq_true rfl) rfl rfl (Nat.le_of_ble_eq_true rfl) dX6_readsNumber_18 rfl ?_
    refine x_if_ne 26 g dX6_readsNumber_21 (by decide) (fun c_10 => ?_) (fun c_10 => ?_)
    · have h := ite_f c_10 h
      refine x_aload_n 0 g dX6_readsNumber_26 rfl rfl ?_
      obtain ⟨b_11, e_12, h⟩ := gb_e h
      refine x_getr g dX6_readsNumber_27 gXX6 15 16 rfl (by decide) rfl lf_X6_39 q_1 e_12 ?_
      refine x_iload_n 1 g dX6_readsNumber_30 rfl rfl ?_
      refine x_bipush (v := 10) g dX6_readsNumber_31 (by decide) ?_
      refine x_aload_n 0 g dX6_readsNumber_33 rfl rfl ?_
      obtain ⟨b_13, e_14, h⟩ := gb_e h
      refine x_getr g dX6_readsNumber_34 gXX6 15 16 rfl (by decide) rfl lf_X6_39 q_1 e_14 ?_
      refine x_iload_n 1 g dX6_readsNumber_37 rfl rfl ?_
      obtain ⟨q_15, h⟩ := gd_e h
      obtain ⟨q_16, h⟩ := gd_e h
      refine x_iald g dX6_readsNumber_38 q_15 q_16 ?_
      refine x_imul g dX6_readsNumber_39 ?_
      refine x_aload_n 0 g dX6_readsNumber_40 rfl rfl ?_
      obtain ⟨r_18, q_17, h⟩ := gb_e h
      refine x_cV [.int r_18, .int (10 * (gr S_4 b_13 (Int32.toNatClampNeg a1))), .int a1, .ref b_11] g (k_X6_nextChar q_17) ca_X6_nextChar in_X6_nextChar se_X6_nextChar lm_X6_213 gXX6 q_1 (Nat.le_of_ble_eq_true rfl) rfl rfl (Nat.le_of_ble_eq_true rfl) dX6_readsNumber_41 rfl ?_
      refine x_iadd g dX6_readsNumber_44 ?_
      refine x_bipush (v := 48) g dX6_readsNumber_45 (by decide) ?_
      refine x_isub g dX6_readsNumber_47 ?_
      obtain ⟨q_19, h⟩ := gd_e h
      obtain ⟨q_20, h⟩ := gd_e h
      refine x_iast g dX6_readsNumber_48 q_19 q_20 ?_
      refine x_nS (fun S_21 e_22 => ?_)
      have h := glt_e e_22 h
      refine x_aload_n 0 g dX6_readsNumber_49 rfl rfl ?_
      refine x_dup g dX6_readsNumber_50 rfl ?_
      refine x_geti g dX6_readsNumber_51 gXX6 12 36 rfl (by decide) rfl lf_X6_210 q_1 ?_
      refine x_iconst (v := 1) g dX6_readsNumber_54 (by decide) ?_
      refine x_iadd g dX6_readsNumber_55 ?_
      refine x_puti g dX6_readsNumber_56 gXX6 12 36 rfl (by decide) rfl rfl lf_X6_210 rfl rfl q_1 ?_
      refine x_nS (fun S_23 e_24 => ?_)
      have h := glt_e e_24 h
      refine x_iconst (v := 1) g dX6_readsNumber_59 (by decide) ?_
      cases h
      exact x_zretS (b := true) g e dX6_readsNumber_60 rfl rfl rfl
    · have h := ite_t c_10 h
      refine x_iconst (v := 1) g dX6_readsNumber_24 (by decide) ?_
      cases h
      exact x_zretS (b := true) g e dX6_readsNumber_25 rfl rfl rfl
  · have h := ite_t c_5 h
    refine x_iconst (v := 0) g dX6_readsNumber_8 (by decide) ?_
    cases h
    exact x_zretS (b := false) g e dX6_readsNumber_9 rfl rfl rfl
noncomputable def f_X6_readsTwo (G : gG) (a0 : Nat) (S : gS) : Option (Bool × gS) := gd (gis G 3 a0) <| gb2 (f_X6_reads G a0 32 S) fun (r_3 : Bool) (S_4 : gS) => if (gz r_3) = 0 then (some (false, S_4)) else (gb2 (f_X6_readsDigit G a0 0 S_4) fun (r_7 : Bool) (S_8 : gS) => if (gz r_7) = 0 then (some (false, S_8)) else (gb2 (f_X6_reads G a0 32 S_8) fun (r_11 : Bool) (S_12 : gS) => if (gz r_11) = 0 then (some (false, S_12)) else (gb2 (f_X6_readsDigit G a0 1 S_12) fun (r_15 : Bool) (S_16 : gS) => if (gz r_15) = 0 then (some (false, S_16)) else (some (true, S_16)))))
set_option maxRecDepth 100000 in
set_option maxHeartbeats 4000000 in
theorem k_X6_readsTwo {ad : Nat → Nat} {G : gG} {a0 : Nat} {S S1 : gS} {T : gT} {r : Bool} (h : f_X6_readsTwo G a0 S = some (r, S1)) : Ct ad yX6_readsTwo (Cond.code yX6_readsTwo cX6_readsTwo 1 (some .boolean) :: gTb) 2 0 0 [.ref a0] G S T (some (.int (gz r))) G S1 T := by
  refine Ct.ofB rfl (Nat.le_of_ble_eq_true rfl) rfl (fun K g e hK => ?_)
  obtain ⟨rfl, -⟩ := hK
  show Xj K [] G 0 [some (.ref a0)] [] S T 0 0
  unfold f_X6_readsTwo at h
  refine x_aload_n 0 g dX6_readsTwo_0 rfl rfl ?_
  refine x_bipush (v := 32) g dX6_readsTwo_1 (by decide) ?_
  obtain ⟨q_1, h⟩ := gd_e h
  obtain ⟨r_3, S_4, q_2, h⟩ := gb2_e h
  refine x_cV [.int (gz r_3)] g (k_X6_reads q_2) ca_X6_reads in_X6_reads se_X6_reads lm_X6_219 gXX6 q_1 (Nat.le_of_ble_eq_true rfl) rfl rfl (Nat.le_of_ble_eq_true rfl) dX6_readsTwo_3 rfl ?_
  refine x_if_eq 38 g dX6_readsTwo_6 (by decide) (fun c_5 => ?_) (fun c_5 => ?_)
  · have h := ite_t c_5 h
    refine x_iconst (v := 0) g dX6_readsTwo_38 (by decide) ?_
    cases h
    exact x_zretS (b := false) g e dX6_readsTwo_39 rfl rfl rfl
  · have h := ite_f c_5 h
    refine x_aload_n 0 g dX6_readsTwo_9 rfl rfl ?_
    refine x_iconst (v := 0) g dX6_readsTwo_10 (by decide) ?_
    obtain ⟨r_7, S_8, q_6, h⟩ := gb2_e h
    refine x_cV [.int (gz r_7)] g (k_X6_readsDigit q_6) ca_X6_readsDigit in_X6_readsDigit se_X6_readsDigit lm_X6_216 gXX6 q_1 (Nat.le_of_ble_eq_true rfl) rfl rfl (Nat.le_of_ble_eq_true rfl) dX6_readsTwo_11 rfl ?_
    refine x_if_eq 38 g dX6_readsTwo_14 (by decide) (fun c_9 => ?_) (fun c_9 => ?_)
    · have h := ite_t c_9 h
      refine x_iconst (v := 0) g dX6_readsTwo_38 (by decide) ?_
      cases h
      exact x_zretS (b := false) g e dX6_readsTwo_39 rfl rfl rfl
    · have h := ite_f c_9 h
      refine x_aload_n 0 g dX6_readsTwo_17 rfl rfl ?_
      refine x_bipush (v := 32) g dX6_readsTwo_18 (by decide) ?_
      obtain ⟨r_11, S_12, q_10, h⟩ := gb2_e h
      refine x_cV [.int (gz r_11)] g (k_X6_reads q_10) ca_X6_reads in_X6_reads se_X6_reads lm_X6_219 gXX6 q_1 (Nat.le_of_ble_eq_true rfl) rfl rfl (Nat.le_of_ble_eq_true rfl) dX6_readsTwo_20 rfl ?_
      refine x_if_eq 38 g dX6_readsTwo_23 (by decide) (fun c_13 => ?_) (fun c_13 => ?_)
      · have h := ite_t c_13 h
        refine x_iconst (v := 0) g dX6_readsTwo_38 (by decide) ?_
        cases h
        exact x_zretS (b := false) g e dX6_readsTwo_39 rfl rfl rfl
      · have h := ite_f c_13 h
        refine x_aload_n 0 g dX6_readsTwo_26 rfl rfl ?_
        refine x_iconst (v := 1) g dX6_readsTwo_27 (by decide) ?_
        obtain ⟨r_15, S_16, q_14, h⟩ := gb2_e h
        refine x_cV [.int (gz r_15)] g (k_X6_readsDigit q_14) ca_X6_readsDigit in_X6_readsDigit se_X6_readsDigit lm_X6_216 gXX6 q_1 (Nat.le_of_ble_eq_true rfl) rfl rfl (Nat.le_of_ble_eq_true rfl) dX6_readsTwo_28 rfl ?_
        refine x_if_eq 38 g dX6_readsTwo_31 (by decide) (fun c_17 => ?_) (fun c_17 => ?_)
        · have h := ite_t c_17 h
          refine x_iconst (v := 0) g dX6_readsTwo_38 (by decide) ?_
          cases h
          exact x_zretS (b := false) g e dX6_readsTwo_39 rfl rfl rfl
        · have h := ite_f c_17 h
          refine x_iconst (v := 1) g dX6_readsTwo_34 (by decide) ?_
          refine x_goto 39 g dX6_readsTwo_35 (by decide) ?_
          cases h
          exact x_zretS (b := true) g e dX6_readsTwo_39 rfl rfl rfl
noncomputable def f_X6_readsTrain (G : gG) (a0 : Nat) (S : gS) : Option (Bool × gS) := gd (gis G 3 a0) <| gb2 (f_X6_reads G a0 97 S) fun (r_3 : Bool) (S_4 : gS) => if (gz r_3) = 0 then (some (false, S_4)) else (gb2 (f_X6_reads G a0 105 S_4) fun (r_7 : Bool) (S_8 : gS) => if (gz r_7) = 0 then (some (false, S_8)) else (gb2 (f_X6_reads G a0 110 S_8) fun (r_11 : Bool) (S_12 : gS) => if (gz r_11) = 0 then (some (false, S_12)) else (gb2 (f_X6_readsTwo G a0 S_12) fun (r_15 : Bool) (S_16 : gS) => if (gz r_15) = 0 then (some (false, S_16)) else (gb2 (f_X6_readsDigit G a0 2 S_16) fun (r_19 : Bool) (S_20 : gS) => if (gz r_19) = 0 then (some (false, S_20)) else (gb (gP S_20 16 a0) fun (b_22 : Nat) => gd (gis G 7 b_22) <| gd (vp_in 3 (gn G b_22)) <| glt (sr S_20 b_22 (Int32.toNatClampNeg 3) 1) fun (S_26 : gS) => gb2 (f_X6_reads G a0 120 S_26) fun (r_29 : Bool) (S_30 : gS) => if (gz r_29) = 0 then (some (true, S_30)) else (gb2 (f_X6_readsDigit G a0 3 S_30) fun (r_33 : Bool) (S_34 : gS) => if (gz r_33) = 0 then (some (false, S_34)) else (some (true, S_34))))))))
set_option maxRecDepth 100000 in
set_option maxHeartbeats 4000000 in
theorem k_X6_readsTrain {ad : Nat → Nat} {G : gG} {a0 : Nat} {S S1 : gS} {T : gT} {r : Bool} (h : f_X6_readsTrain G a0 S = some (r, S1)) : Ct ad yX6_readsTrain (Cond.code yX6_readsTrain cX6_readsTrain 1 (some .boolean) :: gTb) 3 0 0 [.ref a0] G S T (some (.int (gz r))) G S1 T := by
  refine Ct.ofB rfl (Nat.le_of_ble_eq_true rfl) rfl (fun K g e hK => ?_)
  obtain ⟨rfl, -⟩ := hK
  show Xj K [] G 0 [some (.ref a0)] [] S T 0 0
  unfold f_X6_readsTrain at h
  refine x_aload_n 0 g dX6_readsTrain_0 rfl rfl ?_
  refine x_bipush (v := 97) g dX6_readsTrain_1 (by decide) ?_
  obtain ⟨q_1, h⟩ := gd_e h
  obtain ⟨r_3, S_4, q_2, h⟩ := gb2_e h
  refine x_cV [.int (gz r_3)] g (k_X6_reads q_2) ca_X6_reads in_X6_reads se_X6_reads lm_X6_219 gXX6 q_1 (Nat.le_of_ble_eq_true rfl) rfl rfl (Nat.le_of_ble_eq_true rfl) dX6_readsTrain_3 rfl ?_
  refine x_if_eq 42 g dX6_readsTrain_6 (by decide) (fun c_5 => ?_) (fun c_5 => ?_)
  · have h := ite_t c_5 h
    refine x_iconst (v := 0) g dX6_readsTrain_42 (by decide) ?_
    cases h
    exact x_zretS (b := false) g e dX6_readsTrain_43 rfl rfl rfl
  · have h := ite_f c_5 h
    refine x_aload_n 0 g dX6_readsTrain_9 rfl rfl ?_
    refine x_bipush (v := 105) g dX6_readsTrain_10 (by decide) ?_
    obtain ⟨r_7, S_8, q_6, h⟩ := gb2_e h
    refine x_cV [.int (gz r_7)] g (k_X6_reads q_6) ca_X6_reads in_X6_reads se_X6_reads lm_X6_219 gXX6 q_1 (Nat.le_of_ble_eq_true rfl) rfl rfl (Nat.le_of_ble_eq_true rfl) dX6_readsTrain_12 rfl ?_
    refine x_if_eq 42 g dX6_readsTrain_15 (by decide) (fun c_9 => ?_) (fun c_9 => ?_)
    · have h := ite_t c_9 h
      refine x_iconst (v := 0) g dX6_readsTrain_42 (by decide) ?_
      cases h
      exact x_zretS (b := false) g e dX6_readsTrain_43 rfl rfl rfl
    · have h := ite_f c_9 h
      refine x_aload_n 0 g dX6_readsTrain_18 rfl rfl ?_
      refine x_bipush (v := 110) g dX6_readsTrain_19 (by decide) ?_
      obtain ⟨r_11, S_12, q_10, h⟩ := gb2_e h
      refine x_cV [.int (gz r_11)] g (k_X6_reads q_10) ca_X6_reads in_X6_reads se_X6_reads lm_X6_219 gXX6 q_1 (Nat.le_of_ble_eq_true rfl) rfl rfl (Nat.le_of_ble_eq_true rfl) dX6_readsTrain_21 rfl ?_
      refine x_if_eq 42 g dX6_readsTrain_24 (by decide) (fun c_13 => ?_) (fun c_13 => ?_)
      · have h := ite_t c_13 h
        refine x_iconst (v := 0) g dX6_readsTrain_42 (by decide) ?_
        cases h
        exact x_zretS (b := false) g e dX6_readsTrain_43 rfl rfl rfl
      · have h := ite_f c_13 h
        refine x_aload_n 0 g dX6_readsTrain_27 rfl rfl ?_
        obtain ⟨r_15, S_16, q_14, h⟩ := gb2_e h
        refine x_cV [.int (gz r_15)] g (k_X6_readsTwo q_14) ca_X6_readsTwo in_X6_readsTwo se_X6_readsTwo lm_X6_222 gXX6 q_1 (Nat.le_of_ble_eq_true rfl) rfl rfl (Nat.le_of_ble_eq_true rfl) dX6_readsTrain_28 rfl ?_
        refine x_if_eq 42 g dX6_readsTrain_31 (by decide) (fun c_17 => ?_) (fun c_17 => ?_)
        · have h := ite_t c_17 h
          refine x_iconst (v := 0) g dX6_readsTrain_42 (by decide) ?_
          cases h
          exact x_zretS (b := false) g e dX6_readsTrain_43 rfl rfl rfl
        · have h := ite_f c_17 h
          refine x_aload_n 0 g dX6_readsTrain_34 rfl rfl ?_
          refine x_iconst (v := 2) g dX6_readsTrain_35 (by decide) ?_
          obtain ⟨r_19, S_20, q_18, h⟩ := gb2_e h
          refine x_cV [.int (gz r_19)] g (k_X6_readsDigit q_18) ca_X6_readsDigit in_X6_readsDigit se_X6_readsDigit lm_X6_216 gXX6 q_1 (Nat.le_of_ble_eq_true rfl) rfl rfl (Nat.le_of_ble_eq_true rfl) dX6_readsTrain_36 rfl ?_
          refine x_if_ne 44 g dX6_readsTrain_39 (by decide) (fun c_21 => ?_) (fun c_21 => ?_)
          · have h := ite_f c_21 h
            refine x_aload_n 0 g dX6_readsTrain_44 rfl rfl ?_
            obtain ⟨b_22, e_23, h⟩ := gb_e h
            refine x_getr g dX6_readsTrain_45 gXX6 15 16 rfl (by decide) rfl lf_X6_39 q_1 e_23 ?_
            refine x_iconst (v := 3) g dX6_readsTrain_48 (by decide) ?_
            refine x_iconst (v := 1) g dX6_readsTrain_49 (by decide) ?_
            obtain ⟨q_24, h⟩ := gd_e h
            obtain ⟨q_25, h⟩ := gd_e h
            refine x_iast g dX6_readsTrain_50 q_24 q_25 ?_
            refine x_nS (fun S_26 e_27 => ?_)
            have h := glt_e e_27 h
            refine x_aload_n 0 g dX6_readsTrain_51 rfl rfl ?_
            refine x_bipush (v := 120) g dX6_readsTrain_52 (by decide) ?_
            obtain ⟨r_29, S_30, q_28, h⟩ := gb2_e h
            refine x_cV [.int (gz r_29)] g (k_X6_reads q_28) ca_X6_reads in_X6_reads se_X6_reads lm_X6_219 gXX6 q_1 (Nat.le_of_ble_eq_true rfl) rfl rfl (Nat.le_of_ble_eq_true rfl) dX6_readsTrain_54 rfl ?_
            refine x_if_eq 68 g dX6_readsTrain_57 (by decide) (fun c_31 => ?_) (fun c_31 => ?_)
            · have h := ite_t c_31 h
              refine x_iconst (v := 1) g dX6_readsTrain_68 (by decide) ?_
              refine x_goto 73 g dX6_readsTrain_69 (by decide) ?_
              cases h
              exact x_zretS (b := true) g e dX6_readsTrain_73 rfl rfl rfl
            · have h := ite_f c_31 h
              refine x_aload_n 0 g dX6_readsTrain_60 rfl rfl ?_
              refine x_iconst (v := 3) g dX6_readsTrain_61 (by decide) ?_
              obtain ⟨r_33, S_34, q_32, h⟩ := gb2_e h
              refine x_cV [.int (gz r_33)] g (k_X6_readsDigit q_32) ca_X6_readsDigit in_X6_readsDigit se_X6_readsDigit lm_X6_216 gXX6 q_1 (Nat.le_of_ble_eq_true rfl) rfl rfl (Nat.le_of_ble_eq_true rfl) dX6_readsTrain_62 rfl ?_
              refine x_if_eq 72 g dX6_readsTrain_65 (by decide) (fun c_35 => ?_) (fun c_35 => ?_)
              · have h := ite_t c_35 h
                refine x_iconst (v := 0) g dX6_readsTrain_72 (by decide) ?_
                cases h
                exact x_zretS (b := false) g e dX6_readsTrain_73 rfl rfl rfl
              · have h := ite_f c_35 h
                refine x_iconst (v := 1) g dX6_readsTrain_68 (by decide) ?_
                refine x_goto 73 g dX6_readsTrain_69 (by decide) ?_
                cases h
                exact x_zretS (b := true) g e dX6_readsTrain_73 rfl rfl rfl
          · have h := ite_t c_21 h
            refine x_iconst (v := 0) g dX6_readsTrain_42 (by decide) ?_
            cases h
            exact x_zretS (b := false) g e dX6_readsTrain_43 rfl rfl rfl
noncomputable def f_X6_readsT (G : gG) (a0 : Nat) (S : gS) : Option (Bool × gS) := gd (gis G 3 a0) <| gb2 (f_X6_reads G a0 114 S) fun (r_3 : Bool) (S_4 : gS) => if (gz r_3) = 0 then (glt (sI S_4 39 a0 109) fun (S_6 : gS) => gb2 (f_X6_reads G a0 101 S_6) fun (r_9 : Bool) (S_10 : gS) => if (gz r_9) = 0 then (some (false, S_10)) else (gb2 (f_X6_reads G a0 114 S_10) fun (r_13 : Bool) (S_14 : gS) => if (gz r_13) = 0 then (some (false, S_14)) else (gb2 (f_X6_reads G a0 109 S_14) fun (r_17 : Bool) (S_18 : gS) => if (gz r_17) = 0 then (some (false, S_18)) else (some (true, S_18))))) else (gb2 (f_X6_readsTrain G a0 S_4) fun (r_21 : Bool) (S_22 : gS) => some (r_21, S_22))
set_option maxRecDepth 100000 in
set_option maxHeartbeats 4000000 in
theorem k_X6_readsT {ad : Nat → Nat} {G : gG} {a0 : Nat} {S S1 : gS} {T : gT} {r : Bool} (h : f_X6_readsT G a0 S = some (r, S1)) : Ct ad yX6_readsT (Cond.code yX6_readsT cX6_readsT 1 (some .boolean) :: gTb) 4 0 0 [.ref a0] G S T (some (.int (gz r))) G S1 T := by
  refine Ct.ofB rfl (Nat.le_of_ble_eq_true rfl) rfl (fun K g e hK => ?_)
  obtain ⟨rfl, -⟩ := hK
  show Xj K [] G 0 [some (.ref a0)] [] S T 0 0
  unfold f_X6_readsT at h
  refine x_aload_n 0 g dX6_readsT_0 rfl rfl ?_
  refine x_bipush (v := 114) g dX6_readsT_1 (by decide) ?_
  obtain ⟨q_1, h⟩ := gd_e h
  obtain ⟨r_3, S_4, q_2, h⟩ := gb2_e h
  refine x_cV [.int (gz r_3)] g (k_X6_reads q_2) ca_X6_reads in_X6_reads se_X6_reads lm_X6_219 gXX6 q_1 (Nat.le_of_ble_eq_true rfl) rfl rfl (Nat.le_of_ble_eq_true rfl) dX6_readsT_3 rfl ?_
  refine x_if_eq 14 g dX6_readsT_6 (by decide) (fun c_5 => ?_) (fun c_5 => ?_)
  · have h := ite_t c_5 h
    refine x_aload_n 0 g dX6_readsT_14 rfl rfl ?_
    refine x_bipush (v := 109) g dX6_readsT_15 (by decide) ?_
    refine x_puti g dX6_readsT_17 gXX6 16 39 rfl (by decide) rfl rfl lf_X6_229 rfl rfl q_1 ?_
    refine x_nS (fun S_6 e_7 => ?_)
    have h := glt_e e_7 h
    refine x_aload_n 0 g dX6_readsT_20 rfl rfl ?_
    refine x_bipush (v := 101) g dX6_readsT_21 (by decide) ?_
    obtain ⟨r_9, S_10, q_8, h⟩ := gb2_e h
    refine x_cV [.int (gz r_9)] g (k_X6_reads q_8) ca_X6_reads in_X6_reads se_X6_reads lm_X6_219 gXX6 q_1 (Nat.le_of_ble_eq_true rfl) rfl rfl (Nat.le_of_ble_eq_true rfl) dX6_readsT_23 rfl ?_
    refine x_if_eq 51 g dX6_readsT_26 (by decide) (fun c_11 => ?_) (fun c_11 => ?_)
    · have h := ite_t c_11 h
      refine x_iconst (v := 0) g dX6_readsT_51 (by decide) ?_
      cases h
      exact x_zretS (b := false) g e dX6_readsT_52 rfl rfl rfl
    · have h := ite_f c_11 h
      refine x_aload_n 0 g dX6_readsT_29 rfl rfl ?_
      refine x_bipush (v := 114) g dX6_readsT_30 (by decide) ?_
      obtain ⟨r_13, S_14, q_12, h⟩ := gb2_e h
      refine x_cV [.int (gz r_13)] g (k_X6_reads q_12) ca_X6_reads in_X6_reads se_X6_reads lm_X6_219 gXX6 q_1 (Nat.le_of_ble_eq_true rfl) rfl rfl (Nat.le_of_ble_eq_true rfl) dX6_readsT_32 rfl ?_
      refine x_if_eq 51 g dX6_readsT_35 (by decide) (fun c_15 => ?_) (fun c_15 => ?_)
      · have h := ite_t c_15 h
        refine x_iconst (v := 0) g dX6_readsT_51 (by decide) ?_
        cases h
        exact x_zretS (b := false) g e dX6_readsT_52 rfl rfl rfl
      · have h := ite_f c_15 h
        refine x_aload_n 0 g dX6_readsT_38 rfl rfl ?_
        refine x_bipush (v := 109) g dX6_readsT_39 (by decide) ?_
        obtain ⟨r_17, S_18, q_16, h⟩ := gb2_e h
        refine x_cV [.int (gz r_17)] g (k_X6_reads q_16) ca_X6_reads in_X6_reads se_X6_reads lm_X6_219 gXX6 q_1 (Nat.le_of_ble_eq_true rfl) rfl rfl (Nat.le_of_ble_eq_true rfl) dX6_readsT_41 rfl ?_
        refine x_if_eq 51 g dX6_readsT_44 (by decide) (fun c_19 => ?_) (fun c_19 => ?_)
        · have h := ite_t c_19 h
          refine x_iconst (v := 0) g dX6_readsT_51 (by decide) ?_
          cases h
          exact x_zretS (b := false) g e dX6_readsT_52 rfl rfl rfl
        · have h := ite_f c_19 h
          refine x_iconst (v := 1) g dX6_readsT_47 (by decide) ?_
          refine x_goto 52 g dX6_readsT_48 (by decide) ?_
          cases h
          exact x_zretS (b := true) g e dX6_readsT_52 rfl rfl rfl
  · have h := ite_f c_5 h
    refine x_aload_n 0 g dX6_readsT_9 rfl rfl ?_
    obtain ⟨r_21, S_22, q_20, h⟩ := gb2_e h
    refine x_cV [.int (gz r_21)] g (k_X6_readsTrain q_20) ca_X6_readsTrain in_X6_readsTrain se_X6_readsTrain lm_X6_226 gXX6 q_1 (Nat.le_of_ble_eq_true rfl) rfl rfl (Nat.le_of_ble_eq_true rfl) dX6_readsT_10 rfl ?_
    cases h
    exact x_zretS g e dX6_readsT_13 rfl rfl rfl
noncomputable def f_X6_readsCommand (G : gG) (a0 : Nat) (S : gS) : Option (Bool × gS) := gd (gis G 3 a0) <| gb (f_X6_nextChar G a0 S) fun (r_3 : Int32) => glt (sI S 39 a0 r_3) fun (S_4 : gS) => gb2 (f_X6_reads G a0 97 S_4) fun (r_7 : Bool) (S_8 : gS) => if (gz r_7) = 0 then (gb2 (f_X6_reads G a0 116 S_8) fun (r_11 : Bool) (S_12 : gS) => if (gz r_11) = 0 then (gb2 (f_X6_reads G a0 112 S_12) fun (r_15 : Bool) (S_16 : gS) => if (gz r_15) = 0 then (gb2 (f_X6_reads G a0 119 S_16) fun (r_19 : Bool) (S_20 : gS) => if (gz r_19) = 0 then (gb2 (f_X6_reads G a0 103 S_20) fun (r_23 : Bool) (S_24 : gS) => if (gz r_23) = 0 then (gb2 (f_X6_reads G a0 102 S_24) fun (r_27 : Bool) (S_28 : gS) => if (gz r_27) = 0 then (gb2 (f_X6_reads G a0 101 S_28) fun (r_31 : Bool) (S_32 : gS) => if (gz r_31) = 0 then (some (false, S_32)) else (gb2 (f_X6_reads G a0 120 S_32) fun (r_35 : Bool) (S_36 : gS) => if (gz r_35) = 0 then (some (false, S_36)) else (gb2 (f_X6_reads G a0 97 S_36) fun (r_39 : Bool) (S_40 : gS) => if (gz r_39) = 0 then (some (false, S_40)) else (gb2 (f_X6_reads G a0 109 S_40) fun (r_43 : Bool) (S_44 : gS) => if (gz r_43) = 0 then (some (false, S_44)) else (gb2 (f_X6_readsTwo G a0 S_44) fun (r_47 : Bool) (S_48 : gS) => if (gz r_47) = 0 then (some (false, S_48)) else (some (true, S_48))))))) else (gb2 (f_X6_reads G a0 111 S_28) fun (r_51 : Bool) (S_52 : gS) => if (gz r_51) = 0 then (some (false, S_52)) else (gb2 (f_X6_reads G a0 114 S_52) fun (r_55 : Bool) (S_56 : gS) => if (gz r_55) = 0 then (some (false, S_56)) else (gb2 (f_X6_reads G a0 103 S_56) fun (r_59 : Bool) (S_60 : gS) => if (gz r_59) = 0 then (some (false, S_60)) else (gb2 (f_X6_reads G a0 101 S_60) fun (r_63 : Bool) (S_64 : gS) => if (gz r_63) = 0 then (some (false, S_64)) else (gb2 (f_X6_reads G a0 116 S_64) fun (r_67 : Bool) (S_68 : gS) => if (gz r_67) = 0 then (some (false, S_68)) else (gb2 (f_X6_readsTwo G a0 S_68) fun (r_71 : Bool) (S_72 : gS) => if (gz r_71) = 0 then (some (false, S_72)) else (some (true, S_72))))))))) else (gb2 (f_X6_reads G a0 97 S_24) fun (r_75 : Bool) (S_76 : gS) => if (gz r_75) = 0 then (some (false, S_76)) else (gb2 (f_X6_reads G a0 108 S_76) fun (r_79 : Bool) (S_80 : gS) => if (gz r_79) = 0 then (some (false, S_80)) else (gb2 (f_X6_reads G a0 101 S_80) fun (r_83 : Bool) (S_84 : gS) => if (gz r_83) = 0 then (some (false, S_84)) else (gb2 (f_X6_reads G a0 32 S_84) fun (r_87 : Bool) (S_88 : gS) => if (gz r_87) = 0 then (some (false, S_88)) else (gb2 (f_X6_readsDigit G a0 0 S_88) fun (r_91 : Bool) (S_92 : gS) => if (gz r_91) = 0 then (some (false, S_92)) else (some (true, S_92)))))))) else (gb2 (f_X6_reads G a0 101 S_20) fun (r_95 : Bool) (S_96 : gS) => if (gz r_95) = 0 then (some (false, S_96)) else (gb2 (f_X6_reads G a0 116 S_96) fun (r_99 : Bool) (S_100 : gS) => if (gz r_99) = 0 then (some (false, S_100)) else (gb2 (f_X6_reads G a0 32 S_100) fun (r_103 : Bool) (S_104 : gS) => if (gz r_103) = 0 then (some (false, S_104)) else (gb2 (f_X6_readsDigit G a0 0 S_104) fun (r_107 : Bool) (S_108 : gS) => if (gz r_107) = 0 then (some (false, S_108)) else (some (true, S_108))))))) else (gb2 (f_X6_reads G a0 101 S_16) fun (r_111 : Bool) (S_112 : gS) => if (gz r_111) = 0 then (some (false, S_112)) else (gb2 (f_X6_reads G a0 114 S_112) fun (r_115 : Bool) (S_116 : gS) => if (gz r_115) = 0 then (some (false, S_116)) else (gb2 (f_X6_reads G a0 105 S_116) fun (r_119 : Bool) (S_120 : gS) => if (gz r_119) = 0 then (some (false, S_120)) else (gb2 (f_X6_reads G a0 111 S_120) fun (r_123 : Bool) (S_124 : gS) => if (gz r_123) = 0 then (some (false, S_124)) else (gb2 (f_X6_reads G a0 100 S_124) fun (r_127 : Bool) (S_128 : gS) => if (gz r_127) = 0 then (some (false, S_128)) else (gb2 (f_X6_readsTwo G a0 S_128) fun (r_131 : Bool) (S_132 : gS) => if (gz r_131) = 0 then (some (false, S_132)) else (some (true, S_132))))))))) else (gb2 (f_X6_readsT G a0 S_12) fun (r_135 : Bool) (S_136 : gS) => some (r_135, S_136))) else (gb2 (f_X6_reads G a0 100 S_8) fun (r_138 : Bool) (S_139 : gS) => if (gz r_138) = 0 then (some (false, S_139)) else (gb2 (f_X6_reads G a0 100 S_139) fun (r_142 : Bool) (S_143 : gS) => if (gz r_142) = 0 then (some (false, S_143)) else (gb2 (f_X6_reads G a0 32 S_143) fun (r_146 : Bool) (S_147 : gS) => if (gz r_146) = 0 then (some (false, S_147)) else (gb2 (f_X6_readsNumber G a0 0 S_147) fun (r_150 : Bool) (S_151 : gS) => if (gz r_150) = 0 then (some (false, S_151)) else (some (true, S_151))))))
set_option maxRecDepth 100000 in
set_option maxHeartbeats 4000000 in
theorem k_X6_readsCommand {ad : Nat → Nat} {G : gG} {a0 : Nat} {S S1 : gS} {T : gT} {r : Bool} (h : f_X6_readsCommand G a0 S = some (r, S1)) : Ct ad yX6_readsCommand (Cond.code yX6_readsCommand cX6_readsCommand 1 (some .boolean) :: gTb) 5 0 0 [.ref a0] G S T (some (.int (gz r))) G S1 T := by
  refine Ct.ofB rfl (Nat.le_of_ble_eq_true rfl) rfl (fun K g e hK => ?_)
  obtain ⟨rfl, -⟩ := hK
  show Xj K [] G 0 [some (.ref a0)] [] S T 0 0
  unfold f_X6_readsCommand at h
  refine x_aload_n 0 g dX6_readsCommand_0 rfl rfl ?_
  refine x_aload_n 0 g dX6_readsCommand_1 rfl rfl ?_
  obtain ⟨q_1, h⟩ := gd_e h
  obtain ⟨r_3, q_2, h⟩ := gb_e h
  refine x_cV [.int r_3, .ref a0] g (k_X6_nextChar q_2) ca_X6_nextChar in_X6_nextChar se_X6_nextChar lm_X6_213 gXX6 q_1 (Nat.le_of_ble_eq_true rfl) rfl rfl (Nat.le_of_ble_eq_true rfl) dX6_readsCommand_2 rfl ?_
  refine x_puti g dX6_readsCommand_5 gXX6 16 39 rfl (by decide) rfl rfl lf_X6_229 rfl rfl q_1 ?_
  refine x_nS (fun S_4 e_5 => ?_)
  have h := glt_e e_5 h
  refine x_aload_n 0 g dX6_readsCommand_8 rfl rfl ?_
  refine x_bipush (v := 97) g dX6_readsCommand_9 (by decide) ?_
  obtain ⟨r_7, S_8, q_6, h⟩ := gb2_e h
  refine x_cV [.int (gz r_7)] g (k_X6_reads q_6) ca_X6_reads in_X6_reads se_X6_reads lm_X6_219 gXX6 q_1 (Nat.le_of_ble_eq_true rfl) rfl rfl (Nat.le_of_ble_eq_true rfl) dX6_readsCommand_11 rfl ?_
  refine x_if_eq 58 g dX6_readsCommand_14 (by decide) (fun c_9 => ?_) (fun c_9 => ?_)
  · have h := ite_t c_9 h
    refine x_aload_n 0 g dX6_readsCommand_58 rfl rfl ?_
    refine x_bipush (v := 116) g dX6_readsCommand_59 (by decide) ?_
    obtain ⟨r_11, S_12, q_10, h⟩ := gb2_e h
    refine x_cV [.int (gz r_11)] g (k_X6_reads q_10) ca_X6_reads in_X6_reads se_X6_reads lm_X6_219 gXX6 q_1 (Nat.le_of_ble_eq_true rfl) rfl rfl (Nat.le_of_ble_eq_true rfl) dX6_readsCommand_61 rfl ?_
    refine x_if_eq 72 g dX6_readsCommand_64 (by decide) (fun c_13 => ?_) (fun c_13 => ?_)
    · have h := ite_t c_13 h
      refine x_aload_n 0 g dX6_readsCommand_72 rfl rfl ?_
      refine x_bipush (v := 112) g dX6_readsCommand_73 (by decide) ?_
      obtain ⟨r_15, S_16, q_14, h⟩ := gb2_e h
      refine x_cV [.int (gz r_15)] g (k_X6_reads q_14) ca_X6_reads in_X6_reads se_X6_reads lm_X6_219 gXX6 q_1 (Nat.le_of_ble_eq_true rfl) rfl rfl (Nat.le_of_ble_eq_true rfl) dX6_readsCommand_75 rfl ?_
      refine x_if_eq 139 g dX6_readsCommand_78 (by decide) (fun c_17 => ?_) (fun c_17 => ?_)
      · have h := ite_t c_17 h
        refine x_aload_n 0 g dX6_readsCommand_139 rfl rfl ?_
        refine x_bipush (v := 119) g dX6_readsCommand_140 (by decide) ?_
        obtain ⟨r_19, S_20, q_18, h⟩ := gb2_e h
        refine x_cV [.int (gz r_19)] g (k_X6_reads q_18) ca_X6_reads in_X6_reads se_X6_reads lm_X6_219 gXX6 q_1 (Nat.le_of_ble_eq_true rfl) rfl rfl (Nat.le_of_ble_eq_true rfl) dX6_readsCommand_142 rfl ?_
        refine x_if_eq 189 g dX6_readsCommand_145 (by decide) (fun c_21 => ?_) (fun c_21 => ?_)
        · have h := ite_t c_21 h
          refine x_aload_n 0 g dX6_readsCommand_189 rfl rfl ?_
          refine x_bipush (v := 103) g dX6_readsCommand_190 (by decide) ?_
          obtain ⟨r_23, S_24, q_22, h⟩ := gb2_e h
          refine x_cV [.int (gz r_23)] g (k_X6_reads q_22) ca_X6_reads in_X6_reads se_X6_reads lm_X6_219 gXX6 q_1 (Nat.le_of_ble_eq_true rfl) rfl rfl (Nat.le_of_ble_eq_true rfl) dX6_readsCommand_192 rfl ?_
          refine x_if_eq 248 g dX6_readsCommand_195 (by decide) (fun c_25 => ?_) (fun c_25 => ?_)
          · have h := ite_t c_25 h
            refine x_aload_n 0 g dX6_readsCommand_248 rfl rfl ?_
            refine x_bipush (v := 102) g dX6_readsCommand_249 (by decide) ?_
            obtain ⟨r_27, S_28, q_26, h⟩ := gb2_e h
            refine x_cV [.int (gz r_27)] g (k_X6_reads q_26) ca_X6_reads in_X6_reads se_X6_reads lm_X6_219 gXX6 q_1 (Nat.le_of_ble_eq_true rfl) rfl rfl (Nat.le_of_ble_eq_true rfl) dX6_readsCommand_251 rfl ?_
            refine x_if_eq 315 g dX6_readsCommand_254 (by decide) (fun c_29 => ?_) (fun c_29 => ?_)
            · have h := ite_t c_29 h
              refine x_aload_n 0 g dX6_readsCommand_315 rfl rfl ?_
              refine x_bipush (v := 101) g dX6_readsCommand_316 (by decide) ?_
              obtain ⟨r_31, S_32, q_30, h⟩ := gb2_e h
              refine x_cV [.int (gz r_31)] g (k_X6_reads q_30) ca_X6_reads in_X6_reads se_X6_reads lm_X6_219 gXX6 q_1 (Nat.le_of_ble_eq_true rfl) rfl rfl (Nat.le_of_ble_eq_true rfl) dX6_readsCommand_318 rfl ?_
              refine x_if_eq 362 g dX6_readsCommand_321 (by decide) (fun c_33 => ?_) (fun c_33 => ?_)
              · have h := ite_t c_33 h
                refine x_iconst (v := 0) g dX6_readsCommand_362 (by decide) ?_
                cases h
                exact x_zretS (b := false) g e dX6_readsCommand_363 rfl rfl rfl
              · have h := ite_f c_33 h
                refine x_aload_n 0 g dX6_readsCommand_324 rfl rfl ?_
                refine x_bipush (v := 120) g dX6_readsCommand_325 (by decide) ?_
                obtain ⟨r_35, S_36, q_34, h⟩ := gb2_e h
                refine x_cV [.int (gz r_35)] g (k_X6_reads q_34) ca_X6_reads in_X6_reads se_X6_reads lm_X6_219 gXX6 q_1 (Nat.le_of_ble_eq_true rfl) rfl rfl (Nat.le_of_ble_eq_true rfl) dX6_readsCommand_327 rfl ?_
                refine x_if_eq 362 g dX6_readsCommand_330 (by decide) (fun c_37 => ?_) (fun c_37 => ?_)
                · have h := ite_t c_37 h
                  refine x_iconst (v := 0) g dX6_readsCommand_362 (by decide) ?_
                  cases h
                  exact x_zretS (b := false) g e dX6_readsCommand_363 rfl rfl rfl
                · have h := ite_f c_37 h
                  refine x_aload_n 0 g dX6_readsCommand_333 rfl rfl ?_
                  refine x_bipush (v := 97) g dX6_readsCommand_334 (by decide) ?_
                  obtain ⟨r_39, S_40, q_38, h⟩ := gb2_e h
                  refine x_cV [.int (gz r_39)] g (k_X6_reads q_38) ca_X6_reads in_X6_reads se_X6_reads lm_X6_219 gXX6 q_1 (Nat.le_of_ble_eq_true rfl) rfl rfl (Nat.le_of_ble_eq_true rfl) dX6_readsCommand_336 rfl ?_
                  refine x_if_eq 362 g dX6_readsCommand_339 (by decide) (fun c_41 => ?_) (fun c_41 => ?_)
                  · have h := ite_t c_41 h
                    refine x_iconst (v := 0) g dX6_readsCommand_362 (by decide) ?_
                    cases h
                    exact x_zretS (b := false) g e dX6_readsCommand_363 rfl rfl rfl
                  · have h := ite_f c_41 h
                    refine x_aload_n 0 g dX6_readsCommand_342 rfl rfl ?_
                    refine x_bipush (v := 109) g dX6_readsCommand_343 (by decide) ?_
                    obtain ⟨r_43, S_44, q_42, h⟩ := gb2_e h
                    refine x_cV [.int (gz r_43)] g (k_X6_reads q_42) ca_X6_reads in_X6_reads se_X6_reads lm_X6_219 gXX6 q_1 (Nat.le_of_ble_eq_true rfl) rfl rfl (Nat.le_of_ble_eq_true rfl) dX6_readsCommand_345 rfl ?_
                    refine x_if_eq 362 g dX6_readsCommand_348 (by decide) (fun c_45 => ?_) (fun c_45 => ?_)
                    · have h := ite_t c_45 h
                      refine x_iconst (v := 0) g dX6_readsCommand_362 (by decide) ?_
                      cases h
                      exact x_zretS (b := false) g e dX6_readsCommand_363 rfl rfl rfl
                    · have h := ite_f c_45 h
                      refine x_aload_n 0 g dX6_readsCommand_351 rfl rfl ?_
                      obtain ⟨r_47, S_48, q_46, h⟩ := gb2_e h
                      refine x_cV [.int (gz r_47)] g (k_X6_readsTwo q_46) ca_X6_readsTwo in_X6_readsTwo se_X6_readsTwo lm_X6_222 gXX6 q_1 (Nat.le_of_ble_eq_true rfl) rfl rfl (Nat.le_of_ble_eq_true rfl) dX6_readsCommand_352 rfl ?_
                      refine x_if_eq 362 g dX6_readsCommand_355 (by decide) (fun c_49 => ?_) (fun c_49 => ?_)
                      · have h := ite_t c_49 h
                        refine x_iconst (v := 0) g dX6_readsCommand_362 (by decide) ?_
                        cases h
                        exact x_zretS (b := false) g e dX6_readsCommand_363 rfl rfl rfl
                      · have h := ite_f c_49 h
                        refine x_iconst (v := 1) g dX6_readsCommand_358 (by decide) ?_
                        refine x_goto 363 g dX6_readsCommand_359 (by decide) ?_
                        cases h
                        exact x_zretS (b := true) g e dX6_readsCommand_363 rfl rfl rfl
            · have h := ite_f c_29 h
              refine x_aload_n 0 g dX6_readsCommand_257 rfl rfl ?_
              refine x_bipush (v := 111) g dX6_readsCommand_258 (by decide) ?_
              obtain ⟨r_51, S_52, q_50, h⟩ := gb2_e h
              refine x_cV [.int (gz r_51)] g (k_X6_reads q_50) ca_X6_reads in_X6_reads se_X6_reads lm_X6_219 gXX6 q_1 (Nat.le_of_ble_eq_true rfl) rfl rfl (Nat.le_of_ble_eq_true rfl) dX6_readsCommand_260 rfl ?_
              refine x_if_eq 313 g dX6_readsCommand_263 (by decide) (fun c_53 => ?_) (fun c_53 => ?_)
              · have h := ite_t c_53 h
                refine x_iconst (v := 0) g dX6_readsCommand_313 (by decide) ?_
                cases h
                exact x_zretS (b := false) g e dX6_readsCommand_314 rfl rfl rfl
              · have h := ite_f c_53 h
                refine x_aload_n 0 g dX6_readsCommand_266 rfl rfl ?_
                refine x_bipush (v := 114) g dX6_readsCommand_267 (by decide) ?_
                obtain ⟨r_55, S_56, q_54, h⟩ := gb2_e h
                refine x_cV [.int (gz r_55)] g (k_X6_reads q_54) ca_X6_reads in_X6_reads se_X6_reads lm_X6_219 gXX6 q_1 (Nat.le_of_ble_eq_true rfl) rfl rfl (Nat.le_of_ble_eq_true rfl) dX6_readsCommand_269 rfl ?_
                refine x_if_eq 313 g dX6_readsCommand_272 (by decide) (fun c_57 => ?_) (fun c_57 => ?_)
                · have h := ite_t c_57 h
                  refine x_iconst (v := 0) g dX6_readsCommand_313 (by decide) ?_
                  cases h
                  exact x_zretS (b := false) g e dX6_readsCommand_314 rfl rfl rfl
                · have h := ite_f c_57 h
                  refine x_aload_n 0 g dX6_readsCommand_275 rfl rfl ?_
                  refine x_bipush (v := 103) g dX6_readsCommand_276 (by decide) ?_
                  obtain ⟨r_59, S_60, q_58, h⟩ := gb2_e h
                  refine x_cV [.int (gz r_59)] g (k_X6_reads q_58) ca_X6_reads in_X6_reads se_X6_reads lm_X6_219 gXX6 q_1 (Nat.le_of_ble_eq_true rfl) rfl rfl (Nat.le_of_ble_eq_true rfl) dX6_readsCommand_278 rfl ?_
                  refine x_if_eq 313 g dX6_readsCommand_281 (by decide) (fun c_61 => ?_) (fun c_61 => ?_)
                  · have h := ite_t c_61 h
                    refine x_iconst (v := 0) g dX6_readsCommand_313 (by decide) ?_
                    cases h
                    exact x_zretS (b := false) g e dX6_readsCommand_314 rfl rfl rfl
                  · have h := ite_f c_61 h
                    refine x_aload_n 0 g dX6_readsCommand_284 rfl rfl ?_
                    refine x_bipush (v := 101) g dX6_readsCommand_285 (by decide) ?_
                    obtain ⟨r_63, S_64, q_62, h⟩ := gb2_e h
                    refine x_cV [.int (gz r_63)] g (k_X6_reads q_62) ca_X6_reads in_X6_reads se_X6_reads lm_X6_219 gXX6 q_1 (Nat.le_of_ble_eq_true rfl) rfl rfl (Nat.le_of_ble_eq_true rfl) dX6_readsCommand_287 rfl ?_
                    refine x_if_eq 313 g dX6_readsCommand_290 (by decide) (fun c_65 => ?_) (fun c_65 => ?_)
                    · have h := ite_t c_65 h
                      refine x_iconst (v := 0) g dX6_readsCommand_313 (by decide) ?_
                      cases h
                      exact x_zretS (b := false) g e dX6_readsCommand_314 rfl rfl rfl
                    · have h := ite_f c_65 h
                      refine x_aload_n 0 g dX6_readsCommand_293 rfl rfl ?_
                      refine x_bipush (v := 116) g dX6_readsCommand_294 (by decide) ?_
                      obtain ⟨r_67, S_68, q_66, h⟩ := gb2_e h
                      refine x_cV [.int (gz r_67)] g (k_X6_reads q_66) ca_X6_reads in_X6_reads se_X6_reads lm_X6_219 gXX6 q_1 (Nat.le_of_ble_eq_true rfl) rfl rfl (Nat.le_of_ble_eq_true rfl) dX6_readsCommand_296 rfl ?_
                      refine x_if_eq 313 g dX6_readsCommand_299 (by decide) (fun c_69 => ?_) (fun c_69 => ?_)
                      · have h := ite_t c_69 h
                        refine x_iconst (v := 0) g dX6_readsCommand_313 (by decide) ?_
                        cases h
                        exact x_zretS (b := false) g e dX6_readsCommand_314 rfl rfl rfl
                      · have h := ite_f c_69 h
                        refine x_aload_n 0 g dX6_readsCommand_302 rfl rfl ?_
                        obtain ⟨r_71, S_72, q_70, h⟩ := gb2_e h
                        refine x_cV [.int (gz r_71)] g (k_X6_readsTwo q_70) ca_X6_readsTwo in_X6_readsTwo se_X6_readsTwo lm_X6_222 gXX6 q_1 (Nat.le_of_ble_eq_true rfl) rfl rfl (Nat.le_of_ble_eq_true rfl) dX6_readsCommand_303 rfl ?_
                        refine x_if_eq 313 g dX6_readsCommand_306 (by decide) (fun c_73 => ?_) (fun c_73 => ?_)
                        · have h := ite_t c_73 h
                          refine x_iconst (v := 0) g dX6_readsCommand_313 (by decide) ?_
                          cases h
                          exact x_zretS (b := false) g e dX6_readsCommand_314 rfl rfl rfl
                        · have h := ite_f c_73 h
                          refine x_iconst (v := 1) g dX6_readsCommand_309 (by decide) ?_
                          refine x_goto 314 g dX6_readsCommand_310 (by decide) ?_
                          cases h
                          exact x_zretS (b := true) g e dX6_readsCommand_314 rfl rfl rfl
          · have h := ite_f c_25 h
            refine x_aload_n 0 g dX6_readsCommand_198 rfl rfl ?_
            refine x_bipush (v := 97) g dX6_readsCommand_199 (by decide) ?_
            obtain ⟨r_75, S_76, q_74, h⟩ := gb2_e h
            refine x_cV [.int (gz r_75)] g (k_X6_reads q_74) ca_X6_reads in_X6_reads se_X6_reads lm_X6_219 gXX6 q_1 (Nat.le_of_ble_eq_true rfl) rfl rfl (Nat.le_of_ble_eq_true rfl) dX6_readsCommand_201 rfl ?_
            refine x_if_eq 246 g dX6_readsCommand_204 (by decide) (fun c_77 => ?_) (fun c_77 => ?_)
            · have h := ite_t c_77 h
              refine x_iconst (v := 0) g dX6_readsCommand_246 (by decide) ?_
              cases h
              exact x_zretS (b := false) g e dX6_readsCommand_247 rfl rfl rfl
            · have h := ite_f c_77 h
              refine x_aload_n 0 g dX6_readsCommand_207 rfl rfl ?_
              refine x_bipush (v := 108) g dX6_readsCommand_208 (by decide) ?_
              obtain ⟨r_79, S_80, q_78, h⟩ := gb2_e h
              refine x_cV [.int (gz r_79)] g (k_X6_reads q_78) ca_X6_reads in_X6_reads se_X6_reads lm_X6_219 gXX6 q_1 (Nat.le_of_ble_eq_true rfl) rfl rfl (Nat.le_of_ble_eq_true rfl) dX6_readsCommand_210 rfl ?_
              refine x_if_eq 246 g dX6_readsCommand_213 (by decide) (fun c_81 => ?_) (fun c_81 => ?_)
              · have h := ite_t c_81 h
                refine x_iconst (v := 0) g dX6_readsCommand_246 (by decide) ?_
                cases h
                exact x_zretS (b := false) g e dX6_readsCommand_247 rfl rfl rfl
              · have h := ite_f c_81 h
                refine x_aload_n 0 g dX6_readsCommand_216 rfl rfl ?_
                refine x_bipush (v := 101) g dX6_readsCommand_217 (by decide) ?_
                obtain ⟨r_83, S_84, q_82, h⟩ := gb2_e h
                refine x_cV [.int (gz r_83)] g (k_X6_reads q_82) ca_X6_reads in_X6_reads se_X6_reads lm_X6_219 gXX6 q_1 (Nat.le_of_ble_eq_true rfl) rfl rfl (Nat.le_of_ble_eq_true rfl) dX6_readsCommand_219 rfl ?_
                refine x_if_eq 246 g dX6_readsCommand_222 (by decide) (fun c_85 => ?_) (fun c_85 => ?_)
                · have h := ite_t c_85 h
                  refine x_iconst (v := 0) g dX6_readsCommand_246 (by decide) ?_
                  cases h
                  exact x_zretS (b := false) g e dX6_readsCommand_247 rfl rfl rfl
                · have h := ite_f c_85 h
                  refine x_aload_n 0 g dX6_readsCommand_225 rfl rfl ?_
                  refine x_bipush (v := 32) g dX6_readsCommand_226 (by decide) ?_
                  obtain ⟨r_87, S_88, q_86, h⟩ := gb2_e h
                  refine x_cV [.int (gz r_87)] g (k_X6_reads q_86) ca_X6_reads in_X6_reads se_X6_reads lm_X6_219 gXX6 q_1 (Nat.le_of_ble_eq_true rfl) rfl rfl (Nat.le_of_ble_eq_true rfl) dX6_readsCommand_228 rfl ?_
                  refine x_if_eq 246 g dX6_readsCommand_231 (by decide) (fun c_89 => ?_) (fun c_89 => ?_)
                  · have h := ite_t c_89 h
                    refine x_iconst (v := 0) g dX6_readsCommand_246 (by decide) ?_
                    cases h
                    exact x_zretS (b := false) g e dX6_readsCommand_247 rfl rfl rfl
                  · have h := ite_f c_89 h
                    refine x_aload_n 0 g dX6_readsCommand_234 rfl rfl ?_
                    refine x_iconst (v := 0) g dX6_readsCommand_235 (by decide) ?_
                    obtain ⟨r_91, S_92, q_90, h⟩ := gb2_e h
                    refine x_cV [.int (gz r_91)] g (k_X6_readsDigit q_90) ca_X6_readsDigit in_X6_readsDigit se_X6_readsDigit lm_X6_216 gXX6 q_1 (Nat.le_of_ble_eq_true rfl) rfl rfl (Nat.le_of_ble_eq_true rfl) dX6_readsCommand_236 rfl ?_
                    refine x_if_eq 246 g dX6_readsCommand_239 (by decide) (fun c_93 => ?_) (fun c_93 => ?_)
                    · have h := ite_t c_93 h
                      refine x_iconst (v := 0) g dX6_readsCommand_246 (by decide) ?_
                      cases h
                      exact x_zretS (b := false) g e dX6_readsCommand_247 rfl rfl rfl
                    · have h := ite_f c_93 h
                      refine x_iconst (v := 1) g dX6_readsCommand_242 (by decide) ?_
                      refine x_goto 247 g dX6_readsCommand_243 (by decide) ?_
                      cases h
                      exact x_zretS (b := true) g e dX6_readsCommand_247 rfl rfl rfl
        · have h := ite_f c_21 h
          refine x_aload_n 0 g dX6_readsCommand_148 rfl rfl ?_
          refine x_bipush (v := 101) g dX6_readsCommand_149 (by decide) ?_
          obtain ⟨r_95, S_96, q_94, h⟩ := gb2_e h
          refine x_cV [.int (gz r_95)] g (k_X6_reads q_94) ca_X6_reads in_X6_reads se_X6_reads lm_X6_219 gXX6 q_1 (Nat.le_of_ble_eq_true rfl) rfl rfl (Nat.le_of_ble_eq_true rfl) dX6_readsCommand_151 rfl ?_
          refine x_if_eq 187 g dX6_readsCommand_154 (by decide) (fun c_97 => ?_) (fun c_97 => ?_)
          · have h := ite_t c_97 h
            refine x_iconst (v := 0) g dX6_readsCommand_187 (by decide) ?_
            cases h
            exact x_zretS (b := false) g e dX6_readsCommand_188 rfl rfl rfl
          · have h := ite_f c_97 h
            refine x_aload_n 0 g dX6_readsCommand_157 rfl rfl ?_
            refine x_bipush (v := 116) g dX6_readsCommand_158 (by decide) ?_
            obtain ⟨r_99, S_100, q_98, h⟩ := gb2_e h
            refine x_cV [.int (gz r_99)] g (k_X6_reads q_98) ca_X6_reads in_X6_reads se_X6_reads lm_X6_219 gXX6 q_1 (Nat.le_of_ble_eq_true rfl) rfl rfl (Nat.le_of_ble_eq_true rfl) dX6_readsCommand_160 rfl ?_
            refine x_if_eq 187 g dX6_readsCommand_163 (by decide) (fun c_101 => ?_) (fun c_101 => ?_)
            · have h := ite_t c_101 h
              refine x_iconst (v := 0) g dX6_readsCommand_187 (by decide) ?_
              cases h
              exact x_zretS (b := false) g e dX6_readsCommand_188 rfl rfl rfl
            · have h := ite_f c_101 h
              refine x_aload_n 0 g dX6_readsCommand_166 rfl rfl ?_
              refine x_bipush (v := 32) g dX6_readsCommand_167 (by decide) ?_
              obtain ⟨r_103, S_104, q_102, h⟩ := gb2_e h
              refine x_cV [.int (gz r_103)] g (k_X6_reads q_102) ca_X6_reads in_X6_reads se_X6_reads lm_X6_219 gXX6 q_1 (Nat.le_of_ble_eq_true rfl) rfl rfl (Nat.le_of_ble_eq_true rfl) dX6_readsCommand_169 rfl ?_
              refine x_if_eq 187 g dX6_readsCommand_172 (by decide) (fun c_105 => ?_) (fun c_105 => ?_)
              · have h := ite_t c_105 h
                refine x_iconst (v := 0) g dX6_readsCommand_187 (by decide) ?_
                cases h
                exact x_zretS (b := false) g e dX6_readsCommand_188 rfl rfl rfl
              · have h := ite_f c_105 h
                refine x_aload_n 0 g dX6_readsCommand_175 rfl rfl ?_
                refine x_iconst (v := 0) g dX6_readsCommand_176 (by decide) ?_
                obtain ⟨r_107, S_108, q_106, h⟩ := gb2_e h
                refine x_cV [.int (gz r_107)] g (k_X6_readsDigit q_106) ca_X6_readsDigit in_X6_readsDigit se_X6_readsDigit lm_X6_216 gXX6 q_1 (Nat.le_of_ble_eq_true rfl) rfl rfl (Nat.le_of_ble_eq_true rfl) dX6_readsCommand_177 rfl ?_
                refine x_if_eq 187 g dX6_readsCommand_180 (by decide) (fun c_109 => ?_) (fun c_109 => ?_)
                · have h := ite_t c_109 h
                  refine x_iconst (v := 0) g dX6_readsCommand_187 (by decide) ?_
                  cases h
                  exact x_zretS (b := false) g e dX6_readsCommand_188 rfl rfl rfl
                · have h := ite_f c_109 h
                  refine x_iconst (v := 1) g dX6_readsCommand_183 (by decide) ?_
                  refine x_goto 188 g dX6_readsCommand_184 (by decide) ?_
                  cases h
                  exact x_zretS (b := true) g e dX6_readsCommand_188 rfl rfl rfl
      · have h := ite_f c_17 h
        refine x_aload_n 0 g dX6_readsCommand_81 rfl rfl ?_
        refine x_bipush (v := 101) g dX6_readsCommand_82 (by decide) ?_
        obtain ⟨r_111, S_112, q_110, h⟩ := gb2_e h
        refine x_cV [.int (gz r_111)] g (k_X6_reads q_110) ca_X6_reads in_X6_reads se_X6_reads lm_X6_219 gXX6 q_1 (Nat.le_of_ble_eq_true rfl) rfl rfl (Nat.le_of_ble_eq_true rfl) dX6_readsCommand_84 rfl ?_
        refine x_if_eq 137 g dX6_readsCommand_87 (by decide) (fun c_113 => ?_) (fun c_113 => ?_)
        · have h := ite_t c_113 h
          refine x_iconst (v := 0) g dX6_readsCommand_137 (by decide) ?_
          cases h
          exact x_zretS (b := false) g e dX6_readsCommand_138 rfl rfl rfl
        · have h := ite_f c_113 h
          refine x_aload_n 0 g dX6_readsCommand_90 rfl rfl ?_
          refine x_bipush (v := 114) g dX6_readsCommand_91 (by decide) ?_
          obtain ⟨r_115, S_116, q_114, h⟩ := gb2_e h
          refine x_cV [.int (gz r_115)] g (k_X6_reads q_114) ca_X6_reads in_X6_reads se_X6_reads lm_X6_219 gXX6 q_1 (Nat.le_of_ble_eq_true rfl) rfl rfl (Nat.le_of_ble_eq_true rfl) dX6_readsCommand_93 rfl ?_
          refine x_if_eq 137 g dX6_readsCommand_96 (by decide) (fun c_117 => ?_) (fun c_117 => ?_)
          · have h := ite_t c_117 h
            refine x_iconst (v := 0) g dX6_readsCommand_137 (by decide) ?_
            cases h
            exact x_zretS (b := false) g e dX6_readsCommand_138 rfl rfl rfl
          · have h := ite_f c_117 h
            refine x_aload_n 0 g dX6_readsCommand_99 rfl rfl ?_
            refine x_bipush (v := 105) g dX6_readsCommand_100 (by decide) ?_
            obtain ⟨r_119, S_120, q_118, h⟩ := gb2_e h
            refine x_cV [.int (gz r_119)] g (k_X6_reads q_118) ca_X6_reads in_X6_reads se_X6_reads lm_X6_219 gXX6 q_1 (Nat.le_of_ble_eq_true rfl) rfl rfl (Nat.le_of_ble_eq_true rfl) dX6_readsCommand_102 rfl ?_
            refine x_if_eq 137 g dX6_readsCommand_105 (by decide) (fun c_121 => ?_) (fun c_121 => ?_)
            · have h := ite_t c_121 h
              refine x_iconst (v := 0) g dX6_readsCommand_137 (by decide) ?_
              cases h
              exact x_zretS (b := false) g e dX6_readsCommand_138 rfl rfl rfl
            · have h := ite_f c_121 h
              refine x_aload_n 0 g dX6_readsCommand_108 rfl rfl ?_
              refine x_bipush (v := 111) g dX6_readsCommand_109 (by decide) ?_
              obtain ⟨r_123, S_124, q_122, h⟩ := gb2_e h
              refine x_cV [.int (gz r_123)] g (k_X6_reads q_122) ca_X6_reads in_X6_reads se_X6_reads lm_X6_219 gXX6 q_1 (Nat.le_of_ble_eq_true rfl) rfl rfl (Nat.le_of_ble_eq_true rfl) dX6_readsCommand_111 rfl ?_
              refine x_if_eq 137 g dX6_readsCommand_114 (by decide) (fun c_125 => ?_) (fun c_125 => ?_)
              · have h := ite_t c_125 h
                refine x_iconst (v := 0) g dX6_readsCommand_137 (by decide) ?_
                cases h
                exact x_zretS (b := false) g e dX6_readsCommand_138 rfl rfl rfl
              · have h := ite_f c_125 h
                refine x_aload_n 0 g dX6_readsCommand_117 rfl rfl ?_
                refine x_bipush (v := 100) g dX6_readsCommand_118 (by decide) ?_
                obtain ⟨r_127, S_128, q_126, h⟩ := gb2_e h
                refine x_cV [.int (gz r_127)] g (k_X6_reads q_126) ca_X6_reads in_X6_reads se_X6_reads lm_X6_219 gXX6 q_1 (Nat.le_of_ble_eq_true rfl) rfl rfl (Nat.le_of_ble_eq_true rfl) dX6_readsCommand_120 rfl ?_
                refine x_if_eq 137 g dX6_readsCommand_123 (by decide) (fun c_129 => ?_) (fun c_129 => ?_)
                · have h := ite_t c_129 h
                  refine x_iconst (v := 0) g dX6_readsCommand_137 (by decide) ?_
                  cases h
                  exact x_zretS (b := false) g e dX6_readsCommand_138 rfl rfl rfl
                · have h := ite_f c_129 h
                  refine x_aload_n 0 g dX6_readsCommand_126 rfl rfl ?_
                  obtain ⟨r_131, S_132, q_130, h⟩ := gb2_e h
                  refine x_cV [.int (gz r_131)] g (k_X6_readsTwo q_130) ca_X6_readsTwo in_X6_readsTwo se_X6_readsTwo lm_X6_222 gXX6 q_1 (Nat.le_of_ble_eq_true rfl) rfl rfl (Nat.le_of_ble_eq_true rfl) dX6_readsCommand_127 rfl ?_
                  refine x_if_eq 137 g dX6_readsCommand_130 (by decide) (fun c_133 => ?_) (fun c_133 => ?_)
                  · have h := ite_t c_133 h
                    refine x_iconst (v := 0) g dX6_readsCommand_137 (by decide) ?_
                    cases h
                    exact x_zretS (b := false) g e dX6_readsCommand_138 rfl rfl rfl
                  · have h := ite_f c_133 h
                    refine x_iconst (v := 1) g dX6_readsCommand_133 (by decide) ?_
                    refine x_goto 138 g dX6_readsCommand_134 (by decide) ?_
                    cases h
                    exact x_zretS (b := true) g e dX6_readsCommand_138 rfl rfl rfl
    · have h := ite_f c_13 h
      refine x_aload_n 0 g dX6_readsCommand_67 rfl rfl ?_
      obtain ⟨r_135, S_136, q_134, h⟩ := gb2_e h
      refine x_cV [.int (gz r_135)] g (k_X6_readsT q_134) ca_X6_readsT in_X6_readsT se_X6_readsT lm_X6_235 gXX6 q_1 (Nat.le_of_ble_eq_true rfl) rfl rfl (Nat.le_of_ble_eq_true rfl) dX6_readsCommand_68 rfl ?_
      cases h
      exact x_zretS g e dX6_readsCommand_71 rfl rfl rfl
  · have h := ite_f c_9 h
    refine x_aload_n 0 g dX6_readsCommand_17 rfl rfl ?_
    refine x_bipush (v := 100) g dX6_readsCommand_18 (by decide) ?_
    obtain ⟨r_138, S_139, q_137, h⟩ := gb2_e h
    refine x_cV [.int (gz r_138)] g (k_X6_reads q_137) ca_X6_reads in_X6_reads se_X6_reads lm_X6_219 gXX6 q_1 (Nat.le_of_ble_eq_true rfl) rfl rfl (Nat.le_of_ble_eq_true rfl) dX6_readsCommand_20 rfl ?_
    refine x_if_eq 56 g dX6_readsCommand_23 (by decide) (fun c_140 => ?_) (fun c_140 => ?_)
    · have h := ite_t c_140 h
      refine x_iconst (v := 0) g dX6_readsCommand_56 (by decide) ?_
      cases h
      exact x_zretS (b := false) g e dX6_readsCommand_57 rfl rfl rfl
    · have h := ite_f c_140 h
      refine x_aload_n 0 g dX6_readsCommand_26 rfl rfl ?_
      refine x_bipush (v := 100) g dX6_readsCommand_27 (by decide) ?_
      obtain ⟨r_142, S_143, q_141, h⟩ := gb2_e h
      refine x_cV [.int (gz r_142)] g (k_X6_reads q_141) ca_X6_reads in_X6_reads se_X6_reads lm_X6_219 gXX6 q_1 (Nat.le_of_ble_eq_true rfl) rfl rfl (Nat.le_of_ble_eq_true rfl) dX6_readsCommand_29 rfl ?_
      refine x_if_eq 56 g dX6_readsCommand_32 (by decide) (fun c_144 => ?_) (fun c_144 => ?_)
      · have h := ite_t c_144 h
        refine x_iconst (v := 0) g dX6_readsCommand_56 (by decide) ?_
        cases h
        exact x_zretS (b := false) g e dX6_readsCommand_57 rfl rfl rfl
      · have h := ite_f c_144 h
        refine x_aload_n 0 g dX6_readsCommand_35 rfl rfl ?_
        refine x_bipush (v := 32) g dX6_readsCommand_36 (by decide) ?_
        obtain ⟨r_146, S_147, q_145, h⟩ := gb2_e h
        refine x_cV [.int (gz r_146)] g (k_X6_reads q_145) ca_X6_reads in_X6_reads se_X6_reads lm_X6_219 gXX6 q_1 (Nat.le_of_ble_eq_true rfl) rfl rfl (Nat.le_of_ble_eq_true rfl) dX6_readsCommand_38 rfl ?_
        refine x_if_eq 56 g dX6_readsCommand_41 (by decide) (fun c_148 => ?_) (fun c_148 => ?_)
        · have h := ite_t c_148 h
          refine x_iconst (v := 0) g dX6_readsCommand_56 (by decide) ?_
          cases h
          exact x_zretS (b := false) g e dX6_readsCommand_57 rfl rfl rfl
        · have h := ite_f c_148 h
          refine x_aload_n 0 g dX6_readsCommand_44 rfl rfl ?_
          refine x_iconst (v := 0) g dX6_readsCommand_45 (by decide) ?_
          obtain ⟨r_150, S_151, q_149, h⟩ := gb2_e h
          refine x_cV [.int (gz r_150)] g (k_X6_readsNumber q_149) ca_X6_readsNumber in_X6_readsNumber se_X6_readsNumber lm_X6_232 gXX6 q_1 (Nat.le_of_ble_eq_true rfl) rfl rfl (Nat.le_of_ble_eq_true rfl) dX6_readsCommand_46 rfl ?_
          refine x_if_eq 56 g dX6_readsCommand_49 (by decide) (fun c_152 => ?_) (fun c_152 => ?_)
          · have h := ite_t c_152 h
            refine x_iconst (v := 0) g dX6_readsCommand_56 (by decide) ?_
            cases h
            exact x_zretS (b := false) g e dX6_readsCommand_57 rfl rfl rfl
          · have h := ite_f c_152 h
            refine x_iconst (v := 1) g dX6_readsCommand_52 (by decide) ?_
            refine x_goto 57 g dX6_readsCommand_53 (by decide) ?_
            cases h
            exact x_zretS (b := true) g e dX6_readsCommand_57 rfl rfl rfl
noncomputable def f_X6_readsAll_L7 (G : gG) (a0 : Nat) : Nat → Int32 → gS → Option (Bool × gS)
  | 0, _, _ => none
  | n7 + 1, x1, S => if x1 = 0 then (gd (gis G 3 a0) <| if (gI S 36 a0) = (gI S 35 a0) then (some (true, S)) else (some (false, S))) else (gd (gis G 3 a0) <| gb2 (f_X6_readsCommand G a0 S) fun (r_9 : Bool) (S_10 : gS) => if (gz r_9) = 0 then (some (false, S_10)) else (gb2 (f_X6_reads G a0 59 S_10) fun (r_13 : Bool) (S_14 : gS) => glt (gz r_13) fun (x1_15 : Int32) => f_X6_readsAll_L7 G a0 n7 x1_15 S_14))
noncomputable def f_X6_readsAll (G : gG) (a0 : Nat) (S : gS) : Option (Bool × gS) := gd (gis G 3 a0) <| glt (sI S 36 a0 0) fun (S_2 : gS) => f_X6_readsAll_L7 G a0 gN 1 S_2
set_option maxRecDepth 100000 in
set_option maxHeartbeats 4000000 in
theorem k_X6_readsAll {ad : Nat → Nat} {G : gG} {a0 : Nat} {S S1 : gS} {T : gT} {r : Bool} (h : f_X6_readsAll G a0 S = some (r, S1)) : Ct ad yX6_readsAll (Cond.code yX6_readsAll cX6_readsAll 2 (some .boolean) :: gTb) 6 0 0 [.ref a0] G S T (some (.int (gz r))) G S1 T := by
  refine Ct.ofB rfl (Nat.le_of_ble_eq_true rfl) rfl (fun K g e hK => ?_)
  obtain ⟨rfl, -⟩ := hK
  show Xj K [] G 0 [some (.ref a0), none] [] S T 0 0
  unfold f_X6_readsAll at h
  refine x_aload_n 0 g dX6_readsAll_0 rfl rfl ?_
  refine x_iconst (v := 0) g dX6_readsAll_1 (by decide) ?_
  obtain ⟨q_1, h⟩ := gd_e h
  refine x_puti g dX6_readsAll_2 gXX6 12 36 rfl (by decide) rfl rfl lf_X6_210 rfl rfl q_1 ?_
  refine x_nS (fun S_2 e_3 => ?_)
  have h := glt_e e_3 h
  refine x_iconst (v := 1) g dX6_readsAll_5 (by decide) ?_
  refine x_istore_n 1 g dX6_readsAll_6 rfl (Nat.le_of_ble_eq_true rfl) rfl ?_
  have L7 : ∀ (n7 : Nat) (x1 : Int32) (S : gS), f_X6_readsAll_L7 G a0 n7 x1 S = some (r, S1) → Xj K [] G 7 [some (.ref a0), some (.int x1)] [] S T 0 0 := by
    intro n7
    induction n7 with
    | zero =>
      intro x1 S h
      rw [f_X6_readsAll_L7] at h
      cases h
    | succ n7 ih =>
      intro x1 S h
      rw [f_X6_readsAll_L7] at h
      refine x_iload_n 1 g dX6_readsAll_7 rfl rfl ?_
      refine x_if_eq 30 g dX6_readsAll_8 (by decide) (fun c_4 => ?_) (fun c_4 => ?_)
      · have h := ite_t c_4 h
        refine x_aload_n 0 g dX6_readsAll_30 rfl rfl ?_
        obtain ⟨q_5, h⟩ := gd_e h
        refine x_geti g dX6_readsAll_31 gXX6 12 36 rfl (by decide) rfl lf_X6_210 q_5 ?_
        refine x_aload_n 0 g dX6_readsAll_34 rfl rfl ?_
        refine x_geti g dX6_readsAll_35 gXX6 11 35 rfl (by decide) rfl lf_X6_207 q_5 ?_
        refine x_icmp_ne 45 g dX6_readsAll_38 (by decide) (fun c_6 => ?_) (fun c_6 => ?_)
        · have h := ite_f c_6 h
          refine x_iconst (v := 0) g dX6_readsAll_45 (by decide) ?_
          cases h
          exact x_zretS (b := false) g e dX6_readsAll_46 rfl rfl rfl
        · have h := ite_t c_6 h
          refine x_iconst (v := 1) g dX6_readsAll_41 (by decide) ?_
          refine x_goto 46 g dX6_readsAll_42 (by decide) ?_
          cases h
          exact x_zretS (b := true) g e dX6_readsAll_46 rfl rfl rfl
      · have h := ite_f c_4 h
        refine x_aload_n 0 g dX6_readsAll_11 rfl rfl ?_
        obtain ⟨q_7, h⟩ := gd_e h
        obtain ⟨r_9, S_10, q_8, h⟩ := gb2_e h
        refine x_cV [.int (gz r_9)] g (k_X6_readsCommand q_8) ca_X6_readsCommand in_X6_readsCommand se_X6_readsCommand lm_X6_238 gXX6 q_7 (Nat.le_of_ble_eq_true rfl) rfl rfl (Nat.le_of_ble_eq_true rfl) dX6_readsAll_12 rfl ?_
        refine x_if_ne 20 g dX6_readsAll_15 (by decide) (fun c_11 => ?_) (fun c_11 => ?_)
        · have h := ite_f c_11 h
          refine x_aload_n 0 g dX6_readsAll_20 rfl rfl ?_
          refine x_bipush (v := 59) g dX6_readsAll_21 (by decide) ?_
          obtain ⟨r_13, S_14, q_12, h⟩ := gb2_e h
          refine x_cV [.int (gz r_13)] g (k_X6_reads q_12) ca_X6_reads in_X6_reads se_X6_reads lm_X6_219 gXX6 q_7 (Nat.le_of_ble_eq_true rfl) rfl rfl (Nat.le_of_ble_eq_true rfl) dX6_readsAll_23 rfl ?_
          refine x_nI (fun x1_15 e_16 => ?_)
          have h := glt_e e_16 h
          refine x_istore_n 1 g dX6_readsAll_26 rfl (Nat.le_of_ble_eq_true rfl) rfl ?_
          refine x_goto 7 g dX6_readsAll_27 (by decide) ?_
          exact ih _ _ h
        · have h := ite_t c_11 h
          refine x_iconst (v := 0) g dX6_readsAll_18 (by decide) ?_
          cases h
          exact x_zretS (b := false) g e dX6_readsAll_19 rfl rfl rfl
  exact L7 gN _ _ h
noncomputable def f_X6_notNow (G : gG) (a0 : Nat) (S : gS) : Option Int32 := gd (gis G 3 a0) <| gb (gP S 16 a0) fun (b_2 : Nat) => gd (gis G 7 b_2) <| gd (vp_in 0 (gn G b_2)) <| glt (gr S b_2 (Int32.toNatClampNeg 0)) fun (x1_6 : Int32) => gb (gP S 16 a0) fun (b_8 : Nat) => gd (gis G 7 b_8) <| gd (vp_in 1 (gn G b_8)) <| glt (gr S b_8 (Int32.toNatClampNeg 1)) fun (x2_12 : Int32) => if (gI S 39 a0) = 97 then (gb (f_X6_notAdd G a0 x1_6 S) fun (r_16 : Int32) => some r_16) else if (gI S 39 a0) = 103 then (gb (f_X6_notPenalty x1_6) fun (r_19 : Int32) => some r_19) else if (gI S 39 a0) = 109 then (gb (f_X6_notEnd G a0 S) fun (r_22 : Int32) => some r_22) else if (gI S 39 a0) = 112 then (gb (f_X6_notPeriod G a0 x1_6 x2_12 S) fun (r_25 : Int32) => some r_25) else if (gI S 39 a0) = 116 then (gb (gP S 16 a0) fun (b_27 : Nat) => gd (gis G 7 b_27) <| gd (vp_in 2 (gn G b_27)) <| gb (gP S 16 a0) fun (b_31 : Nat) => gd (gis G 7 b_31) <| gd (vp_in 3 (gn G b_31)) <| gb (f_X6_notTrain G a0 x1_6 x2_12 (gr S b_27 (Int32.toNatClampNeg 2)) (gr S b_31 (Int32.toNatClampNeg 3)) S) fun (r_36 : Int32) => some r_36) else if (gI S 39 a0) = 119 then (gb (f_X6_notPenalty x1_6) fun (r_39 : Int32) => some r_39) else (gb (f_X6_notOne G a0 x1_6 x2_12 S) fun (r_41 : Int32) => some r_41)
set_option maxRecDepth 100000 in
set_option maxHeartbeats 4000000 in
theorem k_X6_notNow {ad : Nat → Nat} {G : gG} {a0 : Nat} {S : gS} {T : gT} {r : Int32} (h : f_X6_notNow G a0 S = some r) : Ct ad yX6_notNow (Cond.code yX6_notNow cX6_notNow 3 (some .int) :: gTb) 3 0 0 [.ref a0] G S T (some (.int r)) G S T := by
  refine Ct.ofB rfl (Nat.le_of_ble_eq_true rfl) rfl (fun K g e hK => ?_)
  obtain ⟨rfl, -⟩ := hK
  show Xj K [] G 0 [some (.ref a0), none, none] [] S T 0 0
  unfold f_X6_notNow at h
  refine x_aload_n 0 g dX6_notNow_0 rfl rfl ?_
  obtain ⟨q_1, h⟩ := gd_e h
  obtain ⟨b_2, e_3, h⟩ := gb_e h
  refine x_getr g dX6_notNow_1 gXX6 15 16 rfl (by decide) rfl lf_X6_39 q_1 e_3 ?_
  refine x_iconst (v := 0) g dX6_notNow_4 (by decide) ?_
  obtain ⟨q_4, h⟩ := gd_e h
  obtain ⟨q_5, h⟩ := gd_e h
  refine x_iald g dX6_notNow_5 q_4 q_5 ?_
  refine x_nI (fun x1_6 e_7 => ?_)
  have h := glt_e e_7 h
  refine x_istore_n 1 g dX6_notNow_6 rfl (Nat.le_of_ble_eq_true rfl) rfl ?_
  refine x_aload_n 0 g dX6_notNow_7 rfl rfl ?_
  obtain ⟨b_8, e_9, h⟩ := gb_e h
  refine x_getr g dX6_notNow_8 gXX6 15 16 rfl (by decide) rfl lf_X6_39 q_1 e_9 ?_
  refine x_iconst (v := 1) g dX6_notNow_11 (by decide) ?_
  obtain ⟨q_10, h⟩ := gd_e h
  obtain ⟨q_11, h⟩ := gd_e h
  refine x_iald g dX6_notNow_12 q_10 q_11 ?_
  refine x_nI (fun x2_12 e_13 => ?_)
  have h := glt_e e_13 h
  refine x_istore_n 2 g dX6_notNow_13 rfl (Nat.le_of_ble_eq_true rfl) rfl ?_
  refine x_aload_n 0 g dX6_notNow_14 rfl rfl ?_
  refine x_geti g dX6_notNow_15 gXX6 16 39 rfl (by decide) rfl lf_X6_229 q_1 ?_
  by_cases c_14 : (gI S 39 a0) = 97
  · have h := ite_t c_14 h
    refine x_lkI (off := 58) 97 76 g dX6_notNow_18 c_14 (by decide) (by decide) (by decide) ?_
    refine x_aload_n 0 g dX6_notNow_76 rfl rfl ?_
    refine x_iload_n 1 g dX6_notNow_77 rfl rfl ?_
    obtain ⟨r_16, q_15, h⟩ := gb_e h
    refine x_cV [.int r_16] g (k_X6_notAdd q_15) ca_X6_notAdd in_X6_notAdd se_X6_notAdd lm_X6_81 gXX6 q_1 (Nat.le_of_ble_eq_true rfl) rfl rfl (Nat.le_of_ble_eq_true rfl) dX6_notNow_78 rfl ?_
    cases h
    exact x_iretS g e dX6_notNow_81 rfl rfl
  have h := ite_f c_14 h
  by_cases c_17 : (gI S 39 a0) = 103
  · have h := ite_t c_17 h
    refine x_lkI (off := 90) 103 108 g dX6_notNow_18 c_17 (by decide) (by decide) (by decide) ?_
    refine x_iload_n 1 g dX6_notNow_108 rfl rfl ?_
    obtain ⟨r_19, q_18, h⟩ := gb_e h
    refine x_cS [.int r_19] g (k_X6_notPenalty q_18) ca_X6_notPenalty st_X6_notPenalty lm_X6_132 (Nat.le_of_ble_eq_true rfl) rfl rfl (Nat.le_of_ble_eq_true rfl) dX6_notNow_109 rfl ?_
    cases h
    exact x_iretS g e dX6_notNow_112 rfl rfl
  have h := ite_f c_17 h
  by_cases c_20 : (gI S 39 a0) = 109
  · have h := ite_t c_20 h
    refine x_lkI (off := 95) 109 113 g dX6_notNow_18 c_20 (by decide) (by decide) (by decide) ?_
    refine x_aload_n 0 g dX6_notNow_113 rfl rfl ?_
    obtain ⟨r_22, q_21, h⟩ := gb_e h
    refine x_cV [.int r_22] g (k_X6_notEnd q_21) ca_X6_notEnd in_X6_notEnd se_X6_notEnd lm_X6_162 gXX6 q_1 (Nat.le_of_ble_eq_true rfl) rfl rfl (Nat.le_of_ble_eq_true rfl) dX6_notNow_114 rfl ?_
    cases h
    exact x_iretS g e dX6_notNow_117 rfl rfl
  have h := ite_f c_20 h
  by_cases c_23 : (gI S 39 a0) = 112
  · have h := ite_t c_23 h
    refine x_lkI (off := 83) 112 101 g dX6_notNow_18 c_23 (by decide) (by decide) (by decide) ?_
    refine x_aload_n 0 g dX6_notNow_101 rfl rfl ?_
    refine x_iload_n 1 g dX6_notNow_102 rfl rfl ?_
    refine x_iload_n 2 g dX6_notNow_103 rfl rfl ?_
    obtain ⟨r_25, q_24, h⟩ := gb_e h
    refine x_cV [.int r_25] g (k_X6_notPeriod q_24) ca_X6_notPeriod in_X6_notPeriod se_X6_notPeriod lm_X6_126 gXX6 q_1 (Nat.le_of_ble_eq_true rfl) rfl rfl (Nat.le_of_ble_eq_true rfl) dX6_notNow_104 rfl ?_
    cases h
    exact x_iretS g e dX6_notNow_107 rfl rfl
  have h := ite_f c_23 h
  by_cases c_26 : (gI S 39 a0) = 116
  · have h := ite_t c_26 h
    refine x_lkI (off := 64) 116 82 g dX6_notNow_18 c_26 (by decide) (by decide) (by decide) ?_
    refine x_aload_n 0 g dX6_notNow_82 rfl rfl ?_
    refine x_iload_n 1 g dX6_notNow_83 rfl rfl ?_
    refine x_iload_n 2 g dX6_notNow_84 rfl rfl ?_
    refine x_aload_n 0 g dX6_notNow_85 rfl rfl ?_
    obtain ⟨b_27, e_28, h⟩ := gb_e h
    refine x_getr g dX6_notNow_86 gXX6 15 16 rfl (by decide) rfl lf_X6_39 q_1 e_28 ?_
    refine x_iconst (v := 2) g dX6_notNow_89 (by decide) ?_
    obtain ⟨q_29, h⟩ := gd_e h
    obtain ⟨q_30, h⟩ := gd_e h
    refine x_iald g dX6_notNow_90 q_29 q_30 ?_
    refine x_aload_n 0 g dX6_notNow_91 rfl rfl ?_
    obtain ⟨b_31, e_32, h⟩ := gb_e h
    refine x_getr g dX6_notNow_92 gXX6 15 16 rfl (by decide) rfl lf_X6_39 q_1 e_32 ?_
    refine x_iconst (v := 3) g dX6_notNow_95 (by decide) ?_
    obtain ⟨q_33, h⟩ := gd_e h
    obtain ⟨q_34, h⟩ := gd_e h
    refine x_iald g dX6_notNow_96 q_33 q_34 ?_
    obtain ⟨r_36, q_35, h⟩ := gb_e h
    refine x_cV [.int r_36] g (k_X6_notTrain q_35) ca_X6_notTrain in_X6_notTrain se_X6_notTrain lm_X6_120 gXX6 q_1 (Nat.le_of_ble_eq_true rfl) rfl rfl (Nat.le_of_ble_eq_true rfl) dX6_notNow_97 rfl ?_
    cases h
    exact x_iretS g e dX6_notNow_100 rfl rfl
  have h := ite_f c_26 h
  by_cases c_37 : (gI S 39 a0) = 119
  · have h := ite_t c_37 h
    refine x_lkI (off := 90) 119 108 g dX6_notNow_18 c_37 (by decide) (by decide) (by decide) ?_
    refine x_iload_n 1 g dX6_notNow_108 rfl rfl ?_
    obtain ⟨r_39, q_38, h⟩ := gb_e h
    refine x_cS [.int r_39] g (k_X6_notPenalty q_38) ca_X6_notPenalty st_X6_notPenalty lm_X6_132 (Nat.le_of_ble_eq_true rfl) rfl rfl (Nat.le_of_ble_eq_true rfl) dX6_notNow_109 rfl ?_
    cases h
    exact x_iretS g e dX6_notNow_112 rfl rfl
  have h := ite_f c_37 h
  refine x_lkD 118 g dX6_notNow_18 (by decide) [97, 103, 109, 112, 116, 119] (List.forall_mem_cons.mpr ⟨tab_ne c_14 (by decide), List.forall_mem_cons.mpr ⟨tab_ne c_17 (by decide), List.forall_mem_cons.mpr ⟨tab_ne c_20 (by decide), List.forall_mem_cons.mpr ⟨tab_ne c_23 (by decide), List.forall_mem_cons.mpr ⟨tab_ne c_26 (by decide), List.forall_mem_cons.mpr ⟨tab_ne c_37 (by decide), fun _ h9 => nomatch h9⟩⟩⟩⟩⟩⟩) (by decide) (by decide) ?_
  refine x_aload_n 0 g dX6_notNow_118 rfl rfl ?_
  refine x_iload_n 1 g dX6_notNow_119 rfl rfl ?_
  refine x_iload_n 2 g dX6_notNow_120 rfl rfl ?_
  obtain ⟨r_41, q_40, h⟩ := gb_e h
  refine x_cV [.int r_41] g (k_X6_notOne q_40) ca_X6_notOne in_X6_notOne se_X6_notOne lm_X6_144 gXX6 q_1 (Nat.le_of_ble_eq_true rfl) rfl rfl (Nat.le_of_ble_eq_true rfl) dX6_notNow_121 rfl ?_
  cases h
  exact x_iretS g e dX6_notNow_124 rfl rfl
noncomputable def f_X6_doesNow (G : gG) (a0 : Nat) (S : gS) : Option (Int32 × gS) := gd (gis G 3 a0) <| gb (gP S 16 a0) fun (b_2 : Nat) => gd (gis G 7 b_2) <| gd (vp_in 0 (gn G b_2)) <| glt (gr S b_2 (Int32.toNatClampNeg 0)) fun (x1_6 : Int32) => gb (gP S 16 a0) fun (b_8 : Nat) => gd (gis G 7 b_8) <| gd (vp_in 1 (gn G b_8)) <| glt (gr S b_8 (Int32.toNatClampNeg 1)) fun (x2_12 : Int32) => if (gI S 39 a0) = 97 then (gb2 (f_X6_addsUmbrella G a0 x1_6 S) fun (r_16 : Int32) (S_17 : gS) => some (r_16, S_17)) else if (gI S 39 a0) = 102 then (gb2 (f_X6_forgets G a0 x1_6 x2_12 S) fun (r_20 : Int32) (S_21 : gS) => some (r_20, S_21)) else if (gI S 39 a0) = 103 then (gb2 (f_X6_sets G a0 2 x1_6 S) fun (r_24 : Int32) (S_25 : gS) => some (r_24, S_25)) else if (gI S 39 a0) = 109 then (gb2 (f_X6_endsTerm G a0 S) fun (r_28 : Int32) (S_29 : gS) => some (r_28, S_29)) else if (gI S 39 a0) = 112 then (gb2 (f_X6_setsPeriod G a0 x1_6 x2_12 S) fun (r_32 : Int32) (S_33 : gS) => some (r_32, S_33)) else if (gI S 39 a0) = 116 then (gb (gP S 16 a0) fun (b_35 : Nat) => gd (gis G 7 b_35) <| gd (vp_in 2 (gn G b_35)) <| gb (gP S 16 a0) fun (b_39 : Nat) => gd (gis G 7 b_39) <| gd (vp_in 3 (gn G b_39)) <| gb2 (f_X6_trains G a0 x1_6 x2_12 (gr S b_35 (Int32.toNatClampNeg 2)) (gr S b_39 (Int32.toNatClampNeg 3)) S) fun (r_44 : Int32) (S_45 : gS) => some (r_44, S_45)) else if (gI S 39 a0) = 119 then (gb2 (f_X6_sets G a0 1 x1_6 S) fun (r_48 : Int32) (S_49 : gS) => some (r_48, S_49)) else (gb2 (f_X6_examines G a0 x1_6 x2_12 S) fun (r_51 : Int32) (S_52 : gS) => some (r_51, S_52))
set_option maxRecDepth 100000 in
set_option maxHeartbeats 4000000 in
theorem k_X6_doesNow {ad : Nat → Nat} {G : gG} {a0 : Nat} {S S1 : gS} {T : gT} {r : Int32} (h : f_X6_doesNow G a0 S = some (r, S1)) : Ct ad yX6_doesNow (Cond.code yX6_doesNow cX6_doesNow 3 (some .int) :: gTb) 5 0 0 [.ref a0] G S T (some (.int r)) G S1 T := by
  refine Ct.ofB rfl (Nat.le_of_ble_eq_true rfl) rfl (fun K g e hK => ?_)
  obtain ⟨rfl, -⟩ := hK
  show Xj K [] G 0 [some (.ref a0), none, none] [] S T 0 0
  unfold f_X6_doesNow at h
  refine x_aload_n 0 g dX6_doesNow_0 rfl rfl ?_
  obtain ⟨q_1, h⟩ := gd_e h
  obtain ⟨b_2, e_3, h⟩ := gb_e h
  refine x_getr g dX6_doesNow_1 gXX6 15 16 rfl (by decide) rfl lf_X6_39 q_1 e_3 ?_
  refine x_iconst (v := 0) g dX6_doesNow_4 (by decide) ?_
  obtain ⟨q_4, h⟩ := gd_e h
  obtain ⟨q_5, h⟩ := gd_e h
  refine x_iald g dX6_doesNow_5 q_4 q_5 ?_
  refine x_nI (fun x1_6 e_7 => ?_)
  have h := glt_e e_7 h
  refine x_istore_n 1 g dX6_doesNow_6 rfl (Nat.le_of_ble_eq_true rfl) rfl ?_
  refine x_aload_n 0 g dX6_doesNow_7 rfl rfl ?_
  obtain ⟨b_8, e_9, h⟩ := gb_e h
  refine x_getr g dX6_doesNow_8 gXX6 15 16 rfl (by decide) rfl lf_X6_39 q_1 e_9 ?_
  refine x_iconst (v := 1) g dX6_doesNow_11 (by decide) ?_
  obtain ⟨q_10, h⟩ := gd_e h
  obtain ⟨q_11, h⟩ := gd_e h
  refine x_iald g dX6_doesNow_12 q_10 q_11 ?_
  refine x_nI (fun x2_12 e_13 => ?_)
  have h := glt_e e_13 h
  refine x_istore_n 2 g dX6_doesNow_13 rfl (Nat.le_of_ble_eq_true rfl) rfl ?_
  refine x_aload_n 0 g dX6_doesNow_14 rfl rfl ?_
  refine x_geti g dX6_doesNow_15 gXX6 16 39 rfl (by decide) rfl lf_X6_229 q_1 ?_
  by_cases c_14 : (gI S 39 a0) = 97
  · have h := ite_t c_14 h
    refine x_tabI (off := 106) 97 124 g dX6_doesNow_18 c_14 (by decide) (by decide) (by decide) (by decide) ?_
    refine x_aload_n 0 g dX6_doesNow_124 rfl rfl ?_
    refine x_iload_n 1 g dX6_doesNow_125 rfl rfl ?_
    obtain ⟨r_16, S_17, q_15, h⟩ := gb2_e h
    refine x_cV [.int r_16] g (k_X6_addsUmbrella q_15) ca_X6_addsUmbrella in_X6_addsUmbrella se_X6_addsUmbrella lm_X6_90 gXX6 q_1 (Nat.le_of_ble_eq_true rfl) rfl rfl (Nat.le_of_ble_eq_true rfl) dX6_doesNow_126 rfl ?_
    cases h
    exact x_iretS g e dX6_doesNow_129 rfl rfl
  have h := ite_f c_14 h
  by_cases c_18 : (gI S 39 a0) = 102
  · have h := ite_t c_18 h
    refine x_tabI (off := 157) 102 175 g dX6_doesNow_18 c_18 (by decide) (by decide) (by decide) (by decide) ?_
    refine x_aload_n 0 g dX6_doesNow_175 rfl rfl ?_
    refine x_iload_n 1 g dX6_doesNow_176 rfl rfl ?_
    refine x_iload_n 2 g dX6_doesNow_177 rfl rfl ?_
    obtain ⟨r_20, S_21, q_19, h⟩ := gb2_e h
    refine x_cV [.int r_20] g (k_X6_forgets q_19) ca_X6_forgets in_X6_forgets se_X6_forgets lm_X6_147 gXX6 q_1 (Nat.le_of_ble_eq_true rfl) rfl rfl (Nat.le_of_ble_eq_true rfl) dX6_doesNow_178 rfl ?_
    cases h
    exact x_iretS g e dX6_doesNow_181 rfl rfl
  have h := ite_f c_18 h
  by_cases c_22 : (gI S 39 a0) = 103
  · have h := ite_t c_22 h
    refine x_tabI (off := 145) 103 163 g dX6_doesNow_18 c_22 (by decide) (by decide) (by decide) (by decide) ?_
    refine x_aload_n 0 g dX6_doesNow_163 rfl rfl ?_
    refine x_iconst (v := 2) g dX6_doesNow_164 (by decide) ?_
    refine x_iload_n 1 g dX6_doesNow_165 rfl rfl ?_
    obtain ⟨r_24, S_25, q_23, h⟩ := gb2_e h
    refine x_cV [.int r_24] g (k_X6_sets q_23) ca_X6_sets in_X6_sets se_X6_sets lm_X6_135 gXX6 q_1 (Nat.le_of_ble_eq_true rfl) rfl rfl (Nat.le_of_ble_eq_true rfl) dX6_doesNow_166 rfl ?_
    cases h
    exact x_iretS g e dX6_doesNow_169 rfl rfl
  have h := ite_f c_22 h
  by_cases c_26 : (gI S 39 a0) = 109
  · have h := ite_t c_26 h
    refine x_tabI (off := 152) 109 170 g dX6_doesNow_18 c_26 (by decide) (by decide) (by decide) (by decide) ?_
    refine x_aload_n 0 g dX6_doesNow_170 rfl rfl ?_
    obtain ⟨r_28, S_29, q_27, h⟩ := gb2_e h
    refine x_cV [.int r_28] g (k_X6_endsTerm q_27) ca_X6_endsTerm in_X6_endsTerm se_X6_endsTerm lm_X6_166 gXX6 q_1 (Nat.le_of_ble_eq_true rfl) rfl rfl (Nat.le_of_ble_eq_true rfl) dX6_doesNow_171 rfl ?_
    cases h
    exact x_iretS g e dX6_doesNow_174 rfl rfl
  have h := ite_f c_26 h
  by_cases c_30 : (gI S 39 a0) = 112
  · have h := ite_t c_30 h
    refine x_tabI (off := 131) 112 149 g dX6_doesNow_18 c_30 (by decide) (by decide) (by decide) (by decide) ?_
    refine x_aload_n 0 g dX6_doesNow_149 rfl rfl ?_
    refine x_iload_n 1 g dX6_doesNow_150 rfl rfl ?_
    refine x_iload_n 2 g dX6_doesNow_151 rfl rfl ?_
    obtain ⟨r_32, S_33, q_31, h⟩ := gb2_e h
    refine x_cV [.int r_32] g (k_X6_setsPeriod q_31) ca_X6_setsPeriod in_X6_setsPeriod se_X6_setsPeriod lm_X6_129 gXX6 q_1 (Nat.le_of_ble_eq_true rfl) rfl rfl (Nat.le_of_ble_eq_true rfl) dX6_doesNow_152 rfl ?_
    cases h
    exact x_iretS g e dX6_doesNow_155 rfl rfl
  have h := ite_f c_30 h
  by_cases c_34 : (gI S 39 a0) = 116
  · have h := ite_t c_34 h
    refine x_tabI (off := 112) 116 130 g dX6_doesNow_18 c_34 (by decide) (by decide) (by decide) (by decide) ?_
    refine x_aload_n 0 g dX6_doesNow_130 rfl rfl ?_
    refine x_iload_n 1 g dX6_doesNow_131 rfl rfl ?_
    refine x_iload_n 2 g dX6_doesNow_132 rfl rfl ?_
    refine x_aload_n 0 g dX6_doesNow_133 rfl rfl ?_
    obtain ⟨b_35, e_36, h⟩ := gb_e h
    refine x_getr g dX6_doesNow_134 gXX6 15 16 rfl (by decide) rfl lf_X6_39 q_1 e_36 ?_
    refine x_iconst (v := 2) g dX6_doesNow_137 (by decide) ?_
    obtain ⟨q_37, h⟩ := gd_e h
    obtain ⟨q_38, h⟩ := gd_e h
    refine x_iald g dX6_doesNow_138 q_37 q_38 ?_
    refine x_aload_n 0 g dX6_doesNow_139 rfl rfl ?_
    obtain ⟨b_39, e_40, h⟩ := gb_e h
    refine x_getr g dX6_doesNow_140 gXX6 15 16 rfl (by decide) rfl lf_X6_39 q_1 e_40 ?_
    refine x_iconst (v := 3) g dX6_doesNow_143 (by decide) ?_
    obtain ⟨q_41, h⟩ := gd_e h
    obtain ⟨q_42, h⟩ := gd_e h
    refine x_iald g dX6_doesNow_144 q_41 q_42 ?_
    obtain ⟨r_44, S_45, q_43, h⟩ := gb2_e h
    refine x_cV [.int r_44] g (k_X6_trains q_43) ca_X6_trains in_X6_trains se_X6_trains lm_X6_123 gXX6 q_1 (Nat.le_of_ble_eq_true rfl) rfl rfl (Nat.le_of_ble_eq_true rfl) dX6_doesNow_145 rfl ?_
    cases h
    exact x_iretS g e dX6_doesNow_148 rfl rfl
  have h := ite_f c_34 h
  by_cases c_46 : (gI S 39 a0) = 119
  · have h := ite_t c_46 h
    refine x_tabI (off := 138) 119 156 g dX6_doesNow_18 c_46 (by decide) (by decide) (by decide) (by decide) ?_
    refine x_aload_n 0 g dX6_doesNow_156 rfl rfl ?_
    refine x_iconst (v := 1) g dX6_doesNow_157 (by decide) ?_
    refine x_iload_n 1 g dX6_doesNow_158 rfl rfl ?_
    obtain ⟨r_48, S_49, q_47, h⟩ := gb2_e h
    refine x_cV [.int r_48] g (k_X6_sets q_47) ca_X6_sets in_X6_sets se_X6_sets lm_X6_135 gXX6 q_1 (Nat.le_of_ble_eq_true rfl) rfl rfl (Nat.le_of_ble_eq_true rfl) dX6_doesNow_159 rfl ?_
    cases h
    exact x_iretS g e dX6_doesNow_162 rfl rfl
  have h := ite_f c_46 h
  refine x_tabD 182 g dX6_doesNow_18 (by decide) [97, 102, 103, 109, 112, 116, 119] (List.forall_mem_cons.mpr ⟨tab_ne c_14 (by decide), List.forall_mem_cons.mpr ⟨tab_ne c_18 (by decide), List.forall_mem_cons.mpr ⟨tab_ne c_22 (by decide), List.forall_mem_cons.mpr ⟨tab_ne c_26 (by decide), List.forall_mem_cons.mpr ⟨tab_ne c_30 (by decide), List.forall_mem_cons.mpr ⟨tab_ne c_34 (by decide), List.forall_mem_cons.mpr ⟨tab_ne c_46 (by decide), fun _ h9 => nomatch h9⟩⟩⟩⟩⟩⟩⟩) (by decide) ?_
  refine x_aload_n 0 g dX6_doesNow_182 rfl rfl ?_
  refine x_iload_n 1 g dX6_doesNow_183 rfl rfl ?_
  refine x_iload_n 2 g dX6_doesNow_184 rfl rfl ?_
  obtain ⟨r_51, S_52, q_50, h⟩ := gb2_e h
  refine x_cV [.int r_51] g (k_X6_examines q_50) ca_X6_examines in_X6_examines se_X6_examines lm_X6_159 gXX6 q_1 (Nat.le_of_ble_eq_true rfl) rfl rfl (Nat.le_of_ble_eq_true rfl) dX6_doesNow_185 rfl ?_
  cases h
  exact x_iretS g e dX6_doesNow_188 rfl rfl
noncomputable def f_X6_doesAll_L12 (G : gG) (a0 : Nat) : Nat → Int32 → gS → Option (Bool × gS)
  | 0, _, _ => none
  | n12 + 1, x1, S => if x1 = 0 then (some (true, S)) else (gd (gis G 3 a0) <| gb2 (f_X6_readsCommand G a0 S) fun (r_9 : Bool) (S_10 : gS) => gb (f_X6_notNow G a0 S_10) fun (r_12 : Int32) => if r_12 = 0 then (gb2 (f_X6_doesNow G a0 S_10) fun (r_15 : Int32) (S_16 : gS) => glt (sI S_16 40 a0 ((gI S_16 40 a0) + 1)) fun (S_17 : gS) => gb2 (f_X6_reads G a0 59 S_17) fun (r_20 : Bool) (S_21 : gS) => glt (gz r_20) fun (x1_22 : Int32) => f_X6_doesAll_L12 G a0 n12 x1_22 S_21) else (some (false, S_10)))
noncomputable def f_X6_doesAll (G : gG) (a0 : Nat) (S : gS) : Option (Bool × gS) := gd (gis G 3 a0) <| glt (sI S 40 a0 0) fun (S_2 : gS) => glt (sI S_2 36 a0 0) fun (S_4 : gS) => f_X6_doesAll_L12 G a0 gN 1 S_4
set_option maxRecDepth 100000 in
set_option maxHeartbeats 4000000 in
theorem k_X6_doesAll {ad : Nat → Nat} {G : gG} {a0 : Nat} {S S1 : gS} {T : gT} {r : Bool} (h : f_X6_doesAll G a0 S = some (r, S1)) : Ct ad yX6_doesAll (Cond.code yX6_doesAll cX6_doesAll 2 (some .boolean) :: gTb) 6 0 0 [.ref a0] G S T (some (.int (gz r))) G S1 T := by
  refine Ct.ofB rfl (Nat.le_of_ble_eq_true rfl) rfl (fun K g e hK => ?_)
  obtain ⟨rfl, -⟩ := hK
  show Xj K [] G 0 [some (.ref a0), none] [] S T 0 0
  unfold f_X6_doesAll at h
  refine x_aload_n 0 g dX6_doesAll_0 rfl rfl ?_
  refine x_iconst (v := 0) g dX6_doesAll_1 (by decide) ?_
  obtain ⟨q_1, h⟩ := gd_e h
  refine x_puti g dX6_doesAll_2 gXX6 17 40 rfl (by decide) rfl rfl lf_X6_241 rfl rfl q_1 ?_
  refine x_nS (fun S_2 e_3 => ?_)
  have h := glt_e e_3 h
  refine x_aload_n 0 g dX6_doesAll_5 rfl rfl ?_
  refine x_iconst (v := 0) g dX6_doesAll_6 (by decide) ?_
  refine x_puti g dX6_doesAll_7 gXX6 12 36 rfl (by decide) rfl rfl lf_X6_210 rfl rfl q_1 ?_
  refine x_nS (fun S_4 e_5 => ?_)
  have h := glt_e e_5 h
  refine x_iconst (v := 1) g dX6_doesAll_10 (by decide) ?_
  refine x_istore_n 1 g dX6_doesAll_11 rfl (Nat.le_of_ble_eq_true rfl) rfl ?_
  have L12 : ∀ (n12 : Nat) (x1 : Int32) (S : gS), f_X6_doesAll_L12 G a0 n12 x1 S = some (r, S1) → Xj K [] G 12 [some (.ref a0), some (.int x1)] [] S T 0 0 := by
    intro n12
    induction n12 with
    | zero =>
      intro x1 S h
      rw [f_X6_doesAll_L12] at h
      cases h
    | succ n12 ih =>
      intro x1 S h
      rw [f_X6_doesAll_L12] at h
      refine x_iload_n 1 g dX6_doesAll_12 rfl rfl ?_
      refine x_if_eq 55 g dX6_doesAll_13 (by decide) (fun c_6 => ?_) (fun c_6 => ?_)
      · have h := ite_t c_6 h
        refine x_iconst (v := 1) g dX6_doesAll_55 (by decide) ?_
        cases h
        exact x_zretS (b := true) g e dX6_doesAll_56 rfl rfl rfl
      · have h := ite_f c_6 h
        refine x_aload_n 0 g dX6_doesAll_16 rfl rfl ?_
        obtain ⟨q_7, h⟩ := gd_e h
        obtain ⟨r_9, S_10, q_8, h⟩ := gb2_e h
        refine x_cV [.int (gz r_9)] g (k_X6_readsCommand q_8) ca_X6_readsCommand in_X6_readsCommand se_X6_readsCommand lm_X6_238 gXX6 q_7 (Nat.le_of_ble_eq_true rfl) rfl rfl (Nat.le_of_ble_eq_true rfl) dX6_doesAll_17 rfl ?_
        refine x_pop g dX6_doesAll_20 rfl ?_
        refine x_aload_n 0 g dX6_doesAll_21 rfl rfl ?_
        obtain ⟨r_12, q_11, h⟩ := gb_e h
        refine x_cV [.int r_12] g (k_X6_notNow q_11) ca_X6_notNow in_X6_notNow se_X6_notNow lm_X6_244 gXX6 q_7 (Nat.le_of_ble_eq_true rfl) rfl rfl (Nat.le_of_ble_eq_true rfl) dX6_doesAll_22 rfl ?_
        refine x_if_eq 30 g dX6_doesAll_25 (by decide) (fun c_13 => ?_) (fun c_13 => ?_)
        · have h := ite_t c_13 h
          refine x_aload_n 0 g dX6_doesAll_30 rfl rfl ?_
          obtain ⟨r_15, S_16, q_14, h⟩ := gb2_e h
          refine x_cV [.int r_15] g (k_X6_doesNow q_14) ca_X6_doesNow in_X6_doesNow se_X6_doesNow lm_X6_247 gXX6 q_7 (Nat.le_of_ble_eq_true rfl) rfl rfl (Nat.le_of_ble_eq_true rfl) dX6_doesAll_31 rfl ?_
          refine x_pop g dX6_doesAll_34 rfl ?_
          refine x_aload_n 0 g dX6_doesAll_35 rfl rfl ?_
          refine x_dup g dX6_doesAll_36 rfl ?_
          refine x_geti g dX6_doesAll_37 gXX6 17 40 rfl (by decide) rfl lf_X6_241 q_7 ?_
          refine x_iconst (v := 1) g dX6_doesAll_40 (by decide) ?_
          refine x_iadd g dX6_doesAll_41 ?_
          refine x_puti g dX6_doesAll_42 gXX6 17 40 rfl (by decide) rfl rfl lf_X6_241 rfl rfl q_7 ?_
          refine x_nS (fun S_17 e_18 => ?_)
          have h := glt_e e_18 h
          refine x_aload_n 0 g dX6_doesAll_45 rfl rfl ?_
          refine x_bipush (v := 59) g dX6_doesAll_46 (by decide) ?_
          obtain ⟨r_20, S_21, q_19, h⟩ := gb2_e h
          refine x_cV [.int (gz r_20)] g (k_X6_reads q_19) ca_X6_reads in_X6_reads se_X6_reads lm_X6_219 gXX6 q_7 (Nat.le_of_ble_eq_true rfl) rfl rfl (Nat.le_of_ble_eq_true rfl) dX6_doesAll_48 rfl ?_
          refine x_nI (fun x1_22 e_23 => ?_)
          have h := glt_e e_23 h
          refine x_istore_n 1 g dX6_doesAll_51 rfl (Nat.le_of_ble_eq_true rfl) rfl ?_
          refine x_goto 12 g dX6_doesAll_52 (by decide) ?_
          exact ih _ _ h
        · have h := ite_f c_13 h
          refine x_iconst (v := 0) g dX6_doesAll_28 (by decide) ?_
          cases h
          exact x_zretS (b := false) g e dX6_doesAll_29 rfl rfl rfl
  exact L12 gN _ _ h
noncomputable def f_X6_runScript (G : gG) (a0 : Nat) (S : gS) : Option (Int32 × gS) := gd (gis G 3 a0) <| glt (sI S 30 a0 0) fun (S_2 : gS) => gb2 (f_X6_readsAll G a0 S_2) fun (r_5 : Bool) (S_6 : gS) => if (gz r_5) = 0 then (glt (sI S_6 37 a0 (gI S_6 36 a0)) fun (S_27 : gS) => glt (sI S_27 35 a0 0) fun (S_29 : gS) => gb2 (f_X6_fails G a0 1 S_29) fun (r_32 : Int32) (S_33 : gS) => some (r_32, S_33)) else (gb (f_X6_copies G a0 S_6) fun (S_9 : gS) => gb2 (f_X6_doesAll G a0 S_9) fun (r_11 : Bool) (S_12 : gS) => glt (gz r_11) fun (x1_13 : Int32) => glt (sI S_12 35 a0 0) fun (S_15 : gS) => if x1_13 = 0 then (gb (f_X6_goesBack G a0 S_15) fun (S_19 : gS) => glt (sI S_19 38 a0 (gI S_19 40 a0)) fun (S_20 : gS) => gb2 (f_X6_fails G a0 2 S_20) fun (r_23 : Int32) (S_24 : gS) => some (r_23, S_24)) else (gb (f_X6_keeps G a0 S_15) fun (S_26 : gS) => some (gI S_26 40 a0, S_26)))
set_option maxRecDepth 100000 in
set_option maxHeartbeats 4000000 in
theorem k_X6_runScript {ad : Nat → Nat} {G : gG} {a0 : Nat} {S S1 : gS} {T : gT} {r : Int32} (h : f_X6_runScript G a0 S = some (r, S1)) : Ct ad yX6_runScript (Cond.code yX6_runScript cX6_runScript 2 (some .int) :: gTb) 7 0 0 [.ref a0] G S T (some (.int r)) G S1 T := by
  refine Ct.ofB rfl (Nat.le_of_ble_eq_true rfl) rfl (fun K g e hK => ?_)
  obtain ⟨rfl, -⟩ := hK
  show Xj K [] G 0 [some (.ref a0), none] [] S T 0 0
  unfold f_X6_runScript at h
  refine x_aload_n 0 g dX6_runScript_0 rfl rfl ?_
  refine x_iconst (v := 0) g dX6_runScript_1 (by decide) ?_
  obtain ⟨q_1, h⟩ := gd_e h
  refine x_puti g dX6_runScript_2 gXX6 0 30 rfl (by decide) rfl rfl lf_X6_1 rfl rfl q_1 ?_
  refine x_nS (fun S_2 e_3 => ?_)
  have h := glt_e e_3 h
  refine x_aload_n 0 g dX6_runScript_5 rfl rfl ?_
  obtain ⟨r_5, S_6, q_4, h⟩ := gb2_e h
  refine x_cV [.int (gz r_5)] g (k_X6_readsAll q_4) ca_X6_readsAll in_X6_readsAll se_X6_readsAll lm_X6_250 gXX6 q_1 (Nat.le_of_ble_eq_true rfl) rfl rfl (Nat.le_of_ble_eq_true rfl) dX6_runScript_6 rfl ?_
  refine x_if_ne 31 g dX6_runScript_9 (by decide) (fun c_7 => ?_) (fun c_7 => ?_)
  · have h := ite_f c_7 h
    refine x_aload_n 0 g dX6_runScript_31 rfl rfl ?_
    obtain ⟨S_9, q_8, h⟩ := gb_e h
    refine x_cV [] g (k_X6_copies q_8) ca_X6_copies in_X6_copies se_X6_copies lm_X6_48 gXX6 q_1 (Nat.le_of_ble_eq_true rfl) rfl rfl (Nat.le_of_ble_eq_true rfl) dX6_runScript_32 rfl ?_
    refine x_aload_n 0 g dX6_runScript_35 rfl rfl ?_
    obtain ⟨r_11, S_12, q_10, h⟩ := gb2_e h
    refine x_cV [.int (gz r_11)] g (k_X6_doesAll q_10) ca_X6_doesAll in_X6_doesAll se_X6_doesAll lm_X6_253 gXX6 q_1 (Nat.le_of_ble_eq_true rfl) rfl rfl (Nat.le_of_ble_eq_true rfl) dX6_runScript_36 rfl ?_
    refine x_nI (fun x1_13 e_14 => ?_)
    have h := glt_e e_14 h
    refine x_istore_n 1 g dX6_runScript_39 rfl (Nat.le_of_ble_eq_true rfl) rfl ?_
    refine x_aload_n 0 g dX6_runScript_40 rfl rfl ?_
    refine x_iconst (v := 0) g dX6_runScript_41 (by decide) ?_
    refine x_puti g dX6_runScript_42 gXX6 11 35 rfl (by decide) rfl rfl lf_X6_207 rfl rfl q_1 ?_
    refine x_nS (fun S_15 e_16 => ?_)
    have h := glt_e e_16 h
    refine x_iload_n 1 g dX6_runScript_45 rfl rfl ?_
    refine x_if_eq 58 g dX6_runScript_46 (by decide) (fun c_17 => ?_) (fun c_17 => ?_)
    · have h := ite_t c_17 h
      refine x_aload_n 0 g dX6_runScript_58 rfl rfl ?_
      obtain ⟨S_19, q_18, h⟩ := gb_e h
      refine x_cV [] g (k_X6_goesBack q_18) ca_X6_goesBack in_X6_goesBack se_X6_goesBack lm_X6_256 gXX6 q_1 (Nat.le_of_ble_eq_true rfl) rfl rfl (Nat.le_of_ble_eq_true rfl) dX6_runScript_59 rfl ?_
      refine x_aload_n 0 g dX6_runScript_62 rfl rfl ?_
      refine x_aload_n 0 g dX6_runScript_63 rfl rfl ?_
      refine x_geti g dX6_runScript_64 gXX6 17 40 rfl (by decide) rfl lf_X6_241 q_1 ?_
      refine x_puti g dX6_runScript_67 gXX6 14 38 rfl (by decide) rfl rfl lf_X6_36 rfl rfl q_1 ?_
      refine x_nS (fun S_20 e_21 => ?_)
      have h := glt_e e_21 h
      refine x_aload_n 0 g dX6_runScript_70 rfl rfl ?_
      refine x_iconst (v := 2) g dX6_runScript_71 (by decide) ?_
      obtain ⟨r_23, S_24, q_22, h⟩ := gb2_e h
      refine x_cV [.int r_23] g (k_X6_fails q_22) ca_X6_fails in_X6_fails se_X6_fails lm_X6_84 gXX6 q_1 (Nat.le_of_ble_eq_true rfl) rfl rfl (Nat.le_of_ble_eq_true rfl) dX6_runScript_72 rfl ?_
      cases h
      exact x_iretS g e dX6_runScript_75 rfl rfl
    · have h := ite_f c_17 h
      refine x_aload_n 0 g dX6_runScript_49 rfl rfl ?_
      obtain ⟨S_26, q_25, h⟩ := gb_e h
      refine x_cV [] g (k_X6_keeps q_25) ca_X6_keeps in_X6_keeps se_X6_keeps lm_X6_51 gXX6 q_1 (Nat.le_of_ble_eq_true rfl) rfl rfl (Nat.le_of_ble_eq_true rfl) dX6_runScript_50 rfl ?_
      refine x_aload_n 0 g dX6_runScript_53 rfl rfl ?_
      refine x_geti g dX6_runScript_54 gXX6 17 40 rfl (by decide) rfl lf_X6_241 q_1 ?_
      cases h
      exact x_iretS g e dX6_runScript_57 rfl rfl
  · have h := ite_t c_7 h
    refine x_aload_n 0 g dX6_runScript_12 rfl rfl ?_
    refine x_aload_n 0 g dX6_runScript_13 rfl rfl ?_
    refine x_geti g dX6_runScript_14 gXX6 12 36 rfl (by decide) rfl lf_X6_210 q_1 ?_
    refine x_puti g dX6_runScript_17 gXX6 13 37 rfl (by decide) rfl rfl lf_X6_33 rfl rfl q_1 ?_
    refine x_nS (fun S_27 e_28 => ?_)
    have h := glt_e e_28 h
    refine x_aload_n 0 g dX6_runScript_20 rfl rfl ?_
    refine x_iconst (v := 0) g dX6_runScript_21 (by decide) ?_
    refine x_puti g dX6_runScript_22 gXX6 11 35 rfl (by decide) rfl rfl lf_X6_207 rfl rfl q_1 ?_
    refine x_nS (fun S_29 e_30 => ?_)
    have h := glt_e e_30 h
    refine x_aload_n 0 g dX6_runScript_25 rfl rfl ?_
    refine x_iconst (v := 1) g dX6_runScript_26 (by decide) ?_
    obtain ⟨r_32, S_33, q_31, h⟩ := gb2_e h
    refine x_cV [.int r_32] g (k_X6_fails q_31) ca_X6_fails in_X6_fails se_X6_fails lm_X6_84 gXX6 q_1 (Nat.le_of_ble_eq_true rfl) rfl rfl (Nat.le_of_ble_eq_true rfl) dX6_runScript_27 rfl ?_
    cases h
    exact x_iretS g e dX6_runScript_30 rfl rfl
noncomputable def f_X6_errorPosition (G : gG) (a0 : Nat) (S : gS) : Option (Int32 × gS) := gd (gis G 3 a0) <| glt (sI S 30 a0 0) fun (S_2 : gS) => if 0 ≤ (gI S_2 37 a0) then (some (gI S_2 37 a0, S_2)) else (gb2 (f_X6_fails G a0 1 S_2) fun (r_6 : Int32) (S_7 : gS) => some (r_6, S_7))
set_option maxRecDepth 100000 in
set_option maxHeartbeats 4000000 in
theorem k_X6_errorPosition {ad : Nat → Nat} {G : gG} {a0 : Nat} {S S1 : gS} {T : gT} {r : Int32} (h : f_X6_errorPosition G a0 S = some (r, S1)) : Ct ad yX6_errorPosition (Cond.code yX6_errorPosition cX6_errorPosition 1 (some .int) :: gTb) 1 0 0 [.ref a0] G S T (some (.int r)) G S1 T := by
  refine Ct.ofB rfl (Nat.le_of_ble_eq_true rfl) rfl (fun K g e hK => ?_)
  obtain ⟨rfl, -⟩ := hK
  show Xj K [] G 0 [some (.ref a0)] [] S T 0 0
  unfold f_X6_errorPosition at h
  refine x_aload_n 0 g dX6_errorPosition_0 rfl rfl ?_
  refine x_iconst (v := 0) g dX6_errorPosition_1 (by decide) ?_
  obtain ⟨q_1, h⟩ := gd_e h
  refine x_puti g dX6_errorPosition_2 gXX6 0 30 rfl (by decide) rfl rfl lf_X6_1 rfl rfl q_1 ?_
  refine x_nS (fun S_2 e_3 => ?_)
  have h := glt_e e_3 h
  refine x_aload_n 0 g dX6_errorPosition_5 rfl rfl ?_
  refine x_geti g dX6_errorPosition_6 gXX6 13 37 rfl (by decide) rfl lf_X6_33 q_1 ?_
  refine x_if_ge 20 g dX6_errorPosition_9 (by decide) (fun c_4 => ?_) (fun c_4 => ?_)
  · have h := ite_t c_4 h
    refine x_aload_n 0 g dX6_errorPosition_20 rfl rfl ?_
    refine x_geti g dX6_errorPosition_21 gXX6 13 37 rfl (by decide) rfl lf_X6_33 q_1 ?_
    cases h
    exact x_iretS g e dX6_errorPosition_24 rfl rfl
  · have h := ite_f c_4 h
    refine x_aload_n 0 g dX6_errorPosition_12 rfl rfl ?_
    refine x_iconst (v := 1) g dX6_errorPosition_13 (by decide) ?_
    obtain ⟨r_6, S_7, q_5, h⟩ := gb2_e h
    refine x_cV [.int r_6] g (k_X6_fails q_5) ca_X6_fails in_X6_fails se_X6_fails lm_X6_84 gXX6 q_1 (Nat.le_of_ble_eq_true rfl) rfl rfl (Nat.le_of_ble_eq_true rfl) dX6_errorPosition_14 rfl ?_
    refine x_goto 24 g dX6_errorPosition_17 (by decide) ?_
    cases h
    exact x_iretS g e dX6_errorPosition_24 rfl rfl
noncomputable def f_X6_failedCommand (G : gG) (a0 : Nat) (S : gS) : Option (Int32 × gS) := gd (gis G 3 a0) <| glt (sI S 30 a0 0) fun (S_2 : gS) => if 0 ≤ (gI S_2 38 a0) then (some (gI S_2 38 a0, S_2)) else (gb2 (f_X6_fails G a0 1 S_2) fun (r_6 : Int32) (S_7 : gS) => some (r_6, S_7))
set_option maxRecDepth 100000 in
set_option maxHeartbeats 4000000 in
theorem k_X6_failedCommand {ad : Nat → Nat} {G : gG} {a0 : Nat} {S S1 : gS} {T : gT} {r : Int32} (h : f_X6_failedCommand G a0 S = some (r, S1)) : Ct ad yX6_failedCommand (Cond.code yX6_failedCommand cX6_failedCommand 1 (some .int) :: gTb) 1 0 0 [.ref a0] G S T (some (.int r)) G S1 T := by
  refine Ct.ofB rfl (Nat.le_of_ble_eq_true rfl) rfl (fun K g e hK => ?_)
  obtain ⟨rfl, -⟩ := hK
  show Xj K [] G 0 [some (.ref a0)] [] S T 0 0
  unfold f_X6_failedCommand at h
  refine x_aload_n 0 g dX6_failedCommand_0 rfl rfl ?_
  refine x_iconst (v := 0) g dX6_failedCommand_1 (by decide) ?_
  obtain ⟨q_1, h⟩ := gd_e h
  refine x_puti g dX6_failedCommand_2 gXX6 0 30 rfl (by decide) rfl rfl lf_X6_1 rfl rfl q_1 ?_
  refine x_nS (fun S_2 e_3 => ?_)
  have h := glt_e e_3 h
  refine x_aload_n 0 g dX6_failedCommand_5 rfl rfl ?_
  refine x_geti g dX6_failedCommand_6 gXX6 14 38 rfl (by decide) rfl lf_X6_36 q_1 ?_
  refine x_if_ge 20 g dX6_failedCommand_9 (by decide) (fun c_4 => ?_) (fun c_4 => ?_)
  · have h := ite_t c_4 h
    refine x_aload_n 0 g dX6_failedCommand_20 rfl rfl ?_
    refine x_geti g dX6_failedCommand_21 gXX6 14 38 rfl (by decide) rfl lf_X6_36 q_1 ?_
    cases h
    exact x_iretS g e dX6_failedCommand_24 rfl rfl
  · have h := ite_f c_4 h
    refine x_aload_n 0 g dX6_failedCommand_12 rfl rfl ?_
    refine x_iconst (v := 1) g dX6_failedCommand_13 (by decide) ?_
    obtain ⟨r_6, S_7, q_5, h⟩ := gb2_e h
    refine x_cV [.int r_6] g (k_X6_fails q_5) ca_X6_fails in_X6_fails se_X6_fails lm_X6_84 gXX6 q_1 (Nat.le_of_ble_eq_true rfl) rfl rfl (Nat.le_of_ble_eq_true rfl) dX6_failedCommand_14 rfl ?_
    refine x_goto 24 g dX6_failedCommand_17 (by decide) ?_
    cases h
    exact x_iretS g e dX6_failedCommand_24 rfl rfl
noncomputable def f_X6_undo_L43 (G : gG) (a0 : Nat) : Nat → Int32 → Int32 → gS → Option (Int32 × gS)
  | 0, _, _, _ => none
  | n43 + 1, x1, x2, S => if 176 ≤ x2 then (gd (gis G 3 a0) <| some (gI S 31 a0, S)) else (gd (gis G 3 a0) <| gb (gP S 10 a0) fun (b_12 : Nat) => gb (gP S 11 a0) fun (b_14 : Nat) => gd (gis G 7 b_14) <| gd (vp_in ((176 * x1) + x2) (gn G b_14)) <| gd (gis G 7 b_12) <| gd (vp_in x2 (gn G b_12)) <| glt (sr S b_12 (Int32.toNatClampNeg x2) (gr S b_14 (Int32.toNatClampNeg ((176 * x1) + x2)))) fun (S_20 : gS) => glt (x2 + 1) fun (x2_22 : Int32) => f_X6_undo_L43 G a0 n43 x1 x2_22 S_20)
noncomputable def f_X6_undo (G : gG) (a0 : Nat) (S : gS) : Option (Int32 × gS) := gd (gis G 3 a0) <| glt (sI S 30 a0 0) fun (S_2 : gS) => if (gI S_2 31 a0) = 0 then (gb2 (f_X6_fails G a0 1 S_2) fun (r_25 : Int32) (S_26 : gS) => some (r_25, S_26)) else (glt (sI S_2 31 a0 ((gI S_2 31 a0) - 1)) fun (S_5 : gS) => glt (((gI S_5 32 a0) + (gI S_5 31 a0)) - ((gI S_5 32 a0) + (gI S_5 31 a0)) / 8 * 8) fun (x1_7 : Int32) => f_X6_undo_L43 G a0 gN x1_7 0 S_5)
set_option maxRecDepth 100000 in
set_option maxHeartbeats 4000000 in
theorem k_X6_undo {ad : Nat → Nat} {G : gG} {a0 : Nat} {S S1 : gS} {T : gT} {r : Int32} (h : f_X6_undo G a0 S = some (r, S1)) : Ct ad yX6_undo (Cond.code yX6_undo cX6_undo 3 (some .int) :: gTb) 1 0 0 [.ref a0] G S T (some (.int r)) G S1 T := by
  refine Ct.ofB rfl (Nat.le_of_ble_eq_true rfl) rfl (fun K g e hK => ?_)
  obtain ⟨rfl, -⟩ := hK
  show Xj K [] G 0 [some (.ref a0), none, none] [] S T 0 0
  unfold f_X6_undo at h
  refine x_aload_n 0 g dX6_undo_0 rfl rfl ?_
  refine x_iconst (v := 0) g dX6_undo_1 (by decide) ?_
  obtain ⟨q_1, h⟩ := gd_e h
  refine x_puti g dX6_undo_2 gXX6 0 30 rfl (by decide) rfl rfl lf_X6_1 rfl rfl q_1 ?_
  refine x_nS (fun S_2 e_3 => ?_)
  have h := glt_e e_3 h
  refine x_aload_n 0 g dX6_undo_5 rfl rfl ?_
  refine x_geti g dX6_undo_6 gXX6 5 31 rfl (by decide) rfl lf_X6_42 q_1 ?_
  refine x_if_ne 18 g dX6_undo_9 (by decide) (fun c_4 => ?_) (fun c_4 => ?_)
  · have h := ite_f c_4 h
    refine x_aload_n 0 g dX6_undo_18 rfl rfl ?_
    refine x_dup g dX6_undo_19 rfl ?_
    refine x_geti g dX6_undo_20 gXX6 5 31 rfl (by decide) rfl lf_X6_42 q_1 ?_
    refine x_iconst (v := 1) g dX6_undo_23 (by decide) ?_
    refine x_isub g dX6_undo_24 ?_
    refine x_puti g dX6_undo_25 gXX6 5 31 rfl (by decide) rfl rfl lf_X6_42 rfl rfl q_1 ?_
    refine x_nS (fun S_5 e_6 => ?_)
    have h := glt_e e_6 h
    refine x_aload_n 0 g dX6_undo_28 rfl rfl ?_
    refine x_geti g dX6_undo_29 gXX6 6 32 rfl (by decide) rfl lf_X6_45 q_1 ?_
    refine x_aload_n 0 g dX6_undo_32 rfl rfl ?_
    refine x_geti g dX6_undo_33 gXX6 5 31 rfl (by decide) rfl lf_X6_42 q_1 ?_
    refine x_iadd g dX6_undo_36 ?_
    refine x_bipush (v := 8) g dX6_undo_37 (by decide) ?_
    refine x_irem g dX6_undo_39 (by decide) ?_
    refine x_nI (fun x1_7 e_8 => ?_)
    have h := glt_e e_8 h
    refine x_istore_n 1 g dX6_undo_40 rfl (Nat.le_of_ble_eq_true rfl) rfl ?_
    refine x_iconst (v := 0) g dX6_undo_41 (by decide) ?_
    refine x_istore_n 2 g dX6_undo_42 rfl (Nat.le_of_ble_eq_true rfl) rfl ?_
    have L43 : ∀ (n43 : Nat) (x1 : Int32) (x2 : Int32) (S : gS), f_X6_undo_L43 G a0 n43 x1 x2 S = some (r, S1) → Xj K [] G 43 [some (.ref a0), some (.int x1), some (.int x2)] [] S T 0 0 := by
      intro n43
      induction n43 with
      | zero =>
        intro x1 x2 S h
        rw [f_X6_undo_L43] at h
        cases h
      | succ n43 ih =>
        intro x1 x2 S h
        rw [f_X6_undo_L43] at h
        refine x_iload_n 2 g dX6_undo_43 rfl rfl ?_
        refine x_sipush (v := 176) g dX6_undo_44 (by decide) ?_
        refine x_icmp_ge 74 g dX6_undo_47 (by decide) (fun c_9 => ?_) (fun c_9 => ?_)
        · have h := ite_t c_9 h
          refine x_aload_n 0 g dX6_undo_74 rfl rfl ?_
          obtain ⟨q_10, h⟩ := gd_e h
          refine x_geti g dX6_undo_75 gXX6 5 31 rfl (by decide) rfl lf_X6_42 q_10 ?_
          cases h
          exact x_iretS g e dX6_undo_78 rfl rfl
        · have h := ite_f c_9 h
          refine x_aload_n 0 g dX6_undo_50 rfl rfl ?_
          obtain ⟨q_11, h⟩ := gd_e h
          obtain ⟨b_12, e_13, h⟩ := gb_e h
          refine x_getr g dX6_undo_51 gXX6 1 10 rfl (by decide) rfl lf_X6_13 q_11 e_13 ?_
          refine x_iload_n 2 g dX6_undo_54 rfl rfl ?_
          refine x_aload_n 0 g dX6_undo_55 rfl rfl ?_
          obtain ⟨b_14, e_15, h⟩ := gb_e h
          refine x_getr g dX6_undo_56 gXX6 2 11 rfl (by decide) rfl lf_X6_17 q_11 e_15 ?_
          refine x_sipush (v := 176) g dX6_undo_59 (by decide) ?_
          refine x_iload_n 1 g dX6_undo_62 rfl rfl ?_
          refine x_imul g dX6_undo_63 ?_
          refine x_iload_n 2 g dX6_undo_64 rfl rfl ?_
          refine x_iadd g dX6_undo_65 ?_
          obtain ⟨q_16, h⟩ := gd_e h
          obtain ⟨q_17, h⟩ := gd_e h
          refine x_iald g dX6_undo_66 q_16 q_17 ?_
          obtain ⟨q_18, h⟩ := gd_e h
          obtain ⟨q_19, h⟩ := gd_e h
          refine x_iast g dX6_undo_67 q_18 q_19 ?_
          refine x_nS (fun S_20 e_21 => ?_)
          have h := glt_e e_21 h
          obtain ⟨x2_22, e_23⟩ : ∃ z : Int32, z = x2 + 1 := ⟨_, rfl⟩
          have h := glt_e e_23 h
          refine x_iinc (v := x2_22) g dX6_undo_68 rfl (by rw [e_23]; rfl) rfl ?_
          refine x_goto 43 g dX6_undo_71 (by decide) ?_
          exact ih _ _ _ h
    exact L43 gN _ _ _ h
  · have h := ite_t c_4 h
    refine x_aload_n 0 g dX6_undo_12 rfl rfl ?_
    refine x_iconst (v := 1) g dX6_undo_13 (by decide) ?_
    obtain ⟨r_25, S_26, q_24, h⟩ := gb2_e h
    refine x_cV [.int r_25] g (k_X6_fails q_24) ca_X6_fails in_X6_fails se_X6_fails lm_X6_84 gXX6 q_1 (Nat.le_of_ble_eq_true rfl) rfl rfl (Nat.le_of_ble_eq_true rfl) dX6_undo_14 rfl ?_
    cases h
    exact x_iretS g e dX6_undo_17 rfl rfl
noncomputable def f_X6_save_L7 (G : gG) (a0 : Nat) : Nat → Int32 → gS → Option (Int32 × gS)
  | 0, _, _ => none
  | n7 + 1, x1, S => if 176 ≤ x1 then (gd (gis G 3 a0) <| glt (sI S 33 a0 1) fun (S_6 : gS) => gb (gP S_6 10 a0) fun (b_8 : Nat) => gd (gis G 7 b_8) <| gd (vp_in 0 (gn G b_8)) <| some (gr S_6 b_8 (Int32.toNatClampNeg 0), S_6)) else (gd (gis G 3 a0) <| gb (gP S 12 a0) fun (b_13 : Nat) => gb (gP S 10 a0) fun (b_15 : Nat) => gd (gis G 7 b_15) <| gd (vp_in x1 (gn G b_15)) <| gd (gis G 7 b_13) <| gd (vp_in x1 (gn G b_13)) <| glt (sr S b_13 (Int32.toNatClampNeg x1) (gr S b_15 (Int32.toNatClampNeg x1))) fun (S_21 : gS) => glt (x1 + 1) fun (x1_23 : Int32) => f_X6_save_L7 G a0 n7 x1_23 S_21)
noncomputable def f_X6_save (G : gG) (a0 : Nat) (S : gS) : Option (Int32 × gS) := gd (gis G 3 a0) <| glt (sI S 30 a0 0) fun (S_2 : gS) => f_X6_save_L7 G a0 gN 0 S_2
set_option maxRecDepth 100000 in
set_option maxHeartbeats 4000000 in
theorem k_X6_save {ad : Nat → Nat} {G : gG} {a0 : Nat} {S S1 : gS} {T : gT} {r : Int32} (h : f_X6_save G a0 S = some (r, S1)) : Ct ad yX6_save (Cond.code yX6_save cX6_save 2 (some .int) :: gTb) 0 0 0 [.ref a0] G S T (some (.int r)) G S1 T := by
  refine Ct.ofB rfl (Nat.le_of_ble_eq_true rfl) rfl (fun K g e hK => ?_)
  obtain ⟨rfl, -⟩ := hK
  show Xj K [] G 0 [some (.ref a0), none] [] S T 0 0
  unfold f_X6_save at h
  refine x_aload_n 0 g dX6_save_0 rfl rfl ?_
  refine x_iconst (v := 0) g dX6_save_1 (by decide) ?_
  obtain ⟨q_1, h⟩ := gd_e h
  refine x_puti g dX6_save_2 gXX6 0 30 rfl (by decide) rfl rfl lf_X6_1 rfl rfl q_1 ?_
  refine x_nS (fun S_2 e_3 => ?_)
  have h := glt_e e_3 h
  refine x_iconst (v := 0) g dX6_save_5 (by decide) ?_
  refine x_istore_n 1 g dX6_save_6 rfl (Nat.le_of_ble_eq_true rfl) rfl ?_
  have L7 : ∀ (n7 : Nat) (x1 : Int32) (S : gS), f_X6_save_L7 G a0 n7 x1 S = some (r, S1) → Xj K [] G 7 [some (.ref a0), some (.int x1)] [] S T 0 0 := by
    intro n7
    induction n7 with
    | zero =>
      intro x1 S h
      rw [f_X6_save_L7] at h
      cases h
    | succ n7 ih =>
      intro x1 S h
      rw [f_X6_save_L7] at h
      refine x_iload_n 1 g dX6_save_7 rfl rfl ?_
      refine x_sipush (v := 176) g dX6_save_8 (by decide) ?_
      refine x_icmp_ge 32 g dX6_save_11 (by decide) (fun c_4 => ?_) (fun c_4 => ?_)
      · have h := ite_t c_4 h
        refine x_aload_n 0 g dX6_save_32 rfl rfl ?_
        refine x_iconst (v := 1) g dX6_save_33 (by decide) ?_
        obtain ⟨q_5, h⟩ := gd_e h
        refine x_puti g dX6_save_34 gXX6 7 33 rfl (by decide) rfl rfl lf_X6_259 rfl rfl q_5 ?_
        refine x_nS (fun S_6 e_7 => ?_)
        have h := glt_e e_7 h
        refine x_aload_n 0 g dX6_save_37 rfl rfl ?_
        obtain ⟨b_8, e_9, h⟩ := gb_e h
        refine x_getr g dX6_save_38 gXX6 1 10 rfl (by decide) rfl lf_X6_13 q_5 e_9 ?_
        refine x_iconst (v := 0) g dX6_save_41 (by decide) ?_
        obtain ⟨q_10, h⟩ := gd_e h
        obtain ⟨q_11, h⟩ := gd_e h
        refine x_iald g dX6_save_42 q_10 q_11 ?_
        cases h
        exact x_iretS g e dX6_save_43 rfl rfl
      · have h := ite_f c_4 h
        refine x_aload_n 0 g dX6_save_14 rfl rfl ?_
        obtain ⟨q_12, h⟩ := gd_e h
        obtain ⟨b_13, e_14, h⟩ := gb_e h
        refine x_getr g dX6_save_15 gXX6 3 12 rfl (by decide) rfl lf_X6_20 q_12 e_14 ?_
        refine x_iload_n 1 g dX6_save_18 rfl rfl ?_
        refine x_aload_n 0 g dX6_save_19 rfl rfl ?_
        obtain ⟨b_15, e_16, h⟩ := gb_e h
        refine x_getr g dX6_save_20 gXX6 1 10 rfl (by decide) rfl lf_X6_13 q_12 e_16 ?_
        refine x_iload_n 1 g dX6_save_23 rfl rfl ?_
        obtain ⟨q_17, h⟩ := gd_e h
        obtain ⟨q_18, h⟩ := gd_e h
        refine x_iald g dX6_save_24 q_17 q_18 ?_
        obtain ⟨q_19, h⟩ := gd_e h
        obtain ⟨q_20, h⟩ := gd_e h
        refine x_iast g dX6_save_25 q_19 q_20 ?_
        refine x_nS (fun S_21 e_22 => ?_)
        have h := glt_e e_22 h
        obtain ⟨x1_23, e_24⟩ : ∃ z : Int32, z = x1 + 1 := ⟨_, rfl⟩
        have h := glt_e e_24 h
        refine x_iinc (v := x1_23) g dX6_save_26 rfl (by rw [e_24]; rfl) rfl ?_
        refine x_goto 7 g dX6_save_29 (by decide) ?_
        exact ih _ _ h
  exact L7 gN _ _ h
noncomputable def f_X6_restore_L20 (G : gG) (a0 : Nat) : Nat → Int32 → gS → Option (Int32 × gS)
  | 0, _, _ => none
  | n20 + 1, x1, S => if 176 ≤ x1 then (gd (gis G 3 a0) <| glt (sI S 31 a0 0) fun (S_7 : gS) => glt (sI S_7 32 a0 0) fun (S_9 : gS) => gb (gP S_9 10 a0) fun (b_11 : Nat) => gd (gis G 7 b_11) <| gd (vp_in 0 (gn G b_11)) <| some (gr S_9 b_11 (Int32.toNatClampNeg 0), S_9)) else (gd (gis G 3 a0) <| gb (gP S 10 a0) fun (b_16 : Nat) => gb (gP S 12 a0) fun (b_18 : Nat) => gd (gis G 7 b_18) <| gd (vp_in x1 (gn G b_18)) <| gd (gis G 7 b_16) <| gd (vp_in x1 (gn G b_16)) <| glt (sr S b_16 (Int32.toNatClampNeg x1) (gr S b_18 (Int32.toNatClampNeg x1))) fun (S_24 : gS) => glt (x1 + 1) fun (x1_26 : Int32) => f_X6_restore_L20 G a0 n20 x1_26 S_24)
noncomputable def f_X6_restore (G : gG) (a0 : Nat) (S : gS) : Option (Int32 × gS) := gd (gis G 3 a0) <| glt (sI S 30 a0 0) fun (S_2 : gS) => if (gI S_2 33 a0) = 0 then (gb2 (f_X6_fails G a0 1 S_2) fun (r_29 : Int32) (S_30 : gS) => some (r_29, S_30)) else (f_X6_restore_L20 G a0 gN 0 S_2)
set_option maxRecDepth 100000 in
set_option maxHeartbeats 4000000 in
theorem k_X6_restore {ad : Nat → Nat} {G : gG} {a0 : Nat} {S S1 : gS} {T : gT} {r : Int32} (h : f_X6_restore G a0 S = some (r, S1)) : Ct ad yX6_restore (Cond.code yX6_restore cX6_restore 2 (some .int) :: gTb) 1 0 0 [.ref a0] G S T (some (.int r)) G S1 T := by
  refine Ct.ofB rfl (Nat.le_of_ble_eq_true rfl) rfl (fun K g e hK => ?_)
  obtain ⟨rfl, -⟩ := hK
  show Xj K [] G 0 [some (.ref a0), none] [] S T 0 0
  unfold f_X6_restore at h
  refine x_aload_n 0 g dX6_restore_0 rfl rfl ?_
  refine x_iconst (v := 0) g dX6_restore_1 (by decide) ?_
  obtain ⟨q_1, h⟩ := gd_e h
  refine x_puti g dX6_restore_2 gXX6 0 30 rfl (by decide) rfl rfl lf_X6_1 rfl rfl q_1 ?_
  refine x_nS (fun S_2 e_3 => ?_)
  have h := glt_e e_3 h
  refine x_aload_n 0 g dX6_restore_5 rfl rfl ?_
  refine x_geti g dX6_restore_6 gXX6 7 33 rfl (by decide) rfl lf_X6_259 q_1 ?_
  refine x_if_ne 18 g dX6_restore_9 (by decide) (fun c_4 => ?_) (fun c_4 => ?_)
  · have h := ite_f c_4 h
    refine x_iconst (v := 0) g dX6_restore_18 (by decide) ?_
    refine x_istore_n 1 g dX6_restore_19 rfl (Nat.le_of_ble_eq_true rfl) rfl ?_
    have L20 : ∀ (n20 : Nat) (x1 : Int32) (S : gS), f_X6_restore_L20 G a0 n20 x1 S = some (r, S1) → Xj K [] G 20 [some (.ref a0), some (.int x1)] [] S T 0 0 := by
      intro n20
      induction n20 with
      | zero =>
        intro x1 S h
        rw [f_X6_restore_L20] at h
        cases h
      | succ n20 ih =>
        intro x1 S h
        rw [f_X6_restore_L20] at h
        refine x_iload_n 1 g dX6_restore_20 rfl rfl ?_
        refine x_sipush (v := 176) g dX6_restore_21 (by decide) ?_
        refine x_icmp_ge 45 g dX6_restore_24 (by decide) (fun c_5 => ?_) (fun c_5 => ?_)
        · have h := ite_t c_5 h
          refine x_aload_n 0 g dX6_restore_45 rfl rfl ?_
          refine x_iconst (v := 0) g dX6_restore_46 (by decide) ?_
          obtain ⟨q_6, h⟩ := gd_e h
          refine x_puti g dX6_restore_47 gXX6 5 31 rfl (by decide) rfl rfl lf_X6_42 rfl rfl q_6 ?_
          refine x_nS (fun S_7 e_8 => ?_)
          have h := glt_e e_8 h
          refine x_aload_n 0 g dX6_restore_50 rfl rfl ?_
          refine x_iconst (v := 0) g dX6_restore_51 (by decide) ?_
          refine x_puti g dX6_restore_52 gXX6 6 32 rfl (by decide) rfl rfl lf_X6_45 rfl rfl q_6 ?_
          refine x_nS (fun S_9 e_10 => ?_)
          have h := glt_e e_10 h
          refine x_aload_n 0 g dX6_restore_55 rfl rfl ?_
          obtain ⟨b_11, e_12, h⟩ := gb_e h
          refine x_getr g dX6_restore_56 gXX6 1 10 rfl (by decide) rfl lf_X6_13 q_6 e_12 ?_
          refine x_iconst (v := 0) g dX6_restore_59 (by decide) ?_
          obtain ⟨q_13, h⟩ := gd_e h
          obtain ⟨q_14, h⟩ := gd_e h
          refine x_iald g dX6_restore_60 q_13 q_14 ?_
          cases h
          exact x_iretS g e dX6_restore_61 rfl rfl
        · have h := ite_f c_5 h
          refine x_aload_n 0 g dX6_restore_27 rfl rfl ?_
          obtain ⟨q_15, h⟩ := gd_e h
          obtain ⟨b_16, e_17, h⟩ := gb_e h
          refine x_getr g dX6_restore_28 gXX6 1 10 rfl (by decide) rfl lf_X6_13 q_15 e_17 ?_
          refine x_iload_n 1 g dX6_restore_31 rfl rfl ?_
          refine x_aload_n 0 g dX6_restore_32 rfl rfl ?_
          obtain ⟨b_18, e_19, h⟩ := gb_e h
          refine x_getr g dX6_restore_33 gXX6 3 12 rfl (by decide) rfl lf_X6_20 q_15 e_19 ?_
          refine x_iload_n 1 g dX6_restore_36 rfl rfl ?_
          obtain ⟨q_20, h⟩ := gd_e h
          obtain ⟨q_21, h⟩ := gd_e h
          refine x_iald g dX6_restore_37 q_20 q_21 ?_
          obtain ⟨q_22, h⟩ := gd_e h
          obtain ⟨q_23, h⟩ := gd_e h
          refine x_iast g dX6_restore_38 q_22 q_23 ?_
          refine x_nS (fun S_24 e_25 => ?_)
          have h := glt_e e_25 h
          obtain ⟨x1_26, e_27⟩ : ∃ z : Int32, z = x1 + 1 := ⟨_, rfl⟩
          have h := glt_e e_27 h
          refine x_iinc (v := x1_26) g dX6_restore_39 rfl (by rw [e_27]; rfl) rfl ?_
          refine x_goto 20 g dX6_restore_42 (by decide) ?_
          exact ih _ _ h
    exact L20 gN _ _ h
  · have h := ite_t c_4 h
    refine x_aload_n 0 g dX6_restore_12 rfl rfl ?_
    refine x_iconst (v := 1) g dX6_restore_13 (by decide) ?_
    obtain ⟨r_29, S_30, q_28, h⟩ := gb2_e h
    refine x_cV [.int r_29] g (k_X6_fails q_28) ca_X6_fails in_X6_fails se_X6_fails lm_X6_84 gXX6 q_1 (Nat.le_of_ble_eq_true rfl) rfl rfl (Nat.le_of_ble_eq_true rfl) dX6_restore_14 rfl ?_
    cases h
    exact x_iretS g e dX6_restore_17 rfl rfl
