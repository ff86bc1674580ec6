/-! laid by wip/whole/dec.py -/
noncomputable def f_X5_copyRow (G : gG) (a0 : Nat) (a1 : Nat) (S : gS) : Option gS := gd (gis G 7 a0) <| gd (gis G 7 a1) <| gd (¬ (if (Int32.ofNat (gn G a1)) < (Int32.ofNat (gn G a0)) then (Int32.ofNat (gn G a1)) else (Int32.ofNat (gn G a0))) < 0 ∧ Int32.toNatClampNeg (if (Int32.ofNat (gn G a1)) < (Int32.ofNat (gn G a0)) then (Int32.ofNat (gn G a1)) else (Int32.ofNat (gn G a0))) ≤ gn G a0 ∧ Int32.toNatClampNeg (if (Int32.ofNat (gn G a1)) < (Int32.ofNat (gn G a0)) then (Int32.ofNat (gn G a1)) else (Int32.ofNat (gn G a0))) ≤ gn G a1) <| glt (srow S a1 (va_cpy (gr S a0) (gr S a1) 0 0 (Int32.toNatClampNeg (if (Int32.ofNat (gn G a1)) < (Int32.ofNat (gn G a0)) then (Int32.ofNat (gn G a1)) else (Int32.ofNat (gn G a0)))))) fun (S_4 : gS) => some S_4
set_option maxRecDepth 100000 in
set_option maxHeartbeats 4000000 in
theorem k_X5_copyRow {ad : Nat → Nat} {G : gG} {a0 : Nat} {a1 : Nat} {S S1 : gS} {T : gT} (h : f_X5_copyRow G a0 a1 S = some S1) : Ct ad yX5_copyRow (Cond.code yX5_copyRow cX5_copyRow 2 none :: gTb) 1 0 0 [.ref a0, .ref a1] G S T none G S1 T := by
  refine Ct.ofB rfl (Nat.le_of_ble_eq_true rfl) rfl (fun K g e hK => ?_)
  obtain ⟨rfl, -⟩ := hK
  show Xj K [] G 0 [some (.ref a0), some (.ref a1)] [] S T 0 0
  unfold f_X5_copyRow at h
  refine x_aload_n 0 g dX5_copyRow_0 rfl rfl ?_
  refine x_iconst (v := 0) g dX5_copyRow_1 (by decide) ?_
  refine x_aload_n 1 g dX5_copyRow_2 rfl rfl ?_
  refine x_iconst (v := 0) g dX5_copyRow_3 (by decide) ?_
  refine x_aload_n 0 g dX5_copyRow_4 rfl rfl ?_
  obtain ⟨q_1, h⟩ := gd_e h
  refine x_leni g dX5_copyRow_5 q_1 ?_
  refine x_aload_n 1 g dX5_copyRow_6 rfl rfl ?_
  obtain ⟨q_2, h⟩ := gd_e h
  refine x_leni g dX5_copyRow_7 q_2 ?_
  refine x_mmin g lmm_X5_432 (by decide) (Nat.le_of_ble_eq_true rfl) dX5_copyRow_8 ?_
  obtain ⟨q_3, h⟩ := gd_e h
  refine x_acpy g dX5_copyRow_11 lac_X5_435 (by decide) q_1 q_2 q_3 (Nat.le_of_ble_eq_true rfl) ?_
  refine x_nS (fun S_4 e_5 => ?_)
  have h := glt_e e_5 h
  cases h
  exact x_vretS g e dX5_copyRow_14 rfl
noncomputable def f_X4_copyFrom (G : gG) (a0 : Nat) (a1 : Nat) (S : gS) : Option gS := gd (gis G 1 a1) <| gb (gP S 1 a1) fun (b_2 : Nat) => gd (gis G 1 a0) <| gb (gP S 1 a0) fun (b_5 : Nat) => gb (f_X5_copyRow G b_2 b_5 S) fun (S_8 : gS) => gb (gP S_8 2 a1) fun (b_9 : Nat) => gb (gP S_8 2 a0) fun (b_11 : Nat) => gb (f_X5_copyRow G b_9 b_11 S_8) fun (S_14 : gS) => gb (gP S_14 3 a1) fun (b_15 : Nat) => gb (gP S_14 3 a0) fun (b_17 : Nat) => gb (f_X5_copyRow G b_15 b_17 S_14) fun (S_20 : gS) => gb (gP S_20 4 a1) fun (b_21 : Nat) => gb (gP S_20 4 a0) fun (b_23 : Nat) => gb (f_X5_copyRow G b_21 b_23 S_20) fun (S_26 : gS) => glt (sI S_26 10 a0 (gI S_26 10 a1)) fun (S_27 : gS) => glt (sI S_27 11 a0 (gI S_27 11 a1)) fun (S_29 : gS) => glt (sI S_29 12 a0 (gI S_29 12 a1)) fun (S_31 : gS) => glt (sI S_31 13 a0 (gI S_31 13 a1)) fun (S_33 : gS) => glt (sI S_33 14 a0 (gI S_33 14 a1)) fun (S_35 : gS) => glt (sI S_35 15 a0 (gI S_35 15 a1)) fun (S_37 : gS) => glt (sI S_37 16 a0 (gI S_37 16 a1)) fun (S_39 : gS) => glt (sI S_39 17 a0 (gI S_39 17 a1)) fun (S_41 : gS) => some S_41
set_option maxRecDepth 100000 in
set_option maxHeartbeats 4000000 in
theorem k_X4_copyFrom {ad : Nat → Nat} {G : gG} {a0 : Nat} {a1 : Nat} {S S1 : gS} {T : gT} (h : f_X4_copyFrom G a0 a1 S = some S1) : Ct ad yX4_copyFrom (Cond.code yX4_copyFrom cX4_copyFrom 2 none :: gTb) 2 0 0 [.ref a0, .ref a1] G S T none G S1 T := by
  refine Ct.ofB rfl (Nat.le_of_ble_eq_true rfl) rfl (fun K g e hK => ?_)
  obtain ⟨rfl, -⟩ := hK
  show Xj K [] G 0 [some (.ref a0), some (.ref a1)] [] S T 0 0
  unfold f_X4_copyFrom at h
  refine x_aload_n 1 g dX4_copyFrom_0 rfl rfl ?_
  obtain ⟨q_1, h⟩ := gd_e h
  obtain ⟨b_2, e_3, h⟩ := gb_e h
  refine x_getr g dX4_copyFrom_1 gXX4 0 1 rfl (by decide) rfl lf_X4_9 q_1 e_3 ?_
  refine x_aload_n 0 g dX4_copyFrom_4 rfl rfl ?_
  obtain ⟨q_4, h⟩ := gd_e h
  obtain ⟨b_5, e_6, h⟩ := gb_e h
  refine x_getr g dX4_copyFrom_5 gXX4 0 1 rfl (by decide) rfl lf_X4_9 q_4 e_6 ?_
  obtain ⟨S_8, q_7, h⟩ := gb_e h
  refine x_cN [] g (k_X5_copyRow q_7) ca_X5_copyRow st_X5_copyRow ln_X4_49 (Nat.le_of_ble_eq_true rfl) rfl rfl (Nat.le_of_ble_eq_true rfl) dX4_copyFrom_8 rfl ?_
  refine x_aload_n 1 g dX4_copyFrom_11 rfl rfl ?_
  obtain ⟨b_9, e_10, h⟩ := gb_e h
  refine x_getr g dX4_copyFrom_12 gXX4 1 2 rfl (by decide) rfl lf_X4_15 q_1 e_10 ?_
  refine x_aload_n 0 g dX4_copyFrom_15 rfl rfl ?_
  obtain ⟨b_11, e_12, h⟩ := gb_e h
  refine x_getr g dX4_copyFrom_16 gXX4 1 2 rfl (by decide) rfl lf_X4_15 q_4 e_12 ?_
  obtain ⟨S_14, q_13, h⟩ := gb_e h
  refine x_cN [] g (k_X5_copyRow q_13) ca_X5_copyRow st_X5_copyRow ln_X4_49 (Nat.le_of_ble_eq_true rfl) rfl rfl (Nat.le_of_ble_eq_true rfl) dX4_copyFrom_19 rfl ?_
  refine x_aload_n 1 g dX4_copyFrom_22 rfl rfl ?_
  obtain ⟨b_15, e_16, h⟩ := gb_e h
  refine x_getr g dX4_copyFrom_23 gXX4 2 3 rfl (by decide) rfl lf_X4_18 q_1 e_16 ?_
  refine x_aload_n 0 g dX4_copyFrom_26 rfl rfl ?_
  obtain ⟨b_17, e_18, h⟩ := gb_e h
  refine x_getr g dX4_copyFrom_27 gXX4 2 3 rfl (by decide) rfl lf_X4_18 q_4 e_18 ?_
  obtain ⟨S_20, q_19, h⟩ := gb_e h
  refine x_cN [] g (k_X5_copyRow q_19) ca_X5_copyRow st_X5_copyRow ln_X4_49 (Nat.le_of_ble_eq_true rfl) rfl rfl (Nat.le_of_ble_eq_true rfl) dX4_copyFrom_30 rfl ?_
  refine x_aload_n 1 g dX4_copyFrom_33 rfl rfl ?_
  obtain ⟨b_21, e_22, h⟩ := gb_e h
  refine x_getr g dX4_copyFrom_34 gXX4 3 4 rfl (by decide) rfl lf_X4_21 q_1 e_22 ?_
  refine x_aload_n 0 g dX4_copyFrom_37 rfl rfl ?_
  obtain ⟨b_23, e_24, h⟩ := gb_e h
  refine x_getr g dX4_copyFrom_38 gXX4 3 4 rfl (by decide) rfl lf_X4_21 q_4 e_24 ?_
  obtain ⟨S_26, q_25, h⟩ := gb_e h
  refine x_cN [] g (k_X5_copyRow q_25) ca_X5_copyRow st_X5_copyRow ln_X4_49 (Nat.le_of_ble_eq_true rfl) rfl rfl (Nat.le_of_ble_eq_true rfl) dX4_copyFrom_41 rfl ?_
  refine x_aload_n 0 g dX4_copyFrom_44 rfl rfl ?_
  refine x_aload_n 1 g dX4_copyFrom_45 rfl rfl ?_
  refine x_geti g dX4_copyFrom_46 gXX4 4 10 rfl (by decide) rfl lf_X4_24 q_1 ?_
  refine x_puti g dX4_copyFrom_49 gXX4 4 10 rfl (by decide) rfl rfl lf_X4_24 rfl rfl q_4 ?_
  refine x_nS (fun S_27 e_28 => ?_)
  have h := glt_e e_28 h
  refine x_aload_n 0 g dX4_copyFrom_52 rfl rfl ?_
  refine x_aload_n 1 g dX4_copyFrom_53 rfl rfl ?_
  refine x_geti g dX4_copyFrom_54 gXX4 5 11 rfl (by decide) rfl lf_X4_28 q_1 ?_
  refine x_puti g dX4_copyFrom_57 gXX4 5 11 rfl (by decide) rfl rfl lf_X4_28 rfl rfl q_4 ?_
  refine x_nS (fun S_29 e_30 => ?_)
  have h := glt_e e_30 h
  refine x_aload_n 0 g dX4_copyFrom_60 rfl rfl ?_
  refine x_aload_n 1 g dX4_copyFrom_61 rfl rfl ?_
  refine x_geti g dX4_copyFrom_62 gXX4 6 12 rfl (by decide) rfl lf_X4_31 q_1 ?_
  refine x_puti g dX4_copyFrom_65 gXX4 6 12 rfl (by decide) rfl rfl lf_X4_31 rfl rfl q_4 ?_
  refine x_nS (fun S_31 e_32 => ?_)
  have h := glt_e e_32 h
  refine x_aload_n 0 g dX4_copyFrom_68 rfl rfl ?_
  refine x_aload_n 1 g dX4_copyFrom_69 rfl rfl ?_
  refine x_geti g dX4_copyFrom_70 gXX4 7 13 rfl (by decide) rfl lf_X4_34 q_1 ?_
  refine x_puti g dX4_copyFrom_73 gXX4 7 13 rfl (by decide) rfl rfl lf_X4_34 rfl rfl q_4 ?_
  refine x_nS (fun S_33 e_34 => ?_)
  have h := glt_e e_34 h
  refine x_aload_n 0 g dX4_copyFrom_76 rfl rfl ?_
  refine x_aload_n 1 g dX4_copyFrom_77 rfl rfl ?_
  refine x_geti g dX4_copyFrom_78 gXX4 8 14 rfl (by decide) rfl lf_X4_37 q_1 ?_
  refine x_puti g dX4_copyFrom_81 gXX4 8 14 rfl (by decide) rfl rfl lf_X4_37 rfl rfl q_4 ?_
  refine x_nS (fun S_35 e_36 => ?_)
  have h := glt_e e_36 h
  refine x_aload_n 0 g dX4_copyFrom_84 rfl rfl ?_
  refine x_aload_n 1 g dX4_copyFrom_85 rfl rfl ?_
  refine x_geti g dX4_copyFrom_86 gXX4 9 15 rfl (by decide) rfl lf_X4_40 q_1 ?_
  refine x_puti g dX4_copyFrom_89 gXX4 9 15 rfl (by decide) rfl rfl lf_X4_40 rfl rfl q_4 ?_
  refine x_nS (fun S_37 e_38 => ?_)
  have h := glt_e e_38 h
  refine x_aload_n 0 g dX4_copyFrom_92 rfl rfl ?_
  refine x_aload_n 1 g dX4_copyFrom_93 rfl rfl ?_
  refine x_geti g dX4_copyFrom_94 gXX4 10 16 rfl (by decide) rfl lf_X4_43 q_1 ?_
  refine x_puti g dX4_copyFrom_97 gXX4 10 16 rfl (by decide) rfl rfl lf_X4_43 rfl rfl q_4 ?_
  refine x_nS (fun S_39 e_40 => ?_)
  have h := glt_e e_40 h
  refine x_aload_n 0 g dX4_copyFrom_100 rfl rfl ?_
  refine x_aload_n 1 g dX4_copyFrom_101 rfl rfl ?_
  refine x_geti g dX4_copyFrom_102 gXX4 11 17 rfl (by decide) rfl lf_X4_46 q_1 ?_
  refine x_puti g dX4_copyFrom_105 gXX4 11 17 rfl (by decide) rfl rfl lf_X4_46 rfl rfl q_4 ?_
  refine x_nS (fun S_41 e_42 => ?_)
  have h := glt_e e_42 h
  cases h
  exact x_vretS g e dX4_copyFrom_108 rfl
noncomputable def f_X1_copyFrom_L2 (G : gG) (a0 : Nat) (a1 : Nat) : Nat → Int32 → gS → Option gS
  | 0, _, _ => none
  | n2 + 1, x2, S => gd (gis G 0 a0) <| gb (gP S 0 a0) fun (b_2 : Nat) => gd (gis G 9 b_2) <| if (Int32.ofNat (gn G b_2)) ≤ x2 then (gd (gis G 0 a1) <| glt (sI S 0 a0 (gI S 0 a1)) fun (S_7 : gS) => glt (sI S_7 1 a0 (gI S_7 1 a1)) fun (S_9 : gS) => glt (sI S_9 2 a0 (gI S_9 2 a1)) fun (S_11 : gS) => glt (sI S_11 3 a0 (gI S_11 3 a1)) fun (S_13 : gS) => glt (sI S_13 4 a0 (gI S_13 4 a1)) fun (S_15 : gS) => glt (sI S_15 5 a0 (gI S_15 5 a1)) fun (S_17 : gS) => glt (sI S_17 6 a0 (gI S_17 6 a1)) fun (S_19 : gS) => some S_19) else (gd (gis G 0 a1) <| gb (gP S 0 a1) fun (b_22 : Nat) => gd (gis G 9 b_22) <| if (Int32.ofNat (gn G b_22)) ≤ x2 then (glt (sI S 0 a0 (gI S 0 a1)) fun (S_26 : gS) => glt (sI S_26 1 a0 (gI S_26 1 a1)) fun (S_28 : gS) => glt (sI S_28 2 a0 (gI S_28 2 a1)) fun (S_30 : gS) => glt (sI S_30 3 a0 (gI S_30 3 a1)) fun (S_32 : gS) => glt (sI S_32 4 a0 (gI S_32 4 a1)) fun (S_34 : gS) => glt (sI S_34 5 a0 (gI S_34 5 a1)) fun (S_36 : gS) => glt (sI S_36 6 a0 (gI S_36 6 a1)) fun (S_38 : gS) => some S_38) else (gb (gP S 0 a0) fun (b_40 : Nat) => gd (gis G 9 b_40) <| gd (vp_in x2 (gn G b_40)) <| gb (gq S b_40 (Int32.toNatClampNeg x2)) fun (b_44 : Nat) => gb (gP S 0 a1) fun (b_46 : Nat) => gd (gis G 9 b_46) <| gd (vp_in x2 (gn G b_46)) <| gb (gq S b_46 (Int32.toNatClampNeg x2)) fun (b_50 : Nat) => gd (gis G 1 b_44) <| gb (f_X4_copyFrom G b_44 b_50 S) fun (S_54 : gS) => glt (x2 + 1) fun (x2_55 : Int32) => f_X1_copyFrom_L2 G a0 a1 n2 x2_55 S_54))
noncomputable def f_X1_copyFrom (G : gG) (a0 : Nat) (a1 : Nat) (S : gS) : Option gS := f_X1_copyFrom_L2 G a0 a1 gN 0 S
set_option maxRecDepth 100000 in
set_option maxHeartbeats 4000000 in
theorem k_X1_copyFrom {ad : Nat → Nat} {G : gG} {a0 : Nat} {a1 : Nat} {S S1 : gS} {T : gT} (h : f_X1_copyFrom G a0 a1 S = some S1) : Ct ad yX1_copyFrom (Cond.code yX1_copyFrom cX1_copyFrom 3 none :: gTb) 3 0 0 [.ref a0, .ref a1] G S T none G S1 T := by
  refine Ct.ofB rfl (Nat.le_of_ble_eq_true rfl) rfl (fun K g e hK => ?_)
  obtain ⟨rfl, -⟩ := hK
  show Xj K [] G 0 [some (.ref a0), some (.ref a1), none] [] S T 0 0
  unfold f_X1_copyFrom at h
  refine x_iconst (v := 0) g dX1_copyFrom_0 (by decide) ?_
  refine x_istore_n 2 g dX1_copyFrom_1 rfl (Nat.le_of_ble_eq_true rfl) rfl ?_
  have L2 : ∀ (n2 : Nat) (x2 : Int32) (S : gS), f_X1_copyFrom_L2 G a0 a1 n2 x2 S = some S1 → Xj K [] G 2 [some (.ref a0), some (.ref a1), some (.int x2)] [] S T 0 0 := by
    intro n2
    induction n2 with
    | zero =>
      intro x2 S h
      rw [f_X1_copyFrom_L2] at h
      cases h
    | succ n2 ih =>
      intro x2 S h
      rw [f_X1_copyFrom_L2] at h
      refine x_iload_n 2 g dX1_copyFrom_2 rfl rfl ?_
      refine x_aload_n 0 g dX1_copyFrom_3 rfl rfl ?_
      obtain ⟨q_1, h⟩ := gd_e h
      obtain ⟨b_2, e_3, h⟩ := gb_e h
      refine x_getr g dX1_copyFrom_4 gXX1 0 0 rfl (by decide) rfl lf_X1_11 q_1 e_3 ?_
      obtain ⟨q_4, h⟩ := gd_e h
      refine x_lenu g dX1_copyFrom_7 q_4 ?_
      refine x_icmp_ge 41 g dX1_copyFrom_8 (by decide) (fun c_5 => ?_) (fun c_5 => ?_)
      · have h := ite_t c_5 h
        refine x_aload_n 0 g dX1_copyFrom_41 rfl rfl ?_
        refine x_aload_n 1 g dX1_copyFrom_42 rfl rfl ?_
        obtain ⟨q_6, h⟩ := gd_e h
        refine x_geti g dX1_copyFrom_43 gXX1 1 0 rfl (by decide) rfl lf_X1_17 q_6 ?_
        refine x_puti g dX1_copyFrom_46 gXX1 1 0 rfl (by decide) rfl rfl lf_X1_17 rfl rfl q_1 ?_
        refine x_nS (fun S_7 e_8 => ?_)
        have h := glt_e e_8 h
        refine x_aload_n 0 g dX1_copyFrom_49 rfl rfl ?_
        refine x_aload_n 1 g dX1_copyFrom_50 rfl rfl ?_
        refine x_geti g dX1_copyFrom_51 gXX1 2 1 rfl (by decide) rfl lf_X1_21 q_6 ?_
        refine x_puti g dX1_copyFrom_54 gXX1 2 1 rfl (by decide) rfl rfl lf_X1_21 rfl rfl q_1 ?_
        refine x_nS (fun S_9 e_10 => ?_)
        have h := glt_e e_10 h
        refine x_aload_n 0 g dX1_copyFrom_57 rfl rfl ?_
        refine x_aload_n 1 g dX1_copyFrom_58 rfl rfl ?_
        refine x_geti g dX1_copyFrom_59 gXX1 3 2 rfl (by decide) rfl lf_X1_24 q_6 ?_
        refine x_puti g dX1_copyFrom_62 gXX1 3 2 rfl (by decide) rfl rfl lf_X1_24 rfl rfl q_1 ?_
        refine x_nS (fun S_11 e_12 => ?_)
        have h := glt_e e_12 h
        refine x_aload_n 0 g dX1_copyFrom_65 rfl rfl ?_
        refine x_aload_n 1 g dX1_copyFrom_66 rfl rfl ?_
        refine x_geti g dX1_copyFrom_67 gXX1 4 3 rfl (by decide) rfl lf_X1_27 q_6 ?_
        refine x_puti g dX1_copyFrom_70 gXX1 4 3 rfl (by decide) rfl rfl lf_X1_27 rfl rfl q_1 ?_
        refine x_nS (fun S_13 e_14 => ?_)
        have h := glt_e e_14 h
        refine x_aload_n 0 g dX1_copyFrom_73 rfl rfl ?_
        refine x_aload_n 1 g dX1_copyFrom_74 rfl rfl ?_
        refine x_geti g dX1_copyFrom_75 gXX1 5 4 rfl (by decide) rfl lf_X1_30 q_6 ?_
        refine x_puti g dX1_copyFrom_78 gXX1 5 4 rfl (by decide) rfl rfl lf_X1_30 rfl rfl q_1 ?_
        refine x_nS (fun S_15 e_16 => ?_)
        have h := glt_e e_16 h
        refine x_aload_n 0 g dX1_copyFrom_81 rfl rfl ?_
        refine x_aload_n 1 g dX1_copyFrom_82 rfl rfl ?_
        refine x_geti g dX1_copyFrom_83 gXX1 6 5 rfl (by decide) rfl lf_X1_33 q_6 ?_
        refine x_puti g dX1_copyFrom_86 gXX1 6 5 rfl (by decide) rfl rfl lf_X1_33 rfl rfl q_1 ?_
        refine x_nS (fun S_17 e_18 => ?_)
        have h := glt_e e_18 h
        refine x_aload_n 0 g dX1_copyFrom_89 rfl rfl ?_
        refine x_aload_n 1 g dX1_copyFrom_90 rfl rfl ?_
        refine x_geti g dX1_copyFrom_91 gXX1 7 6 rfl (by decide) rfl lf_X1_36 q_6 ?_
        refine x_puti g dX1_copyFrom_94 gXX1 7 6 rfl (by decide) rfl rfl lf_X1_36 rfl rfl q_1 ?_
        refine x_nS (fun S_19 e_20 => ?_)
        have h := glt_e e_20 h
        cases h
        exact x_vretS g e dX1_copyFrom_97 rfl
      · have h := ite_f c_5 h
        refine x_iload_n 2 g dX1_copyFrom_11 rfl rfl ?_
        refine x_aload_n 1 g dX1_copyFrom_12 rfl rfl ?_
        obtain ⟨q_21, h⟩ := gd_e h
        obtain ⟨b_22, e_23, h⟩ := gb_e h
        refine x_getr g dX1_copyFrom_13 gXX1 0 0 rfl (by decide) rfl lf_X1_11 q_21 e_23 ?_
        obtain ⟨q_24, h⟩ := gd_e h
        refine x_lenu g dX1_copyFrom_16 q_24 ?_
        refine x_icmp_ge 41 g dX1_copyFrom_17 (by decide) (fun c_25 => ?_) (fun c_25 => ?_)
        · have h := ite_t c_25 h
          refine x_aload_n 0 g dX1_copyFrom_41 rfl rfl ?_
          refine x_aload_n 1 g dX1_copyFrom_42 rfl rfl ?_
          refine x_geti g dX1_copyFrom_43 gXX1 1 0 rfl (by decide) rfl lf_X1_17 q_21 ?_
          refine x_puti g dX1_copyFrom_46 gXX1 1 0 rfl (by decide) rfl rfl lf_X1_17 rfl rfl q_1 ?_
          refine x_nS (fun S_26 e_27 => ?_)
          have h := glt_e e_27 h
          refine x_aload_n 0 g dX1_copyFrom_49 rfl rfl ?_
          refine x_aload_n 1 g dX1_copyFrom_50 rfl rfl ?_
          refine x_geti g dX1_copyFrom_51 gXX1 2 1 rfl (by decide) rfl lf_X1_21 q_21 ?_
          refine x_puti g dX1_copyFrom_54 gXX1 2 1 rfl (by decide) rfl rfl lf_X1_21 rfl rfl q_1 ?_
          refine x_nS (fun S_28 e_29 => ?_)
          have h := glt_e e_29 h
          refine x_aload_n 0 g dX1_copyFrom_57 rfl rfl ?_
          refine x_aload_n 1 g dX1_copyFrom_58 rfl rfl ?_
          refine x_geti g dX1_copyFrom_59 gXX1 3 2 rfl (by decide) rfl lf_X1_24 q_21 ?_
          refine x_puti g dX1_copyFrom_62 gXX1 3 2 rfl (by decide) rfl rfl lf_X1_24 rfl rfl q_1 ?_
          refine x_nS (fun S_30 e_31 => ?_)
          have h := glt_e e_31 h
          refine x_aload_n 0 g dX1_copyFrom_65 rfl rfl ?_
          refine x_aload_n 1 g dX1_copyFrom_66 rfl rfl ?_
          refine x_geti g dX1_copyFrom_67 gXX1 4 3 rfl (by decide) rfl lf_X1_27 q_21 ?_
          refine x_puti g dX1_copyFrom_70 gXX1 4 3 rfl (by decide) rfl rfl lf_X1_27 rfl rfl q_1 ?_
          refine x_nS (fun S_32 e_33 => ?_)
          have h := glt_e e_33 h
          refine x_aload_n 0 g dX1_copyFrom_73 rfl rfl ?_
          refine x_aload_n 1 g dX1_copyFrom_74 rfl rfl ?_
          refine x_geti g dX1_copyFrom_75 gXX1 5 4 rfl (by decide) rfl lf_X1_30 q_21 ?_
          refine x_puti g dX1_copyFrom_78 gXX1 5 4 rfl (by decide) rfl rfl lf_X1_30 rfl rfl q_1 ?_
          refine x_nS (fun S_34 e_35 => ?_)
          have h := glt_e e_35 h
          refine x_aload_n 0 g dX1_copyFrom_81 rfl rfl ?_
          refine x_aload_n 1 g dX1_copyFrom_82 rfl rfl ?_
          refine x_geti g dX1_copyFrom_83 gXX1 6 5 rfl (by decide) rfl lf_X1_33 q_21 ?_
          refine x_puti g dX1_copyFrom_86 gXX1 6 5 rfl (by decide) rfl rfl lf_X1_33 rfl rfl q_1 ?_
          refine x_nS (fun S_36 e_37 => ?_)
          have h := glt_e e_37 h
          refine x_aload_n 0 g dX1_copyFrom_89 rfl rfl ?_
          refine x_aload_n 1 g dX1_copyFrom_90 rfl rfl ?_
          refine x_geti g dX1_copyFrom_91 gXX1 7 6 rfl (by decide) rfl lf_X1_36 q_21 ?_
          refine x_puti g dX1_copyFrom_94 gXX1 7 6 rfl (by decide) rfl rfl lf_X1_36 rfl rfl q_1 ?_
          refine x_nS (fun S_38 e_39 => ?_)
          have h := glt_e e_39 h
          cases h
          exact x_vretS g e dX1_copyFrom_97 rfl
        · have h := ite_f c_25 h
          refine x_aload_n 0 g dX1_copyFrom_20 rfl rfl ?_
          obtain ⟨b_40, e_41, h⟩ := gb_e h
          refine x_getr g dX1_copyFrom_21 gXX1 0 0 rfl (by decide) rfl lf_X1_11 q_1 e_41 ?_
          refine x_iload_n 2 g dX1_copyFrom_24 rfl rfl ?_
          obtain ⟨q_42, h⟩ := gd_e h
          obtain ⟨q_43, h⟩ := gd_e h
          obtain ⟨b_44, e_45, h⟩ := gb_e h
          refine x_aldu g dX1_copyFrom_25 q_42 q_43 ?_
          rw [e_45]
          refine x_rf ?_
          refine x_aload_n 1 g dX1_copyFrom_26 rfl rfl ?_
          obtain ⟨b_46, e_47, h⟩ := gb_e h
          refine x_getr g dX1_copyFrom_27 gXX1 0 0 rfl (by decide) rfl lf_X1_11 q_21 e_47 ?_
          refine x_iload_n 2 g dX1_copyFrom_30 rfl rfl ?_
          obtain ⟨q_48, h⟩ := gd_e h
          obtain ⟨q_49, h⟩ := gd_e h
          obtain ⟨b_50, e_51, h⟩ := gb_e h
          refine x_aldu g dX1_copyFrom_31 q_48 q_49 ?_
          rw [e_51]
          refine x_rf ?_
          obtain ⟨q_52, h⟩ := gd_e h
          obtain ⟨S_54, q_53, h⟩ := gb_e h
          refine x_cV [] g (k_X4_copyFrom q_53) ca_X4_copyFrom in_X4_copyFrom se_X4_copyFrom lm_X1_40 gXX4 q_52 (Nat.le_of_ble_eq_true rfl) rfl rfl (Nat.le_of_ble_eq_true rfl) dX1_copyFrom_32 rfl ?_
          obtain ⟨x2_55, e_56⟩ : ∃ z : Int32, z = x2 + 1 := ⟨_, rfl⟩
          have h := glt_e e_56 h
          refine x_iinc (v := x2_55) g dX1_copyFrom_35 rfl (by rw [e_56]; rfl) rfl ?_
          refine x_goto 2 g dX1_copyFrom_38 (by decide) ?_
          exact ih _ _ h
  exact L2 gN _ _ h
noncomputable def f_X1_umbrellaAt (G : gG) (a0 : Nat) (a1 : Int32) (S : gS) : Option (String ⊕ Nat) := if a1 < 0 then (some (.inl "java/lang/IndexOutOfBoundsException")) else (gd (gis G 0 a0) <| if (gI S 0 a0) ≤ a1 then (some (.inl "java/lang/IndexOutOfBoundsException")) else (gb (gP S 0 a0) fun (b_4 : Nat) => gd (gis G 9 b_4) <| if a1 < (Int32.ofNat (gn G b_4)) then (gb (gP S 0 a0) fun (b_8 : Nat) => gd (gis G 9 b_8) <| gd (vp_in a1 (gn G b_8)) <| gb (gq S b_8 (Int32.toNatClampNeg a1)) fun (b_12 : Nat) => some (.inr b_12)) else (some (.inl "java/lang/IndexOutOfBoundsException"))))
set_option maxRecDepth 100000 in
set_option maxHeartbeats 4000000 in
theorem k_X1_umbrellaAt {ad : Nat → Nat} {G : gG} {a0 : Nat} {a1 : Int32} {S : gS} {T : gT} {r : Nat} (h : f_X1_umbrellaAt G a0 a1 S = some (.inr r)) : Ct ad yX1_umbrellaAt (Cond.code yX1_umbrellaAt cX1_umbrellaAt 2 (some ( .object "UmbrellaSchool$Umbrella")) :: gTb) 0 0 0 [.ref a0, .int a1] G S T (some (.ref r)) G S T := by
  refine Ct.ofB rfl (Nat.le_of_ble_eq_true rfl) rfl (fun K g e hK => ?_)
  obtain ⟨rfl, -⟩ := hK
  show Xj K [] G 0 [some (.ref a0), some (.int a1)] [] S T 0 0
  unfold f_X1_umbrellaAt at h
  refine x_iload_n 1 g dX1_umbrellaAt_0 rfl rfl ?_
  refine x_if_lt 21 g dX1_umbrellaAt_1 (by decide) (fun c_1 => ?_) (fun c_1 => ?_)
  · have h := ite_t c_1 h
    cases h
  · have h := ite_f c_1 h
    refine x_iload_n 1 g dX1_umbrellaAt_4 rfl rfl ?_
    refine x_aload_n 0 g dX1_umbrellaAt_5 rfl rfl ?_
    obtain ⟨q_2, h⟩ := gd_e h
    refine x_geti g dX1_umbrellaAt_6 gXX1 1 0 rfl (by decide) rfl lf_X1_17 q_2 ?_
    refine x_icmp_ge 21 g dX1_umbrellaAt_9 (by decide) (fun c_3 => ?_) (fun c_3 => ?_)
    · have h := ite_t c_3 h
      cases h
    · have h := ite_f c_3 h
      refine x_iload_n 1 g dX1_umbrellaAt_12 rfl rfl ?_
      refine x_aload_n 0 g dX1_umbrellaAt_13 rfl rfl ?_
      obtain ⟨b_4, e_5, h⟩ := gb_e h
      refine x_getr g dX1_umbrellaAt_14 gXX1 0 0 rfl (by decide) rfl lf_X1_11 q_2 e_5 ?_
      obtain ⟨q_6, h⟩ := gd_e h
      refine x_lenu g dX1_umbrellaAt_17 q_6 ?_
      refine x_icmp_lt 31 g dX1_umbrellaAt_18 (by decide) (fun c_7 => ?_) (fun c_7 => ?_)
      · have h := ite_t c_7 h
        refine x_aload_n 0 g dX1_umbrellaAt_31 rfl rfl ?_
        obtain ⟨b_8, e_9, h⟩ := gb_e h
        refine x_getr g dX1_umbrellaAt_32 gXX1 0 0 rfl (by decide) rfl lf_X1_11 q_2 e_9 ?_
        refine x_iload_n 1 g dX1_umbrellaAt_35 rfl rfl ?_
        obtain ⟨q_10, h⟩ := gd_e h
        obtain ⟨q_11, h⟩ := gd_e h
        obtain ⟨b_12, e_13, h⟩ := gb_e h
        refine x_aldu g dX1_umbrellaAt_36 q_10 q_11 ?_
        rw [e_13]
        refine x_rf ?_
        cases h
        exact x_aretS g e dX1_umbrellaAt_37 rfl rfl
      · have h := ite_f c_7 h
        cases h
set_option maxRecDepth 100000 in
set_option maxHeartbeats 4000000 in
theorem t_X1_umbrellaAt {ad : Nat → Nat} {G : gG} {a0 : Nat} {a1 : Int32} {S : gS} {T : gT} {E : String} (h : f_X1_umbrellaAt G a0 a1 S = some (.inl E)) : Cx ad yX1_umbrellaAt (Cond.code yX1_umbrellaAt cX1_umbrellaAt 2 (some ( .object "UmbrellaSchool$Umbrella")) :: gTb) 6 [.ref a0, .int a1] G S T E S T := by
  refine Cx.ofB rfl (Nat.le_of_ble_eq_true rfl) rfl (fun K g e hK => ?_)
  obtain ⟨rfl, -⟩ := hK
  show Xj K [] G 0 [some (.ref a0), some (.int a1)] [] S T 1 6
  unfold f_X1_umbrellaAt at h
  refine x_iload_n 1 g dX1_umbrellaAt_0 rfl rfl ?_
  refine x_if_lt 21 g dX1_umbrellaAt_1 (by decide) (fun c_1 => ?_) (fun c_1 => ?_)
  · have h := ite_t c_1 h
    cases h
    exact x_throw "there is no such umbrella" g e (by decide +kernel) xnm_ok cl_X1_44 ci_IndexOutOfBoundsException (by decide +kernel) xat_X1_48 dX1_umbrellaAt_21 dX1_umbrellaAt_24 dX1_umbrellaAt_25 dX1_umbrellaAt_27 dX1_umbrellaAt_30 (by decide) (by decide) (Nat.le_of_ble_eq_true rfl) rfl rfl
  · have h := ite_f c_1 h
    refine x_iload_n 1 g dX1_umbrellaAt_4 rfl rfl ?_
    refine x_aload_n 0 g dX1_umbrellaAt_5 rfl rfl ?_
    obtain ⟨q_2, h⟩ := gd_e h
    refine x_geti g dX1_umbrellaAt_6 gXX1 1 0 rfl (by decide) rfl lf_X1_17 q_2 ?_
    refine x_icmp_ge 21 g dX1_umbrellaAt_9 (by decide) (fun c_3 => ?_) (fun c_3 => ?_)
    · have h := ite_t c_3 h
      cases h
      exact x_throw "there is no such umbrella" g e (by decide +kernel) xnm_ok cl_X1_44 ci_IndexOutOfBoundsException (by decide +kernel) xat_X1_48 dX1_umbrellaAt_21 dX1_umbrellaAt_24 dX1_umbrellaAt_25 dX1_umbrellaAt_27 dX1_umbrellaAt_30 (by decide) (by decide) (Nat.le_of_ble_eq_true rfl) rfl rfl
    · have h := ite_f c_3 h
      refine x_iload_n 1 g dX1_umbrellaAt_12 rfl rfl ?_
      refine x_aload_n 0 g dX1_umbrellaAt_13 rfl rfl ?_
      obtain ⟨b_4, e_5, h⟩ := gb_e h
      refine x_getr g dX1_umbrellaAt_14 gXX1 0 0 rfl (by decide) rfl lf_X1_11 q_2 e_5 ?_
      obtain ⟨q_6, h⟩ := gd_e h
      refine x_lenu g dX1_umbrellaAt_17 q_6 ?_
      refine x_icmp_lt 31 g dX1_umbrellaAt_18 (by decide) (fun c_7 => ?_) (fun c_7 => ?_)
      · have h := ite_t c_7 h
        refine x_aload_n 0 g dX1_umbrellaAt_31 rfl rfl ?_
        obtain ⟨b_8, e_9, h⟩ := gb_e h
        refine x_getr g dX1_umbrellaAt_32 gXX1 0 0 rfl (by decide) rfl lf_X1_11 q_2 e_9 ?_
        refine x_iload_n 1 g dX1_umbrellaAt_35 rfl rfl ?_
        obtain ⟨q_10, h⟩ := gd_e h
        obtain ⟨q_11, h⟩ := gd_e h
        obtain ⟨b_12, e_13, h⟩ := gb_e h
        refine x_aldu g dX1_umbrellaAt_36 q_10 q_11 ?_
        rw [e_13]
        refine x_rf ?_
        cases h
      · have h := ite_f c_7 h
        cases h
        exact x_throw "there is no such umbrella" g e (by decide +kernel) xnm_ok cl_X1_44 ci_IndexOutOfBoundsException (by decide +kernel) xat_X1_48 dX1_umbrellaAt_21 dX1_umbrellaAt_24 dX1_umbrellaAt_25 dX1_umbrellaAt_27 dX1_umbrellaAt_30 (by decide) (by decide) (Nat.le_of_ble_eq_true rfl) rfl rfl
noncomputable def f_X1_enrol (G : gG) (a0 : Nat) (a1 : Int32) (S : gS) : Option (Int32 × gS) := gd (gis G 0 a0) <| glt (gI S 0 a0) fun (x2_2 : Int32) => glt (sI S 0 a0 ((gI S 0 a0) + 1)) fun (S_4 : gS) => gbx1 (f_X1_umbrellaAt G a0 x2_2 S_4) (fun (E_11 : String) => none) fun (r_7 : Nat) => gd (gis G 1 r_7) <| glt (sI S_4 10 r_7 a1) fun (S_9 : gS) => some (x2_2, S_9)
set_option maxRecDepth 100000 in
set_option maxHeartbeats 4000000 in
theorem k_X1_enrol {ad : Nat → Nat} {G : gG} {a0 : Nat} {a1 : Int32} {S S1 : gS} {T : gT} {r : Int32} (h : f_X1_enrol G a0 a1 S = some (r, S1)) : Ct ad yX1_enrol (Cond.code yX1_enrol cX1_enrol 3 (some .int) :: gTb) 1 0 0 [.ref a0, .int a1] G S T (some (.int r)) G S1 T := by
  refine Ct.ofB rfl (Nat.le_of_ble_eq_true rfl) rfl (fun K g e hK => ?_)
  obtain ⟨rfl, -⟩ := hK
  show Xj K [] G 0 [some (.ref a0), some (.int a1), none] [] S T 0 0
  unfold f_X1_enrol at h
  refine x_aload_n 0 g dX1_enrol_0 rfl rfl ?_
  obtain ⟨q_1, h⟩ := gd_e h
  refine x_geti g dX1_enrol_1 gXX1 1 0 rfl (by decide) rfl lf_X1_17 q_1 ?_
  refine x_nI (fun x2_2 e_3 => ?_)
  have h := glt_e e_3 h
  refine x_istore_n 2 g dX1_enrol_4 rfl (Nat.le_of_ble_eq_true rfl) rfl ?_
  refine x_aload_n 0 g dX1_enrol_5 rfl rfl ?_
  refine x_dup g dX1_enrol_6 rfl ?_
  refine x_geti g dX1_enrol_7 gXX1 1 0 rfl (by decide) rfl lf_X1_17 q_1 ?_
  refine x_iconst (v := 1) g dX1_enrol_10 (by decide) ?_
  refine x_iadd g dX1_enrol_11 ?_
  refine x_puti g dX1_enrol_12 gXX1 1 0 rfl (by decide) rfl rfl lf_X1_17 rfl rfl q_1 ?_
  refine x_nS (fun S_4 e_5 => ?_)
  have h := glt_e e_5 h
  refine x_aload_n 0 g dX1_enrol_15 rfl rfl ?_
  refine x_iload_n 2 g dX1_enrol_16 rfl rfl ?_
  rcases gbx1_e h with ⟨E_11, q_6, h⟩ | ⟨r_7, q_6, h⟩
  · cases h
  refine x_cV [.ref r_7] g (k_X1_umbrellaAt q_6) ca_X1_umbrellaAt in_X1_umbrellaAt se_X1_umbrellaAt lm_X1_51 gXX1 q_1 (Nat.le_of_ble_eq_true rfl) rfl rfl (Nat.le_of_ble_eq_true rfl) dX1_enrol_17 rfl ?_
  refine x_iload_n 1 g dX1_enrol_20 rfl rfl ?_
  obtain ⟨q_8, h⟩ := gd_e h
  refine x_puti g dX1_enrol_21 gXX4 4 10 rfl (by decide) rfl rfl lf_X1_55 rfl rfl q_8 ?_
  refine x_nS (fun S_9 e_10 => ?_)
  have h := glt_e e_10 h
  refine x_iload_n 2 g dX1_enrol_24 rfl rfl ?_
  cases h
  exact x_iretS g e dX1_enrol_25 rfl rfl
noncomputable def f_X1_changeWet (G : gG) (a0 : Nat) (a1 : Int32) (S : gS) : Option (Int32 × gS) := gd (gis G 0 a0) <| glt (gI S 1 a0) fun (x2_2 : Int32) => glt (sI S 1 a0 a1) fun (S_4 : gS) => some (x2_2, S_4)
set_option maxRecDepth 100000 in
set_option maxHeartbeats 4000000 in
theorem k_X1_changeWet {ad : Nat → Nat} {G : gG} {a0 : Nat} {a1 : Int32} {S S1 : gS} {T : gT} {r : Int32} (h : f_X1_changeWet G a0 a1 S = some (r, S1)) : Ct ad yX1_changeWet (Cond.code yX1_changeWet cX1_changeWet 3 (some .int) :: gTb) 0 0 0 [.ref a0, .int a1] G S T (some (.int r)) G S1 T := by
  refine Ct.ofB rfl (Nat.le_of_ble_eq_true rfl) rfl (fun K g e hK => ?_)
  obtain ⟨rfl, -⟩ := hK
  show Xj K [] G 0 [some (.ref a0), some (.int a1), none] [] S T 0 0
  unfold f_X1_changeWet at h
  refine x_aload_n 0 g dX1_changeWet_0 rfl rfl ?_
  obtain ⟨q_1, h⟩ := gd_e h
  refine x_geti g dX1_changeWet_1 gXX1 2 1 rfl (by decide) rfl lf_X1_21 q_1 ?_
  refine x_nI (fun x2_2 e_3 => ?_)
  have h := glt_e e_3 h
  refine x_istore_n 2 g dX1_changeWet_4 rfl (Nat.le_of_ble_eq_true rfl) rfl ?_
  refine x_aload_n 0 g dX1_changeWet_5 rfl rfl ?_
  refine x_iload_n 1 g dX1_changeWet_6 rfl rfl ?_
  refine x_puti g dX1_changeWet_7 gXX1 2 1 rfl (by decide) rfl rfl lf_X1_21 rfl rfl q_1 ?_
  refine x_nS (fun S_4 e_5 => ?_)
  have h := glt_e e_5 h
  refine x_iload_n 2 g dX1_changeWet_10 rfl rfl ?_
  cases h
  exact x_iretS g e dX1_changeWet_11 rfl rfl
noncomputable def f_X1_changeGale (G : gG) (a0 : Nat) (a1 : Int32) (S : gS) : Option (Int32 × gS) := gd (gis G 0 a0) <| glt (gI S 2 a0) fun (x2_2 : Int32) => glt (sI S 2 a0 a1) fun (S_4 : gS) => some (x2_2, S_4)
set_option maxRecDepth 100000 in
set_option maxHeartbeats 4000000 in
theorem k_X1_changeGale {ad : Nat → Nat} {G : gG} {a0 : Nat} {a1 : Int32} {S S1 : gS} {T : gT} {r : Int32} (h : f_X1_changeGale G a0 a1 S = some (r, S1)) : Ct ad yX1_changeGale (Cond.code yX1_changeGale cX1_changeGale 3 (some .int) :: gTb) 0 0 0 [.ref a0, .int a1] G S T (some (.int r)) G S1 T := by
  refine Ct.ofB rfl (Nat.le_of_ble_eq_true rfl) rfl (fun K g e hK => ?_)
  obtain ⟨rfl, -⟩ := hK
  show Xj K [] G 0 [some (.ref a0), some (.int a1), none] [] S T 0 0
  unfold f_X1_changeGale at h
  refine x_aload_n 0 g dX1_changeGale_0 rfl rfl ?_
  obtain ⟨q_1, h⟩ := gd_e h
  refine x_geti g dX1_changeGale_1 gXX1 3 2 rfl (by decide) rfl lf_X1_24 q_1 ?_
  refine x_nI (fun x2_2 e_3 => ?_)
  have h := glt_e e_3 h
  refine x_istore_n 2 g dX1_changeGale_4 rfl (Nat.le_of_ble_eq_true rfl) rfl ?_
  refine x_aload_n 0 g dX1_changeGale_5 rfl rfl ?_
  refine x_iload_n 1 g dX1_changeGale_6 rfl rfl ?_
  refine x_puti g dX1_changeGale_7 gXX1 3 2 rfl (by decide) rfl rfl lf_X1_24 rfl rfl q_1 ?_
  refine x_nS (fun S_4 e_5 => ?_)
  have h := glt_e e_5 h
  refine x_iload_n 2 g dX1_changeGale_10 rfl rfl ?_
  cases h
  exact x_iretS g e dX1_changeGale_11 rfl rfl
noncomputable def f_X1_rewardFor (G : gG) (a0 : Nat) (a1 : Int32) (a2 : Int32) (a3 : Bool) (S : gS) : Option Int32 := if (gz a3) = 0 then (gd (gis G 0 a0) <| some ((-(gI S 1 a0)) * a1)) else (gd (gis G 0 a0) <| some ((4 * a1) - ((gI S 2 a0) * a2)))
set_option maxRecDepth 100000 in
set_option maxHeartbeats 4000000 in
theorem k_X1_rewardFor {ad : Nat → Nat} {G : gG} {a0 : Nat} {a1 : Int32} {a2 : Int32} {a3 : Bool} {S : gS} {T : gT} {r : Int32} (h : f_X1_rewardFor G a0 a1 a2 a3 S = some r) : Ct ad yX1_rewardFor (Cond.code yX1_rewardFor cX1_rewardFor 4 (some .int) :: gTb) 0 0 0 [.ref a0, .int a1, .int a2, .int (gz a3)] G S T (some (.int r)) G S T := by
  refine Ct.ofB rfl (Nat.le_of_ble_eq_true rfl) rfl (fun K g e hK => ?_)
  obtain ⟨rfl, -⟩ := hK
  show Xj K [] G 0 [some (.ref a0), some (.int a1), some (.int a2), some (.int (gz a3))] [] S T 0 0
  unfold f_X1_rewardFor at h
  refine x_iload_n 3 g dX1_rewardFor_0 rfl rfl ?_
  refine x_if_eq 17 g dX1_rewardFor_1 (by decide) (fun c_1 => ?_) (fun c_1 => ?_)
  · have h := ite_t c_1 h
    refine x_aload_n 0 g dX1_rewardFor_17 rfl rfl ?_
    obtain ⟨q_2, h⟩ := gd_e h
    refine x_geti g dX1_rewardFor_18 gXX1 2 1 rfl (by decide) rfl lf_X1_21 q_2 ?_
    refine x_ineg g dX1_rewardFor_21 ?_
    refine x_iload_n 1 g dX1_rewardFor_22 rfl rfl ?_
    refine x_imul g dX1_rewardFor_23 ?_
    cases h
    exact x_iretS g e dX1_rewardFor_24 rfl rfl
  · have h := ite_f c_1 h
    refine x_iconst (v := 4) g dX1_rewardFor_4 (by decide) ?_
    refine x_iload_n 1 g dX1_rewardFor_5 rfl rfl ?_
    refine x_imul g dX1_rewardFor_6 ?_
    refine x_aload_n 0 g dX1_rewardFor_7 rfl rfl ?_
    obtain ⟨q_3, h⟩ := gd_e h
    refine x_geti g dX1_rewardFor_8 gXX1 3 2 rfl (by decide) rfl lf_X1_24 q_3 ?_
    refine x_iload_n 2 g dX1_rewardFor_11 rfl rfl ?_
    refine x_imul g dX1_rewardFor_12 ?_
    refine x_isub g dX1_rewardFor_13 ?_
    refine x_goto 24 g dX1_rewardFor_14 (by decide) ?_
    cases h
    exact x_iretS g e dX1_rewardFor_24 rfl rfl
noncomputable def f_X1_openingPays (G : gG) (a0 : Nat) (a1 : Int32) (a2 : Int32) (S : gS) : Option Bool := gd (gis G 0 a0) <| gb (f_X1_rewardFor G a0 a1 a2 true S) fun (r_3 : Int32) => gb (f_X1_rewardFor G a0 a1 a2 false S) fun (r_5 : Int32) => if r_3 ≤ r_5 then (some false) else (some true)
set_option maxRecDepth 100000 in
set_option maxHeartbeats 4000000 in
theorem k_X1_openingPays {ad : Nat → Nat} {G : gG} {a0 : Nat} {a1 : Int32} {a2 : Int32} {S : gS} {T : gT} {r : Bool} (h : f_X1_openingPays G a0 a1 a2 S = some r) : Ct ad yX1_openingPays (Cond.code yX1_openingPays cX1_openingPays 3 (some .boolean) :: gTb) 1 0 0 [.ref a0, .int a1, .int a2] G S T (some (.int (gz r))) G S T := by
  refine Ct.ofB rfl (Nat.le_of_ble_eq_true rfl) rfl (fun K g e hK => ?_)
  obtain ⟨rfl, -⟩ := hK
  show Xj K [] G 0 [some (.ref a0), some (.int a1), some (.int a2)] [] S T 0 0
  unfold f_X1_openingPays at h
  refine x_aload_n 0 g dX1_openingPays_0 rfl rfl ?_
  refine x_iload_n 1 g dX1_openingPays_1 rfl rfl ?_
  refine x_iload_n 2 g dX1_openingPays_2 rfl rfl ?_
  refine x_iconst (v := 1) g dX1_openingPays_3 (by decide) ?_
  obtain ⟨q_1, h⟩ := gd_e h
  obtain ⟨r_3, q_2, h⟩ := gb_e h
  refine x_cV [.int r_3] g (k_X1_rewardFor q_2) ca_X1_rewardFor in_X1_rewardFor se_X1_rewardFor lm_X1_58 gXX1 q_1 (Nat.le_of_ble_eq_true rfl) rfl rfl (Nat.le_of_ble_eq_true rfl) dX1_openingPays_4 rfl ?_
  refine x_aload_n 0 g dX1_openingPays_7 rfl rfl ?_
  refine x_iload_n 1 g dX1_openingPays_8 rfl rfl ?_
  refine x_iload_n 2 g dX1_openingPays_9 rfl rfl ?_
  refine x_iconst (v := 0) g dX1_openingPays_10 (by decide) ?_
  obtain ⟨r_5, q_4, h⟩ := gb_e h
  refine x_cV [.int r_5, .int r_3] g (k_X1_rewardFor q_4) ca_X1_rewardFor in_X1_rewardFor se_X1_rewardFor lm_X1_58 gXX1 q_1 (Nat.le_of_ble_eq_true rfl) rfl rfl (Nat.le_of_ble_eq_true rfl) dX1_openingPays_11 rfl ?_
  refine x_icmp_le 21 g dX1_openingPays_14 (by decide) (fun c_6 => ?_) (fun c_6 => ?_)
  · have h := ite_t c_6 h
    refine x_iconst (v := 0) g dX1_openingPays_21 (by decide) ?_
    cases h
    exact x_zretS (b := false) g e dX1_openingPays_22 rfl rfl rfl
  · have h := ite_f c_6 h
    refine x_iconst (v := 1) g dX1_openingPays_17 (by decide) ?_
    refine x_goto 22 g dX1_openingPays_18 (by decide) ?_
    cases h
    exact x_zretS (b := true) g e dX1_openingPays_22 rfl rfl rfl
noncomputable def f_X5_situationOf (a0 : Int32) (a1 : Int32) : Option Int32 := some ((a0 * 4) + a1)
set_option maxRecDepth 100000 in
set_option maxHeartbeats 4000000 in
theorem k_X5_situationOf {ad : Nat → Nat} {G : gG} {a0 : Int32} {a1 : Int32} {S : gS} {T : gT} {r : Int32} (h : f_X5_situationOf a0 a1 = some r) : Ct ad yX5_situationOf (Cond.code yX5_situationOf cX5_situationOf 2 (some .int) :: gTb) 0 0 0 [.int a0, .int a1] G S T (some (.int r)) G S T := by
  refine Ct.ofB rfl (Nat.le_of_ble_eq_true rfl) rfl (fun K g e hK => ?_)
  obtain ⟨rfl, -⟩ := hK
  show Xj K [] G 0 [some (.int a0), some (.int a1)] [] S T 0 0
  unfold f_X5_situationOf at h
  refine x_iload_n 0 g dX5_situationOf_0 rfl rfl ?_
  refine x_iconst (v := 4) g dX5_situationOf_1 (by decide) ?_
  refine x_imul g dX5_situationOf_2 ?_
  refine x_iload_n 1 g dX5_situationOf_3 rfl rfl ?_
  refine x_iadd g dX5_situationOf_4 ?_
  cases h
  exact x_iretS g e dX5_situationOf_5 rfl rfl
noncomputable def f_X5_caseInSituation (a0 : Int32) (a1 : Bool) : Option Int32 := if (gz a1) = 0 then (some ((2 * a0) + 0)) else (some ((2 * a0) + 1))
set_option maxRecDepth 100000 in
set_option maxHeartbeats 4000000 in
theorem k_X5_caseInSituation {ad : Nat → Nat} {G : gG} {a0 : Int32} {a1 : Bool} {S : gS} {T : gT} {r : Int32} (h : f_X5_caseInSituation a0 a1 = some r) : Ct ad yX5_caseInSituation (Cond.code yX5_caseInSituation cX5_caseInSituation 2 (some .int) :: gTb) 0 0 0 [.int a0, .int (gz a1)] G S T (some (.int r)) G S T := by
  refine Ct.ofB rfl (Nat.le_of_ble_eq_true rfl) rfl (fun K g e hK => ?_)
  obtain ⟨rfl, -⟩ := hK
  show Xj K [] G 0 [some (.int a0), some (.int (gz a1))] [] S T 0 0
  unfold f_X5_caseInSituation at h
  refine x_iconst (v := 2) g dX5_caseInSituation_0 (by decide) ?_
  refine x_iload_n 0 g dX5_caseInSituation_1 rfl rfl ?_
  refine x_imul g dX5_caseInSituation_2 ?_
  refine x_iload_n 1 g dX5_caseInSituation_3 rfl rfl ?_
  refine x_if_eq 11 g dX5_caseInSituation_4 (by decide) (fun c_1 => ?_) (fun c_1 => ?_)
  · have h := ite_t c_1 h
    refine x_iconst (v := 0) g dX5_caseInSituation_11 (by decide) ?_
    refine x_iadd g dX5_caseInSituation_12 ?_
    cases h
    exact x_iretS g e dX5_caseInSituation_13 rfl rfl
  · have h := ite_f c_1 h
    refine x_iconst (v := 1) g dX5_caseInSituation_7 (by decide) ?_
    refine x_goto 12 g dX5_caseInSituation_8 (by decide) ?_
    refine x_iadd g dX5_caseInSituation_12 ?_
    cases h
    exact x_iretS g e dX5_caseInSituation_13 rfl rfl
noncomputable def f_X5_valueAt (G : gG) (a0 : Nat) (a1 : Int32) (S : gS) : Option Int32 := if a1 < 0 then (some 0) else (gd (gis G 7 a0) <| if (Int32.ofNat (gn G a0)) ≤ a1 then (some 0) else (gd (vp_in a1 (gn G a0)) <| some (gr S a0 (Int32.toNatClampNeg a1))))
set_option maxRecDepth 100000 in
set_option maxHeartbeats 4000000 in
theorem k_X5_valueAt {ad : Nat → Nat} {G : gG} {a0 : Nat} {a1 : Int32} {S : gS} {T : gT} {r : Int32} (h : f_X5_valueAt G a0 a1 S = some r) : Ct ad yX5_valueAt (Cond.code yX5_valueAt cX5_valueAt 2 (some .int) :: gTb) 0 0 0 [.ref a0, .int a1] G S T (some (.int r)) G S T := by
  refine Ct.ofB rfl (Nat.le_of_ble_eq_true rfl) rfl (fun K g e hK => ?_)
  obtain ⟨rfl, -⟩ := hK
  show Xj K [] G 0 [some (.ref a0), some (.int a1)] [] S T 0 0
  unfold f_X5_valueAt at h
  refine x_iload_n 1 g dX5_valueAt_0 rfl rfl ?_
  refine x_if_lt 16 g dX5_valueAt_1 (by decide) (fun c_1 => ?_) (fun c_1 => ?_)
  · have h := ite_t c_1 h
    refine x_iconst (v := 0) g dX5_valueAt_16 (by decide) ?_
    cases h
    exact x_iretS g e dX5_valueAt_17 rfl rfl
  · have h := ite_f c_1 h
    refine x_iload_n 1 g dX5_valueAt_4 rfl rfl ?_
    refine x_aload_n 0 g dX5_valueAt_5 rfl rfl ?_
    obtain ⟨q_2, h⟩ := gd_e h
    refine x_leni g dX5_valueAt_6 q_2 ?_
    refine x_icmp_ge 16 g dX5_valueAt_7 (by decide) (fun c_3 => ?_) (fun c_3 => ?_)
    · have h := ite_t c_3 h
      refine x_iconst (v := 0) g dX5_valueAt_16 (by decide) ?_
      cases h
      exact x_iretS g e dX5_valueAt_17 rfl rfl
    · have h := ite_f c_3 h
      refine x_aload_n 0 g dX5_valueAt_10 rfl rfl ?_
      refine x_iload_n 1 g dX5_valueAt_11 rfl rfl ?_
      obtain ⟨q_4, h⟩ := gd_e h
      refine x_iald g dX5_valueAt_12 q_2 q_4 ?_
      refine x_goto 17 g dX5_valueAt_13 (by decide) ?_
      cases h
      exact x_iretS g e dX5_valueAt_17 rfl rfl
noncomputable def f_X4_opensIn (G : gG) (a0 : Nat) (a1 : Int32) (S : gS) : Option Bool := gb (f_X5_caseInSituation a1 true) fun (r_2 : Int32) => gb (f_X5_caseInSituation a1 false) fun (r_4 : Int32) => gd (gis G 1 a0) <| gb (gP S 3 a0) fun (b_6 : Nat) => gb (f_X5_valueAt G b_6 r_2 S) fun (r_9 : Int32) => gb (gP S 3 a0) fun (b_10 : Nat) => gb (f_X5_valueAt G b_10 r_4 S) fun (r_13 : Int32) => if r_9 = 0 then (if r_9 ≤ 0 then (some false) else (some true)) else (if r_13 = 0 then (if r_9 ≤ 0 then (some false) else (some true)) else (gb (gP S 4 a0) fun (b_17 : Nat) => gb (f_X5_valueAt G b_17 r_2 S) fun (r_20 : Int32) => gb (gP S 4 a0) fun (b_21 : Nat) => gb (f_X5_valueAt G b_21 r_4 S) fun (r_24 : Int32) => if (r_20 * r_13) ≤ (r_24 * r_9) then (some false) else (some true)))
set_option maxRecDepth 100000 in
set_option maxHeartbeats 4000000 in
theorem k_X4_opensIn {ad : Nat → Nat} {G : gG} {a0 : Nat} {a1 : Int32} {S : gS} {T : gT} {r : Bool} (h : f_X4_opensIn G a0 a1 S = some r) : Ct ad yX4_opensIn (Cond.code yX4_opensIn cX4_opensIn 6 (some .boolean) :: gTb) 1 0 0 [.ref a0, .int a1] G S T (some (.int (gz r))) G S T := by
  refine Ct.ofB rfl (Nat.le_of_ble_eq_true rfl) rfl (fun K g e hK => ?_)
  obtain ⟨rfl, -⟩ := hK
  show Xj K [] G 0 [some (.ref a0), some (.int a1), none, none, none, none] [] S T 0 0
  unfold f_X4_opensIn at h
  refine x_iload_n 1 g dX4_opensIn_0 rfl rfl ?_
  refine x_iconst (v := 1) g dX4_opensIn_1 (by decide) ?_
  obtain ⟨r_2, q_1, h⟩ := gb_e h
  refine x_cN [.int r_2] g (k_X5_caseInSituation q_1) ca_X5_caseInSituation st_X5_caseInSituation ln_X4_53 (Nat.le_of_ble_eq_true rfl) rfl rfl (Nat.le_of_ble_eq_true rfl) dX4_opensIn_2 rfl ?_
  refine x_istore_n 2 g dX4_opensIn_5 rfl (Nat.le_of_ble_eq_true rfl) rfl ?_
  refine x_iload_n 1 g dX4_opensIn_6 rfl rfl ?_
  refine x_iconst (v := 0) g dX4_opensIn_7 (by decide) ?_
  obtain ⟨r_4, q_3, h⟩ := gb_e h
  refine x_cN [.int r_4] g (k_X5_caseInSituation q_3) ca_X5_caseInSituation st_X5_caseInSituation ln_X4_53 (Nat.le_of_ble_eq_true rfl) rfl rfl (Nat.le_of_ble_eq_true rfl) dX4_opensIn_8 rfl ?_
  refine x_istore_n 3 g dX4_opensIn_11 rfl (Nat.le_of_ble_eq_true rfl) rfl ?_
  refine x_aload_n 0 g dX4_opensIn_12 rfl rfl ?_
  obtain ⟨q_5, h⟩ := gd_e h
  obtain ⟨b_6, e_7, h⟩ := gb_e h
  refine x_getr g dX4_opensIn_13 gXX4 2 3 rfl (by decide) rfl lf_X4_18 q_5 e_7 ?_
  refine x_iload_n 2 g dX4_opensIn_16 rfl rfl ?_
  obtain ⟨r_9, q_8, h⟩ := gb_e h
  refine x_cN [.int r_9] g (k_X5_valueAt q_8) ca_X5_valueAt st_X5_valueAt ln_X4_57 (Nat.le_of_ble_eq_true rfl) rfl rfl (Nat.le_of_ble_eq_true rfl) dX4_opensIn_17 rfl ?_
  refine x_istore (i := 4) g dX4_opensIn_20 (Nat.le_of_ble_eq_true rfl) rfl ?_
  refine x_aload_n 0 g dX4_opensIn_22 rfl rfl ?_
  obtain ⟨b_10, e_11, h⟩ := gb_e h
  refine x_getr g dX4_opensIn_23 gXX4 2 3 rfl (by decide) rfl lf_X4_18 q_5 e_11 ?_
  refine x_iload_n 3 g dX4_opensIn_26 rfl rfl ?_
  obtain ⟨r_13, q_12, h⟩ := gb_e h
  refine x_cN [.int r_13] g (k_X5_valueAt q_12) ca_X5_valueAt st_X5_valueAt ln_X4_57 (Nat.le_of_ble_eq_true rfl) rfl rfl (Nat.le_of_ble_eq_true rfl) dX4_opensIn_27 rfl ?_
  refine x_istore (i := 5) g dX4_opensIn_30 (Nat.le_of_ble_eq_true rfl) rfl ?_
  refine x_iload (i := 4) g dX4_opensIn_32 rfl ?_
  refine x_if_eq 42 g dX4_opensIn_34 (by decide) (fun c_14 => ?_) (fun c_14 => ?_)
  · have h := ite_t c_14 h
    refine x_iload (i := 4) g dX4_opensIn_42 rfl ?_
    refine x_if_le 51 g dX4_opensIn_44 (by decide) (fun c_15 => ?_) (fun c_15 => ?_)
    · have h := ite_t c_15 h
      refine x_iconst (v := 0) g dX4_opensIn_51 (by decide) ?_
      cases h
      exact x_zretS (b := false) g e dX4_opensIn_52 rfl rfl rfl
    · have h := ite_f c_15 h
      refine x_iconst (v := 1) g dX4_opensIn_47 (by decide) ?_
      refine x_goto 52 g dX4_opensIn_48 (by decide) ?_
      cases h
      exact x_zretS (b := true) g e dX4_opensIn_52 rfl rfl rfl
  · have h := ite_f c_14 h
    refine x_iload (i := 5) g dX4_opensIn_37 rfl ?_
    refine x_if_ne 53 g dX4_opensIn_39 (by decide) (fun c_16 => ?_) (fun c_16 => ?_)
    · have h := ite_f c_16 h
      refine x_aload_n 0 g dX4_opensIn_53 rfl rfl ?_
      obtain ⟨b_17, e_18, h⟩ := gb_e h
      refine x_getr g dX4_opensIn_54 gXX4 3 4 rfl (by decide) rfl lf_X4_21 q_5 e_18 ?_
      refine x_iload_n 2 g dX4_opensIn_57 rfl rfl ?_
      obtain ⟨r_20, q_19, h⟩ := gb_e h
      refine x_cN [.int r_20] g (k_X5_valueAt q_19) ca_X5_valueAt st_X5_valueAt ln_X4_57 (Nat.le_of_ble_eq_true rfl) rfl rfl (Nat.le_of_ble_eq_true rfl) dX4_opensIn_58 rfl ?_
      refine x_iload (i := 5) g dX4_opensIn_61 rfl ?_
      refine x_imul g dX4_opensIn_63 ?_
      refine x_aload_n 0 g dX4_opensIn_64 rfl rfl ?_
      obtain ⟨b_21, e_22, h⟩ := gb_e h
      refine x_getr g dX4_opensIn_65 gXX4 3 4 rfl (by decide) rfl lf_X4_21 q_5 e_22 ?_
      refine x_iload_n 3 g dX4_opensIn_68 rfl rfl ?_
      obtain ⟨r_24, q_23, h⟩ := gb_e h
      refine x_cN [.int r_24, .int (r_20 * r_13)] g (k_X5_valueAt q_23) ca_X5_valueAt st_X5_valueAt ln_X4_57 (Nat.le_of_ble_eq_true rfl) rfl rfl (Nat.le_of_ble_eq_true rfl) dX4_opensIn_69 rfl ?_
      refine x_iload (i := 4) g dX4_opensIn_72 rfl ?_
      refine x_imul g dX4_opensIn_74 ?_
      refine x_icmp_le 82 g dX4_opensIn_75 (by decide) (fun c_25 => ?_) (fun c_25 => ?_)
      · have h := ite_t c_25 h
        refine x_iconst (v := 0) g dX4_opensIn_82 (by decide) ?_
        cases h
        exact x_zretS (b := false) g e dX4_opensIn_83 rfl rfl rfl
      · have h := ite_f c_25 h
        refine x_iconst (v := 1) g dX4_opensIn_78 (by decide) ?_
        refine x_goto 83 g dX4_opensIn_79 (by decide) ?_
        cases h
        exact x_zretS (b := true) g e dX4_opensIn_83 rfl rfl rfl
    · have h := ite_t c_16 h
      refine x_iload (i := 4) g dX4_opensIn_42 rfl ?_
      refine x_if_le 51 g dX4_opensIn_44 (by decide) (fun c_26 => ?_) (fun c_26 => ?_)
      · have h := ite_t c_26 h
        refine x_iconst (v := 0) g dX4_opensIn_51 (by decide) ?_
        cases h
        exact x_zretS (b := false) g e dX4_opensIn_52 rfl rfl rfl
      · have h := ite_f c_26 h
        refine x_iconst (v := 1) g dX4_opensIn_47 (by decide) ?_
        refine x_goto 52 g dX4_opensIn_48 (by decide) ?_
        cases h
        exact x_zretS (b := true) g e dX4_opensIn_52 rfl rfl rfl
noncomputable def f_X4_willExplore (G : gG) (a0 : Nat) (S : gS) : Option Bool := gd (gis G 1 a0) <| if (gI S 11 a0) ≤ 0 then (some false) else (gd (¬ (gI S 11 a0) = (0 : Int32)) <| if (((gI S 12 a0) + 1) - ((gI S 12 a0) + 1) / (gI S 11 a0) * (gI S 11 a0)) = 0 then (some true) else (some false))
set_option maxRecDepth 100000 in
set_option maxHeartbeats 4000000 in
theorem k_X4_willExplore {ad : Nat → Nat} {G : gG} {a0 : Nat} {S : gS} {T : gT} {r : Bool} (h : f_X4_willExplore G a0 S = some r) : Ct ad yX4_willExplore (Cond.code yX4_willExplore cX4_willExplore 1 (some .boolean) :: gTb) 0 0 0 [.ref a0] G S T (some (.int (gz r))) G S T := by
  refine Ct.ofB rfl (Nat.le_of_ble_eq_true rfl) rfl (fun K g e hK => ?_)
  obtain ⟨rfl, -⟩ := hK
  show Xj K [] G 0 [some (.ref a0)] [] S T 0 0
  unfold f_X4_willExplore at h
  refine x_aload_n 0 g dX4_willExplore_0 rfl rfl ?_
  obtain ⟨q_1, h⟩ := gd_e h
  refine x_geti g dX4_willExplore_1 gXX4 5 11 rfl (by decide) rfl lf_X4_28 q_1 ?_
  refine x_if_le 25 g dX4_willExplore_4 (by decide) (fun c_2 => ?_) (fun c_2 => ?_)
  · have h := ite_t c_2 h
    refine x_iconst (v := 0) g dX4_willExplore_25 (by decide) ?_
    cases h
    exact x_zretS (b := false) g e dX4_willExplore_26 rfl rfl rfl
  · have h := ite_f c_2 h
    refine x_aload_n 0 g dX4_willExplore_7 rfl rfl ?_
    refine x_geti g dX4_willExplore_8 gXX4 6 12 rfl (by decide) rfl lf_X4_31 q_1 ?_
    refine x_iconst (v := 1) g dX4_willExplore_11 (by decide) ?_
    refine x_iadd g dX4_willExplore_12 ?_
    refine x_aload_n 0 g dX4_willExplore_13 rfl rfl ?_
    refine x_geti g dX4_willExplore_14 gXX4 5 11 rfl (by decide) rfl lf_X4_28 q_1 ?_
    obtain ⟨q_3, h⟩ := gd_e h
    refine x_irem g dX4_willExplore_17 q_3 ?_
    refine x_if_ne 25 g dX4_willExplore_18 (by decide) (fun c_4 => ?_) (fun c_4 => ?_)
    · have h := ite_f c_4 h
      refine x_iconst (v := 0) g dX4_willExplore_25 (by decide) ?_
      cases h
      exact x_zretS (b := false) g e dX4_willExplore_26 rfl rfl rfl
    · have h := ite_t c_4 h
      refine x_iconst (v := 1) g dX4_willExplore_21 (by decide) ?_
      refine x_goto 26 g dX4_willExplore_22 (by decide) ?_
      cases h
      exact x_zretS (b := true) g e dX4_willExplore_26 rfl rfl rfl
noncomputable def f_X5_addAt (G : gG) (a0 : Nat) (a1 : Int32) (a2 : Int32) (S : gS) : Option gS := if a1 < 0 then (some S) else (gd (gis G 7 a0) <| if (Int32.ofNat (gn G a0)) ≤ a1 then (some S) else (gd (vp_in a1 (gn G a0)) <| gd (vp_in a1 (gn G a0)) <| glt (sr S a0 (Int32.toNatClampNeg a1) ((gr S a0 (Int32.toNatClampNeg a1)) + a2)) fun (S_6 : gS) => some S_6))
set_option maxRecDepth 100000 in
set_option maxHeartbeats 4000000 in
theorem k_X5_addAt {ad : Nat → Nat} {G : gG} {a0 : Nat} {a1 : Int32} {a2 : Int32} {S S1 : gS} {T : gT} (h : f_X5_addAt G a0 a1 a2 S = some S1) : Ct ad yX5_addAt (Cond.code yX5_addAt cX5_addAt 3 none :: gTb) 0 0 0 [.ref a0, .int a1, .int a2] G S T none G S1 T := by
  refine Ct.ofB rfl (Nat.le_of_ble_eq_true rfl) rfl (fun K g e hK => ?_)
  obtain ⟨rfl, -⟩ := hK
  show Xj K [] G 0 [some (.ref a0), some (.int a1), some (.int a2)] [] S T 0 0
  unfold f_X5_addAt at h
  refine x_iload_n 1 g dX5_addAt_0 rfl rfl ?_
  refine x_if_lt 17 g dX5_addAt_1 (by decide) (fun c_1 => ?_) (fun c_1 => ?_)
  · have h := ite_t c_1 h
    cases h
    exact x_vretS g e dX5_addAt_17 rfl
  · have h := ite_f c_1 h
    refine x_iload_n 1 g dX5_addAt_4 rfl rfl ?_
    refine x_aload_n 0 g dX5_addAt_5 rfl rfl ?_
    obtain ⟨q_2, h⟩ := gd_e h
    refine x_leni g dX5_addAt_6 q_2 ?_
    refine x_icmp_ge 17 g dX5_addAt_7 (by decide) (fun c_3 => ?_) (fun c_3 => ?_)
    · have h := ite_t c_3 h
      cases h
      exact x_vretS g e dX5_addAt_17 rfl
    · have h := ite_f c_3 h
      refine x_aload_n 0 g dX5_addAt_10 rfl rfl ?_
      refine x_iload_n 1 g dX5_addAt_11 rfl rfl ?_
      refine x_dup2 g dX5_addAt_12 rfl rfl ?_
      obtain ⟨q_4, h⟩ := gd_e h
      refine x_iald g dX5_addAt_13 q_2 q_4 ?_
      refine x_iload_n 2 g dX5_addAt_14 rfl rfl ?_
      refine x_iadd g dX5_addAt_15 ?_
      obtain ⟨q_5, h⟩ := gd_e h
      refine x_iast g dX5_addAt_16 q_2 q_5 ?_
      refine x_nS (fun S_6 e_7 => ?_)
      have h := glt_e e_7 h
      cases h
      exact x_vretS g e dX5_addAt_17 rfl
noncomputable def f_X4_countCase (G : gG) (a0 : Nat) (a1 : Int32) (a2 : Int32) (a3 : Int32) (S : gS) : Option gS := gd (gis G 1 a0) <| gb (gP S 3 a0) fun (b_2 : Nat) => gb (f_X5_addAt G b_2 a1 a2 S) fun (S_5 : gS) => gb (gP S_5 4 a0) fun (b_6 : Nat) => gb (f_X5_addAt G b_6 a1 a3 S_5) fun (S_9 : gS) => some S_9
set_option maxRecDepth 100000 in
set_option maxHeartbeats 4000000 in
theorem k_X4_countCase {ad : Nat → Nat} {G : gG} {a0 : Nat} {a1 : Int32} {a2 : Int32} {a3 : Int32} {S S1 : gS} {T : gT} (h : f_X4_countCase G a0 a1 a2 a3 S = some S1) : Ct ad yX4_countCase (Cond.code yX4_countCase cX4_countCase 4 none :: gTb) 1 0 0 [.ref a0, .int a1, .int a2, .int a3] G S T none G S1 T := by
  refine Ct.ofB rfl (Nat.le_of_ble_eq_true rfl) rfl (fun K g e hK => ?_)
  obtain ⟨rfl, -⟩ := hK
  show Xj K [] G 0 [some (.ref a0), some (.int a1), some (.int a2), some (.int a3)] [] S T 0 0
  unfold f_X4_countCase at h
  refine x_aload_n 0 g dX4_countCase_0 rfl rfl ?_
  obtain ⟨q_1, h⟩ := gd_e h
  obtain ⟨b_2, e_3, h⟩ := gb_e h
  refine x_getr g dX4_countCase_1 gXX4 2 3 rfl (by decide) rfl lf_X4_18 q_1 e_3 ?_
  refine x_iload_n 1 g dX4_countCase_4 rfl rfl ?_
  refine x_iload_n 2 g dX4_countCase_5 rfl rfl ?_
  obtain ⟨S_5, q_4, h⟩ := gb_e h
  refine x_cN [] g (k_X5_addAt q_4) ca_X5_addAt st_X5_addAt ln_X4_73 (Nat.le_of_ble_eq_true rfl) rfl rfl (Nat.le_of_ble_eq_true rfl) dX4_countCase_6 rfl ?_
  refine x_aload_n 0 g dX4_countCase_9 rfl rfl ?_
  obtain ⟨b_6, e_7, h⟩ := gb_e h
  refine x_getr g dX4_countCase_10 gXX4 3 4 rfl (by decide) rfl lf_X4_21 q_1 e_7 ?_
  refine x_iload_n 1 g dX4_countCase_13 rfl rfl ?_
  refine x_iload_n 3 g dX4_countCase_14 rfl rfl ?_
  obtain ⟨S_9, q_8, h⟩ := gb_e h
  refine x_cN [] g (k_X5_addAt q_8) ca_X5_addAt st_X5_addAt ln_X4_73 (Nat.le_of_ble_eq_true rfl) rfl rfl (Nat.le_of_ble_eq_true rfl) dX4_countCase_15 rfl ?_
  cases h
  exact x_vretS g e dX4_countCase_18 rfl
noncomputable def f_X5_putAt (G : gG) (a0 : Nat) (a1 : Int32) (a2 : Int32) (S : gS) : Option gS := if a1 < 0 then (some S) else (gd (gis G 7 a0) <| if (Int32.ofNat (gn G a0)) ≤ a1 then (some S) else (gd (vp_in a1 (gn G a0)) <| glt (sr S a0 (Int32.toNatClampNeg a1) a2) fun (S_5 : gS) => some S_5))
set_option maxRecDepth 100000 in
set_option maxHeartbeats 4000000 in
theorem k_X5_putAt {ad : Nat → Nat} {G : gG} {a0 : Nat} {a1 : Int32} {a2 : Int32} {S S1 : gS} {T : gT} (h : f_X5_putAt G a0 a1 a2 S = some S1) : Ct ad yX5_putAt (Cond.code yX5_putAt cX5_putAt 3 none :: gTb) 0 0 0 [.ref a0, .int a1, .int a2] G S T none G S1 T := by
  refine Ct.ofB rfl (Nat.le_of_ble_eq_true rfl) rfl (fun K g e hK => ?_)
  obtain ⟨rfl, -⟩ := hK
  show Xj K [] G 0 [some (.ref a0), some (.int a1), some (.int a2)] [] S T 0 0
  unfold f_X5_putAt at h
  refine x_iload_n 1 g dX5_putAt_0 rfl rfl ?_
  refine x_if_lt 14 g dX5_putAt_1 (by decide) (fun c_1 => ?_) (fun c_1 => ?_)
  · have h := ite_t c_1 h
    cases h
    exact x_vretS g e dX5_putAt_14 rfl
  · have h := ite_f c_1 h
    refine x_iload_n 1 g dX5_putAt_4 rfl rfl ?_
    refine x_aload_n 0 g dX5_putAt_5 rfl rfl ?_
    obtain ⟨q_2, h⟩ := gd_e h
    refine x_leni g dX5_putAt_6 q_2 ?_
    refine x_icmp_ge 14 g dX5_putAt_7 (by decide) (fun c_3 => ?_) (fun c_3 => ?_)
    · have h := ite_t c_3 h
      cases h
      exact x_vretS g e dX5_putAt_14 rfl
    · have h := ite_f c_3 h
      refine x_aload_n 0 g dX5_putAt_10 rfl rfl ?_
      refine x_iload_n 1 g dX5_putAt_11 rfl rfl ?_
      refine x_iload_n 2 g dX5_putAt_12 rfl rfl ?_
      obtain ⟨q_4, h⟩ := gd_e h
      refine x_iast g dX5_putAt_13 q_2 q_4 ?_
      refine x_nS (fun S_5 e_6 => ?_)
      have h := glt_e e_6 h
      cases h
      exact x_vretS g e dX5_putAt_14 rfl
noncomputable def f_X4_makeRoom_L36 (G : gG) (a0 : Nat) : Nat → Int32 → gS → Option gS
  | 0, _, _ => none
  | n36 + 1, x1, S => gd (gis G 1 a0) <| if (gI S 13 a0) ≤ x1 then (glt (sI S 13 a0 ((gI S 13 a0) - 1)) fun (S_15 : gS) => some S_15) else (gb (gP S 1 a0) fun (b_17 : Nat) => gb (gP S 1 a0) fun (b_19 : Nat) => gb (f_X5_valueAt G b_19 x1 S) fun (r_22 : Int32) => gb (f_X5_putAt G b_17 (x1 - 1) r_22 S) fun (S_24 : gS) => gb (gP S_24 2 a0) fun (b_25 : Nat) => gb (gP S_24 2 a0) fun (b_27 : Nat) => gb (f_X5_valueAt G b_27 x1 S_24) fun (r_30 : Int32) => gb (f_X5_putAt G b_25 (x1 - 1) r_30 S_24) fun (S_32 : gS) => glt (x1 + 1) fun (x1_33 : Int32) => f_X4_makeRoom_L36 G a0 n36 x1_33 S_32)
noncomputable def f_X4_makeRoom (G : gG) (a0 : Nat) (S : gS) : Option gS := gd (gis G 1 a0) <| if (gI S 10 a0) ≤ (gI S 13 a0) then (gb (gP S 1 a0) fun (b_3 : Nat) => gb (f_X5_valueAt G b_3 0 S) fun (r_6 : Int32) => gb (gP S 2 a0) fun (b_7 : Nat) => gb (f_X5_valueAt G b_7 0 S) fun (r_10 : Int32) => gb (f_X4_countCase G a0 r_6 (-1) (-r_10) S) fun (S_12 : gS) => f_X4_makeRoom_L36 G a0 gN 1 S_12) else (some S)
set_option maxRecDepth 100000 in
set_option maxHeartbeats 4000000 in
theorem k_X4_makeRoom {ad : Nat → Nat} {G : gG} {a0 : Nat} {S S1 : gS} {T : gT} (h : f_X4_makeRoom G a0 S = some S1) : Ct ad yX4_makeRoom (Cond.code yX4_makeRoom cX4_makeRoom 2 none :: gTb) 2 0 0 [.ref a0] G S T none G S1 T := by
  refine Ct.ofB rfl (Nat.le_of_ble_eq_true rfl) rfl (fun K g e hK => ?_)
  obtain ⟨rfl, -⟩ := hK
  show Xj K [] G 0 [some (.ref a0), none] [] S T 0 0
  unfold f_X4_makeRoom at h
  refine x_aload_n 0 g dX4_makeRoom_0 rfl rfl ?_
  obtain ⟨q_1, h⟩ := gd_e h
  refine x_geti g dX4_makeRoom_1 gXX4 7 13 rfl (by decide) rfl lf_X4_34 q_1 ?_
  refine x_aload_n 0 g dX4_makeRoom_4 rfl rfl ?_
  refine x_geti g dX4_makeRoom_5 gXX4 4 10 rfl (by decide) rfl lf_X4_24 q_1 ?_
  refine x_icmp_ge 12 g dX4_makeRoom_8 (by decide) (fun c_2 => ?_) (fun c_2 => ?_)
  · have h := ite_t c_2 h
    refine x_aload_n 0 g dX4_makeRoom_12 rfl rfl ?_
    refine x_aload_n 0 g dX4_makeRoom_13 rfl rfl ?_
    obtain ⟨b_3, e_4, h⟩ := gb_e h
    refine x_getr g dX4_makeRoom_14 gXX4 0 1 rfl (by decide) rfl lf_X4_9 q_1 e_4 ?_
    refine x_iconst (v := 0) g dX4_makeRoom_17 (by decide) ?_
    obtain ⟨r_6, q_5, h⟩ := gb_e h
    refine x_cN [.int r_6, .ref a0] g (k_X5_valueAt q_5) ca_X5_valueAt st_X5_valueAt ln_X4_57 (Nat.le_of_ble_eq_true rfl) rfl rfl (Nat.le_of_ble_eq_true rfl) dX4_makeRoom_18 rfl ?_
    refine x_iconst (v := (-1)) g dX4_makeRoom_21 (by decide) ?_
    refine x_aload_n 0 g dX4_makeRoom_22 rfl rfl ?_
    obtain ⟨b_7, e_8, h⟩ := gb_e h
    refine x_getr g dX4_makeRoom_23 gXX4 1 2 rfl (by decide) rfl lf_X4_15 q_1 e_8 ?_
    refine x_iconst (v := 0) g dX4_makeRoom_26 (by decide) ?_
    obtain ⟨r_10, q_9, h⟩ := gb_e h
    refine x_cN [.int r_10, .int (-1), .int r_6, .ref a0] g (k_X5_valueAt q_9) ca_X5_valueAt st_X5_valueAt ln_X4_57 (Nat.le_of_ble_eq_true rfl) rfl rfl (Nat.le_of_ble_eq_true rfl) dX4_makeRoom_27 rfl ?_
    refine x_ineg g dX4_makeRoom_30 ?_
    obtain ⟨S_12, q_11, h⟩ := gb_e h
    refine x_cV [] g (k_X4_countCase q_11) ca_X4_countCase in_X4_countCase se_X4_countCase lm_X4_65 gXX4 q_1 (Nat.le_of_ble_eq_true rfl) rfl rfl (Nat.le_of_ble_eq_true rfl) dX4_makeRoom_31 rfl ?_
    refine x_iconst (v := 1) g dX4_makeRoom_34 (by decide) ?_
    refine x_istore_n 1 g dX4_makeRoom_35 rfl (Nat.le_of_ble_eq_true rfl) rfl ?_
    have L36 : ∀ (n36 : Nat) (x1 : Int32) (S : gS), f_X4_makeRoom_L36 G a0 n36 x1 S = some S1 → Xj K [] G 36 [some (.ref a0), some (.int x1)] [] S T 0 0 := by
      intro n36
      induction n36 with
      | zero =>
        intro x1 S h
        rw [f_X4_makeRoom_L36] at h
        cases h
      | succ n36 ih =>
        intro x1 S h
        rw [f_X4_makeRoom_L36] at h
        refine x_iload_n 1 g dX4_makeRoom_36 rfl rfl ?_
        refine x_aload_n 0 g dX4_makeRoom_37 rfl rfl ?_
        obtain ⟨q_13, h⟩ := gd_e h
        refine x_geti g dX4_makeRoom_38 gXX4 7 13 rfl (by decide) rfl lf_X4_34 q_13 ?_
        refine x_icmp_ge 86 g dX4_makeRoom_41 (by decide) (fun c_14 => ?_) (fun c_14 => ?_)
        · have h := ite_t c_14 h
          refine x_aload_n 0 g dX4_makeRoom_86 rfl rfl ?_
          refine x_dup g dX4_makeRoom_87 rfl ?_
          refine x_geti g dX4_makeRoom_88 gXX4 7 13 rfl (by decide) rfl lf_X4_34 q_13 ?_
          refine x_iconst (v := 1) g dX4_makeRoom_91 (by decide) ?_
          refine x_isub g dX4_makeRoom_92 ?_
          refine x_puti g dX4_makeRoom_93 gXX4 7 13 rfl (by decide) rfl rfl lf_X4_34 rfl rfl q_13 ?_
          refine x_nS (fun S_15 e_16 => ?_)
          have h := glt_e e_16 h
          cases h
          exact x_vretS g e dX4_makeRoom_96 rfl
        · have h := ite_f c_14 h
          refine x_aload_n 0 g dX4_makeRoom_44 rfl rfl ?_
          obtain ⟨b_17, e_18, h⟩ := gb_e h
          refine x_getr g dX4_makeRoom_45 gXX4 0 1 rfl (by decide) rfl lf_X4_9 q_13 e_18 ?_
          refine x_iload_n 1 g dX4_makeRoom_48 rfl rfl ?_
          refine x_iconst (v := 1) g dX4_makeRoom_49 (by decide) ?_
          refine x_isub g dX4_makeRoom_50 ?_
          refine x_aload_n 0 g dX4_makeRoom_51 rfl rfl ?_
          obtain ⟨b_19, e_20, h⟩ := gb_e h
          refine x_getr g dX4_makeRoom_52 gXX4 0 1 rfl (by decide) rfl lf_X4_9 q_13 e_20 ?_
          refine x_iload_n 1 g dX4_makeRoom_55 rfl rfl ?_
          obtain ⟨r_22, q_21, h⟩ := gb_e h
          refine x_cN [.int r_22, .int (x1 - 1), .ref b_17] g (k_X5_valueAt q_21) ca_X5_valueAt st_X5_valueAt ln_X4_57 (Nat.le_of_ble_eq_true rfl) rfl rfl (Nat.le_of_ble_eq_true rfl) dX4_makeRoom_56 rfl ?_
          obtain ⟨S_24, q_23, h⟩ := gb_e h
          refine x_cN [] g (k_X5_putAt q_23) ca_X5_putAt st_X5_putAt ln_X4_61 (Nat.le_of_ble_eq_true rfl) rfl rfl (Nat.le_of_ble_eq_true rfl) dX4_makeRoom_59 rfl ?_
          refine x_aload_n 0 g dX4_makeRoom_62 rfl rfl ?_
          obtain ⟨b_25, e_26, h⟩ := gb_e h
          refine x_getr g dX4_makeRoom_63 gXX4 1 2 rfl (by decide) rfl lf_X4_15 q_13 e_26 ?_
          refine x_iload_n 1 g dX4_makeRoom_66 rfl rfl ?_
          refine x_iconst (v := 1) g dX4_makeRoom_67 (by decide) ?_
          refine x_isub g dX4_makeRoom_68 ?_
          refine x_aload_n 0 g dX4_makeRoom_69 rfl rfl ?_
          obtain ⟨b_27, e_28, h⟩ := gb_e h
          refine x_getr g dX4_makeRoom_70 gXX4 1 2 rfl (by decide) rfl lf_X4_15 q_13 e_28 ?_
          refine x_iload_n 1 g dX4_makeRoom_73 rfl rfl ?_
          obtain ⟨r_30, q_29, h⟩ := gb_e h
          refine x_cN [.int r_30, .int (x1 - 1), .ref b_25] g (k_X5_valueAt q_29) ca_X5_valueAt st_X5_valueAt ln_X4_57 (Nat.le_of_ble_eq_true rfl) rfl rfl (Nat.le_of_ble_eq_true rfl) dX4_makeRoom_74 rfl ?_
          obtain ⟨S_32, q_31, h⟩ := gb_e h
          refine x_cN [] g (k_X5_putAt q_31) ca_X5_putAt st_X5_putAt ln_X4_61 (Nat.le_of_ble_eq_true rfl) rfl rfl (Nat.le_of_ble_eq_true rfl) dX4_makeRoom_77 rfl ?_
          obtain ⟨x1_33, e_34⟩ : ∃ z : Int32, z = x1 + 1 := ⟨_, rfl⟩
          have h := glt_e e_34 h
          refine x_iinc (v := x1_33) g dX4_makeRoom_80 rfl (by rw [e_34]; rfl) rfl ?_
          refine x_goto 36 g dX4_makeRoom_83 (by decide) ?_
          exact ih _ _ h
    exact L36 gN _ _ h
  · have h := ite_f c_2 h
    cases h
    exact x_vretS g e dX4_makeRoom_11 rfl
noncomputable def f_X4_enterTrial (G : gG) (a0 : Nat) (a1 : Int32) (a2 : Int32) (S : gS) : Option gS := gd (gis G 1 a0) <| glt (sI S 12 a0 ((gI S 12 a0) + 1)) fun (S_2 : gS) => glt (sI S_2 14 a0 ((gI S_2 14 a0) + a2)) fun (S_4 : gS) => glt (sI S_4 15 a0 ((gI S_4 15 a0) + a2)) fun (S_6 : gS) => gb (gP S_6 1 a0) fun (b_8 : Nat) => gb (f_X5_putAt G b_8 (gI S_6 13 a0) a1 S_6) fun (S_11 : gS) => gb (gP S_11 2 a0) fun (b_12 : Nat) => gb (f_X5_putAt G b_12 (gI S_11 13 a0) a2 S_11) fun (S_15 : gS) => glt (sI S_15 13 a0 ((gI S_15 13 a0) + 1)) fun (S_16 : gS) => gb (f_X4_countCase G a0 a1 1 a2 S_16) fun (S_19 : gS) => some S_19
set_option maxRecDepth 100000 in
set_option maxHeartbeats 4000000 in
theorem k_X4_enterTrial {ad : Nat → Nat} {G : gG} {a0 : Nat} {a1 : Int32} {a2 : Int32} {S S1 : gS} {T : gT} (h : f_X4_enterTrial G a0 a1 a2 S = some S1) : Ct ad yX4_enterTrial (Cond.code yX4_enterTrial cX4_enterTrial 3 none :: gTb) 2 0 0 [.ref a0, .int a1, .int a2] G S T none G S1 T := by
  refine Ct.ofB rfl (Nat.le_of_ble_eq_true rfl) rfl (fun K g e hK => ?_)
  obtain ⟨rfl, -⟩ := hK
  show Xj K [] G 0 [some (.ref a0), some (.int a1), some (.int a2)] [] S T 0 0
  unfold f_X4_enterTrial at h
  refine x_aload_n 0 g dX4_enterTrial_0 rfl rfl ?_
  refine x_dup g dX4_enterTrial_1 rfl ?_
  obtain ⟨q_1, h⟩ := gd_e h
  refine x_geti g dX4_enterTrial_2 gXX4 6 12 rfl (by decide) rfl lf_X4_31 q_1 ?_
  refine x_iconst (v := 1) g dX4_enterTrial_5 (by decide) ?_
  refine x_iadd g dX4_enterTrial_6 ?_
  refine x_puti g dX4_enterTrial_7 gXX4 6 12 rfl (by decide) rfl rfl lf_X4_31 rfl rfl q_1 ?_
  refine x_nS (fun S_2 e_3 => ?_)
  have h := glt_e e_3 h
  refine x_aload_n 0 g dX4_enterTrial_10 rfl rfl ?_
  refine x_dup g dX4_enterTrial_11 rfl ?_
  refine x_geti g dX4_enterTrial_12 gXX4 8 14 rfl (by decide) rfl lf_X4_37 q_1 ?_
  refine x_iload_n 2 g dX4_enterTrial_15 rfl rfl ?_
  refine x_iadd g dX4_enterTrial_16 ?_
  refine x_puti g dX4_enterTrial_17 gXX4 8 14 rfl (by decide) rfl rfl lf_X4_37 rfl rfl q_1 ?_
  refine x_nS (fun S_4 e_5 => ?_)
  have h := glt_e e_5 h
  refine x_aload_n 0 g dX4_enterTrial_20 rfl rfl ?_
  refine x_dup g dX4_enterTrial_21 rfl ?_
  refine x_geti g dX4_enterTrial_22 gXX4 9 15 rfl (by decide) rfl lf_X4_40 q_1 ?_
  refine x_iload_n 2 g dX4_enterTrial_25 rfl rfl ?_
  refine x_iadd g dX4_enterTrial_26 ?_
  refine x_puti g dX4_enterTrial_27 gXX4 9 15 rfl (by decide) rfl rfl lf_X4_40 rfl rfl q_1 ?_
  refine x_nS (fun S_6 e_7 => ?_)
  have h := glt_e e_7 h
  refine x_aload_n 0 g dX4_enterTrial_30 rfl rfl ?_
  obtain ⟨b_8, e_9, h⟩ := gb_e h
  refine x_getr g dX4_enterTrial_31 gXX4 0 1 rfl (by decide) rfl lf_X4_9 q_1 e_9 ?_
  refine x_aload_n 0 g dX4_enterTrial_34 rfl rfl ?_
  refine x_geti g dX4_enterTrial_35 gXX4 7 13 rfl (by decide) rfl lf_X4_34 q_1 ?_
  refine x_iload_n 1 g dX4_enterTrial_38 rfl rfl ?_
  obtain ⟨S_11, q_10, h⟩ := gb_e h
  refine x_cN [] g (k_X5_putAt q_10) ca_X5_putAt st_X5_putAt ln_X4_61 (Nat.le_of_ble_eq_true rfl) rfl rfl (Nat.le_of_ble_eq_true rfl) dX4_enterTrial_39 rfl ?_
  refine x_aload_n 0 g dX4_enterTrial_42 rfl rfl ?_
  obtain ⟨b_12, e_13, h⟩ := gb_e h
  refine x_getr g dX4_enterTrial_43 gXX4 1 2 rfl (by decide) rfl lf_X4_15 q_1 e_13 ?_
  refine x_aload_n 0 g dX4_enterTrial_46 rfl rfl ?_
  refine x_geti g dX4_enterTrial_47 gXX4 7 13 rfl (by decide) rfl lf_X4_34 q_1 ?_
  refine x_iload_n 2 g dX4_enterTrial_50 rfl rfl ?_
  obtain ⟨S_15, q_14, h⟩ := gb_e h
  refine x_cN [] g (k_X5_putAt q_14) ca_X5_putAt st_X5_putAt ln_X4_61 (Nat.le_of_ble_eq_true rfl) rfl rfl (Nat.le_of_ble_eq_true rfl) dX4_enterTrial_51 rfl ?_
  refine x_aload_n 0 g dX4_enterTrial_54 rfl rfl ?_
  refine x_dup g dX4_enterTrial_55 rfl ?_
  refine x_geti g dX4_enterTrial_56 gXX4 7 13 rfl (by decide) rfl lf_X4_34 q_1 ?_
  refine x_iconst (v := 1) g dX4_enterTrial_59 (by decide) ?_
  refine x_iadd g dX4_enterTrial_60 ?_
  refine x_puti g dX4_enterTrial_61 gXX4 7 13 rfl (by decide) rfl rfl lf_X4_34 rfl rfl q_1 ?_
  refine x_nS (fun S_16 e_17 => ?_)
  have h := glt_e e_17 h
  refine x_aload_n 0 g dX4_enterTrial_64 rfl rfl ?_
  refine x_iload_n 1 g dX4_enterTrial_65 rfl rfl ?_
  refine x_iconst (v := 1) g dX4_enterTrial_66 (by decide) ?_
  refine x_iload_n 2 g dX4_enterTrial_67 rfl rfl ?_
  obtain ⟨S_19, q_18, h⟩ := gb_e h
  refine x_cV [] g (k_X4_countCase q_18) ca_X4_countCase in_X4_countCase se_X4_countCase lm_X4_65 gXX4 q_1 (Nat.le_of_ble_eq_true rfl) rfl rfl (Nat.le_of_ble_eq_true rfl) dX4_enterTrial_68 rfl ?_
  cases h
  exact x_vretS g e dX4_enterTrial_71 rfl
noncomputable def f_X1_enterReward (G : gG) (a0 : Nat) (a1 : Bool) (a2 : Int32) (S : gS) : Option gS := if (gz a1) = 0 then (gd (gis G 0 a0) <| glt (sI S 6 a0 ((gI S 6 a0) + a2)) fun (S_3 : gS) => some S_3) else (gd (gis G 0 a0) <| glt (sI S 4 a0 ((gI S 4 a0) + 1)) fun (S_6 : gS) => glt (sI S_6 5 a0 ((gI S_6 5 a0) + a2)) fun (S_8 : gS) => some S_8)
set_option maxRecDepth 100000 in
set_option maxHeartbeats 4000000 in
theorem k_X1_enterReward {ad : Nat → Nat} {G : gG} {a0 : Nat} {a1 : Bool} {a2 : Int32} {S S1 : gS} {T : gT} (h : f_X1_enterReward G a0 a1 a2 S = some S1) : Ct ad yX1_enterReward (Cond.code yX1_enterReward cX1_enterReward 3 none :: gTb) 0 0 0 [.ref a0, .int (gz a1), .int a2] G S T none G S1 T := by
  refine Ct.ofB rfl (Nat.le_of_ble_eq_true rfl) rfl (fun K g e hK => ?_)
  obtain ⟨rfl, -⟩ := hK
  show Xj K [] G 0 [some (.ref a0), some (.int (gz a1)), some (.int a2)] [] S T 0 0
  unfold f_X1_enterReward at h
  refine x_iload_n 1 g dX1_enterReward_0 rfl rfl ?_
  refine x_if_eq 27 g dX1_enterReward_1 (by decide) (fun c_1 => ?_) (fun c_1 => ?_)
  · have h := ite_t c_1 h
    refine x_aload_n 0 g dX1_enterReward_27 rfl rfl ?_
    refine x_dup g dX1_enterReward_28 rfl ?_
    obtain ⟨q_2, h⟩ := gd_e h
    refine x_geti g dX1_enterReward_29 gXX1 7 6 rfl (by decide) rfl lf_X1_36 q_2 ?_
    refine x_iload_n 2 g dX1_enterReward_32 rfl rfl ?_
    refine x_iadd g dX1_enterReward_33 ?_
    refine x_puti g dX1_enterReward_34 gXX1 7 6 rfl (by decide) rfl rfl lf_X1_36 rfl rfl q_2 ?_
    refine x_nS (fun S_3 e_4 => ?_)
    have h := glt_e e_4 h
    cases h
    exact x_vretS g e dX1_enterReward_37 rfl
  · have h := ite_f c_1 h
    refine x_aload_n 0 g dX1_enterReward_4 rfl rfl ?_
    refine x_dup g dX1_enterReward_5 rfl ?_
    obtain ⟨q_5, h⟩ := gd_e h
    refine x_geti g dX1_enterReward_6 gXX1 5 4 rfl (by decide) rfl lf_X1_30 q_5 ?_
    refine x_iconst (v := 1) g dX1_enterReward_9 (by decide) ?_
    refine x_iadd g dX1_enterReward_10 ?_
    refine x_puti g dX1_enterReward_11 gXX1 5 4 rfl (by decide) rfl rfl lf_X1_30 rfl rfl q_5 ?_
    refine x_nS (fun S_6 e_7 => ?_)
    have h := glt_e e_7 h
    refine x_aload_n 0 g dX1_enterReward_14 rfl rfl ?_
    refine x_dup g dX1_enterReward_15 rfl ?_
    refine x_geti g dX1_enterReward_16 gXX1 6 5 rfl (by decide) rfl lf_X1_33 q_5 ?_
    refine x_iload_n 2 g dX1_enterReward_19 rfl rfl ?_
    refine x_iadd g dX1_enterReward_20 ?_
    refine x_puti g dX1_enterReward_21 gXX1 6 5 rfl (by decide) rfl rfl lf_X1_33 rfl rfl q_5 ?_
    refine x_nS (fun S_8 e_9 => ?_)
    have h := glt_e e_9 h
    refine x_goto 37 g dX1_enterReward_24 (by decide) ?_
    cases h
    exact x_vretS g e dX1_enterReward_37 rfl
noncomputable def f_X1_teach_L13 (G : gG) (a0 : Nat) (a1 : Nat) (a2 : Int32) (a3 : Int32) (a4 : Int32) : Nat → Int32 → Int32 → Int32 → gS → Option (Int32 × gS)
  | 0, _, _, _, _ => none
  | n13 + 1, x5, x6, x7, S => if a4 ≤ x7 then (some (x6, S)) else (gd (gis G 1 a1) <| gb (f_X4_opensIn G a1 x5 S) fun (r_6 : Bool) => gb (f_X4_willExplore G a1 S) fun (r_8 : Bool) => if (gz r_6) = (gz r_8) then (gd (gis G 0 a0) <| gb (f_X1_rewardFor G a0 a2 a3 false S) fun (r_12 : Int32) => gb (f_X4_makeRoom G a1 S) fun (S_14 : gS) => gb (f_X5_caseInSituation x5 false) fun (r_16 : Int32) => gb (f_X4_enterTrial G a1 r_16 r_12 S_14) fun (S_18 : gS) => gb (f_X1_enterReward G a0 false r_12 S_18) fun (S_20 : gS) => glt (x6 + r_12) fun (x6_21 : Int32) => glt (x7 + 1) fun (x7_23 : Int32) => f_X1_teach_L13 G a0 a1 a2 a3 a4 n13 x5 x6_21 x7_23 S_20) else (gd (gis G 0 a0) <| gb (f_X1_rewardFor G a0 a2 a3 true S) fun (r_27 : Int32) => gb (f_X4_makeRoom G a1 S) fun (S_29 : gS) => gb (f_X5_caseInSituation x5 true) fun (r_31 : Int32) => gb (f_X4_enterTrial G a1 r_31 r_27 S_29) fun (S_33 : gS) => gb (f_X1_enterReward G a0 true r_27 S_33) fun (S_35 : gS) => glt (x6 + r_27) fun (x6_36 : Int32) => glt (x7 + 1) fun (x7_38 : Int32) => f_X1_teach_L13 G a0 a1 a2 a3 a4 n13 x5 x6_36 x7_38 S_35))
noncomputable def f_X1_teach (G : gG) (a0 : Nat) (a1 : Nat) (a2 : Int32) (a3 : Int32) (a4 : Int32) (S : gS) : Option (Int32 × gS) := gb (f_X5_situationOf a2 a3) fun (r_2 : Int32) => f_X1_teach_L13 G a0 a1 a2 a3 a4 gN r_2 0 0 S
set_option maxRecDepth 100000 in
set_option maxHeartbeats 4000000 in
theorem k_X1_teach {ad : Nat → Nat} {G : gG} {a0 : Nat} {a1 : Nat} {a2 : Int32} {a3 : Int32} {a4 : Int32} {S S1 : gS} {T : gT} {r : Int32} (h : f_X1_teach G a0 a1 a2 a3 a4 S = some (r, S1)) : Ct ad yX1_teach (Cond.code yX1_teach cX1_teach 10 (some .int) :: gTb) 3 0 0 [.ref a0, .ref a1, .int a2, .int a3, .int a4] G S T (some (.int r)) G S1 T := by
  refine Ct.ofB rfl (Nat.le_of_ble_eq_true rfl) rfl (fun K g e hK => ?_)
  obtain ⟨rfl, -⟩ := hK
  show Xj K [] G 0 [some (.ref a0), some (.ref a1), some (.int a2), some (.int a3), some (.int a4), none, none, none, none, none] [] S T 0 0
  unfold f_X1_teach at h
  refine x_iload_n 2 g dX1_teach_0 rfl rfl ?_
  refine x_iload_n 3 g dX1_teach_1 rfl rfl ?_
  obtain ⟨r_2, q_1, h⟩ := gb_e h
  refine x_cN [.int r_2] g (k_X5_situationOf q_1) ca_X5_situationOf st_X5_situationOf ln_X1_62 (Nat.le_of_ble_eq_true rfl) rfl rfl (Nat.le_of_ble_eq_true rfl) dX1_teach_2 rfl ?_
  refine x_istore (i := 5) g dX1_teach_5 (Nat.le_of_ble_eq_true rfl) rfl ?_
  refine x_iconst (v := 0) g dX1_teach_7 (by decide) ?_
  refine x_istore (i := 6) g dX1_teach_8 (Nat.le_of_ble_eq_true rfl) rfl ?_
  refine x_iconst (v := 0) g dX1_teach_10 (by decide) ?_
  refine x_istore (i := 7) g dX1_teach_11 (Nat.le_of_ble_eq_true rfl) rfl ?_
  have L13 : ∀ (n13 : Nat) (x5 : Int32) (x6 : Int32) (x7 : Int32) (S : gS), f_X1_teach_L13 G a0 a1 a2 a3 a4 n13 x5 x6 x7 S = some (r, S1) → Xj K [] G 13 [some (.ref a0), some (.ref a1), some (.int a2), some (.int a3), some (.int a4), some (.int x5), some (.int x6), some (.int x7), none, none] [] S T 0 0 := by
    intro n13
    induction n13 with
    | zero =>
      intro x5 x6 x7 S h
      rw [f_X1_teach_L13] at h
      cases h
    | succ n13 ih =>
      intro x5 x6 x7 S h
      rw [f_X1_teach_L13] at h
      refine x_iload (i := 7) g dX1_teach_13 rfl ?_
      refine x_iload (i := 4) g dX1_teach_15 rfl ?_
      refine x_icmp_ge 88 g dX1_teach_17 (by decide) (fun c_3 => ?_) (fun c_3 => ?_)
      · have h := ite_t c_3 h
        refine x_iload (i := 6) g dX1_teach_88 rfl ?_
        cases h
        exact x_iretS g e dX1_teach_90 rfl rfl
      · have h := ite_f c_3 h
        refine x_aload_n 1 g dX1_teach_20 rfl rfl ?_
        refine x_iload (i := 5) g dX1_teach_21 rfl ?_
        obtain ⟨q_4, h⟩ := gd_e h
        obtain ⟨r_6, q_5, h⟩ := gb_e h
        refine x_cV [.int (gz r_6)] g (k_X4_opensIn q_5) ca_X4_opensIn in_X4_opensIn se_X4_opensIn lm_X1_66 gXX4 q_4 (Nat.le_of_ble_eq_true rfl) rfl rfl (Nat.le_of_ble_eq_true rfl) dX1_teach_23 rfl ?_
        refine x_aload_n 1 g dX1_teach_26 rfl rfl ?_
        obtain ⟨r_8, q_7, h⟩ := gb_e h
        refine x_cV [.int (gz r_8), .int (gz r_6)] g (k_X4_willExplore q_7) ca_X4_willExplore in_X4_willExplore se_X4_willExplore lm_X1_70 gXX4 q_4 (Nat.le_of_ble_eq_true rfl) rfl rfl (Nat.le_of_ble_eq_true rfl) dX1_teach_27 rfl ?_
        refine x_icmp_eq 37 g dX1_teach_30 (by decide) (fun c_9 => ?_) (fun c_9 => ?_)
        · have h := ite_t c_9 h
          refine x_iconst (v := 0) g dX1_teach_37 (by decide) ?_
          refine x_istore (i := 8) g dX1_teach_38 (Nat.le_of_ble_eq_true rfl) rfl ?_
          refine x_aload_n 0 g dX1_teach_40 rfl rfl ?_
          refine x_iload_n 2 g dX1_teach_41 rfl rfl ?_
          refine x_iload_n 3 g dX1_teach_42 rfl rfl ?_
          refine x_iload (i := 8) g dX1_teach_43 rfl ?_
          obtain ⟨q_10, h⟩ := gd_e h
          obtain ⟨r_12, q_11, h⟩ := gb_e h
          refine x_cV [.int r_12] g (k_X1_rewardFor q_11) ca_X1_rewardFor in_X1_rewardFor se_X1_rewardFor lm_X1_58 gXX1 q_10 (Nat.le_of_ble_eq_true rfl) rfl rfl (Nat.le_of_ble_eq_true rfl) dX1_teach_45 rfl ?_
          refine x_istore (i := 9) g dX1_teach_48 (Nat.le_of_ble_eq_true rfl) rfl ?_
          refine x_aload_n 1 g dX1_teach_50 rfl rfl ?_
          obtain ⟨S_14, q_13, h⟩ := gb_e h
          refine x_cV [] g (k_X4_makeRoom q_13) ca_X4_makeRoom in_X4_makeRoom se_X4_makeRoom lm_X1_74 gXX4 q_4 (Nat.le_of_ble_eq_true rfl) rfl rfl (Nat.le_of_ble_eq_true rfl) dX1_teach_51 rfl ?_
          refine x_aload_n 1 g dX1_teach_54 rfl rfl ?_
          refine x_iload (i := 5) g dX1_teach_55 rfl ?_
          refine x_iload (i := 8) g dX1_teach_57 rfl ?_
          obtain ⟨r_16, q_15, h⟩ := gb_e h
          refine x_cN [.int r_16, .ref a1] g (k_X5_caseInSituation q_15) ca_X5_caseInSituation st_X5_caseInSituation ln_X1_77 (Nat.le_of_ble_eq_true rfl) rfl rfl (Nat.le_of_ble_eq_true rfl) dX1_teach_59 rfl ?_
          refine x_iload (i := 9) g dX1_teach_62 rfl ?_
          obtain ⟨S_18, q_17, h⟩ := gb_e h
          refine x_cV [] g (k_X4_enterTrial q_17) ca_X4_enterTrial in_X4_enterTrial se_X4_enterTrial lm_X1_81 gXX4 q_4 (Nat.le_of_ble_eq_true rfl) rfl rfl (Nat.le_of_ble_eq_true rfl) dX1_teach_64 rfl ?_
          refine x_aload_n 0 g dX1_teach_67 rfl rfl ?_
          refine x_iload (i := 8) g dX1_teach_68 rfl ?_
          refine x_iload (i := 9) g dX1_teach_70 rfl ?_
          obtain ⟨S_20, q_19, h⟩ := gb_e h
          refine x_cV [] g (k_X1_enterReward q_19) ca_X1_enterReward in_X1_enterReward se_X1_enterReward lm_X1_85 gXX1 q_10 (Nat.le_of_ble_eq_true rfl) rfl rfl (Nat.le_of_ble_eq_true rfl) dX1_teach_72 rfl ?_
          refine x_iload (i := 6) g dX1_teach_75 rfl ?_
          refine x_iload (i := 9) g dX1_teach_77 rfl ?_
          refine x_iadd g dX1_teach_79 ?_
          refine x_nI (fun x6_21 e_22 => ?_)
          have h := glt_e e_22 h
          refine x_istore (i := 6) g dX1_teach_80 (Nat.le_of_ble_eq_true rfl) rfl ?_
          obtain ⟨x7_23, e_24⟩ : ∃ z : Int32, z = x7 + 1 := ⟨_, rfl⟩
          have h := glt_e e_24 h
          refine x_iinc (v := x7_23) g dX1_teach_82 rfl (by rw [e_24]; rfl) rfl ?_
          refine x_goto 13 g dX1_teach_85 (by decide) ?_
          refine x_dr 8 ?_
          refine x_dr 9 ?_
          exact ih _ _ _ _ h
        · have h := ite_f c_9 h
          refine x_iconst (v := 1) g dX1_teach_33 (by decide) ?_
          refine x_goto 38 g dX1_teach_34 (by decide) ?_
          refine x_istore (i := 8) g dX1_teach_38 (Nat.le_of_ble_eq_true rfl) rfl ?_
          refine x_aload_n 0 g dX1_teach_40 rfl rfl ?_
          refine x_iload_n 2 g dX1_teach_41 rfl rfl ?_
          refine x_iload_n 3 g dX1_teach_42 rfl rfl ?_
          refine x_iload (i := 8) g dX1_teach_43 rfl ?_
          obtain ⟨q_25, h⟩ := gd_e h
          obtain ⟨r_27, q_26, h⟩ := gb_e h
          refine x_cV [.int r_27] g (k_X1_rewardFor q_26) ca_X1_rewardFor in_X1_rewardFor se_X1_rewardFor lm_X1_58 gXX1 q_25 (Nat.le_of_ble_eq_true rfl) rfl rfl (Nat.le_of_ble_eq_true rfl) dX1_teach_45 rfl ?_
          refine x_istore (i := 9) g dX1_teach_48 (Nat.le_of_ble_eq_true rfl) rfl ?_
          refine x_aload_n 1 g dX1_teach_50 rfl rfl ?_
          obtain ⟨S_29, q_28, h⟩ := gb_e h
          refine x_cV [] g (k_X4_makeRoom q_28) ca_X4_makeRoom in_X4_makeRoom se_X4_makeRoom lm_X1_74 gXX4 q_4 (Nat.le_of_ble_eq_true rfl) rfl rfl (Nat.le_of_ble_eq_true rfl) dX1_teach_51 rfl ?_
          refine x_aload_n 1 g dX1_teach_54 rfl rfl ?_
          refine x_iload (i := 5) g dX1_teach_55 rfl ?_
          refine x_iload (i := 8) g dX1_teach_57 rfl ?_
          obtain ⟨r_31, q_30, h⟩ := gb_e h
          refine x_cN [.int r_31, .ref a1] g (k_X5_caseInSituation q_30) ca_X5_caseInSituation st_X5_caseInSituation ln_X1_77 (Nat.le_of_ble_eq_true rfl) rfl rfl (Nat.le_of_ble_eq_true rfl) dX1_teach_59 rfl ?_
          refine x_iload (i := 9) g dX1_teach_62 rfl ?_
          obtain ⟨S_33, q_32, h⟩ := gb_e h
          refine x_cV [] g (k_X4_enterTrial q_32) ca_X4_enterTrial in_X4_enterTrial se_X4_enterTrial lm_X1_81 gXX4 q_4 (Nat.le_of_ble_eq_true rfl) rfl rfl (Nat.le_of_ble_eq_true rfl) dX1_teach_64 rfl ?_
          refine x_aload_n 0 g dX1_teach_67 rfl rfl ?_
          refine x_iload (i := 8) g dX1_teach_68 rfl ?_
          refine x_iload (i := 9) g dX1_teach_70 rfl ?_
          obtain ⟨S_35, q_34, h⟩ := gb_e h
          refine x_cV [] g (k_X1_enterReward q_34) ca_X1_enterReward in_X1_enterReward se_X1_enterReward lm_X1_85 gXX1 q_25 (Nat.le_of_ble_eq_true rfl) rfl rfl (Nat.le_of_ble_eq_true rfl) dX1_teach_72 rfl ?_
          refine x_iload (i := 6) g dX1_teach_75 rfl ?_
          refine x_iload (i := 9) g dX1_teach_77 rfl ?_
          refine x_iadd g dX1_teach_79 ?_
          refine x_nI (fun x6_36 e_37 => ?_)
          have h := glt_e e_37 h
          refine x_istore (i := 6) g dX1_teach_80 (Nat.le_of_ble_eq_true rfl) rfl ?_
          obtain ⟨x7_38, e_39⟩ : ∃ z : Int32, z = x7 + 1 := ⟨_, rfl⟩
          have h := glt_e e_39 h
          refine x_iinc (v := x7_38) g dX1_teach_82 rfl (by rw [e_39]; rfl) rfl ?_
          refine x_goto 13 g dX1_teach_85 (by decide) ?_
          refine x_dr 8 ?_
          refine x_dr 9 ?_
          exact ih _ _ _ _ h
  exact L13 gN _ _ _ _ h
noncomputable def f_X1_rightAnswers_L5 (G : gG) (a0 : Nat) (a1 : Nat) (a2 : Int32) (S : gS) : Nat → Int32 → Int32 → Option Int32
  | 0, _, _ => none
  | n5 + 1, x3, x4 => if 4 ≤ x4 then (some x3) else (gb (f_X5_situationOf x4 a2) fun (r_3 : Int32) => gd (gis G 1 a1) <| gb (f_X4_opensIn G a1 r_3 S) fun (r_6 : Bool) => gd (gis G 0 a0) <| gb (f_X1_openingPays G a0 x4 a2 S) fun (r_9 : Bool) => if (gz r_6) = (gz r_9) then (glt (x3 + 1) fun (x3_13 : Int32) => glt (x4 + 1) fun (x4_15 : Int32) => f_X1_rightAnswers_L5 G a0 a1 a2 S n5 x3_13 x4_15) else (glt (x4 + 1) fun (x4_11 : Int32) => f_X1_rightAnswers_L5 G a0 a1 a2 S n5 x3 x4_11))
noncomputable def f_X1_rightAnswers (G : gG) (a0 : Nat) (a1 : Nat) (a2 : Int32) (S : gS) : Option Int32 := f_X1_rightAnswers_L5 G a0 a1 a2 S gN 0 0
set_option maxRecDepth 100000 in
set_option maxHeartbeats 4000000 in
theorem k_X1_rightAnswers {ad : Nat → Nat} {G : gG} {a0 : Nat} {a1 : Nat} {a2 : Int32} {S : gS} {T : gT} {r : Int32} (h : f_X1_rightAnswers G a0 a1 a2 S = some r) : Ct ad yX1_rightAnswers (Cond.code yX1_rightAnswers cX1_rightAnswers 5 (some .int) :: gTb) 2 0 0 [.ref a0, .ref a1, .int a2] G S T (some (.int r)) G S T := by
  refine Ct.ofB rfl (Nat.le_of_ble_eq_true rfl) rfl (fun K g e hK => ?_)
  obtain ⟨rfl, -⟩ := hK
  show Xj K [] G 0 [some (.ref a0), some (.ref a1), some (.int a2), none, none] [] S T 0 0
  unfold f_X1_rightAnswers at h
  refine x_iconst (v := 0) g dX1_rightAnswers_0 (by decide) ?_
  refine x_istore_n 3 g dX1_rightAnswers_1 rfl (Nat.le_of_ble_eq_true rfl) rfl ?_
  refine x_iconst (v := 0) g dX1_rightAnswers_2 (by decide) ?_
  refine x_istore (i := 4) g dX1_rightAnswers_3 (Nat.le_of_ble_eq_true rfl) rfl ?_
  have L5 : ∀ (n5 : Nat) (x3 : Int32) (x4 : Int32), f_X1_rightAnswers_L5 G a0 a1 a2 S n5 x3 x4 = some r → Xj K [] G 5 [some (.ref a0), some (.ref a1), some (.int a2), some (.int x3), some (.int x4)] [] S T 0 0 := by
    intro n5
    induction n5 with
    | zero =>
      intro x3 x4 h
      rw [f_X1_rightAnswers_L5] at h
      cases h
    | succ n5 ih =>
      intro x3 x4 h
      rw [f_X1_rightAnswers_L5] at h
      refine x_iload (i := 4) g dX1_rightAnswers_5 rfl ?_
      refine x_iconst (v := 4) g dX1_rightAnswers_7 (by decide) ?_
      refine x_icmp_ge 40 g dX1_rightAnswers_8 (by decide) (fun c_1 => ?_) (fun c_1 => ?_)
      · have h := ite_t c_1 h
        refine x_iload_n 3 g dX1_rightAnswers_40 rfl rfl ?_
        cases h
        exact x_iretS g e dX1_rightAnswers_41 rfl rfl
      · have h := ite_f c_1 h
        refine x_aload_n 1 g dX1_rightAnswers_11 rfl rfl ?_
        refine x_iload (i := 4) g dX1_rightAnswers_12 rfl ?_
        refine x_iload_n 2 g dX1_rightAnswers_14 rfl rfl ?_
        obtain ⟨r_3, q_2, h⟩ := gb_e h
        refine x_cN [.int r_3, .ref a1] g (k_X5_situationOf q_2) ca_X5_situationOf st_X5_situationOf ln_X1_62 (Nat.le_of_ble_eq_true rfl) rfl rfl (Nat.le_of_ble_eq_true rfl) dX1_rightAnswers_15 rfl ?_
        obtain ⟨q_4, h⟩ := gd_e h
        obtain ⟨r_6, q_5, h⟩ := gb_e h
        refine x_cV [.int (gz r_6)] g (k_X4_opensIn q_5) ca_X4_opensIn in_X4_opensIn se_X4_opensIn lm_X1_66 gXX4 q_4 (Nat.le_of_ble_eq_true rfl) rfl rfl (Nat.le_of_ble_eq_true rfl) dX1_rightAnswers_18 rfl ?_
        refine x_aload_n 0 g dX1_rightAnswers_21 rfl rfl ?_
        refine x_iload (i := 4) g dX1_rightAnswers_22 rfl ?_
        refine x_iload_n 2 g dX1_rightAnswers_24 rfl rfl ?_
        obtain ⟨q_7, h⟩ := gd_e h
        obtain ⟨r_9, q_8, h⟩ := gb_e h
        refine x_cV [.int (gz r_9), .int (gz r_6)] g (k_X1_openingPays q_8) ca_X1_openingPays in_X1_openingPays se_X1_openingPays lm_X1_97 gXX1 q_7 (Nat.le_of_ble_eq_true rfl) rfl rfl (Nat.le_of_ble_eq_true rfl) dX1_rightAnswers_25 rfl ?_
        refine x_icmp_ne 34 g dX1_rightAnswers_28 (by decide) (fun c_10 => ?_) (fun c_10 => ?_)
        · have h := ite_f c_10 h
          obtain ⟨x4_11, e_12⟩ : ∃ z : Int32, z = x4 + 1 := ⟨_, rfl⟩
          have h := glt_e e_12 h
          refine x_iinc (v := x4_11) g dX1_rightAnswers_34 rfl (by rw [e_12]; rfl) rfl ?_
          refine x_goto 5 g dX1_rightAnswers_37 (by decide) ?_
          exact ih _ _ h
        · have h := ite_t c_10 h
          obtain ⟨x3_13, e_14⟩ : ∃ z : Int32, z = x3 + 1 := ⟨_, rfl⟩
          have h := glt_e e_14 h
          refine x_iinc (v := x3_13) g dX1_rightAnswers_31 rfl (by rw [e_14]; rfl) rfl ?_
          obtain ⟨x4_15, e_16⟩ : ∃ z : Int32, z = x4 + 1 := ⟨_, rfl⟩
          have h := glt_e e_16 h
          refine x_iinc (v := x4_15) g dX1_rightAnswers_34 rfl (by rw [e_16]; rfl) rfl ?_
          refine x_goto 5 g dX1_rightAnswers_37 (by decide) ?_
          exact ih _ _ h
  exact L5 gN _ _ h
noncomputable def f_X4_noteExam (G : gG) (a0 : Nat) (a1 : Int32) (a2 : Bool) (S : gS) : Option gS := glt (1 <<< (a1 &&& 31)) fun (x3_1 : Int32) => if (gz a2) = 0 then (gd (gis G 1 a0) <| glt (sI S 17 a0 ((gI S 17 a0) &&& (x3_1 ^^^ (-1)))) fun (S_5 : gS) => some S_5) else (gd (gis G 1 a0) <| glt (sI S 17 a0 ((gI S 17 a0) ||| x3_1)) fun (S_8 : gS) => some S_8)
set_option maxRecDepth 100000 in
set_option maxHeartbeats 4000000 in
theorem k_X4_noteExam {ad : Nat → Nat} {G : gG} {a0 : Nat} {a1 : Int32} {a2 : Bool} {S S1 : gS} {T : gT} (h : f_X4_noteExam G a0 a1 a2 S = some S1) : Ct ad yX4_noteExam (Cond.code yX4_noteExam cX4_noteExam 4 none :: gTb) 0 0 0 [.ref a0, .int a1, .int (gz a2)] G S T none G S1 T := by
  refine Ct.ofB rfl (Nat.le_of_ble_eq_true rfl) rfl (fun K g e hK => ?_)
  obtain ⟨rfl, -⟩ := hK
  show Xj K [] G 0 [some (.ref a0), some (.int a1), some (.int (gz a2)), none] [] S T 0 0
  unfold f_X4_noteExam at h
  refine x_iconst (v := 1) g dX4_noteExam_0 (by decide) ?_
  refine x_iload_n 1 g dX4_noteExam_1 rfl rfl ?_
  refine x_ishl g dX4_noteExam_2 ?_
  refine x_nI (fun x3_1 e_2 => ?_)
  have h := glt_e e_2 h
  refine x_istore_n 3 g dX4_noteExam_3 rfl (Nat.le_of_ble_eq_true rfl) rfl ?_
  refine x_aload_n 0 g dX4_noteExam_4 rfl rfl ?_
  refine x_iload_n 2 g dX4_noteExam_5 rfl rfl ?_
  refine x_if_eq 18 g dX4_noteExam_6 (by decide) (fun c_3 => ?_) (fun c_3 => ?_)
  · have h := ite_t c_3 h
    refine x_aload_n 0 g dX4_noteExam_18 rfl rfl ?_
    obtain ⟨q_4, h⟩ := gd_e h
    refine x_geti g dX4_noteExam_19 gXX4 11 17 rfl (by decide) rfl lf_X4_46 q_4 ?_
    refine x_iload_n 3 g dX4_noteExam_22 rfl rfl ?_
    refine x_iconst (v := (-1)) g dX4_noteExam_23 (by decide) ?_
    refine x_ixor g dX4_noteExam_24 ?_
    refine x_iand g dX4_noteExam_25 ?_
    refine x_puti g dX4_noteExam_26 gXX4 11 17 rfl (by decide) rfl rfl lf_X4_46 rfl rfl q_4 ?_
    refine x_nS (fun S_5 e_6 => ?_)
    have h := glt_e e_6 h
    cases h
    exact x_vretS g e dX4_noteExam_29 rfl
  · have h := ite_f c_3 h
    refine x_aload_n 0 g dX4_noteExam_9 rfl rfl ?_
    obtain ⟨q_7, h⟩ := gd_e h
    refine x_geti g dX4_noteExam_10 gXX4 11 17 rfl (by decide) rfl lf_X4_46 q_7 ?_
    refine x_iload_n 3 g dX4_noteExam_13 rfl rfl ?_
    refine x_ior g dX4_noteExam_14 ?_
    refine x_goto 26 g dX4_noteExam_15 (by decide) ?_
    refine x_puti g dX4_noteExam_26 gXX4 11 17 rfl (by decide) rfl rfl lf_X4_46 rfl rfl q_7 ?_
    refine x_nS (fun S_8 e_9 => ?_)
    have h := glt_e e_9 h
    cases h
    exact x_vretS g e dX4_noteExam_29 rfl
noncomputable def f_X1_holdExam (G : gG) (a0 : Nat) (a1 : Nat) (a2 : Int32) (S : gS) : Option (Int32 × gS) := gd (gis G 0 a0) <| gb (f_X1_rightAnswers G a0 a1 a2 S) fun (r_3 : Int32) => if r_3 < 3 then (gd (gis G 1 a1) <| gb (f_X4_noteExam G a1 a2 false S) fun (S_7 : gS) => some (r_3, S_7)) else (gd (gis G 1 a1) <| gb (f_X4_noteExam G a1 a2 true S) fun (S_10 : gS) => some (r_3, S_10))
set_option maxRecDepth 100000 in
set_option maxHeartbeats 4000000 in
theorem k_X1_holdExam {ad : Nat → Nat} {G : gG} {a0 : Nat} {a1 : Nat} {a2 : Int32} {S S1 : gS} {T : gT} {r : Int32} (h : f_X1_holdExam G a0 a1 a2 S = some (r, S1)) : Ct ad yX1_holdExam (Cond.code yX1_holdExam cX1_holdExam 4 (some .int) :: gTb) 3 0 0 [.ref a0, .ref a1, .int a2] G S T (some (.int r)) G S1 T := by
  refine Ct.ofB rfl (Nat.le_of_ble_eq_true rfl) rfl (fun K g e hK => ?_)
  obtain ⟨rfl, -⟩ := hK
  show Xj K [] G 0 [some (.ref a0), some (.ref a1), some (.int a2), none] [] S T 0 0
  unfold f_X1_holdExam at h
  refine x_aload_n 0 g dX1_holdExam_0 rfl rfl ?_
  refine x_aload_n 1 g dX1_holdExam_1 rfl rfl ?_
  refine x_iload_n 2 g dX1_holdExam_2 rfl rfl ?_
  obtain ⟨q_1, h⟩ := gd_e h
  obtain ⟨r_3, q_2, h⟩ := gb_e h
  refine x_cV [.int r_3] g (k_X1_rightAnswers q_2) ca_X1_rightAnswers in_X1_rightAnswers se_X1_rightAnswers lm_X1_89 gXX1 q_1 (Nat.le_of_ble_eq_true rfl) rfl rfl (Nat.le_of_ble_eq_true rfl) dX1_holdExam_3 rfl ?_
  refine x_istore_n 3 g dX1_holdExam_6 rfl (Nat.le_of_ble_eq_true rfl) rfl ?_
  refine x_aload_n 1 g dX1_holdExam_7 rfl rfl ?_
  refine x_iload_n 2 g dX1_holdExam_8 rfl rfl ?_
  refine x_iload_n 3 g dX1_holdExam_9 rfl rfl ?_
  refine x_iconst (v := 3) g dX1_holdExam_10 (by decide) ?_
  refine x_icmp_lt 18 g dX1_holdExam_11 (by decide) (fun c_4 => ?_) (fun c_4 => ?_)
  · have h := ite_t c_4 h
    refine x_iconst (v := 0) g dX1_holdExam_18 (by decide) ?_
    obtain ⟨q_5, h⟩ := gd_e h
    obtain ⟨S_7, q_6, h⟩ := gb_e h
    refine x_cV [] g (k_X4_noteExam q_6) ca_X4_noteExam in_X4_noteExam se_X4_noteExam lm_X1_93 gXX4 q_5 (Nat.le_of_ble_eq_true rfl) rfl rfl (Nat.le_of_ble_eq_true rfl) dX1_holdExam_19 rfl ?_
    refine x_iload_n 3 g dX1_holdExam_22 rfl rfl ?_
    cases h
    exact x_iretS g e dX1_holdExam_23 rfl rfl
  · have h := ite_f c_4 h
    refine x_iconst (v := 1) g dX1_holdExam_14 (by decide) ?_
    refine x_goto 19 g dX1_holdExam_15 (by decide) ?_
    obtain ⟨q_8, h⟩ := gd_e h
    obtain ⟨S_10, q_9, h⟩ := gb_e h
    refine x_cV [] g (k_X4_noteExam q_9) ca_X4_noteExam in_X4_noteExam se_X4_noteExam lm_X1_93 gXX4 q_8 (Nat.le_of_ble_eq_true rfl) rfl rfl (Nat.le_of_ble_eq_true rfl) dX1_holdExam_19 rfl ?_
    refine x_iload_n 3 g dX1_holdExam_22 rfl rfl ?_
    cases h
    exact x_iretS g e dX1_holdExam_23 rfl rfl
noncomputable def f_X1_closeTerm_L55 (G : gG) (a0 : Nat) (kO_4 : Int32 → Int32 → gS → Option (Int32 × gS)) : Nat → Int32 → Int32 → gS → Option (Int32 × gS)
  | 0, _, _, _ => none
  | n55 + 1, x1, x2, S => gd (gis G 0 a0) <| if (gI S 0 a0) ≤ x2 then (glt (sI S 3 a0 ((gI S 3 a0) + 1)) fun (S_10 : gS) => some (x1, S_10)) else (gbx1 (f_X1_umbrellaAt G a0 x2 S) (fun (E_19 : String) => none) fun (r_13 : Nat) => gd (gis G 1 r_13) <| glt (sI S 15 r_13 0) fun (S_15 : gS) => glt (x2 + 1) fun (x2_17 : Int32) => f_X1_closeTerm_L55 G a0 kO_4 n55 x1 x2_17 S_15)
noncomputable def f_X1_closeTerm_L4 (G : gG) (a0 : Nat) : Nat → Int32 → Int32 → gS → Option (Int32 × gS)
  | 0, _, _, _ => none
  | n4 + 1, x1, x2, S => gd (gis G 0 a0) <| if (gI S 0 a0) ≤ x2 then (gbx1 (f_X1_umbrellaAt G a0 x1 S) (fun (E_20 : String) => none) fun (r_4 : Nat) => gd (gis G 1 r_4) <| glt (sI S 16 r_4 ((gI S 16 r_4) + 1)) fun (S_6 : gS) => f_X1_closeTerm_L55 G a0 (fun y1 y2 Sy => f_X1_closeTerm_L4 G a0 n4 y1 y2 Sy) gN x1 0 S_6) else (gbx1 (f_X1_umbrellaAt G a0 x2 S) (fun (E_33 : String) => none) fun (r_22 : Nat) => gd (gis G 1 r_22) <| gbx1 (f_X1_umbrellaAt G a0 x1 S) (fun (E_32 : String) => none) fun (r_25 : Nat) => gd (gis G 1 r_25) <| if (gI S 15 r_22) ≤ (gI S 15 r_25) then (glt (x2 + 1) fun (x2_28 : Int32) => f_X1_closeTerm_L4 G a0 n4 x1 x2_28 S) else (glt (x2 + 1) fun (x2_30 : Int32) => f_X1_closeTerm_L4 G a0 n4 x2 x2_30 S))
noncomputable def f_X1_closeTerm (G : gG) (a0 : Nat) (S : gS) : Option (Int32 × gS) := f_X1_closeTerm_L4 G a0 gN 0 1 S
set_option maxRecDepth 100000 in
set_option maxHeartbeats 4000000 in
theorem k_X1_closeTerm {ad : Nat → Nat} {G : gG} {a0 : Nat} {S S1 : gS} {T : gT} {r : Int32} (h : f_X1_closeTerm G a0 S = some (r, S1)) : Ct ad yX1_closeTerm (Cond.code yX1_closeTerm cX1_closeTerm 3 (some .int) :: gTb) 1 0 0 [.ref a0] G S T (some (.int r)) G S1 T := by
  refine Ct.ofB rfl (Nat.le_of_ble_eq_true rfl) rfl (fun K g e hK => ?_)
  obtain ⟨rfl, -⟩ := hK
  show Xj K [] G 0 [some (.ref a0), none, none] [] S T 0 0
  unfold f_X1_closeTerm at h
  refine x_iconst (v := 0) g dX1_closeTerm_0 (by decide) ?_
  refine x_istore_n 1 g dX1_closeTerm_1 rfl (Nat.le_of_ble_eq_true rfl) rfl ?_
  refine x_iconst (v := 1) g dX1_closeTerm_2 (by decide) ?_
  refine x_istore_n 2 g dX1_closeTerm_3 rfl (Nat.le_of_ble_eq_true rfl) rfl ?_
  have L4 : ∀ (n4 : Nat) (x1 : Int32) (x2 : Int32) (S : gS), f_X1_closeTerm_L4 G a0 n4 x1 x2 S = some (r, S1) → Xj K [] G 4 [some (.ref a0), some (.int x1), some (.int x2)] [] S T 0 0 := by
    intro n4
    induction n4 with
    | zero =>
      intro x1 x2 S h
      rw [f_X1_closeTerm_L4] at h
      cases h
    | succ n4 ih =>
      intro x1 x2 S h
      rw [f_X1_closeTerm_L4] at h
      refine x_iload_n 2 g dX1_closeTerm_4 rfl rfl ?_
      refine x_aload_n 0 g dX1_closeTerm_5 rfl rfl ?_
      obtain ⟨q_1, h⟩ := gd_e h
      refine x_geti g dX1_closeTerm_6 gXX1 1 0 rfl (by decide) rfl lf_X1_17 q_1 ?_
      refine x_icmp_ge 39 g dX1_closeTerm_9 (by decide) (fun c_2 => ?_) (fun c_2 => ?_)
      · have h := ite_t c_2 h
        refine x_aload_n 0 g dX1_closeTerm_39 rfl rfl ?_
        refine x_iload_n 1 g dX1_closeTerm_40 rfl rfl ?_
        rcases gbx1_e h with ⟨E_20, q_3, h⟩ | ⟨r_4, q_3, h⟩
        · cases h
        refine x_cV [.ref r_4] g (k_X1_umbrellaAt q_3) ca_X1_umbrellaAt in_X1_umbrellaAt se_X1_umbrellaAt lm_X1_51 gXX1 q_1 (Nat.le_of_ble_eq_true rfl) rfl rfl (Nat.le_of_ble_eq_true rfl) dX1_closeTerm_41 rfl ?_
        refine x_dup g dX1_closeTerm_44 rfl ?_
        obtain ⟨q_5, h⟩ := gd_e h
        refine x_geti g dX1_closeTerm_45 gXX4 10 16 rfl (by decide) rfl lf_X1_104 q_5 ?_
        refine x_iconst (v := 1) g dX1_closeTerm_48 (by decide) ?_
        refine x_iadd g dX1_closeTerm_49 ?_
        refine x_puti g dX1_closeTerm_50 gXX4 10 16 rfl (by decide) rfl rfl lf_X1_104 rfl rfl q_5 ?_
        refine x_nS (fun S_6 e_7 => ?_)
        have h := glt_e e_7 h
        refine x_iconst (v := 0) g dX1_closeTerm_53 (by decide) ?_
        refine x_istore_n 2 g dX1_closeTerm_54 rfl (Nat.le_of_ble_eq_true rfl) rfl ?_
        have ih_4 := ih
        have L55 : ∀ (n55 : Nat) (x1 : Int32) (x2 : Int32) (S : gS), f_X1_closeTerm_L55 G a0 (fun y1 y2 Sy => f_X1_closeTerm_L4 G a0 n4 y1 y2 Sy) n55 x1 x2 S = some (r, S1) → Xj K [] G 55 [some (.ref a0), some (.int x1), some (.int x2)] [] S T 0 0 := by
          intro n55
          induction n55 with
          | zero =>
            intro x1 x2 S h
            rw [f_X1_closeTerm_L55] at h
            cases h
          | succ n55 ih =>
            intro x1 x2 S h
            rw [f_X1_closeTerm_L55] at h
            refine x_iload_n 2 g dX1_closeTerm_55 rfl rfl ?_
            refine x_aload_n 0 g dX1_closeTerm_56 rfl rfl ?_
            obtain ⟨q_8, h⟩ := gd_e h
            refine x_geti g dX1_closeTerm_57 gXX1 1 0 rfl (by decide) rfl lf_X1_17 q_8 ?_
            refine x_icmp_ge 78 g dX1_closeTerm_60 (by decide) (fun c_9 => ?_) (fun c_9 => ?_)
            · have h := ite_t c_9 h
              refine x_aload_n 0 g dX1_closeTerm_78 rfl rfl ?_
              refine x_dup g dX1_closeTerm_79 rfl ?_
              refine x_geti g dX1_closeTerm_80 gXX1 4 3 rfl (by decide) rfl lf_X1_27 q_8 ?_
              refine x_iconst (v := 1) g dX1_closeTerm_83 (by decide) ?_
              refine x_iadd g dX1_closeTerm_84 ?_
              refine x_puti g dX1_closeTerm_85 gXX1 4 3 rfl (by decide) rfl rfl lf_X1_27 rfl rfl q_8 ?_
              refine x_nS (fun S_10 e_11 => ?_)
              have h := glt_e e_11 h
              refine x_iload_n 1 g dX1_closeTerm_88 rfl rfl ?_
              cases h
              exact x_iretS g e dX1_closeTerm_89 rfl rfl
            · have h := ite_f c_9 h
              refine x_aload_n 0 g dX1_closeTerm_63 rfl rfl ?_
              refine x_iload_n 2 g dX1_closeTerm_64 rfl rfl ?_
              rcases gbx1_e h with ⟨E_19, q_12, h⟩ | ⟨r_13, q_12, h⟩
              · cases h
              refine x_cV [.ref r_13] g (k_X1_umbrellaAt q_12) ca_X1_umbrellaAt in_X1_umbrellaAt se_X1_umbrellaAt lm_X1_51 gXX1 q_8 (Nat.le_of_ble_eq_true rfl) rfl rfl (Nat.le_of_ble_eq_true rfl) dX1_closeTerm_65 rfl ?_
              refine x_iconst (v := 0) g dX1_closeTerm_68 (by decide) ?_
              obtain ⟨q_14, h⟩ := gd_e h
              refine x_puti g dX1_closeTerm_69 gXX4 9 15 rfl (by decide) rfl rfl lf_X1_101 rfl rfl q_14 ?_
              refine x_nS (fun S_15 e_16 => ?_)
              have h := glt_e e_16 h
              obtain ⟨x2_17, e_18⟩ : ∃ z : Int32, z = x2 + 1 := ⟨_, rfl⟩
              have h := glt_e e_18 h
              refine x_iinc (v := x2_17) g dX1_closeTerm_72 rfl (by rw [e_18]; rfl) rfl ?_
              refine x_goto 55 g dX1_closeTerm_75 (by decide) ?_
              exact ih _ _ _ h
        exact L55 gN _ _ _ h
      · have h := ite_f c_2 h
        refine x_aload_n 0 g dX1_closeTerm_12 rfl rfl ?_
        refine x_iload_n 2 g dX1_closeTerm_13 rfl rfl ?_
        rcases gbx1_e h with ⟨E_33, q_21, h⟩ | ⟨r_22, q_21, h⟩
        · cases h
        refine x_cV [.ref r_22] g (k_X1_umbrellaAt q_21) ca_X1_umbrellaAt in_X1_umbrellaAt se_X1_umbrellaAt lm_X1_51 gXX1 q_1 (Nat.le_of_ble_eq_true rfl) rfl rfl (Nat.le_of_ble_eq_true rfl) dX1_closeTerm_14 rfl ?_
        obtain ⟨q_23, h⟩ := gd_e h
        refine x_geti g dX1_closeTerm_17 gXX4 9 15 rfl (by decide) rfl lf_X1_101 q_23 ?_
        refine x_aload_n 0 g dX1_closeTerm_20 rfl rfl ?_
        refine x_iload_n 1 g dX1_closeTerm_21 rfl rfl ?_
        rcases gbx1_e h with ⟨E_32, q_24, h⟩ | ⟨r_25, q_24, h⟩
        · cases h
        refine x_cV [.ref r_25, .int (gI S 15 r_22)] g (k_X1_umbrellaAt q_24) ca_X1_umbrellaAt in_X1_umbrellaAt se_X1_umbrellaAt lm_X1_51 gXX1 q_1 (Nat.le_of_ble_eq_true rfl) rfl rfl (Nat.le_of_ble_eq_true rfl) dX1_closeTerm_22 rfl ?_
        obtain ⟨q_26, h⟩ := gd_e h
        refine x_geti g dX1_closeTerm_25 gXX4 9 15 rfl (by decide) rfl lf_X1_101 q_26 ?_
        refine x_icmp_le 33 g dX1_closeTerm_28 (by decide) (fun c_27 => ?_) (fun c_27 => ?_)
        · have h := ite_t c_27 h
          obtain ⟨x2_28, e_29⟩ : ∃ z : Int32, z = x2 + 1 := ⟨_, rfl⟩
          have h := glt_e e_29 h
          refine x_iinc (v := x2_28) g dX1_closeTerm_33 rfl (by rw [e_29]; rfl) rfl ?_
          refine x_goto 4 g dX1_closeTerm_36 (by decide) ?_
          exact ih _ _ _ h
        · have h := ite_f c_27 h
          refine x_iload_n 2 g dX1_closeTerm_31 rfl rfl ?_
          refine x_istore_n 1 g dX1_closeTerm_32 rfl (Nat.le_of_ble_eq_true rfl) rfl ?_
          obtain ⟨x2_30, e_31⟩ : ∃ z : Int32, z = x2 + 1 := ⟨_, rfl⟩
          have h := glt_e e_31 h
          refine x_iinc (v := x2_30) g dX1_closeTerm_33 rfl (by rw [e_31]; rfl) rfl ?_
          refine x_goto 4 g dX1_closeTerm_36 (by decide) ?_
          exact ih _ _ _ h
  exact L4 gN _ _ _ h
noncomputable def f_X4_ranksBefore (G : gG) (a0 : Nat) (a1 : Nat) (S : gS) : Option Bool := gd (gis G 1 a0) <| gd (gis G 1 a1) <| if (gI S 16 a0) = (gI S 16 a1) then (if (gI S 14 a0) ≤ (gI S 14 a1) then (some false) else (some true)) else (if (gI S 16 a0) ≤ (gI S 16 a1) then (some false) else (some true))
set_option maxRecDepth 100000 in
set_option maxHeartbeats 4000000 in
theorem k_X4_ranksBefore {ad : Nat → Nat} {G : gG} {a0 : Nat} {a1 : Nat} {S : gS} {T : gT} {r : Bool} (h : f_X4_ranksBefore G a0 a1 S = some r) : Ct ad yX4_ranksBefore (Cond.code yX4_ranksBefore cX4_ranksBefore 2 (some .boolean) :: gTb) 0 0 0 [.ref a0, .ref a1] G S T (some (.int (gz r))) G S T := by
  refine Ct.ofB rfl (Nat.le_of_ble_eq_true rfl) rfl (fun K g e hK => ?_)
  obtain ⟨rfl, -⟩ := hK
  show Xj K [] G 0 [some (.ref a0), some (.ref a1)] [] S T 0 0
  unfold f_X4_ranksBefore at h
  refine x_aload_n 0 g dX4_ranksBefore_0 rfl rfl ?_
  obtain ⟨q_1, h⟩ := gd_e h
  refine x_geti g dX4_ranksBefore_1 gXX4 10 16 rfl (by decide) rfl lf_X4_43 q_1 ?_
  refine x_aload_n 1 g dX4_ranksBefore_4 rfl rfl ?_
  obtain ⟨q_2, h⟩ := gd_e h
  refine x_geti g dX4_ranksBefore_5 gXX4 10 16 rfl (by decide) rfl lf_X4_43 q_2 ?_
  refine x_icmp_eq 28 g dX4_ranksBefore_8 (by decide) (fun c_3 => ?_) (fun c_3 => ?_)
  · have h := ite_t c_3 h
    refine x_aload_n 0 g dX4_ranksBefore_28 rfl rfl ?_
    refine x_geti g dX4_ranksBefore_29 gXX4 8 14 rfl (by decide) rfl lf_X4_37 q_1 ?_
    refine x_aload_n 1 g dX4_ranksBefore_32 rfl rfl ?_
    refine x_geti g dX4_ranksBefore_33 gXX4 8 14 rfl (by decide) rfl lf_X4_37 q_2 ?_
    refine x_icmp_le 43 g dX4_ranksBefore_36 (by decide) (fun c_4 => ?_) (fun c_4 => ?_)
    · have h := ite_t c_4 h
      refine x_iconst (v := 0) g dX4_ranksBefore_43 (by decide) ?_
      cases h
      exact x_zretS (b := false) g e dX4_ranksBefore_44 rfl rfl rfl
    · have h := ite_f c_4 h
      refine x_iconst (v := 1) g dX4_ranksBefore_39 (by decide) ?_
      refine x_goto 44 g dX4_ranksBefore_40 (by decide) ?_
      cases h
      exact x_zretS (b := true) g e dX4_ranksBefore_44 rfl rfl rfl
  · have h := ite_f c_3 h
    refine x_aload_n 0 g dX4_ranksBefore_11 rfl rfl ?_
    refine x_geti g dX4_ranksBefore_12 gXX4 10 16 rfl (by decide) rfl lf_X4_43 q_1 ?_
    refine x_aload_n 1 g dX4_ranksBefore_15 rfl rfl ?_
    refine x_geti g dX4_ranksBefore_16 gXX4 10 16 rfl (by decide) rfl lf_X4_43 q_2 ?_
    refine x_icmp_le 26 g dX4_ranksBefore_19 (by decide) (fun c_5 => ?_) (fun c_5 => ?_)
    · have h := ite_t c_5 h
      refine x_iconst (v := 0) g dX4_ranksBefore_26 (by decide) ?_
      cases h
      exact x_zretS (b := false) g e dX4_ranksBefore_27 rfl rfl rfl
    · have h := ite_f c_5 h
      refine x_iconst (v := 1) g dX4_ranksBefore_22 (by decide) ?_
      refine x_goto 27 g dX4_ranksBefore_23 (by decide) ?_
      cases h
      exact x_zretS (b := true) g e dX4_ranksBefore_27 rfl rfl rfl
noncomputable def f_X1_umbrellasBefore_L11 (G : gG) (a0 : Nat) (a1 : Int32) (S : gS) : Nat → Nat → Int32 → Int32 → Option Int32
  | 0, _, _, _ => none
  | n11 + 1, x2, x3, x4 => gd (gis G 0 a0) <| if (gI S 0 a0) ≤ x4 then (some x3) else (gbx1 (f_X1_umbrellaAt G a0 x4 S) (fun (E_29 : String) => none) fun (r_7 : Nat) => gd (gis G 1 r_7) <| gb (f_X4_ranksBefore G r_7 x2 S) fun (r_10 : Bool) => if (gz r_10) = 0 then (if a1 ≤ x4 then (glt (x4 + 1) fun (x4_17 : Int32) => f_X1_umbrellasBefore_L11 G a0 a1 S n11 x2 x3 x4_17) else (gd (gis G 1 x2) <| gb (f_X4_ranksBefore G x2 r_7 S) fun (r_21 : Bool) => if (gz r_21) = 0 then (glt (x3 + 1) fun (x3_25 : Int32) => glt (x4 + 1) fun (x4_27 : Int32) => f_X1_umbrellasBefore_L11 G a0 a1 S n11 x2 x3_25 x4_27) else (glt (x4 + 1) fun (x4_23 : Int32) => f_X1_umbrellasBefore_L11 G a0 a1 S n11 x2 x3 x4_23))) else (glt (x3 + 1) fun (x3_12 : Int32) => glt (x4 + 1) fun (x4_14 : Int32) => f_X1_umbrellasBefore_L11 G a0 a1 S n11 x2 x3_12 x4_14))
noncomputable def f_X1_umbrellasBefore (G : gG) (a0 : Nat) (a1 : Int32) (S : gS) : Option Int32 := gd (gis G 0 a0) <| gbx1 (f_X1_umbrellaAt G a0 a1 S) (fun (E_30 : String) => none) fun (r_3 : Nat) => f_X1_umbrellasBefore_L11 G a0 a1 S gN r_3 0 0
set_option maxRecDepth 100000 in
set_option maxHeartbeats 4000000 in
theorem k_X1_umbrellasBefore {ad : Nat → Nat} {G : gG} {a0 : Nat} {a1 : Int32} {S : gS} {T : gT} {r : Int32} (h : f_X1_umbrellasBefore G a0 a1 S = some r) : Ct ad yX1_umbrellasBefore (Cond.code yX1_umbrellasBefore cX1_umbrellasBefore 6 (some .int) :: gTb) 1 0 0 [.ref a0, .int a1] G S T (some (.int r)) G S T := by
  refine Ct.ofB rfl (Nat.le_of_ble_eq_true rfl) rfl (fun K g e hK => ?_)
  obtain ⟨rfl, -⟩ := hK
  show Xj K [] G 0 [some (.ref a0), some (.int a1), none, none, none, none] [] S T 0 0
  unfold f_X1_umbrellasBefore at h
  refine x_aload_n 0 g dX1_umbrellasBefore_0 rfl rfl ?_
  refine x_iload_n 1 g dX1_umbrellasBefore_1 rfl rfl ?_
  obtain ⟨q_1, h⟩ := gd_e h
  rcases gbx1_e h with ⟨E_30, q_2, h⟩ | ⟨r_3, q_2, h⟩
  · cases h
  refine x_cV [.ref r_3] g (k_X1_umbrellaAt q_2) ca_X1_umbrellaAt in_X1_umbrellaAt se_X1_umbrellaAt lm_X1_51 gXX1 q_1 (Nat.le_of_ble_eq_true rfl) rfl rfl (Nat.le_of_ble_eq_true rfl) dX1_umbrellasBefore_2 rfl ?_
  refine x_astore_n 2 g dX1_umbrellasBefore_5 rfl (Nat.le_of_ble_eq_true rfl) rfl ?_
  refine x_iconst (v := 0) g dX1_umbrellasBefore_6 (by decide) ?_
  refine x_istore_n 3 g dX1_umbrellasBefore_7 rfl (Nat.le_of_ble_eq_true rfl) rfl ?_
  refine x_iconst (v := 0) g dX1_umbrellasBefore_8 (by decide) ?_
  refine x_istore (i := 4) g dX1_umbrellasBefore_9 (Nat.le_of_ble_eq_true rfl) rfl ?_
  have L11 : ∀ (n11 : Nat) (x2 : Nat) (x3 : Int32) (x4 : Int32), f_X1_umbrellasBefore_L11 G a0 a1 S n11 x2 x3 x4 = some r → Xj K [] G 11 [some (.ref a0), some (.int a1), some (.ref x2), some (.int x3), some (.int x4), none] [] S T 0 0 := by
    intro n11
    induction n11 with
    | zero =>
      intro x2 x3 x4 h
      rw [f_X1_umbrellasBefore_L11] at h
      cases h
    | succ n11 ih =>
      intro x2 x3 x4 h
      rw [f_X1_umbrellasBefore_L11] at h
      refine x_iload (i := 4) g dX1_umbrellasBefore_11 rfl ?_
      refine x_aload_n 0 g dX1_umbrellasBefore_13 rfl rfl ?_
      obtain ⟨q_4, h⟩ := gd_e h
      refine x_geti g dX1_umbrellasBefore_14 gXX1 1 0 rfl (by decide) rfl lf_X1_17 q_4 ?_
      refine x_icmp_ge 61 g dX1_umbrellasBefore_17 (by decide) (fun c_5 => ?_) (fun c_5 => ?_)
      · have h := ite_t c_5 h
        refine x_iload_n 3 g dX1_umbrellasBefore_61 rfl rfl ?_
        cases h
        exact x_iretS g e dX1_umbrellasBefore_62 rfl rfl
      · have h := ite_f c_5 h
        refine x_aload_n 0 g dX1_umbrellasBefore_20 rfl rfl ?_
        refine x_iload (i := 4) g dX1_umbrellasBefore_21 rfl ?_
        rcases gbx1_e h with ⟨E_29, q_6, h⟩ | ⟨r_7, q_6, h⟩
        · cases h
        refine x_cV [.ref r_7] g (k_X1_umbrellaAt q_6) ca_X1_umbrellaAt in_X1_umbrellaAt se_X1_umbrellaAt lm_X1_51 gXX1 q_4 (Nat.le_of_ble_eq_true rfl) rfl rfl (Nat.le_of_ble_eq_true rfl) dX1_umbrellasBefore_23 rfl ?_
        refine x_astore (i := 5) g dX1_umbrellasBefore_26 (Nat.le_of_ble_eq_true rfl) rfl ?_
        refine x_aload (i := 5) g dX1_umbrellasBefore_28 rfl ?_
        refine x_aload_n 2 g dX1_umbrellasBefore_30 rfl rfl ?_
        obtain ⟨q_8, h⟩ := gd_e h
        obtain ⟨r_10, q_9, h⟩ := gb_e h
        refine x_cV [.int (gz r_10)] g (k_X4_ranksBefore q_9) ca_X4_ranksBefore in_X4_ranksBefore se_X4_ranksBefore lm_X1_111 gXX4 q_8 (Nat.le_of_ble_eq_true rfl) rfl rfl (Nat.le_of_ble_eq_true rfl) dX1_umbrellasBefore_31 rfl ?_
        refine x_if_ne 52 g dX1_umbrellasBefore_34 (by decide) (fun c_11 => ?_) (fun c_11 => ?_)
        · have h := ite_f c_11 h
          obtain ⟨x3_12, e_13⟩ : ∃ z : Int32, z = x3 + 1 := ⟨_, rfl⟩
          have h := glt_e e_13 h
          refine x_iinc (v := x3_12) g dX1_umbrellasBefore_52 rfl (by rw [e_13]; rfl) rfl ?_
          obtain ⟨x4_14, e_15⟩ : ∃ z : Int32, z = x4 + 1 := ⟨_, rfl⟩
          have h := glt_e e_15 h
          refine x_iinc (v := x4_14) g dX1_umbrellasBefore_55 rfl (by rw [e_15]; rfl) rfl ?_
          refine x_goto 11 g dX1_umbrellasBefore_58 (by decide) ?_
          refine x_dr 5 ?_
          exact ih _ _ _ h
        · have h := ite_t c_11 h
          refine x_iload (i := 4) g dX1_umbrellasBefore_37 rfl ?_
          refine x_iload_n 1 g dX1_umbrellasBefore_39 rfl rfl ?_
          refine x_icmp_ge 55 g dX1_umbrellasBefore_40 (by decide) (fun c_16 => ?_) (fun c_16 => ?_)
          · have h := ite_t c_16 h
            obtain ⟨x4_17, e_18⟩ : ∃ z : Int32, z = x4 + 1 := ⟨_, rfl⟩
            have h := glt_e e_18 h
            refine x_iinc (v := x4_17) g dX1_umbrellasBefore_55 rfl (by rw [e_18]; rfl) rfl ?_
            refine x_goto 11 g dX1_umbrellasBefore_58 (by decide) ?_
            refine x_dr 5 ?_
            exact ih _ _ _ h
          · have h := ite_f c_16 h
            refine x_aload_n 2 g dX1_umbrellasBefore_43 rfl rfl ?_
            refine x_aload (i := 5) g dX1_umbrellasBefore_44 rfl ?_
            obtain ⟨q_19, h⟩ := gd_e h
            obtain ⟨r_21, q_20, h⟩ := gb_e h
            refine x_cV [.int (gz r_21)] g (k_X4_ranksBefore q_20) ca_X4_ranksBefore in_X4_ranksBefore se_X4_ranksBefore lm_X1_111 gXX4 q_19 (Nat.le_of_ble_eq_true rfl) rfl rfl (Nat.le_of_ble_eq_true rfl) dX1_umbrellasBefore_46 rfl ?_
            refine x_if_ne 55 g dX1_umbrellasBefore_49 (by decide) (fun c_22 => ?_) (fun c_22 => ?_)
            · have h := ite_f c_22 h
              obtain ⟨x4_23, e_24⟩ : ∃ z : Int32, z = x4 + 1 := ⟨_, rfl⟩
              have h := glt_e e_24 h
              refine x_iinc (v := x4_23) g dX1_umbrellasBefore_55 rfl (by rw [e_24]; rfl) rfl ?_
              refine x_goto 11 g dX1_umbrellasBefore_58 (by decide) ?_
              refine x_dr 5 ?_
              exact ih _ _ _ h
            · have h := ite_t c_22 h
              obtain ⟨x3_25, e_26⟩ : ∃ z : Int32, z = x3 + 1 := ⟨_, rfl⟩
              have h := glt_e e_26 h
              refine x_iinc (v := x3_25) g dX1_umbrellasBefore_52 rfl (by rw [e_26]; rfl) rfl ?_
              obtain ⟨x4_27, e_28⟩ : ∃ z : Int32, z = x4 + 1 := ⟨_, rfl⟩
              have h := glt_e e_28 h
              refine x_iinc (v := x4_27) g dX1_umbrellasBefore_55 rfl (by rw [e_28]; rfl) rfl ?_
              refine x_goto 11 g dX1_umbrellasBefore_58 (by decide) ?_
              refine x_dr 5 ?_
              exact ih _ _ _ h
  exact L11 gN _ _ _ h
noncomputable def f_X1_umbrellaAtRank_L2 (G : gG) (a0 : Nat) (a1 : Int32) (S : gS) : Nat → Int32 → Option Int32
  | 0, _ => none
  | n2 + 1, x2 => gd (gis G 0 a0) <| if (gI S 0 a0) ≤ x2 then (some (-1)) else (gb (f_X1_umbrellasBefore G a0 x2 S) fun (r_4 : Int32) => if r_4 = a1 then (some x2) else (glt (x2 + 1) fun (x2_6 : Int32) => f_X1_umbrellaAtRank_L2 G a0 a1 S n2 x2_6))
noncomputable def f_X1_umbrellaAtRank (G : gG) (a0 : Nat) (a1 : Int32) (S : gS) : Option Int32 := f_X1_umbrellaAtRank_L2 G a0 a1 S gN 0
set_option maxRecDepth 100000 in
set_option maxHeartbeats 4000000 in
theorem k_X1_umbrellaAtRank {ad : Nat → Nat} {G : gG} {a0 : Nat} {a1 : Int32} {S : gS} {T : gT} {r : Int32} (h : f_X1_umbrellaAtRank G a0 a1 S = some r) : Ct ad yX1_umbrellaAtRank (Cond.code yX1_umbrellaAtRank cX1_umbrellaAtRank 3 (some .int) :: gTb) 2 0 0 [.ref a0, .int a1] G S T (some (.int r)) G S T := by
  refine Ct.ofB rfl (Nat.le_of_ble_eq_true rfl) rfl (fun K g e hK => ?_)
  obtain ⟨rfl, -⟩ := hK
  show Xj K [] G 0 [some (.ref a0), some (.int a1), none] [] S T 0 0
  unfold f_X1_umbrellaAtRank at h
  refine x_iconst (v := 0) g dX1_umbrellaAtRank_0 (by decide) ?_
  refine x_istore_n 2 g dX1_umbrellaAtRank_1 rfl (Nat.le_of_ble_eq_true rfl) rfl ?_
  have L2 : ∀ (n2 : Nat) (x2 : Int32), f_X1_umbrellaAtRank_L2 G a0 a1 S n2 x2 = some r → Xj K [] G 2 [some (.ref a0), some (.int a1), some (.int x2)] [] S T 0 0 := by
    intro n2
    induction n2 with
    | zero =>
      intro x2 h
      rw [f_X1_umbrellaAtRank_L2] at h
      cases h
    | succ n2 ih =>
      intro x2 h
      rw [f_X1_umbrellaAtRank_L2] at h
      refine x_iload_n 2 g dX1_umbrellaAtRank_2 rfl rfl ?_
      refine x_aload_n 0 g dX1_umbrellaAtRank_3 rfl rfl ?_
      obtain ⟨q_1, h⟩ := gd_e h
      refine x_geti g dX1_umbrellaAtRank_4 gXX1 1 0 rfl (by decide) rfl lf_X1_17 q_1 ?_
      refine x_icmp_ge 27 g dX1_umbrellaAtRank_7 (by decide) (fun c_2 => ?_) (fun c_2 => ?_)
      · have h := ite_t c_2 h
        refine x_iconst (v := (-1)) g dX1_umbrellaAtRank_27 (by decide) ?_
        cases h
        exact x_iretS g e dX1_umbrellaAtRank_28 rfl rfl
      · have h := ite_f c_2 h
        refine x_aload_n 0 g dX1_umbrellaAtRank_10 rfl rfl ?_
        refine x_iload_n 2 g dX1_umbrellaAtRank_11 rfl rfl ?_
        obtain ⟨r_4, q_3, h⟩ := gb_e h
        refine x_cV [.int r_4] g (k_X1_umbrellasBefore q_3) ca_X1_umbrellasBefore in_X1_umbrellasBefore se_X1_umbrellasBefore lm_X1_107 gXX1 q_1 (Nat.le_of_ble_eq_true rfl) rfl rfl (Nat.le_of_ble_eq_true rfl) dX1_umbrellaAtRank_12 rfl ?_
        refine x_iload_n 1 g dX1_umbrellaAtRank_15 rfl rfl ?_
        refine x_icmp_ne 21 g dX1_umbrellaAtRank_16 (by decide) (fun c_5 => ?_) (fun c_5 => ?_)
        · have h := ite_f c_5 h
          obtain ⟨x2_6, e_7⟩ : ∃ z : Int32, z = x2 + 1 := ⟨_, rfl⟩
          have h := glt_e e_7 h
          refine x_iinc (v := x2_6) g dX1_umbrellaAtRank_21 rfl (by rw [e_7]; rfl) rfl ?_
          refine x_goto 2 g dX1_umbrellaAtRank_24 (by decide) ?_
          exact ih _ h
        · have h := ite_t c_5 h
          refine x_iload_n 2 g dX1_umbrellaAtRank_19 rfl rfl ?_
          cases h
          exact x_iretS g e dX1_umbrellaAtRank_20 rfl rfl
  exact L2 gN _ h
noncomputable def f_X1_rewardByUmbrellas_L4 (G : gG) (a0 : Nat) (S : gS) : Nat → Int32 → Int32 → Option Int32
  | 0, _, _ => none
  | n4 + 1, x1, x2 => gd (gis G 0 a0) <| if (gI S 0 a0) ≤ x2 then (some x1) else (gbx1 (f_X1_umbrellaAt G a0 x2 S) (fun (E_10 : String) => none) fun (r_4 : Nat) => gd (gis G 1 r_4) <| glt (x1 + (gI S 14 r_4)) fun (x1_6 : Int32) => glt (x2 + 1) fun (x2_8 : Int32) => f_X1_rewardByUmbrellas_L4 G a0 S n4 x1_6 x2_8)
noncomputable def f_X1_rewardByUmbrellas (G : gG) (a0 : Nat) (S : gS) : Option Int32 := f_X1_rewardByUmbrellas_L4 G a0 S gN 0 0
set_option maxRecDepth 100000 in
set_option maxHeartbeats 4000000 in
theorem k_X1_rewardByUmbrellas {ad : Nat → Nat} {G : gG} {a0 : Nat} {S : gS} {T : gT} {r : Int32} (h : f_X1_rewardByUmbrellas G a0 S = some r) : Ct ad yX1_rewardByUmbrellas (Cond.code yX1_rewardByUmbrellas cX1_rewardByUmbrellas 3 (some .int) :: gTb) 1 0 0 [.ref a0] G S T (some (.int r)) G S T := by
  refine Ct.ofB rfl (Nat.le_of_ble_eq_true rfl) rfl (fun K g e hK => ?_)
  obtain ⟨rfl, -⟩ := hK
  show Xj K [] G 0 [some (.ref a0), none, none] [] S T 0 0
  unfold f_X1_rewardByUmbrellas at h
  refine x_iconst (v := 0) g dX1_rewardByUmbrellas_0 (by decide) ?_
  refine x_istore_n 1 g dX1_rewardByUmbrellas_1 rfl (Nat.le_of_ble_eq_true rfl) rfl ?_
  refine x_iconst (v := 0) g dX1_rewardByUmbrellas_2 (by decide) ?_
  refine x_istore_n 2 g dX1_rewardByUmbrellas_3 rfl (Nat.le_of_ble_eq_true rfl) rfl ?_
  have L4 : ∀ (n4 : Nat) (x1 : Int32) (x2 : Int32), f_X1_rewardByUmbrellas_L4 G a0 S n4 x1 x2 = some r → Xj K [] G 4 [some (.ref a0), some (.int x1), some (.int x2)] [] S T 0 0 := by
    intro n4
    induction n4 with
    | zero =>
      intro x1 x2 h
      rw [f_X1_rewardByUmbrellas_L4] at h
      cases h
    | succ n4 ih =>
      intro x1 x2 h
      rw [f_X1_rewardByUmbrellas_L4] at h
      refine x_iload_n 2 g dX1_rewardByUmbrellas_4 rfl rfl ?_
      refine x_aload_n 0 g dX1_rewardByUmbrellas_5 rfl rfl ?_
      obtain ⟨q_1, h⟩ := gd_e h
      refine x_geti g dX1_rewardByUmbrellas_6 gXX1 1 0 rfl (by decide) rfl lf_X1_17 q_1 ?_
      refine x_icmp_ge 29 g dX1_rewardByUmbrellas_9 (by decide) (fun c_2 => ?_) (fun c_2 => ?_)
      · have h := ite_t c_2 h
        refine x_iload_n 1 g dX1_rewardByUmbrellas_29 rfl rfl ?_
        cases h
        exact x_iretS g e dX1_rewardByUmbrellas_30 rfl rfl
      · have h := ite_f c_2 h
        refine x_iload_n 1 g dX1_rewardByUmbrellas_12 rfl rfl ?_
        refine x_aload_n 0 g dX1_rewardByUmbrellas_13 rfl rfl ?_
        refine x_iload_n 2 g dX1_rewardByUmbrellas_14 rfl rfl ?_
        rcases gbx1_e h with ⟨E_10, q_3, h⟩ | ⟨r_4, q_3, h⟩
        · cases h
        refine x_cV [.ref r_4, .int x1] g (k_X1_umbrellaAt q_3) ca_X1_umbrellaAt in_X1_umbrellaAt se_X1_umbrellaAt lm_X1_51 gXX1 q_1 (Nat.le_of_ble_eq_true rfl) rfl rfl (Nat.le_of_ble_eq_true rfl) dX1_rewardByUmbrellas_15 rfl ?_
        obtain ⟨q_5, h⟩ := gd_e h
        refine x_geti g dX1_rewardByUmbrellas_18 gXX4 8 14 rfl (by decide) rfl lf_X1_115 q_5 ?_
        refine x_iadd g dX1_rewardByUmbrellas_21 ?_
        refine x_nI (fun x1_6 e_7 => ?_)
        have h := glt_e e_7 h
        refine x_istore_n 1 g dX1_rewardByUmbrellas_22 rfl (Nat.le_of_ble_eq_true rfl) rfl ?_
        obtain ⟨x2_8, e_9⟩ : ∃ z : Int32, z = x2 + 1 := ⟨_, rfl⟩
        have h := glt_e e_9 h
        refine x_iinc (v := x2_8) g dX1_rewardByUmbrellas_23 rfl (by rw [e_9]; rfl) rfl ?_
        refine x_goto 4 g dX1_rewardByUmbrellas_26 (by decide) ?_
        exact ih _ _ h
  exact L4 gN _ _ h
noncomputable def f_X1_rewardByActions (G : gG) (a0 : Nat) (S : gS) : Option Int32 := gd (gis G 0 a0) <| some ((gI S 5 a0) + (gI S 6 a0))
set_option maxRecDepth 100000 in
set_option maxHeartbeats 4000000 in
theorem k_X1_rewardByActions {ad : Nat → Nat} {G : gG} {a0 : Nat} {S : gS} {T : gT} {r : Int32} (h : f_X1_rewardByActions G a0 S = some r) : Ct ad yX1_rewardByActions (Cond.code yX1_rewardByActions cX1_rewardByActions 1 (some .int) :: gTb) 0 0 0 [.ref a0] G S T (some (.int r)) G S T := by
  refine Ct.ofB rfl (Nat.le_of_ble_eq_true rfl) rfl (fun K g e hK => ?_)
  obtain ⟨rfl, -⟩ := hK
  show Xj K [] G 0 [some (.ref a0)] [] S T 0 0
  unfold f_X1_rewardByActions at h
  refine x_aload_n 0 g dX1_rewardByActions_0 rfl rfl ?_
  obtain ⟨q_1, h⟩ := gd_e h
  refine x_geti g dX1_rewardByActions_1 gXX1 6 5 rfl (by decide) rfl lf_X1_33 q_1 ?_
  refine x_aload_n 0 g dX1_rewardByActions_4 rfl rfl ?_
  refine x_geti g dX1_rewardByActions_5 gXX1 7 6 rfl (by decide) rfl lf_X1_36 q_1 ?_
  refine x_iadd g dX1_rewardByActions_8 ?_
  cases h
  exact x_iretS g e dX1_rewardByActions_9 rfl rfl
noncomputable def f_X1_countTrials_L4 (G : gG) (a0 : Nat) (S : gS) : Nat → Int32 → Int32 → Option Int32
  | 0, _, _ => none
  | n4 + 1, x1, x2 => gd (gis G 0 a0) <| if (gI S 0 a0) ≤ x2 then (some x1) else (gbx1 (f_X1_umbrellaAt G a0 x2 S) (fun (E_10 : String) => none) fun (r_4 : Nat) => gd (gis G 1 r_4) <| glt (x1 + (gI S 12 r_4)) fun (x1_6 : Int32) => glt (x2 + 1) fun (x2_8 : Int32) => f_X1_countTrials_L4 G a0 S n4 x1_6 x2_8)
noncomputable def f_X1_countTrials (G : gG) (a0 : Nat) (S : gS) : Option Int32 := f_X1_countTrials_L4 G a0 S gN 0 0
set_option maxRecDepth 100000 in
set_option maxHeartbeats 4000000 in
theorem k_X1_countTrials {ad : Nat → Nat} {G : gG} {a0 : Nat} {S : gS} {T : gT} {r : Int32} (h : f_X1_countTrials G a0 S = some r) : Ct ad yX1_countTrials (Cond.code yX1_countTrials cX1_countTrials 3 (some .int) :: gTb) 1 0 0 [.ref a0] G S T (some (.int r)) G S T := by
  refine Ct.ofB rfl (Nat.le_of_ble_eq_true rfl) rfl (fun K g e hK => ?_)
  obtain ⟨rfl, -⟩ := hK
  show Xj K [] G 0 [some (.ref a0), none, none] [] S T 0 0
  unfold f_X1_countTrials at h
  refine x_iconst (v := 0) g dX1_countTrials_0 (by decide) ?_
  refine x_istore_n 1 g dX1_countTrials_1 rfl (Nat.le_of_ble_eq_true rfl) rfl ?_
  refine x_iconst (v := 0) g dX1_countTrials_2 (by decide) ?_
  refine x_istore_n 2 g dX1_countTrials_3 rfl (Nat.le_of_ble_eq_true rfl) rfl ?_
  have L4 : ∀ (n4 : Nat) (x1 : Int32) (x2 : Int32), f_X1_countTrials_L4 G a0 S n4 x1 x2 = some r → Xj K [] G 4 [some (.ref a0), some (.int x1), some (.int x2)] [] S T 0 0 := by
    intro n4
    induction n4 with
    | zero =>
      intro x1 x2 h
      rw [f_X1_countTrials_L4] at h
      cases h
    | succ n4 ih =>
      intro x1 x2 h
      rw [f_X1_countTrials_L4] at h
      refine x_iload_n 2 g dX1_countTrials_4 rfl rfl ?_
      refine x_aload_n 0 g dX1_countTrials_5 rfl rfl ?_
      obtain ⟨q_1, h⟩ := gd_e h
      refine x_geti g dX1_countTrials_6 gXX1 1 0 rfl (by decide) rfl lf_X1_17 q_1 ?_
      refine x_icmp_ge 29 g dX1_countTrials_9 (by decide) (fun c_2 => ?_) (fun c_2 => ?_)
      · have h := ite_t c_2 h
        refine x_iload_n 1 g dX1_countTrials_29 rfl rfl ?_
        cases h
        exact x_iretS g e dX1_countTrials_30 rfl rfl
      · have h := ite_f c_2 h
        refine x_iload_n 1 g dX1_countTrials_12 rfl rfl ?_
        refine x_aload_n 0 g dX1_countTrials_13 rfl rfl ?_
        refine x_iload_n 2 g dX1_countTrials_14 rfl rfl ?_
        rcases gbx1_e h with ⟨E_10, q_3, h⟩ | ⟨r_4, q_3, h⟩
        · cases h
        refine x_cV [.ref r_4, .int x1] g (k_X1_umbrellaAt q_3) ca_X1_umbrellaAt in_X1_umbrellaAt se_X1_umbrellaAt lm_X1_51 gXX1 q_1 (Nat.le_of_ble_eq_true rfl) rfl rfl (Nat.le_of_ble_eq_true rfl) dX1_countTrials_15 rfl ?_
        obtain ⟨q_5, h⟩ := gd_e h
        refine x_geti g dX1_countTrials_18 gXX4 6 12 rfl (by decide) rfl lf_X1_118 q_5 ?_
        refine x_iadd g dX1_countTrials_21 ?_
        refine x_nI (fun x1_6 e_7 => ?_)
        have h := glt_e e_7 h
        refine x_istore_n 1 g dX1_countTrials_22 rfl (Nat.le_of_ble_eq_true rfl) rfl ?_
        obtain ⟨x2_8, e_9⟩ : ∃ z : Int32, z = x2 + 1 := ⟨_, rfl⟩
        have h := glt_e e_9 h
        refine x_iinc (v := x2_8) g dX1_countTrials_23 rfl (by rw [e_9]; rfl) rfl ?_
        refine x_goto 4 g dX1_countTrials_26 (by decide) ?_
        exact ih _ _ h
  exact L4 gN _ _ h
noncomputable def f_X4_addUpTrials_L4 (G : gG) (a0 : Nat) (a1 : Int32) (S : gS) : Nat → Int32 → Int32 → Option Int32
  | 0, _, _ => none
  | n4 + 1, x2, x3 => gd (gis G 1 a0) <| if (gI S 13 a0) ≤ x3 then (some x2) else (gb (gP S 1 a0) fun (b_3 : Nat) => gb (f_X5_valueAt G b_3 x3 S) fun (r_6 : Int32) => if r_6 = a1 then (gb (gP S 2 a0) fun (b_10 : Nat) => gb (f_X5_valueAt G b_10 x3 S) fun (r_13 : Int32) => glt (x2 + r_13) fun (x2_14 : Int32) => glt (x3 + 1) fun (x3_16 : Int32) => f_X4_addUpTrials_L4 G a0 a1 S n4 x2_14 x3_16) else (glt (x3 + 1) fun (x3_8 : Int32) => f_X4_addUpTrials_L4 G a0 a1 S n4 x2 x3_8))
noncomputable def f_X4_addUpTrials (G : gG) (a0 : Nat) (a1 : Int32) (S : gS) : Option Int32 := f_X4_addUpTrials_L4 G a0 a1 S gN 0 0
set_option maxRecDepth 100000 in
set_option maxHeartbeats 4000000 in
theorem k_X4_addUpTrials {ad : Nat → Nat} {G : gG} {a0 : Nat} {a1 : Int32} {S : gS} {T : gT} {r : Int32} (h : f_X4_addUpTrials G a0 a1 S = some r) : Ct ad yX4_addUpTrials (Cond.code yX4_addUpTrials cX4_addUpTrials 4 (some .int) :: gTb) 1 0 0 [.ref a0, .int a1] G S T (some (.int r)) G S T := by
  refine Ct.ofB rfl (Nat.le_of_ble_eq_true rfl) rfl (fun K g e hK => ?_)
  obtain ⟨rfl, -⟩ := hK
  show Xj K [] G 0 [some (.ref a0), some (.int a1), none, none] [] S T 0 0
  unfold f_X4_addUpTrials at h
  refine x_iconst (v := 0) g dX4_addUpTrials_0 (by decide) ?_
  refine x_istore_n 2 g dX4_addUpTrials_1 rfl (Nat.le_of_ble_eq_true rfl) rfl ?_
  refine x_iconst (v := 0) g dX4_addUpTrials_2 (by decide) ?_
  refine x_istore_n 3 g dX4_addUpTrials_3 rfl (Nat.le_of_ble_eq_true rfl) rfl ?_
  have L4 : ∀ (n4 : Nat) (x2 : Int32) (x3 : Int32), f_X4_addUpTrials_L4 G a0 a1 S n4 x2 x3 = some r → Xj K [] G 4 [some (.ref a0), some (.int a1), some (.int x2), some (.int x3)] [] S T 0 0 := by
    intro n4
    induction n4 with
    | zero =>
      intro x2 x3 h
      rw [f_X4_addUpTrials_L4] at h
      cases h
    | succ n4 ih =>
      intro x2 x3 h
      rw [f_X4_addUpTrials_L4] at h
      refine x_iload_n 3 g dX4_addUpTrials_4 rfl rfl ?_
      refine x_aload_n 0 g dX4_addUpTrials_5 rfl rfl ?_
      obtain ⟨q_1, h⟩ := gd_e h
      refine x_geti g dX4_addUpTrials_6 gXX4 7 13 rfl (by decide) rfl lf_X4_34 q_1 ?_
      refine x_icmp_ge 41 g dX4_addUpTrials_9 (by decide) (fun c_2 => ?_) (fun c_2 => ?_)
      · have h := ite_t c_2 h
        refine x_iload_n 2 g dX4_addUpTrials_41 rfl rfl ?_
        cases h
        exact x_iretS g e dX4_addUpTrials_42 rfl rfl
      · have h := ite_f c_2 h
        refine x_aload_n 0 g dX4_addUpTrials_12 rfl rfl ?_
        obtain ⟨b_3, e_4, h⟩ := gb_e h
        refine x_getr g dX4_addUpTrials_13 gXX4 0 1 rfl (by decide) rfl lf_X4_9 q_1 e_4 ?_
        refine x_iload_n 3 g dX4_addUpTrials_16 rfl rfl ?_
        obtain ⟨r_6, q_5, h⟩ := gb_e h
        refine x_cN [.int r_6] g (k_X5_valueAt q_5) ca_X5_valueAt st_X5_valueAt ln_X4_57 (Nat.le_of_ble_eq_true rfl) rfl rfl (Nat.le_of_ble_eq_true rfl) dX4_addUpTrials_17 rfl ?_
        refine x_iload_n 1 g dX4_addUpTrials_20 rfl rfl ?_
        refine x_icmp_ne 35 g dX4_addUpTrials_21 (by decide) (fun c_7 => ?_) (fun c_7 => ?_)
        · have h := ite_f c_7 h
          obtain ⟨x3_8, e_9⟩ : ∃ z : Int32, z = x3 + 1 := ⟨_, rfl⟩
          have h := glt_e e_9 h
          refine x_iinc (v := x3_8) g dX4_addUpTrials_35 rfl (by rw [e_9]; rfl) rfl ?_
          refine x_goto 4 g dX4_addUpTrials_38 (by decide) ?_
          exact ih _ _ h
        · have h := ite_t c_7 h
          refine x_iload_n 2 g dX4_addUpTrials_24 rfl rfl ?_
          refine x_aload_n 0 g dX4_addUpTrials_25 rfl rfl ?_
          obtain ⟨b_10, e_11, h⟩ := gb_e h
          refine x_getr g dX4_addUpTrials_26 gXX4 1 2 rfl (by decide) rfl lf_X4_15 q_1 e_11 ?_
          refine x_iload_n 3 g dX4_addUpTrials_29 rfl rfl ?_
          obtain ⟨r_13, q_12, h⟩ := gb_e h
          refine x_cN [.int r_13, .int x2] g (k_X5_valueAt q_12) ca_X5_valueAt st_X5_valueAt ln_X4_57 (Nat.le_of_ble_eq_true rfl) rfl rfl (Nat.le_of_ble_eq_true rfl) dX4_addUpTrials_30 rfl ?_
          refine x_iadd g dX4_addUpTrials_33 ?_
          refine x_nI (fun x2_14 e_15 => ?_)
          have h := glt_e e_15 h
          refine x_istore_n 2 g dX4_addUpTrials_34 rfl (Nat.le_of_ble_eq_true rfl) rfl ?_
          obtain ⟨x3_16, e_17⟩ : ∃ z : Int32, z = x3 + 1 := ⟨_, rfl⟩
          have h := glt_e e_17 h
          refine x_iinc (v := x3_16) g dX4_addUpTrials_35 rfl (by rw [e_17]; rfl) rfl ?_
          refine x_goto 4 g dX4_addUpTrials_38 (by decide) ?_
          exact ih _ _ h
  exact L4 gN _ _ h
noncomputable def f_X4_sumsAgree_L2 (G : gG) (a0 : Nat) (S : gS) : Nat → Int32 → Option Bool
  | 0, _ => none
  | n2 + 1, x1 => if 32 ≤ x1 then (some true) else (gd (gis G 1 a0) <| gb (gP S 4 a0) fun (b_3 : Nat) => gb (f_X5_valueAt G b_3 x1 S) fun (r_6 : Int32) => gb (f_X4_addUpTrials G a0 x1 S) fun (r_8 : Int32) => if r_6 = r_8 then (glt (x1 + 1) fun (x1_10 : Int32) => f_X4_sumsAgree_L2 G a0 S n2 x1_10) else (some false))
noncomputable def f_X4_sumsAgree (G : gG) (a0 : Nat) (S : gS) : Option Bool := f_X4_sumsAgree_L2 G a0 S gN 0
set_option maxRecDepth 100000 in
set_option maxHeartbeats 4000000 in
theorem k_X4_sumsAgree {ad : Nat → Nat} {G : gG} {a0 : Nat} {S : gS} {T : gT} {r : Bool} (h : f_X4_sumsAgree G a0 S = some r) : Ct ad yX4_sumsAgree (Cond.code yX4_sumsAgree cX4_sumsAgree 2 (some .boolean) :: gTb) 2 0 0 [.ref a0] G S T (some (.int (gz r))) G S T := by
  refine Ct.ofB rfl (Nat.le_of_ble_eq_true rfl) rfl (fun K g e hK => ?_)
  obtain ⟨rfl, -⟩ := hK
  show Xj K [] G 0 [some (.ref a0), none] [] S T 0 0
  unfold f_X4_sumsAgree at h
  refine x_iconst (v := 0) g dX4_sumsAgree_0 (by decide) ?_
  refine x_istore_n 1 g dX4_sumsAgree_1 rfl (Nat.le_of_ble_eq_true rfl) rfl ?_
  have L2 : ∀ (n2 : Nat) (x1 : Int32), f_X4_sumsAgree_L2 G a0 S n2 x1 = some r → Xj K [] G 2 [some (.ref a0), some (.int x1)] [] S T 0 0 := by
    intro n2
    induction n2 with
    | zero =>
      intro x1 h
      rw [f_X4_sumsAgree_L2] at h
      cases h
    | succ n2 ih =>
      intro x1 h
      rw [f_X4_sumsAgree_L2] at h
      refine x_iload_n 1 g dX4_sumsAgree_2 rfl rfl ?_
      refine x_bipush (v := 32) g dX4_sumsAgree_3 (by decide) ?_
      refine x_icmp_ge 32 g dX4_sumsAgree_5 (by decide) (fun c_1 => ?_) (fun c_1 => ?_)
      · have h := ite_t c_1 h
        refine x_iconst (v := 1) g dX4_sumsAgree_32 (by decide) ?_
        cases h
        exact x_zretS (b := true) g e dX4_sumsAgree_33 rfl rfl rfl
      · have h := ite_f c_1 h
        refine x_aload_n 0 g dX4_sumsAgree_8 rfl rfl ?_
        obtain ⟨q_2, h⟩ := gd_e h
        obtain ⟨b_3, e_4, h⟩ := gb_e h
        refine x_getr g dX4_sumsAgree_9 gXX4 3 4 rfl (by decide) rfl lf_X4_21 q_2 e_4 ?_
        refine x_iload_n 1 g dX4_sumsAgree_12 rfl rfl ?_
        obtain ⟨r_6, q_5, h⟩ := gb_e h
        refine x_cN [.int r_6] g (k_X5_valueAt q_5) ca_X5_valueAt st_X5_valueAt ln_X4_57 (Nat.le_of_ble_eq_true rfl) rfl rfl (Nat.le_of_ble_eq_true rfl) dX4_sumsAgree_13 rfl ?_
        refine x_aload_n 0 g dX4_sumsAgree_16 rfl rfl ?_
        refine x_iload_n 1 g dX4_sumsAgree_17 rfl rfl ?_
        obtain ⟨r_8, q_7, h⟩ := gb_e h
        refine x_cV [.int r_8, .int r_6] g (k_X4_addUpTrials q_7) ca_X4_addUpTrials in_X4_addUpTrials se_X4_addUpTrials lm_X4_82 gXX4 q_2 (Nat.le_of_ble_eq_true rfl) rfl rfl (Nat.le_of_ble_eq_true rfl) dX4_sumsAgree_18 rfl ?_
        refine x_icmp_eq 26 g dX4_sumsAgree_21 (by decide) (fun c_9 => ?_) (fun c_9 => ?_)
        · have h := ite_t c_9 h
          obtain ⟨x1_10, e_11⟩ : ∃ z : Int32, z = x1 + 1 := ⟨_, rfl⟩
          have h := glt_e e_11 h
          refine x_iinc (v := x1_10) g dX4_sumsAgree_26 rfl (by rw [e_11]; rfl) rfl ?_
          refine x_goto 2 g dX4_sumsAgree_29 (by decide) ?_
          exact ih _ h
        · have h := ite_f c_9 h
          refine x_iconst (v := 0) g dX4_sumsAgree_24 (by decide) ?_
          cases h
          exact x_zretS (b := false) g e dX4_sumsAgree_25 rfl rfl rfl
  exact L2 gN _ h
noncomputable def f_X1_agrees_L4 (G : gG) (a0 : Nat) (S : gS) : Nat → Int32 → Int32 → Option Bool
  | 0, _, _ => none
  | n4 + 1, x1, x2 => gd (gis G 0 a0) <| if (gI S 0 a0) ≤ x2 then (if x1 = (gI S 3 a0) then (gb (f_X1_rewardByUmbrellas G a0 S) fun (r_5 : Int32) => gb (f_X1_rewardByActions G a0 S) fun (r_7 : Int32) => if r_5 = r_7 then (some true) else (some false)) else (some false)) else (gbx1 (f_X1_umbrellaAt G a0 x2 S) (fun (E_20 : String) => none) fun (r_10 : Nat) => gd (gis G 1 r_10) <| if (gI S 10 r_10) < (gI S 13 r_10) then (some false) else (gb (f_X4_sumsAgree G r_10 S) fun (r_14 : Bool) => if (gz r_14) = 0 then (some false) else (glt (x1 + (gI S 16 r_10)) fun (x1_16 : Int32) => glt (x2 + 1) fun (x2_18 : Int32) => f_X1_agrees_L4 G a0 S n4 x1_16 x2_18)))
noncomputable def f_X1_agrees (G : gG) (a0 : Nat) (S : gS) : Option Bool := f_X1_agrees_L4 G a0 S gN 0 0
set_option maxRecDepth 100000 in
set_option maxHeartbeats 4000000 in
theorem k_X1_agrees {ad : Nat → Nat} {G : gG} {a0 : Nat} {S : gS} {T : gT} {r : Bool} (h : f_X1_agrees G a0 S = some r) : Ct ad yX1_agrees (Cond.code yX1_agrees cX1_agrees 4 (some .boolean) :: gTb) 3 0 0 [.ref a0] G S T (some (.int (gz r))) G S T := by
  refine Ct.ofB rfl (Nat.le_of_ble_eq_true rfl) rfl (fun K g e hK => ?_)
  obtain ⟨rfl, -⟩ := hK
  show Xj K [] G 0 [some (.ref a0), none, none, none] [] S T 0 0
  unfold f_X1_agrees at h
  refine x_iconst (v := 0) g dX1_agrees_0 (by decide) ?_
  refine x_istore_n 1 g dX1_agrees_1 rfl (Nat.le_of_ble_eq_true rfl) rfl ?_
  refine x_iconst (v := 0) g dX1_agrees_2 (by decide) ?_
  refine x_istore_n 2 g dX1_agrees_3 rfl (Nat.le_of_ble_eq_true rfl) rfl ?_
  have L4 : ∀ (n4 : Nat) (x1 : Int32) (x2 : Int32), f_X1_agrees_L4 G a0 S n4 x1 x2 = some r → Xj K [] G 4 [some (.ref a0), some (.int x1), some (.int x2), none] [] S T 0 0 := by
    intro n4
    induction n4 with
    | zero =>
      intro x1 x2 h
      rw [f_X1_agrees_L4] at h
      cases h
    | succ n4 ih =>
      intro x1 x2 h
      rw [f_X1_agrees_L4] at h
      refine x_iload_n 2 g dX1_agrees_4 rfl rfl ?_
      refine x_aload_n 0 g dX1_agrees_5 rfl rfl ?_
      obtain ⟨q_1, h⟩ := gd_e h
      refine x_geti g dX1_agrees_6 gXX1 1 0 rfl (by decide) rfl lf_X1_17 q_1 ?_
      refine x_icmp_ge 51 g dX1_agrees_9 (by decide) (fun c_2 => ?_) (fun c_2 => ?_)
      · have h := ite_t c_2 h
        refine x_iload_n 1 g dX1_agrees_51 rfl rfl ?_
        refine x_aload_n 0 g dX1_agrees_52 rfl rfl ?_
        refine x_geti g dX1_agrees_53 gXX1 4 3 rfl (by decide) rfl lf_X1_27 q_1 ?_
        refine x_icmp_ne 74 g dX1_agrees_56 (by decide) (fun c_3 => ?_) (fun c_3 => ?_)
        · have h := ite_f c_3 h
          refine x_iconst (v := 0) g dX1_agrees_74 (by decide) ?_
          cases h
          exact x_zretS (b := false) g e dX1_agrees_75 rfl rfl rfl
        · have h := ite_t c_3 h
          refine x_aload_n 0 g dX1_agrees_59 rfl rfl ?_
          obtain ⟨r_5, q_4, h⟩ := gb_e h
          refine x_cV [.int r_5] g (k_X1_rewardByUmbrellas q_4) ca_X1_rewardByUmbrellas in_X1_rewardByUmbrellas se_X1_rewardByUmbrellas lm_X1_127 gXX1 q_1 (Nat.le_of_ble_eq_true rfl) rfl rfl (Nat.le_of_ble_eq_true rfl) dX1_agrees_60 rfl ?_
          refine x_aload_n 0 g dX1_agrees_63 rfl rfl ?_
          obtain ⟨r_7, q_6, h⟩ := gb_e h
          refine x_cV [.int r_7, .int r_5] g (k_X1_rewardByActions q_6) ca_X1_rewardByActions in_X1_rewardByActions se_X1_rewardByActions lm_X1_131 gXX1 q_1 (Nat.le_of_ble_eq_true rfl) rfl rfl (Nat.le_of_ble_eq_true rfl) dX1_agrees_64 rfl ?_
          refine x_icmp_ne 74 g dX1_agrees_67 (by decide) (fun c_8 => ?_) (fun c_8 => ?_)
          · have h := ite_f c_8 h
            refine x_iconst (v := 0) g dX1_agrees_74 (by decide) ?_
            cases h
            exact x_zretS (b := false) g e dX1_agrees_75 rfl rfl rfl
          · have h := ite_t c_8 h
            refine x_iconst (v := 1) g dX1_agrees_70 (by decide) ?_
            refine x_goto 75 g dX1_agrees_71 (by decide) ?_
            cases h
            exact x_zretS (b := true) g e dX1_agrees_75 rfl rfl rfl
      · have h := ite_f c_2 h
        refine x_aload_n 0 g dX1_agrees_12 rfl rfl ?_
        refine x_iload_n 2 g dX1_agrees_13 rfl rfl ?_
        rcases gbx1_e h with ⟨E_20, q_9, h⟩ | ⟨r_10, q_9, h⟩
        · cases h
        refine x_cV [.ref r_10] g (k_X1_umbrellaAt q_9) ca_X1_umbrellaAt in_X1_umbrellaAt se_X1_umbrellaAt lm_X1_51 gXX1 q_1 (Nat.le_of_ble_eq_true rfl) rfl rfl (Nat.le_of_ble_eq_true rfl) dX1_agrees_14 rfl ?_
        refine x_astore_n 3 g dX1_agrees_17 rfl (Nat.le_of_ble_eq_true rfl) rfl ?_
        refine x_aload_n 3 g dX1_agrees_18 rfl rfl ?_
        obtain ⟨q_11, h⟩ := gd_e h
        refine x_geti g dX1_agrees_19 gXX4 7 13 rfl (by decide) rfl lf_X1_121 q_11 ?_
        refine x_aload_n 3 g dX1_agrees_22 rfl rfl ?_
        refine x_geti g dX1_agrees_23 gXX4 4 10 rfl (by decide) rfl lf_X1_55 q_11 ?_
        refine x_icmp_gt 36 g dX1_agrees_26 (by decide) (fun c_12 => ?_) (fun c_12 => ?_)
        · have h := ite_t c_12 h
          refine x_iconst (v := 0) g dX1_agrees_36 (by decide) ?_
          cases h
          exact x_zretS (b := false) g e dX1_agrees_37 rfl rfl rfl
        · have h := ite_f c_12 h
          refine x_aload_n 3 g dX1_agrees_29 rfl rfl ?_
          obtain ⟨r_14, q_13, h⟩ := gb_e h
          refine x_cV [.int (gz r_14)] g (k_X4_sumsAgree q_13) ca_X4_sumsAgree in_X4_sumsAgree se_X4_sumsAgree lm_X1_124 gXX4 q_11 (Nat.le_of_ble_eq_true rfl) rfl rfl (Nat.le_of_ble_eq_true rfl) dX1_agrees_30 rfl ?_
          refine x_if_ne 38 g dX1_agrees_33 (by decide) (fun c_15 => ?_) (fun c_15 => ?_)
          · have h := ite_f c_15 h
            refine x_iload_n 1 g dX1_agrees_38 rfl rfl ?_
            refine x_aload_n 3 g dX1_agrees_39 rfl rfl ?_
            refine x_geti g dX1_agrees_40 gXX4 10 16 rfl (by decide) rfl lf_X1_104 q_11 ?_
            refine x_iadd g dX1_agrees_43 ?_
            refine x_nI (fun x1_16 e_17 => ?_)
            have h := glt_e e_17 h
            refine x_istore_n 1 g dX1_agrees_44 rfl (Nat.le_of_ble_eq_true rfl) rfl ?_
            obtain ⟨x2_18, e_19⟩ : ∃ z : Int32, z = x2 + 1 := ⟨_, rfl⟩
            have h := glt_e e_19 h
            refine x_iinc (v := x2_18) g dX1_agrees_45 rfl (by rw [e_19]; rfl) rfl ?_
            refine x_goto 4 g dX1_agrees_48 (by decide) ?_
            refine x_dr 3 ?_
            exact ih _ _ h
          · have h := ite_t c_15 h
            refine x_iconst (v := 0) g dX1_agrees_36 (by decide) ?_
            cases h
            exact x_zretS (b := false) g e dX1_agrees_37 rfl rfl rfl
  exact L4 gN _ _ h
noncomputable def f_X4_changePeriod (G : gG) (a0 : Nat) (a1 : Int32) (S : gS) : Option (Int32 × gS) := gd (gis G 1 a0) <| glt (gI S 11 a0) fun (x2_2 : Int32) => glt (sI S 11 a0 a1) fun (S_4 : gS) => some (x2_2, S_4)
set_option maxRecDepth 100000 in
set_option maxHeartbeats 4000000 in
theorem k_X4_changePeriod {ad : Nat → Nat} {G : gG} {a0 : Nat} {a1 : Int32} {S S1 : gS} {T : gT} {r : Int32} (h : f_X4_changePeriod G a0 a1 S = some (r, S1)) : Ct ad yX4_changePeriod (Cond.code yX4_changePeriod cX4_changePeriod 3 (some .int) :: gTb) 0 0 0 [.ref a0, .int a1] G S T (some (.int r)) G S1 T := by
  refine Ct.ofB rfl (Nat.le_of_ble_eq_true rfl) rfl (fun K g e hK => ?_)
  obtain ⟨rfl, -⟩ := hK
  show Xj K [] G 0 [some (.ref a0), some (.int a1), none] [] S T 0 0
  unfold f_X4_changePeriod at h
  refine x_aload_n 0 g dX4_changePeriod_0 rfl rfl ?_
  obtain ⟨q_1, h⟩ := gd_e h
  refine x_geti g dX4_changePeriod_1 gXX4 5 11 rfl (by decide) rfl lf_X4_28 q_1 ?_
  refine x_nI (fun x2_2 e_3 => ?_)
  have h := glt_e e_3 h
  refine x_istore_n 2 g dX4_changePeriod_4 rfl (Nat.le_of_ble_eq_true rfl) rfl ?_
  refine x_aload_n 0 g dX4_changePeriod_5 rfl rfl ?_
  refine x_iload_n 1 g dX4_changePeriod_6 rfl rfl ?_
  refine x_puti g dX4_changePeriod_7 gXX4 5 11 rfl (by decide) rfl rfl lf_X4_28 rfl rfl q_1 ?_
  refine x_nS (fun S_4 e_5 => ?_)
  have h := glt_e e_5 h
  refine x_iload_n 2 g dX4_changePeriod_10 rfl rfl ?_
  cases h
  exact x_iretS g e dX4_changePeriod_11 rfl rfl
noncomputable def f_X5_rainOfSituation (a0 : Int32) : Option Int32 := some (a0 / 4)
set_option maxRecDepth 100000 in
set_option maxHeartbeats 4000000 in
theorem k_X5_rainOfSituation {ad : Nat → Nat} {G : gG} {a0 : Int32} {S : gS} {T : gT} {r : Int32} (h : f_X5_rainOfSituation a0 = some r) : Ct ad yX5_rainOfSituation (Cond.code yX5_rainOfSituation cX5_rainOfSituation 1 (some .int) :: gTb) 0 0 0 [.int a0] G S T (some (.int r)) G S T := by
  refine Ct.ofB rfl (Nat.le_of_ble_eq_true rfl) rfl (fun K g e hK => ?_)
  obtain ⟨rfl, -⟩ := hK
  show Xj K [] G 0 [some (.int a0)] [] S T 0 0
  unfold f_X5_rainOfSituation at h
  refine x_iload_n 0 g dX5_rainOfSituation_0 rfl rfl ?_
  refine x_iconst (v := 4) g dX5_rainOfSituation_1 (by decide) ?_
  refine x_idiv g dX5_rainOfSituation_2 (by decide) ?_
  cases h
  exact x_iretS g e dX5_rainOfSituation_3 rfl rfl
noncomputable def f_X5_rainOfCase (a0 : Int32) : Option Int32 := gb (f_X5_rainOfSituation (a0 / 2)) fun (r_2 : Int32) => some r_2
set_option maxRecDepth 100000 in
set_option maxHeartbeats 4000000 in
theorem k_X5_rainOfCase {ad : Nat → Nat} {G : gG} {a0 : Int32} {S : gS} {T : gT} {r : Int32} (h : f_X5_rainOfCase a0 = some r) : Ct ad yX5_rainOfCase (Cond.code yX5_rainOfCase cX5_rainOfCase 1 (some .int) :: gTb) 1 0 0 [.int a0] G S T (some (.int r)) G S T := by
  refine Ct.ofB rfl (Nat.le_of_ble_eq_true rfl) rfl (fun K g e hK => ?_)
  obtain ⟨rfl, -⟩ := hK
  show Xj K [] G 0 [some (.int a0)] [] S T 0 0
  unfold f_X5_rainOfCase at h
  refine x_iload_n 0 g dX5_rainOfCase_0 rfl rfl ?_
  refine x_iconst (v := 2) g dX5_rainOfCase_1 (by decide) ?_
  refine x_idiv g dX5_rainOfCase_2 (by decide) ?_
  obtain ⟨r_2, q_1, h⟩ := gb_e h
  refine x_cS [.int r_2] g (k_X5_rainOfSituation q_1) ca_X5_rainOfSituation st_X5_rainOfSituation lm_X5_174 (Nat.le_of_ble_eq_true rfl) rfl rfl (Nat.le_of_ble_eq_true rfl) dX5_rainOfCase_3 rfl ?_
  cases h
  exact x_iretS g e dX5_rainOfCase_6 rfl rfl
noncomputable def f_X4_forgetTrialsIn_L4 (G : gG) (a0 : Nat) (a1 : Int32) : Nat → Int32 → Int32 → gS → Option (Int32 × gS)
  | 0, _, _, _ => none
  | n4 + 1, x2, x3, S => gd (gis G 1 a0) <| if (gI S 13 a0) ≤ x3 then (glt ((gI S 13 a0) - x2) fun (x3_3 : Int32) => glt (sI S 13 a0 x2) fun (S_5 : gS) => some (x3_3, S_5)) else (gb (gP S 1 a0) fun (b_7 : Nat) => gb (f_X5_valueAt G b_7 x3 S) fun (r_10 : Int32) => gb (gP S 2 a0) fun (b_11 : Nat) => gb (f_X5_valueAt G b_11 x3 S) fun (r_14 : Int32) => gb (f_X5_rainOfCase r_10) fun (r_16 : Int32) => if r_16 = a1 then (gb (f_X4_countCase G a0 r_10 (-1) (-r_14) S) fun (S_31 : gS) => glt (x3 + 1) fun (x3_32 : Int32) => f_X4_forgetTrialsIn_L4 G a0 a1 n4 x2 x3_32 S_31) else (gb (gP S 1 a0) fun (b_18 : Nat) => gb (f_X5_putAt G b_18 x2 r_10 S) fun (S_21 : gS) => gb (gP S_21 2 a0) fun (b_22 : Nat) => gb (f_X5_putAt G b_22 x2 r_14 S_21) fun (S_25 : gS) => glt (x2 + 1) fun (x2_26 : Int32) => glt (x3 + 1) fun (x3_28 : Int32) => f_X4_forgetTrialsIn_L4 G a0 a1 n4 x2_26 x3_28 S_25))
noncomputable def f_X4_forgetTrialsIn (G : gG) (a0 : Nat) (a1 : Int32) (S : gS) : Option (Int32 × gS) := f_X4_forgetTrialsIn_L4 G a0 a1 gN 0 0 S
set_option maxRecDepth 100000 in
set_option maxHeartbeats 4000000 in
theorem k_X4_forgetTrialsIn {ad : Nat → Nat} {G : gG} {a0 : Nat} {a1 : Int32} {S S1 : gS} {T : gT} {r : Int32} (h : f_X4_forgetTrialsIn G a0 a1 S = some (r, S1)) : Ct ad yX4_forgetTrialsIn (Cond.code yX4_forgetTrialsIn cX4_forgetTrialsIn 6 (some .int) :: gTb) 2 0 0 [.ref a0, .int a1] G S T (some (.int r)) G S1 T := by
  refine Ct.ofB rfl (Nat.le_of_ble_eq_true rfl) rfl (fun K g e hK => ?_)
  obtain ⟨rfl, -⟩ := hK
  show Xj K [] G 0 [some (.ref a0), some (.int a1), none, none, none, none] [] S T 0 0
  unfold f_X4_forgetTrialsIn at h
  refine x_iconst (v := 0) g dX4_forgetTrialsIn_0 (by decide) ?_
  refine x_istore_n 2 g dX4_forgetTrialsIn_1 rfl (Nat.le_of_ble_eq_true rfl) rfl ?_
  refine x_iconst (v := 0) g dX4_forgetTrialsIn_2 (by decide) ?_
  refine x_istore_n 3 g dX4_forgetTrialsIn_3 rfl (Nat.le_of_ble_eq_true rfl) rfl ?_
  have L4 : ∀ (n4 : Nat) (x2 : Int32) (x3 : Int32) (S : gS), f_X4_forgetTrialsIn_L4 G a0 a1 n4 x2 x3 S = some (r, S1) → Xj K [] G 4 [some (.ref a0), some (.int a1), some (.int x2), some (.int x3), none, none] [] S T 0 0 := by
    intro n4
    induction n4 with
    | zero =>
      intro x2 x3 S h
      rw [f_X4_forgetTrialsIn_L4] at h
      cases h
    | succ n4 ih =>
      intro x2 x3 S h
      rw [f_X4_forgetTrialsIn_L4] at h
      refine x_iload_n 3 g dX4_forgetTrialsIn_4 rfl rfl ?_
      refine x_aload_n 0 g dX4_forgetTrialsIn_5 rfl rfl ?_
      obtain ⟨q_1, h⟩ := gd_e h
      refine x_geti g dX4_forgetTrialsIn_6 gXX4 7 13 rfl (by decide) rfl lf_X4_34 q_1 ?_
      refine x_icmp_ge 83 g dX4_forgetTrialsIn_9 (by decide) (fun c_2 => ?_) (fun c_2 => ?_)
      · have h := ite_t c_2 h
        refine x_aload_n 0 g dX4_forgetTrialsIn_83 rfl rfl ?_
        refine x_geti g dX4_forgetTrialsIn_84 gXX4 7 13 rfl (by decide) rfl lf_X4_34 q_1 ?_
        refine x_iload_n 2 g dX4_forgetTrialsIn_87 rfl rfl ?_
        refine x_isub g dX4_forgetTrialsIn_88 ?_
        refine x_nI (fun x3_3 e_4 => ?_)
        have h := glt_e e_4 h
        refine x_istore_n 3 g dX4_forgetTrialsIn_89 rfl (Nat.le_of_ble_eq_true rfl) rfl ?_
        refine x_aload_n 0 g dX4_forgetTrialsIn_90 rfl rfl ?_
        refine x_iload_n 2 g dX4_forgetTrialsIn_91 rfl rfl ?_
        refine x_puti g dX4_forgetTrialsIn_92 gXX4 7 13 rfl (by decide) rfl rfl lf_X4_34 rfl rfl q_1 ?_
        refine x_nS (fun S_5 e_6 => ?_)
        have h := glt_e e_6 h
        refine x_iload_n 3 g dX4_forgetTrialsIn_95 rfl rfl ?_
        cases h
        exact x_iretS g e dX4_forgetTrialsIn_96 rfl rfl
      · have h := ite_f c_2 h
        refine x_aload_n 0 g dX4_forgetTrialsIn_12 rfl rfl ?_
        obtain ⟨b_7, e_8, h⟩ := gb_e h
        refine x_getr g dX4_forgetTrialsIn_13 gXX4 0 1 rfl (by decide) rfl lf_X4_9 q_1 e_8 ?_
        refine x_iload_n 3 g dX4_forgetTrialsIn_16 rfl rfl ?_
        obtain ⟨r_10, q_9, h⟩ := gb_e h
        refine x_cN [.int r_10] g (k_X5_valueAt q_9) ca_X5_valueAt st_X5_valueAt ln_X4_57 (Nat.le_of_ble_eq_true rfl) rfl rfl (Nat.le_of_ble_eq_true rfl) dX4_forgetTrialsIn_17 rfl ?_
        refine x_istore (i := 4) g dX4_forgetTrialsIn_20 (Nat.le_of_ble_eq_true rfl) rfl ?_
        refine x_aload_n 0 g dX4_forgetTrialsIn_22 rfl rfl ?_
        obtain ⟨b_11, e_12, h⟩ := gb_e h
        refine x_getr g dX4_forgetTrialsIn_23 gXX4 1 2 rfl (by decide) rfl lf_X4_15 q_1 e_12 ?_
        refine x_iload_n 3 g dX4_forgetTrialsIn_26 rfl rfl ?_
        obtain ⟨r_14, q_13, h⟩ := gb_e h
        refine x_cN [.int r_14] g (k_X5_valueAt q_13) ca_X5_valueAt st_X5_valueAt ln_X4_57 (Nat.le_of_ble_eq_true rfl) rfl rfl (Nat.le_of_ble_eq_true rfl) dX4_forgetTrialsIn_27 rfl ?_
        refine x_istore (i := 5) g dX4_forgetTrialsIn_30 (Nat.le_of_ble_eq_true rfl) rfl ?_
        refine x_iload (i := 4) g dX4_forgetTrialsIn_32 rfl ?_
        obtain ⟨r_16, q_15, h⟩ := gb_e h
        refine x_cN [.int r_16] g (k_X5_rainOfCase q_15) ca_X5_rainOfCase st_X5_rainOfCase ln_X4_69 (Nat.le_of_ble_eq_true rfl) rfl rfl (Nat.le_of_ble_eq_true rfl) dX4_forgetTrialsIn_34 rfl ?_
        refine x_iload_n 1 g dX4_forgetTrialsIn_37 rfl rfl ?_
        refine x_icmp_ne 54 g dX4_forgetTrialsIn_38 (by decide) (fun c_17 => ?_) (fun c_17 => ?_)
        · have h := ite_f c_17 h
          refine x_aload_n 0 g dX4_forgetTrialsIn_54 rfl rfl ?_
          obtain ⟨b_18, e_19, h⟩ := gb_e h
          refine x_getr g dX4_forgetTrialsIn_55 gXX4 0 1 rfl (by decide) rfl lf_X4_9 q_1 e_19 ?_
          refine x_iload_n 2 g dX4_forgetTrialsIn_58 rfl rfl ?_
          refine x_iload (i := 4) g dX4_forgetTrialsIn_59 rfl ?_
          obtain ⟨S_21, q_20, h⟩ := gb_e h
          refine x_cN [] g (k_X5_putAt q_20) ca_X5_putAt st_X5_putAt ln_X4_61 (Nat.le_of_ble_eq_true rfl) rfl rfl (Nat.le_of_ble_eq_true rfl) dX4_forgetTrialsIn_61 rfl ?_
          refine x_aload_n 0 g dX4_forgetTrialsIn_64 rfl rfl ?_
          obtain ⟨b_22, e_23, h⟩ := gb_e h
          refine x_getr g dX4_forgetTrialsIn_65 gXX4 1 2 rfl (by decide) rfl lf_X4_15 q_1 e_23 ?_
          refine x_iload_n 2 g dX4_forgetTrialsIn_68 rfl rfl ?_
          refine x_iload (i := 5) g dX4_forgetTrialsIn_69 rfl ?_
          obtain ⟨S_25, q_24, h⟩ := gb_e h
          refine x_cN [] g (k_X5_putAt q_24) ca_X5_putAt st_X5_putAt ln_X4_61 (Nat.le_of_ble_eq_true rfl) rfl rfl (Nat.le_of_ble_eq_true rfl) dX4_forgetTrialsIn_71 rfl ?_
          obtain ⟨x2_26, e_27⟩ : ∃ z : Int32, z = x2 + 1 := ⟨_, rfl⟩
          have h := glt_e e_27 h
          refine x_iinc (v := x2_26) g dX4_forgetTrialsIn_74 rfl (by rw [e_27]; rfl) rfl ?_
          obtain ⟨x3_28, e_29⟩ : ∃ z : Int32, z = x3 + 1 := ⟨_, rfl⟩
          have h := glt_e e_29 h
          refine x_iinc (v := x3_28) g dX4_forgetTrialsIn_77 rfl (by rw [e_29]; rfl) rfl ?_
          refine x_goto 4 g dX4_forgetTrialsIn_80 (by decide) ?_
          refine x_dr 4 ?_
          refine x_dr 5 ?_
          exact ih _ _ _ h
        · have h := ite_t c_17 h
          refine x_aload_n 0 g dX4_forgetTrialsIn_41 rfl rfl ?_
          refine x_iload (i := 4) g dX4_forgetTrialsIn_42 rfl ?_
          refine x_iconst (v := (-1)) g dX4_forgetTrialsIn_44 (by decide) ?_
          refine x_iload (i := 5) g dX4_forgetTrialsIn_45 rfl ?_
          refine x_ineg g dX4_forgetTrialsIn_47 ?_
          obtain ⟨S_31, q_30, h⟩ := gb_e h
          refine x_cV [] g (k_X4_countCase q_30) ca_X4_countCase in_X4_countCase se_X4_countCase lm_X4_65 gXX4 q_1 (Nat.le_of_ble_eq_true rfl) rfl rfl (Nat.le_of_ble_eq_true rfl) dX4_forgetTrialsIn_48 rfl ?_
          refine x_goto 77 g dX4_forgetTrialsIn_51 (by decide) ?_
          obtain ⟨x3_32, e_33⟩ : ∃ z : Int32, z = x3 + 1 := ⟨_, rfl⟩
          have h := glt_e e_33 h
          refine x_iinc (v := x3_32) g dX4_forgetTrialsIn_77 rfl (by rw [e_33]; rfl) rfl ?_
          refine x_goto 4 g dX4_forgetTrialsIn_80 (by decide) ?_
          refine x_dr 4 ?_
          refine x_dr 5 ?_
          exact ih _ _ _ h
  exact L4 gN _ _ _ h
noncomputable def f_X4_timesIn (G : gG) (a0 : Nat) (a1 : Int32) (S : gS) : Option Int32 := gd (gis G 1 a0) <| gb (gP S 3 a0) fun (b_2 : Nat) => gb (f_X5_caseInSituation a1 true) fun (r_5 : Int32) => gb (f_X5_valueAt G b_2 r_5 S) fun (r_7 : Int32) => gb (gP S 3 a0) fun (b_8 : Nat) => gb (f_X5_caseInSituation a1 false) fun (r_11 : Int32) => gb (f_X5_valueAt G b_8 r_11 S) fun (r_13 : Int32) => some (r_7 + r_13)
set_option maxRecDepth 100000 in
set_option maxHeartbeats 4000000 in
theorem k_X4_timesIn {ad : Nat → Nat} {G : gG} {a0 : Nat} {a1 : Int32} {S : gS} {T : gT} {r : Int32} (h : f_X4_timesIn G a0 a1 S = some r) : Ct ad yX4_timesIn (Cond.code yX4_timesIn cX4_timesIn 2 (some .int) :: gTb) 1 0 0 [.ref a0, .int a1] G S T (some (.int r)) G S T := by
  refine Ct.ofB rfl (Nat.le_of_ble_eq_true rfl) rfl (fun K g e hK => ?_)
  obtain ⟨rfl, -⟩ := hK
  show Xj K [] G 0 [some (.ref a0), some (.int a1)] [] S T 0 0
  unfold f_X4_timesIn at h
  refine x_aload_n 0 g dX4_timesIn_0 rfl rfl ?_
  obtain ⟨q_1, h⟩ := gd_e h
  obtain ⟨b_2, e_3, h⟩ := gb_e h
  refine x_getr g dX4_timesIn_1 gXX4 2 3 rfl (by decide) rfl lf_X4_18 q_1 e_3 ?_
  refine x_iload_n 1 g dX4_timesIn_4 rfl rfl ?_
  refine x_iconst (v := 1) g dX4_timesIn_5 (by decide) ?_
  obtain ⟨r_5, q_4, h⟩ := gb_e h
  refine x_cN [.int r_5, .ref b_2] g (k_X5_caseInSituation q_4) ca_X5_caseInSituation st_X5_caseInSituation ln_X4_53 (Nat.le_of_ble_eq_true rfl) rfl rfl (Nat.le_of_ble_eq_true rfl) dX4_timesIn_6 rfl ?_
  obtain ⟨r_7, q_6, h⟩ := gb_e h
  refine x_cN [.int r_7] g (k_X5_valueAt q_6) ca_X5_valueAt st_X5_valueAt ln_X4_57 (Nat.le_of_ble_eq_true rfl) rfl rfl (Nat.le_of_ble_eq_true rfl) dX4_timesIn_9 rfl ?_
  refine x_aload_n 0 g dX4_timesIn_12 rfl rfl ?_
  obtain ⟨b_8, e_9, h⟩ := gb_e h
  refine x_getr g dX4_timesIn_13 gXX4 2 3 rfl (by decide) rfl lf_X4_18 q_1 e_9 ?_
  refine x_iload_n 1 g dX4_timesIn_16 rfl rfl ?_
  refine x_iconst (v := 0) g dX4_timesIn_17 (by decide) ?_
  obtain ⟨r_11, q_10, h⟩ := gb_e h
  refine x_cN [.int r_11, .ref b_8, .int r_7] g (k_X5_caseInSituation q_10) ca_X5_caseInSituation st_X5_caseInSituation ln_X4_53 (Nat.le_of_ble_eq_true rfl) rfl rfl (Nat.le_of_ble_eq_true rfl) dX4_timesIn_18 rfl ?_
  obtain ⟨r_13, q_12, h⟩ := gb_e h
  refine x_cN [.int r_13, .int r_7] g (k_X5_valueAt q_12) ca_X5_valueAt st_X5_valueAt ln_X4_57 (Nat.le_of_ble_eq_true rfl) rfl rfl (Nat.le_of_ble_eq_true rfl) dX4_timesIn_21 rfl ?_
  refine x_iadd g dX4_timesIn_24 ?_
  cases h
  exact x_iretS g e dX4_timesIn_25 rfl rfl
noncomputable def f_X4_countKnownSituations_L4 (G : gG) (a0 : Nat) (S : gS) : Nat → Int32 → Int32 → Option Int32
  | 0, _, _ => none
  | n4 + 1, x1, x2 => if 16 ≤ x2 then (some x1) else (gd (gis G 1 a0) <| gb (f_X4_timesIn G a0 x2 S) fun (r_4 : Int32) => if r_4 ≤ 0 then (glt (x2 + 1) fun (x2_6 : Int32) => f_X4_countKnownSituations_L4 G a0 S n4 x1 x2_6) else (glt (x1 + 1) fun (x1_8 : Int32) => glt (x2 + 1) fun (x2_10 : Int32) => f_X4_countKnownSituations_L4 G a0 S n4 x1_8 x2_10))
noncomputable def f_X4_countKnownSituations (G : gG) (a0 : Nat) (S : gS) : Option Int32 := f_X4_countKnownSituations_L4 G a0 S gN 0 0
set_option maxRecDepth 100000 in
set_option maxHeartbeats 4000000 in
theorem k_X4_countKnownSituations {ad : Nat → Nat} {G : gG} {a0 : Nat} {S : gS} {T : gT} {r : Int32} (h : f_X4_countKnownSituations G a0 S = some r) : Ct ad yX4_countKnownSituations (Cond.code yX4_countKnownSituations cX4_countKnownSituations 3 (some .int) :: gTb) 2 0 0 [.ref a0] G S T (some (.int r)) G S T := by
  refine Ct.ofB rfl (Nat.le_of_ble_eq_true rfl) rfl (fun K g e hK => ?_)
  obtain ⟨rfl, -⟩ := hK
  show Xj K [] G 0 [some (.ref a0), none, none] [] S T 0 0
  unfold f_X4_countKnownSituations at h
  refine x_iconst (v := 0) g dX4_countKnownSituations_0 (by decide) ?_
  refine x_istore_n 1 g dX4_countKnownSituations_1 rfl (Nat.le_of_ble_eq_true rfl) rfl ?_
  refine x_iconst (v := 0) g dX4_countKnownSituations_2 (by decide) ?_
  refine x_istore_n 2 g dX4_countKnownSituations_3 rfl (Nat.le_of_ble_eq_true rfl) rfl ?_
  have L4 : ∀ (n4 : Nat) (x1 : Int32) (x2 : Int32), f_X4_countKnownSituations_L4 G a0 S n4 x1 x2 = some r → Xj K [] G 4 [some (.ref a0), some (.int x1), some (.int x2)] [] S T 0 0 := by
    intro n4
    induction n4 with
    | zero =>
      intro x1 x2 h
      rw [f_X4_countKnownSituations_L4] at h
      cases h
    | succ n4 ih =>
      intro x1 x2 h
      rw [f_X4_countKnownSituations_L4] at h
      refine x_iload_n 2 g dX4_countKnownSituations_4 rfl rfl ?_
      refine x_bipush (v := 16) g dX4_countKnownSituations_5 (by decide) ?_
      refine x_icmp_ge 27 g dX4_countKnownSituations_7 (by decide) (fun c_1 => ?_) (fun c_1 => ?_)
      · have h := ite_t c_1 h
        refine x_iload_n 1 g dX4_countKnownSituations_27 rfl rfl ?_
        cases h
        exact x_iretS g e dX4_countKnownSituations_28 rfl rfl
      · have h := ite_f c_1 h
        refine x_aload_n 0 g dX4_countKnownSituations_10 rfl rfl ?_
        refine x_iload_n 2 g dX4_countKnownSituations_11 rfl rfl ?_
        obtain ⟨q_2, h⟩ := gd_e h
        obtain ⟨r_4, q_3, h⟩ := gb_e h
        refine x_cV [.int r_4] g (k_X4_timesIn q_3) ca_X4_timesIn in_X4_timesIn se_X4_timesIn lm_X4_76 gXX4 q_2 (Nat.le_of_ble_eq_true rfl) rfl rfl (Nat.le_of_ble_eq_true rfl) dX4_countKnownSituations_12 rfl ?_
        refine x_if_le 21 g dX4_countKnownSituations_15 (by decide) (fun c_5 => ?_) (fun c_5 => ?_)
        · have h := ite_t c_5 h
          obtain ⟨x2_6, e_7⟩ : ∃ z : Int32, z = x2 + 1 := ⟨_, rfl⟩
          have h := glt_e e_7 h
          refine x_iinc (v := x2_6) g dX4_countKnownSituations_21 rfl (by rw [e_7]; rfl) rfl ?_
          refine x_goto 4 g dX4_countKnownSituations_24 (by decide) ?_
          exact ih _ _ h
        · have h := ite_f c_5 h
          obtain ⟨x1_8, e_9⟩ : ∃ z : Int32, z = x1 + 1 := ⟨_, rfl⟩
          have h := glt_e e_9 h
          refine x_iinc (v := x1_8) g dX4_countKnownSituations_18 rfl (by rw [e_9]; rfl) rfl ?_
          obtain ⟨x2_10, e_11⟩ : ∃ z : Int32, z = x2 + 1 := ⟨_, rfl⟩
          have h := glt_e e_11 h
          refine x_iinc (v := x2_10) g dX4_countKnownSituations_21 rfl (by rw [e_11]; rfl) rfl ?_
          refine x_goto 4 g dX4_countKnownSituations_24 (by decide) ?_
          exact ih _ _ h
  exact L4 gN _ _ h
noncomputable def f_X4_situationsBefore_L11 (G : gG) (a0 : Nat) (a1 : Int32) (S : gS) : Nat → Int32 → Int32 → Int32 → Option Int32
  | 0, _, _, _ => none
  | n11 + 1, x2, x3, x4 => if 16 ≤ x4 then (some x3) else (gd (gis G 1 a0) <| gb (f_X4_timesIn G a0 x4 S) fun (r_7 : Int32) => if x2 < r_7 then (glt (x3 + 1) fun (x3_9 : Int32) => glt (x4 + 1) fun (x4_11 : Int32) => f_X4_situationsBefore_L11 G a0 a1 S n11 x2 x3_9 x4_11) else (if r_7 = x2 then (if a1 ≤ x4 then (glt (x4 + 1) fun (x4_17 : Int32) => f_X4_situationsBefore_L11 G a0 a1 S n11 x2 x3 x4_17) else (glt (x3 + 1) fun (x3_19 : Int32) => glt (x4 + 1) fun (x4_21 : Int32) => f_X4_situationsBefore_L11 G a0 a1 S n11 x2 x3_19 x4_21)) else (glt (x4 + 1) fun (x4_14 : Int32) => f_X4_situationsBefore_L11 G a0 a1 S n11 x2 x3 x4_14)))
noncomputable def f_X4_situationsBefore (G : gG) (a0 : Nat) (a1 : Int32) (S : gS) : Option Int32 := gd (gis G 1 a0) <| gb (f_X4_timesIn G a0 a1 S) fun (r_3 : Int32) => f_X4_situationsBefore_L11 G a0 a1 S gN r_3 0 0
set_option maxRecDepth 100000 in
set_option maxHeartbeats 4000000 in
theorem k_X4_situationsBefore {ad : Nat → Nat} {G : gG} {a0 : Nat} {a1 : Int32} {S : gS} {T : gT} {r : Int32} (h : f_X4_situationsBefore G a0 a1 S = some r) : Ct ad yX4_situationsBefore (Cond.code yX4_situationsBefore cX4_situationsBefore 6 (some .int) :: gTb) 2 0 0 [.ref a0, .int a1] G S T (some (.int r)) G S T := by
  refine Ct.ofB rfl (Nat.le_of_ble_eq_true rfl) rfl (fun K g e hK => ?_)
  obtain ⟨rfl, -⟩ := hK
  show Xj K [] G 0 [some (.ref a0), some (.int a1), none, none, none, none] [] S T 0 0
  unfold f_X4_situationsBefore at h
  refine x_aload_n 0 g dX4_situationsBefore_0 rfl rfl ?_
  refine x_iload_n 1 g dX4_situationsBefore_1 rfl rfl ?_
  obtain ⟨q_1, h⟩ := gd_e h
  obtain ⟨r_3, q_2, h⟩ := gb_e h
  refine x_cV [.int r_3] g (k_X4_timesIn q_2) ca_X4_timesIn in_X4_timesIn se_X4_timesIn lm_X4_76 gXX4 q_1 (Nat.le_of_ble_eq_true rfl) rfl rfl (Nat.le_of_ble_eq_true rfl) dX4_situationsBefore_2 rfl ?_
  refine x_istore_n 2 g dX4_situationsBefore_5 rfl (Nat.le_of_ble_eq_true rfl) rfl ?_
  refine x_iconst (v := 0) g dX4_situationsBefore_6 (by decide) ?_
  refine x_istore_n 3 g dX4_situationsBefore_7 rfl (Nat.le_of_ble_eq_true rfl) rfl ?_
  refine x_iconst (v := 0) g dX4_situationsBefore_8 (by decide) ?_
  refine x_istore (i := 4) g dX4_situationsBefore_9 (Nat.le_of_ble_eq_true rfl) rfl ?_
  have L11 : ∀ (n11 : Nat) (x2 : Int32) (x3 : Int32) (x4 : Int32), f_X4_situationsBefore_L11 G a0 a1 S n11 x2 x3 x4 = some r → Xj K [] G 11 [some (.ref a0), some (.int a1), some (.int x2), some (.int x3), some (.int x4), none] [] S T 0 0 := by
    intro n11
    induction n11 with
    | zero =>
      intro x2 x3 x4 h
      rw [f_X4_situationsBefore_L11] at h
      cases h
    | succ n11 ih =>
      intro x2 x3 x4 h
      rw [f_X4_situationsBefore_L11] at h
      refine x_iload (i := 4) g dX4_situationsBefore_11 rfl ?_
      refine x_bipush (v := 16) g dX4_situationsBefore_13 (by decide) ?_
      refine x_icmp_ge 53 g dX4_situationsBefore_15 (by decide) (fun c_4 => ?_) (fun c_4 => ?_)
      · have h := ite_t c_4 h
        refine x_iload_n 3 g dX4_situationsBefore_53 rfl rfl ?_
        cases h
        exact x_iretS g e dX4_situationsBefore_54 rfl rfl
      · have h := ite_f c_4 h
        refine x_aload_n 0 g dX4_situationsBefore_18 rfl rfl ?_
        refine x_iload (i := 4) g dX4_situationsBefore_19 rfl ?_
        obtain ⟨q_5, h⟩ := gd_e h
        obtain ⟨r_7, q_6, h⟩ := gb_e h
        refine x_cV [.int r_7] g (k_X4_timesIn q_6) ca_X4_timesIn in_X4_timesIn se_X4_timesIn lm_X4_76 gXX4 q_5 (Nat.le_of_ble_eq_true rfl) rfl rfl (Nat.le_of_ble_eq_true rfl) dX4_situationsBefore_21 rfl ?_
        refine x_istore (i := 5) g dX4_situationsBefore_24 (Nat.le_of_ble_eq_true rfl) rfl ?_
        refine x_iload (i := 5) g dX4_situationsBefore_26 rfl ?_
        refine x_iload_n 2 g dX4_situationsBefore_28 rfl rfl ?_
        refine x_icmp_gt 44 g dX4_situationsBefore_29 (by decide) (fun c_8 => ?_) (fun c_8 => ?_)
        · have h := ite_t c_8 h
          obtain ⟨x3_9, e_10⟩ : ∃ z : Int32, z = x3 + 1 := ⟨_, rfl⟩
          have h := glt_e e_10 h
          refine x_iinc (v := x3_9) g dX4_situationsBefore_44 rfl (by rw [e_10]; rfl) rfl ?_
          obtain ⟨x4_11, e_12⟩ : ∃ z : Int32, z = x4 + 1 := ⟨_, rfl⟩
          have h := glt_e e_12 h
          refine x_iinc (v := x4_11) g dX4_situationsBefore_47 rfl (by rw [e_12]; rfl) rfl ?_
          refine x_goto 11 g dX4_situationsBefore_50 (by decide) ?_
          refine x_dr 5 ?_
          exact ih _ _ _ h
        · have h := ite_f c_8 h
          refine x_iload (i := 5) g dX4_situationsBefore_32 rfl ?_
          refine x_iload_n 2 g dX4_situationsBefore_34 rfl rfl ?_
          refine x_icmp_ne 47 g dX4_situationsBefore_35 (by decide) (fun c_13 => ?_) (fun c_13 => ?_)
          · have h := ite_f c_13 h
            obtain ⟨x4_14, e_15⟩ : ∃ z : Int32, z = x4 + 1 := ⟨_, rfl⟩
            have h := glt_e e_15 h
            refine x_iinc (v := x4_14) g dX4_situationsBefore_47 rfl (by rw [e_15]; rfl) rfl ?_
            refine x_goto 11 g dX4_situationsBefore_50 (by decide) ?_
            refine x_dr 5 ?_
            exact ih _ _ _ h
          · have h := ite_t c_13 h
            refine x_iload (i := 4) g dX4_situationsBefore_38 rfl ?_
            refine x_iload_n 1 g dX4_situationsBefore_40 rfl rfl ?_
            refine x_icmp_ge 47 g dX4_situationsBefore_41 (by decide) (fun c_16 => ?_) (fun c_16 => ?_)
            · have h := ite_t c_16 h
              obtain ⟨x4_17, e_18⟩ : ∃ z : Int32, z = x4 + 1 := ⟨_, rfl⟩
              have h := glt_e e_18 h
              refine x_iinc (v := x4_17) g dX4_situationsBefore_47 rfl (by rw [e_18]; rfl) rfl ?_
              refine x_goto 11 g dX4_situationsBefore_50 (by decide) ?_
              refine x_dr 5 ?_
              exact ih _ _ _ h
            · have h := ite_f c_16 h
              obtain ⟨x3_19, e_20⟩ : ∃ z : Int32, z = x3 + 1 := ⟨_, rfl⟩
              have h := glt_e e_20 h
              refine x_iinc (v := x3_19) g dX4_situationsBefore_44 rfl (by rw [e_20]; rfl) rfl ?_
              obtain ⟨x4_21, e_22⟩ : ∃ z : Int32, z = x4 + 1 := ⟨_, rfl⟩
              have h := glt_e e_22 h
              refine x_iinc (v := x4_21) g dX4_situationsBefore_47 rfl (by rw [e_22]; rfl) rfl ?_
              refine x_goto 11 g dX4_situationsBefore_50 (by decide) ?_
              refine x_dr 5 ?_
              exact ih _ _ _ h
  exact L11 gN _ _ _ h
noncomputable def f_X4_situationAtRank_L2 (G : gG) (a0 : Nat) (a1 : Int32) (S : gS) : Nat → Int32 → Option Int32
  | 0, _ => none
  | n2 + 1, x2 => if 16 ≤ x2 then (some (-1)) else (gd (gis G 1 a0) <| gb (f_X4_timesIn G a0 x2 S) fun (r_4 : Int32) => if r_4 ≤ 0 then (glt (x2 + 1) fun (x2_6 : Int32) => f_X4_situationAtRank_L2 G a0 a1 S n2 x2_6) else (gb (f_X4_situationsBefore G a0 x2 S) fun (r_9 : Int32) => if r_9 = a1 then (some x2) else (glt (x2 + 1) fun (x2_11 : Int32) => f_X4_situationAtRank_L2 G a0 a1 S n2 x2_11)))
noncomputable def f_X4_situationAtRank (G : gG) (a0 : Nat) (a1 : Int32) (S : gS) : Option Int32 := f_X4_situationAtRank_L2 G a0 a1 S gN 0
set_option maxRecDepth 100000 in
set_option maxHeartbeats 4000000 in
theorem k_X4_situationAtRank {ad : Nat → Nat} {G : gG} {a0 : Nat} {a1 : Int32} {S : gS} {T : gT} {r : Int32} (h : f_X4_situationAtRank G a0 a1 S = some r) : Ct ad yX4_situationAtRank (Cond.code yX4_situationAtRank cX4_situationAtRank 3 (some .int) :: gTb) 3 0 0 [.ref a0, .int a1] G S T (some (.int r)) G S T := by
  refine Ct.ofB rfl (Nat.le_of_ble_eq_true rfl) rfl (fun K g e hK => ?_)
  obtain ⟨rfl, -⟩ := hK
  show Xj K [] G 0 [some (.ref a0), some (.int a1), none] [] S T 0 0
  unfold f_X4_situationAtRank at h
  refine x_iconst (v := 0) g dX4_situationAtRank_0 (by decide) ?_
  refine x_istore_n 2 g dX4_situationAtRank_1 rfl (Nat.le_of_ble_eq_true rfl) rfl ?_
  have L2 : ∀ (n2 : Nat) (x2 : Int32), f_X4_situationAtRank_L2 G a0 a1 S n2 x2 = some r → Xj K [] G 2 [some (.ref a0), some (.int a1), some (.int x2)] [] S T 0 0 := by
    intro n2
    induction n2 with
    | zero =>
      intro x2 h
      rw [f_X4_situationAtRank_L2] at h
      cases h
    | succ n2 ih =>
      intro x2 h
      rw [f_X4_situationAtRank_L2] at h
      refine x_iload_n 2 g dX4_situationAtRank_2 rfl rfl ?_
      refine x_bipush (v := 16) g dX4_situationAtRank_3 (by decide) ?_
      refine x_icmp_ge 33 g dX4_situationAtRank_5 (by decide) (fun c_1 => ?_) (fun c_1 => ?_)
      · have h := ite_t c_1 h
        refine x_iconst (v := (-1)) g dX4_situationAtRank_33 (by decide) ?_
        cases h
        exact x_iretS g e dX4_situationAtRank_34 rfl rfl
      · have h := ite_f c_1 h
        refine x_aload_n 0 g dX4_situationAtRank_8 rfl rfl ?_
        refine x_iload_n 2 g dX4_situationAtRank_9 rfl rfl ?_
        obtain ⟨q_2, h⟩ := gd_e h
        obtain ⟨r_4, q_3, h⟩ := gb_e h
        refine x_cV [.int r_4] g (k_X4_timesIn q_3) ca_X4_timesIn in_X4_timesIn se_X4_timesIn lm_X4_76 gXX4 q_2 (Nat.le_of_ble_eq_true rfl) rfl rfl (Nat.le_of_ble_eq_true rfl) dX4_situationAtRank_10 rfl ?_
        refine x_if_le 27 g dX4_situationAtRank_13 (by decide) (fun c_5 => ?_) (fun c_5 => ?_)
        · have h := ite_t c_5 h
          obtain ⟨x2_6, e_7⟩ : ∃ z : Int32, z = x2 + 1 := ⟨_, rfl⟩
          have h := glt_e e_7 h
          refine x_iinc (v := x2_6) g dX4_situationAtRank_27 rfl (by rw [e_7]; rfl) rfl ?_
          refine x_goto 2 g dX4_situationAtRank_30 (by decide) ?_
          exact ih _ h
        · have h := ite_f c_5 h
          refine x_aload_n 0 g dX4_situationAtRank_16 rfl rfl ?_
          refine x_iload_n 2 g dX4_situationAtRank_17 rfl rfl ?_
          obtain ⟨r_9, q_8, h⟩ := gb_e h
          refine x_cV [.int r_9] g (k_X4_situationsBefore q_8) ca_X4_situationsBefore in_X4_situationsBefore se_X4_situationsBefore lm_X4_79 gXX4 q_2 (Nat.le_of_ble_eq_true rfl) rfl rfl (Nat.le_of_ble_eq_true rfl) dX4_situationAtRank_18 rfl ?_
          refine x_iload_n 1 g dX4_situationAtRank_21 rfl rfl ?_
          refine x_icmp_ne 27 g dX4_situationAtRank_22 (by decide) (fun c_10 => ?_) (fun c_10 => ?_)
          · have h := ite_f c_10 h
            obtain ⟨x2_11, e_12⟩ : ∃ z : Int32, z = x2 + 1 := ⟨_, rfl⟩
            have h := glt_e e_12 h
            refine x_iinc (v := x2_11) g dX4_situationAtRank_27 rfl (by rw [e_12]; rfl) rfl ?_
            refine x_goto 2 g dX4_situationAtRank_30 (by decide) ?_
            exact ih _ h
          · have h := ite_t c_10 h
            refine x_iload_n 2 g dX4_situationAtRank_25 rfl rfl ?_
            cases h
            exact x_iretS g e dX4_situationAtRank_26 rfl rfl
  exact L2 gN _ h
noncomputable def f_X4_hasPassed (G : gG) (a0 : Nat) (a1 : Int32) (S : gS) : Option Bool := gd (gis G 1 a0) <| if ((gI S 17 a0) &&& (1 <<< (a1 &&& 31))) = 0 then (some false) else (some true)
set_option maxRecDepth 100000 in
set_option maxHeartbeats 4000000 in
theorem k_X4_hasPassed {ad : Nat → Nat} {G : gG} {a0 : Nat} {a1 : Int32} {S : gS} {T : gT} {r : Bool} (h : f_X4_hasPassed G a0 a1 S = some r) : Ct ad yX4_hasPassed (Cond.code yX4_hasPassed cX4_hasPassed 2 (some .boolean) :: gTb) 0 0 0 [.ref a0, .int a1] G S T (some (.int (gz r))) G S T := by
  refine Ct.ofB rfl (Nat.le_of_ble_eq_true rfl) rfl (fun K g e hK => ?_)
  obtain ⟨rfl, -⟩ := hK
  show Xj K [] G 0 [some (.ref a0), some (.int a1)] [] S T 0 0
  unfold f_X4_hasPassed at h
  refine x_aload_n 0 g dX4_hasPassed_0 rfl rfl ?_
  obtain ⟨q_1, h⟩ := gd_e h
  refine x_geti g dX4_hasPassed_1 gXX4 11 17 rfl (by decide) rfl lf_X4_46 q_1 ?_
  refine x_iconst (v := 1) g dX4_hasPassed_4 (by decide) ?_
  refine x_iload_n 1 g dX4_hasPassed_5 rfl rfl ?_
  refine x_ishl g dX4_hasPassed_6 ?_
  refine x_iand g dX4_hasPassed_7 ?_
  refine x_if_eq 15 g dX4_hasPassed_8 (by decide) (fun c_2 => ?_) (fun c_2 => ?_)
  · have h := ite_t c_2 h
    refine x_iconst (v := 0) g dX4_hasPassed_15 (by decide) ?_
    cases h
    exact x_zretS (b := false) g e dX4_hasPassed_16 rfl rfl rfl
  · have h := ite_f c_2 h
    refine x_iconst (v := 1) g dX4_hasPassed_11 (by decide) ?_
    refine x_goto 16 g dX4_hasPassed_12 (by decide) ?_
    cases h
    exact x_zretS (b := true) g e dX4_hasPassed_16 rfl rfl rfl
noncomputable def f_X5_isBetween (a0 : Int32) (a1 : Int32) (a2 : Int32) : Option Bool := if a0 < a1 then (some false) else (if a2 < a0 then (some false) else (some true))
set_option maxRecDepth 100000 in
set_option maxHeartbeats 4000000 in
theorem k_X5_isBetween {ad : Nat → Nat} {G : gG} {a0 : Int32} {a1 : Int32} {a2 : Int32} {S : gS} {T : gT} {r : Bool} (h : f_X5_isBetween a0 a1 a2 = some r) : Ct ad yX5_isBetween (Cond.code yX5_isBetween cX5_isBetween 3 (some .boolean) :: gTb) 0 0 0 [.int a0, .int a1, .int a2] G S T (some (.int (gz r))) G S T := by
  refine Ct.ofB rfl (Nat.le_of_ble_eq_true rfl) rfl (fun K g e hK => ?_)
  obtain ⟨rfl, -⟩ := hK
  show Xj K [] G 0 [some (.int a0), some (.int a1), some (.int a2)] [] S T 0 0
  unfold f_X5_isBetween at h
  refine x_iload_n 0 g dX5_isBetween_0 rfl rfl ?_
  refine x_iload_n 1 g dX5_isBetween_1 rfl rfl ?_
  refine x_icmp_lt 14 g dX5_isBetween_2 (by decide) (fun c_1 => ?_) (fun c_1 => ?_)
  · have h := ite_t c_1 h
    refine x_iconst (v := 0) g dX5_isBetween_14 (by decide) ?_
    cases h
    exact x_zretS (b := false) g e dX5_isBetween_15 rfl rfl rfl
  · have h := ite_f c_1 h
    refine x_iload_n 0 g dX5_isBetween_5 rfl rfl ?_
    refine x_iload_n 2 g dX5_isBetween_6 rfl rfl ?_
    refine x_icmp_gt 14 g dX5_isBetween_7 (by decide) (fun c_2 => ?_) (fun c_2 => ?_)
    · have h := ite_t c_2 h
      refine x_iconst (v := 0) g dX5_isBetween_14 (by decide) ?_
      cases h
      exact x_zretS (b := false) g e dX5_isBetween_15 rfl rfl rfl
    · have h := ite_f c_2 h
      refine x_iconst (v := 1) g dX5_isBetween_10 (by decide) ?_
      refine x_goto 15 g dX5_isBetween_11 (by decide) ?_
      cases h
      exact x_zretS (b := true) g e dX5_isBetween_15 rfl rfl rfl
noncomputable def f_X5_isLevel (a0 : Int32) : Option Bool := gb (f_X5_isBetween a0 0 3) fun (r_2 : Bool) => some r_2
set_option maxRecDepth 100000 in
set_option maxHeartbeats 4000000 in
theorem k_X5_isLevel {ad : Nat → Nat} {G : gG} {a0 : Int32} {S : gS} {T : gT} {r : Bool} (h : f_X5_isLevel a0 = some r) : Ct ad yX5_isLevel (Cond.code yX5_isLevel cX5_isLevel 1 (some .boolean) :: gTb) 1 0 0 [.int a0] G S T (some (.int (gz r))) G S T := by
  refine Ct.ofB rfl (Nat.le_of_ble_eq_true rfl) rfl (fun K g e hK => ?_)
  obtain ⟨rfl, -⟩ := hK
  show Xj K [] G 0 [some (.int a0)] [] S T 0 0
  unfold f_X5_isLevel at h
  refine x_iload_n 0 g dX5_isLevel_0 rfl rfl ?_
  refine x_iconst (v := 0) g dX5_isLevel_1 (by decide) ?_
  refine x_iconst (v := 3) g dX5_isLevel_2 (by decide) ?_
  obtain ⟨r_2, q_1, h⟩ := gb_e h
  refine x_cS [.int (gz r_2)] g (k_X5_isBetween q_1) ca_X5_isBetween st_X5_isBetween lm_X5_260 (Nat.le_of_ble_eq_true rfl) rfl rfl (Nat.le_of_ble_eq_true rfl) dX5_isLevel_3 rfl ?_
  cases h
  exact x_zretS g e dX5_isLevel_6 rfl rfl rfl
noncomputable def f_X5_refusalFor (G : gG) (a0 : Nat) (a1 : Int32) (a2 : Bool) (S : gS) : Option Nat := gd (gis G 2 a0) <| gb (gP S 5 a0) fun (b_2 : Nat) => gd (gis G 0 b_2) <| gb (f_X5_isBetween a1 0 ((gI S 0 b_2) - 1)) fun (r_6 : Bool) => if (gz r_6) = 0 then (some 1) else (if (gz a2) = 0 then (some 2) else (some 0))
set_option maxRecDepth 100000 in
set_option maxHeartbeats 4000000 in
theorem k_X5_refusalFor {ad : Nat → Nat} {G : gG} {a0 : Nat} {a1 : Int32} {a2 : Bool} {S : gS} {T : gT} {r : Nat} (h : f_X5_refusalFor G a0 a1 a2 S = some r) : Ct ad yX5_refusalFor (Cond.code yX5_refusalFor cX5_refusalFor 3 (some ( .object "UmbrellaSchool$Refusal")) :: gTb) 1 0 0 [.ref a0, .int a1, .int (gz a2)] G S T (some (.ref (ad (10 + r)))) G S T := by
  refine Ct.ofB rfl (Nat.le_of_ble_eq_true rfl) rfl (fun K g e hK => ?_)
  obtain ⟨rfl, -⟩ := hK
  show Xj K [] G 0 [some (.ref a0), some (.int a1), some (.int (gz a2))] [] S T 0 0
  unfold f_X5_refusalFor at h
  refine x_iload_n 1 g dX5_refusalFor_0 rfl rfl ?_
  refine x_iconst (v := 0) g dX5_refusalFor_1 (by decide) ?_
  refine x_aload_n 0 g dX5_refusalFor_2 rfl rfl ?_
  obtain ⟨q_1, h⟩ := gd_e h
  obtain ⟨b_2, e_3, h⟩ := gb_e h
  refine x_getr g dX5_refusalFor_3 gXX5 0 5 rfl (by decide) rfl lf_X5_12 q_1 e_3 ?_
  obtain ⟨q_4, h⟩ := gd_e h
  refine x_geti g dX5_refusalFor_6 gXX1 1 0 rfl (by decide) rfl lf_X5_78 q_4 ?_
  refine x_iconst (v := 1) g dX5_refusalFor_9 (by decide) ?_
  refine x_isub g dX5_refusalFor_10 ?_
  obtain ⟨r_6, q_5, h⟩ := gb_e h
  refine x_cS [.int (gz r_6)] g (k_X5_isBetween q_5) ca_X5_isBetween st_X5_isBetween lm_X5_260 (Nat.le_of_ble_eq_true rfl) rfl rfl (Nat.le_of_ble_eq_true rfl) dX5_refusalFor_11 rfl ?_
  refine x_if_ne 21 g dX5_refusalFor_14 (by decide) (fun c_7 => ?_) (fun c_7 => ?_)
  · have h := ite_f c_7 h
    refine x_iload_n 2 g dX5_refusalFor_21 rfl rfl ?_
    refine x_if_eq 31 g dX5_refusalFor_22 (by decide) (fun c_8 => ?_) (fun c_8 => ?_)
    · have h := ite_t c_8 h
      refine x_gst g dX5_refusalFor_31 (hzR g 2 (by decide)) ls_X5_327 ?_
      cases h
      exact x_aretS g e dX5_refusalFor_34 rfl rfl
    · have h := ite_f c_8 h
      refine x_gst g dX5_refusalFor_25 (hzR g 0 (by decide)) ls_X5_333 ?_
      refine x_goto 34 g dX5_refusalFor_28 (by decide) ?_
      cases h
      exact x_aretS g e dX5_refusalFor_34 rfl rfl
  · have h := ite_t c_7 h
    refine x_gst g dX5_refusalFor_17 (hzR g 1 (by decide)) ls_X5_343 ?_
    cases h
    exact x_aretS g e dX5_refusalFor_20 rfl rfl
noncomputable def f_X5_refusalOf (G : gG) (a0 : Nat) (a1 : Nat) (a2 : Int32) (a3 : Int32) (a4 : Int32) (a5 : Int32) (S : gS) : Option Nat := gd (a1 < 8) <| gd (vp_in (nI a1) 8) <| if (gsw (Int32.toNatClampNeg (nI a1))) = 1 then (gb (f_X5_isBetween a2 3 20) fun (r_5 : Bool) => if (gz r_5) = 0 then (some 2) else (gd (gis G 2 a0) <| gb (gP S 5 a0) fun (b_8 : Nat) => gd (gis G 0 b_8) <| if 6 ≤ (gI S 0 b_8) then (some 3) else (some 0))) else if (gsw (Int32.toNatClampNeg (nI a1))) = 2 then (gb (f_X5_isLevel a3) fun (r_14 : Bool) => if (gz r_14) = 0 then (gd (gis G 2 a0) <| gb (f_X5_refusalFor G a0 a2 false S) fun (r_18 : Nat) => some r_18) else (gb (f_X5_isLevel a4) fun (r_20 : Bool) => if (gz r_20) = 0 then (gd (gis G 2 a0) <| gb (f_X5_refusalFor G a0 a2 false S) fun (r_24 : Nat) => some r_24) else (gb (f_X5_isBetween a5 1 9) fun (r_26 : Bool) => if (gz r_26) = 0 then (gd (gis G 2 a0) <| gb (f_X5_refusalFor G a0 a2 false S) fun (r_30 : Nat) => some r_30) else (gd (gis G 2 a0) <| gb (f_X5_refusalFor G a0 a2 true S) fun (r_33 : Nat) => some r_33)))) else if (gsw (Int32.toNatClampNeg (nI a1))) = 3 then (gb (f_X5_isBetween a3 0 9) fun (r_36 : Bool) => gd (gis G 2 a0) <| gb (f_X5_refusalFor G a0 a2 r_36 S) fun (r_39 : Nat) => some r_39) else if (gsw (Int32.toNatClampNeg (nI a1))) = 4 then (gb (f_X5_isBetween a2 0 9) fun (r_42 : Bool) => if (gz r_42) = 0 then (some 2) else (some 0)) else if (gsw (Int32.toNatClampNeg (nI a1))) = 5 then (gb (f_X5_isBetween a2 0 9) fun (r_46 : Bool) => if (gz r_46) = 0 then (some 2) else (some 0)) else if (gsw (Int32.toNatClampNeg (nI a1))) = 6 then (gb (f_X5_isLevel a3) fun (r_50 : Bool) => gd (gis G 2 a0) <| gb (f_X5_refusalFor G a0 a2 r_50 S) fun (r_53 : Nat) => some r_53) else if (gsw (Int32.toNatClampNeg (nI a1))) = 7 then (gb (f_X5_isLevel a3) fun (r_56 : Bool) => gd (gis G 2 a0) <| gb (f_X5_refusalFor G a0 a2 r_56 S) fun (r_59 : Nat) => some r_59) else (gd (gis G 2 a0) <| gb (gP S 5 a0) fun (b_61 : Nat) => gd (gis G 0 b_61) <| if (gI S 0 b_61) ≤ 0 then (some 3) else (some 0))
set_option maxRecDepth 100000 in
set_option maxHeartbeats 4000000 in
theorem k_X5_refusalOf {ad : Nat → Nat} {G : gG} {a0 : Nat} {a1 : Nat} {a2 : Int32} {a3 : Int32} {a4 : Int32} {a5 : Int32} {S : gS} {T : gT} {r : Nat} (h : f_X5_refusalOf G a0 a1 a2 a3 a4 a5 S = some r) : Ct ad yX5_refusalOf (Cond.code yX5_refusalOf cX5_refusalOf 6 (some ( .object "UmbrellaSchool$Refusal")) :: gTb) 2 0 0 [.ref a0, .ref (ad a1), .int a2, .int a3, .int a4, .int a5] G S T (some (.ref (ad (10 + r)))) G S T := by
  refine Ct.ofB rfl (Nat.le_of_ble_eq_true rfl) rfl (fun K g e hK => ?_)
  obtain ⟨rfl, -⟩ := hK
  show Xj K [] G 0 [some (.ref a0), some (.ref ((ky K).2 a1)), some (.int a2), some (.int a3), some (.int a4), some (.int a5)] [] S T 0 0
  unfold f_X5_refusalOf at h
  refine x_gst g dX5_refusalOf_0 (hzW g) ls_X5_319 ?_
  refine x_aload_n 1 g dX5_refusalOf_3 rfl rfl ?_
  obtain ⟨q_1, h⟩ := gd_e h
  refine x_ord g q_1 lmo_X5_324 (by decide) (Nat.le_of_ble_eq_true rfl) dX5_refusalOf_4 ?_
  obtain ⟨q_2, h⟩ := gd_e h
  refine x_ldSW g dX5_refusalOf_7 q_2 ?_
  by_cases c_3 : (gsw (Int32.toNatClampNeg (nI a1))) = 1
  · have h := ite_t c_3 h
    refine x_tabI (off := 44) 1 52 g dX5_refusalOf_8 c_3 (by decide) (by decide) (by decide) (by decide) ?_
    refine x_iload_n 2 g dX5_refusalOf_52 rfl rfl ?_
    refine x_iconst (v := 3) g dX5_refusalOf_53 (by decide) ?_
    refine x_bipush (v := 20) g dX5_refusalOf_54 (by decide) ?_
    obtain ⟨r_5, q_4, h⟩ := gb_e h
    refine x_cS [.int (gz r_5)] g (k_X5_isBetween q_4) ca_X5_isBetween st_X5_isBetween lm_X5_260 (Nat.le_of_ble_eq_true rfl) rfl rfl (Nat.le_of_ble_eq_true rfl) dX5_refusalOf_56 rfl ?_
    refine x_if_ne 66 g dX5_refusalOf_59 (by decide) (fun c_6 => ?_) (fun c_6 => ?_)
    · have h := ite_f c_6 h
      refine x_aload_n 0 g dX5_refusalOf_66 rfl rfl ?_
      obtain ⟨q_7, h⟩ := gd_e h
      obtain ⟨b_8, e_9, h⟩ := gb_e h
      refine x_getr g dX5_refusalOf_67 gXX5 0 5 rfl (by decide) rfl lf_X5_12 q_7 e_9 ?_
      obtain ⟨q_10, h⟩ := gd_e h
      refine x_geti g dX5_refusalOf_70 gXX1 1 0 rfl (by decide) rfl lf_X5_78 q_10 ?_
      refine x_bipush (v := 6) g dX5_refusalOf_73 (by decide) ?_
      refine x_icmp_ge 84 g dX5_refusalOf_75 (by decide) (fun c_11 => ?_) (fun c_11 => ?_)
      · have h := ite_t c_11 h
        refine x_gst g dX5_refusalOf_84 (hzR g 3 (by decide)) ls_X5_336 ?_
        cases h
        exact x_aretS g e dX5_refusalOf_87 rfl rfl
      · have h := ite_f c_11 h
        refine x_gst g dX5_refusalOf_78 (hzR g 0 (by decide)) ls_X5_333 ?_
        refine x_goto 87 g dX5_refusalOf_81 (by decide) ?_
        cases h
        exact x_aretS g e dX5_refusalOf_87 rfl rfl
    · have h := ite_t c_6 h
      refine x_gst g dX5_refusalOf_62 (hzR g 2 (by decide)) ls_X5_327 ?_
      cases h
      exact x_aretS g e dX5_refusalOf_65 rfl rfl
  have h := ite_f c_3 h
  by_cases c_12 : (gsw (Int32.toNatClampNeg (nI a1))) = 2
  · have h := ite_t c_12 h
    refine x_tabI (off := 80) 2 88 g dX5_refusalOf_8 c_12 (by decide) (by decide) (by decide) (by decide) ?_
    refine x_aload_n 0 g dX5_refusalOf_88 rfl rfl ?_
    refine x_iload_n 2 g dX5_refusalOf_89 rfl rfl ?_
    refine x_iload_n 3 g dX5_refusalOf_90 rfl rfl ?_
    obtain ⟨r_14, q_13, h⟩ := gb_e h
    refine x_cS [.int (gz r_14), .int a2, .ref a0] g (k_X5_isLevel q_13) ca_X5_isLevel st_X5_isLevel lm_X5_180 (Nat.le_of_ble_eq_true rfl) rfl rfl (Nat.le_of_ble_eq_true rfl) dX5_refusalOf_91 rfl ?_
    refine x_if_eq 120 g dX5_refusalOf_94 (by decide) (fun c_15 => ?_) (fun c_15 => ?_)
    · have h := ite_t c_15 h
      refine x_iconst (v := 0) g dX5_refusalOf_120 (by decide) ?_
      obtain ⟨q_16, h⟩ := gd_e h
      obtain ⟨r_18, q_17, h⟩ := gb_e h
      refine x_cV [.ref ((ky K).2 (10 + r_18))] g (k_X5_refusalFor q_17) ca_X5_refusalFor in_X5_refusalFor se_X5_refusalFor lm_X5_339 gXX5 q_16 (Nat.le_of_ble_eq_true rfl) rfl rfl (Nat.le_of_ble_eq_true rfl) dX5_refusalOf_121 rfl ?_
      cases h
      exact x_aretS g e dX5_refusalOf_124 rfl rfl
    · have h := ite_f c_15 h
      refine x_iload (i := 4) g dX5_refusalOf_97 rfl ?_
      obtain ⟨r_20, q_19, h⟩ := gb_e h
      refine x_cS [.int (gz r_20), .int a2, .ref a0] g (k_X5_isLevel q_19) ca_X5_isLevel st_X5_isLevel lm_X5_180 (Nat.le_of_ble_eq_true rfl) rfl rfl (Nat.le_of_ble_eq_true rfl) dX5_refusalOf_99 rfl ?_
      refine x_if_eq 120 g dX5_refusalOf_102 (by decide) (fun c_21 => ?_) (fun c_21 => ?_)
      · have h := ite_t c_21 h
        refine x_iconst (v := 0) g dX5_refusalOf_120 (by decide) ?_
        obtain ⟨q_22, h⟩ := gd_e h
        obtain ⟨r_24, q_23, h⟩ := gb_e h
        refine x_cV [.ref ((ky K).2 (10 + r_24))] g (k_X5_refusalFor q_23) ca_X5_refusalFor in_X5_refusalFor se_X5_refusalFor lm_X5_339 gXX5 q_22 (Nat.le_of_ble_eq_true rfl) rfl rfl (Nat.le_of_ble_eq_true rfl) dX5_refusalOf_121 rfl ?_
        cases h
        exact x_aretS g e dX5_refusalOf_124 rfl rfl
      · have h := ite_f c_21 h
        refine x_iload (i := 5) g dX5_refusalOf_105 rfl ?_
        refine x_iconst (v := 1) g dX5_refusalOf_107 (by decide) ?_
        refine x_bipush (v := 9) g dX5_refusalOf_108 (by decide) ?_
        obtain ⟨r_26, q_25, h⟩ := gb_e h
        refine x_cS [.int (gz r_26), .int a2, .ref a0] g (k_X5_isBetween q_25) ca_X5_isBetween st_X5_isBetween lm_X5_260 (Nat.le_of_ble_eq_true rfl) rfl rfl (Nat.le_of_ble_eq_true rfl) dX5_refusalOf_110 rfl ?_
        refine x_if_eq 120 g dX5_refusalOf_113 (by decide) (fun c_27 => ?_) (fun c_27 => ?_)
        · have h := ite_t c_27 h
          refine x_iconst (v := 0) g dX5_refusalOf_120 (by decide) ?_
          obtain ⟨q_28, h⟩ := gd_e h
          obtain ⟨r_30, q_29, h⟩ := gb_e h
          refine x_cV [.ref ((ky K).2 (10 + r_30))] g (k_X5_refusalFor q_29) ca_X5_refusalFor in_X5_refusalFor se_X5_refusalFor lm_X5_339 gXX5 q_28 (Nat.le_of_ble_eq_true rfl) rfl rfl (Nat.le_of_ble_eq_true rfl) dX5_refusalOf_121 rfl ?_
          cases h
          exact x_aretS g e dX5_refusalOf_124 rfl rfl
        · have h := ite_f c_27 h
          refine x_iconst (v := 1) g dX5_refusalOf_116 (by decide) ?_
          refine x_goto 121 g dX5_refusalOf_117 (by decide) ?_
          obtain ⟨q_31, h⟩ := gd_e h
          obtain ⟨r_33, q_32, h⟩ := gb_e h
          refine x_cV [.ref ((ky K).2 (10 + r_33))] g (k_X5_refusalFor q_32) ca_X5_refusalFor in_X5_refusalFor se_X5_refusalFor lm_X5_339 gXX5 q_31 (Nat.le_of_ble_eq_true rfl) rfl rfl (Nat.le_of_ble_eq_true rfl) dX5_refusalOf_121 rfl ?_
          cases h
          exact x_aretS g e dX5_refusalOf_124 rfl rfl
  have h := ite_f c_12 h
  by_cases c_34 : (gsw (Int32.toNatClampNeg (nI a1))) = 3
  · have h := ite_t c_34 h
    refine x_tabI (off := 117) 3 125 g dX5_refusalOf_8 c_34 (by decide) (by decide) (by decide) (by decide) ?_
    refine x_aload_n 0 g dX5_refusalOf_125 rfl rfl ?_
    refine x_iload_n 2 g dX5_refusalOf_126 rfl rfl ?_
    refine x_iload_n 3 g dX5_refusalOf_127 rfl rfl ?_
    refine x_iconst (v := 0) g dX5_refusalOf_128 (by decide) ?_
    refine x_bipush (v := 9) g dX5_refusalOf_129 (by decide) ?_
    obtain ⟨r_36, q_35, h⟩ := gb_e h
    refine x_cS [.int (gz r_36), .int a2, .ref a0] g (k_X5_isBetween q_35) ca_X5_isBetween st_X5_isBetween lm_X5_260 (Nat.le_of_ble_eq_true rfl) rfl rfl (Nat.le_of_ble_eq_true rfl) dX5_refusalOf_131 rfl ?_
    obtain ⟨q_37, h⟩ := gd_e h
    obtain ⟨r_39, q_38, h⟩ := gb_e h
    refine x_cV [.ref ((ky K).2 (10 + r_39))] g (k_X5_refusalFor q_38) ca_X5_refusalFor in_X5_refusalFor se_X5_refusalFor lm_X5_339 gXX5 q_37 (Nat.le_of_ble_eq_true rfl) rfl rfl (Nat.le_of_ble_eq_true rfl) dX5_refusalOf_134 rfl ?_
    cases h
    exact x_aretS g e dX5_refusalOf_137 rfl rfl
  have h := ite_f c_34 h
  by_cases c_40 : (gsw (Int32.toNatClampNeg (nI a1))) = 4
  · have h := ite_t c_40 h
    refine x_tabI (off := 130) 4 138 g dX5_refusalOf_8 c_40 (by decide) (by decide) (by decide) (by decide) ?_
    refine x_iload_n 2 g dX5_refusalOf_138 rfl rfl ?_
    refine x_iconst (v := 0) g dX5_refusalOf_139 (by decide) ?_
    refine x_bipush (v := 9) g dX5_refusalOf_140 (by decide) ?_
    obtain ⟨r_42, q_41, h⟩ := gb_e h
    refine x_cS [.int (gz r_42)] g (k_X5_isBetween q_41) ca_X5_isBetween st_X5_isBetween lm_X5_260 (Nat.le_of_ble_eq_true rfl) rfl rfl (Nat.le_of_ble_eq_true rfl) dX5_refusalOf_142 rfl ?_
    refine x_if_eq 154 g dX5_refusalOf_145 (by decide) (fun c_43 => ?_) (fun c_43 => ?_)
    · have h := ite_t c_43 h
      refine x_gst g dX5_refusalOf_154 (hzR g 2 (by decide)) ls_X5_327 ?_
      cases h
      exact x_aretS g e dX5_refusalOf_157 rfl rfl
    · have h := ite_f c_43 h
      refine x_gst g dX5_refusalOf_148 (hzR g 0 (by decide)) ls_X5_333 ?_
      refine x_goto 157 g dX5_refusalOf_151 (by decide) ?_
      cases h
      exact x_aretS g e dX5_refusalOf_157 rfl rfl
  have h := ite_f c_40 h
  by_cases c_44 : (gsw (Int32.toNatClampNeg (nI a1))) = 5
  · have h := ite_t c_44 h
    refine x_tabI (off := 130) 5 138 g dX5_refusalOf_8 c_44 (by decide) (by decide) (by decide) (by decide) ?_
    refine x_iload_n 2 g dX5_refusalOf_138 rfl rfl ?_
    refine x_iconst (v := 0) g dX5_refusalOf_139 (by decide) ?_
    refine x_bipush (v := 9) g dX5_refusalOf_140 (by decide) ?_
    obtain ⟨r_46, q_45, h⟩ := gb_e h
    refine x_cS [.int (gz r_46)] g (k_X5_isBetween q_45) ca_X5_isBetween st_X5_isBetween lm_X5_260 (Nat.le_of_ble_eq_true rfl) rfl rfl (Nat.le_of_ble_eq_true rfl) dX5_refusalOf_142 rfl ?_
    refine x_if_eq 154 g dX5_refusalOf_145 (by decide) (fun c_47 => ?_) (fun c_47 => ?_)
    · have h := ite_t c_47 h
      refine x_gst g dX5_refusalOf_154 (hzR g 2 (by decide)) ls_X5_327 ?_
      cases h
      exact x_aretS g e dX5_refusalOf_157 rfl rfl
    · have h := ite_f c_47 h
      refine x_gst g dX5_refusalOf_148 (hzR g 0 (by decide)) ls_X5_333 ?_
      refine x_goto 157 g dX5_refusalOf_151 (by decide) ?_
      cases h
      exact x_aretS g e dX5_refusalOf_157 rfl rfl
  have h := ite_f c_44 h
  by_cases c_48 : (gsw (Int32.toNatClampNeg (nI a1))) = 6
  · have h := ite_t c_48 h
    refine x_tabI (off := 150) 6 158 g dX5_refusalOf_8 c_48 (by decide) (by decide) (by decide) (by decide) ?_
    refine x_aload_n 0 g dX5_refusalOf_158 rfl rfl ?_
    refine x_iload_n 2 g dX5_refusalOf_159 rfl rfl ?_
    refine x_iload_n 3 g dX5_refusalOf_160 rfl rfl ?_
    obtain ⟨r_50, q_49, h⟩ := gb_e h
    refine x_cS [.int (gz r_50), .int a2, .ref a0] g (k_X5_isLevel q_49) ca_X5_isLevel st_X5_isLevel lm_X5_180 (Nat.le_of_ble_eq_true rfl) rfl rfl (Nat.le_of_ble_eq_true rfl) dX5_refusalOf_161 rfl ?_
    obtain ⟨q_51, h⟩ := gd_e h
    obtain ⟨r_53, q_52, h⟩ := gb_e h
    refine x_cV [.ref ((ky K).2 (10 + r_53))] g (k_X5_refusalFor q_52) ca_X5_refusalFor in_X5_refusalFor se_X5_refusalFor lm_X5_339 gXX5 q_51 (Nat.le_of_ble_eq_true rfl) rfl rfl (Nat.le_of_ble_eq_true rfl) dX5_refusalOf_164 rfl ?_
    cases h
    exact x_aretS g e dX5_refusalOf_167 rfl rfl
  have h := ite_f c_48 h
  by_cases c_54 : (gsw (Int32.toNatClampNeg (nI a1))) = 7
  · have h := ite_t c_54 h
    refine x_tabI (off := 150) 7 158 g dX5_refusalOf_8 c_54 (by decide) (by decide) (by decide) (by decide) ?_
    refine x_aload_n 0 g dX5_refusalOf_158 rfl rfl ?_
    refine x_iload_n 2 g dX5_refusalOf_159 rfl rfl ?_
    refine x_iload_n 3 g dX5_refusalOf_160 rfl rfl ?_
    obtain ⟨r_56, q_55, h⟩ := gb_e h
    refine x_cS [.int (gz r_56), .int a2, .ref a0] g (k_X5_isLevel q_55) ca_X5_isLevel st_X5_isLevel lm_X5_180 (Nat.le_of_ble_eq_true rfl) rfl rfl (Nat.le_of_ble_eq_true rfl) dX5_refusalOf_161 rfl ?_
    obtain ⟨q_57, h⟩ := gd_e h
    obtain ⟨r_59, q_58, h⟩ := gb_e h
    refine x_cV [.ref ((ky K).2 (10 + r_59))] g (k_X5_refusalFor q_58) ca_X5_refusalFor in_X5_refusalFor se_X5_refusalFor lm_X5_339 gXX5 q_57 (Nat.le_of_ble_eq_true rfl) rfl rfl (Nat.le_of_ble_eq_true rfl) dX5_refusalOf_164 rfl ?_
    cases h
    exact x_aretS g e dX5_refusalOf_167 rfl rfl
  have h := ite_f c_54 h
  refine x_tabD 168 g dX5_refusalOf_8 (by decide) [1, 2, 3, 4, 5, 6, 7] (List.forall_mem_cons.mpr ⟨tab_ne c_3 (by decide), List.forall_mem_cons.mpr ⟨tab_ne c_12 (by decide), List.forall_mem_cons.mpr ⟨tab_ne c_34 (by decide), List.forall_mem_cons.mpr ⟨tab_ne c_40 (by decide), List.forall_mem_cons.mpr ⟨tab_ne c_44 (by decide), List.forall_mem_cons.mpr ⟨tab_ne c_48 (by decide), List.forall_mem_cons.mpr ⟨tab_ne c_54 (by decide), fun _ h9 => nomatch h9⟩⟩⟩⟩⟩⟩⟩) (by decide) ?_
  refine x_aload_n 0 g dX5_refusalOf_168 rfl rfl ?_
  obtain ⟨q_60, h⟩ := gd_e h
  obtain ⟨b_61, e_62, h⟩ := gb_e h
  refine x_getr g dX5_refusalOf_169 gXX5 0 5 rfl (by decide) rfl lf_X5_12 q_60 e_62 ?_
  obtain ⟨q_63, h⟩ := gd_e h
  refine x_geti g dX5_refusalOf_172 gXX1 1 0 rfl (by decide) rfl lf_X5_78 q_63 ?_
  refine x_if_le 184 g dX5_refusalOf_175 (by decide) (fun c_64 => ?_) (fun c_64 => ?_)
  · have h := ite_t c_64 h
    refine x_gst g dX5_refusalOf_184 (hzR g 3 (by decide)) ls_X5_336 ?_
    cases h
    exact x_aretS g e dX5_refusalOf_187 rfl rfl
  · have h := ite_f c_64 h
    refine x_gst g dX5_refusalOf_178 (hzR g 0 (by decide)) ls_X5_333 ?_
    refine x_goto 187 g dX5_refusalOf_181 (by decide) ?_
    cases h
    exact x_aretS g e dX5_refusalOf_187 rfl rfl
noncomputable def f_X5_raise (a0 : Nat) : Option (String ⊕ Unit) := gd (a0 < 4) <| gd (1 < 4) <| if a0 = 1 then (some (.inl "java/lang/IndexOutOfBoundsException")) else (gd (2 < 4) <| if a0 = 2 then (some (.inl "java/lang/IllegalArgumentException")) else (gd (3 < 4) <| if a0 = 3 then (some (.inl "java/lang/IllegalStateException")) else (some (.inr ()))))
set_option maxRecDepth 100000 in
set_option maxHeartbeats 4000000 in
theorem k_X5_raise {ad : Nat → Nat} {G : gG} {a0 : Nat} {S : gS} {T : gT} (h : f_X5_raise a0 = some (.inr ())) : Ct ad yX5_raise (Cond.code yX5_raise cX5_raise 1 none :: gTb) 0 0 0 [.ref (ad (10 + a0))] G S T none G S T := by
  refine Ct.ofB rfl (Nat.le_of_ble_eq_true rfl) rfl (fun K g e hK => ?_)
  obtain ⟨rfl, -⟩ := hK
  show Xj K [] G 0 [some (.ref ((ky K).2 (10 + a0)))] [] S T 0 0
  unfold f_X5_raise at h
  refine x_aload_n 0 g dX5_raise_0 rfl rfl ?_
  refine x_gst g dX5_raise_1 (hzR g 1 (by decide)) ls_X5_343 ?_
  obtain ⟨q_1, h⟩ := gd_e h
  obtain ⟨q_2, h⟩ := gd_e h
  refine x_acmpREF_ne 18 g dX5_raise_4 (by decide) q_1 q_2 (fun c_3 => ?_) (fun c_3 => ?_)
  · have h := ite_f c_3 h
    refine x_aload_n 0 g dX5_raise_18 rfl rfl ?_
    refine x_gst g dX5_raise_19 (hzR g 2 (by decide)) ls_X5_327 ?_
    obtain ⟨q_4, h⟩ := gd_e h
    refine x_acmpREF_ne 36 g dX5_raise_22 (by decide) q_1 q_4 (fun c_5 => ?_) (fun c_5 => ?_)
    · have h := ite_f c_5 h
      refine x_aload_n 0 g dX5_raise_36 rfl rfl ?_
      refine x_gst g dX5_raise_37 (hzR g 3 (by decide)) ls_X5_336 ?_
      obtain ⟨q_6, h⟩ := gd_e h
      refine x_acmpREF_ne 54 g dX5_raise_40 (by decide) q_1 q_6 (fun c_7 => ?_) (fun c_7 => ?_)
      · have h := ite_f c_7 h
        cases h
        exact x_vretS g e dX5_raise_54 rfl
      · have h := ite_t c_7 h
        cases h
    · have h := ite_t c_5 h
      cases h
  · have h := ite_t c_3 h
    cases h
set_option maxRecDepth 100000 in
set_option maxHeartbeats 4000000 in
theorem t_X5_raise {ad : Nat → Nat} {G : gG} {a0 : Nat} {S : gS} {T : gT} {E : String} (h : f_X5_raise a0 = some (.inl E)) : Cx ad yX5_raise (Cond.code yX5_raise cX5_raise 1 none :: gTb) 6 [.ref (ad (10 + a0))] G S T E S T := by
  refine Cx.ofB rfl (Nat.le_of_ble_eq_true rfl) rfl (fun K g e hK => ?_)
  obtain ⟨rfl, -⟩ := hK
  show Xj K [] G 0 [some (.ref ((ky K).2 (10 + a0)))] [] S T 1 6
  unfold f_X5_raise at h
  refine x_aload_n 0 g dX5_raise_0 rfl rfl ?_
  refine x_gst g dX5_raise_1 (hzR g 1 (by decide)) ls_X5_343 ?_
  obtain ⟨q_1, h⟩ := gd_e h
  obtain ⟨q_2, h⟩ := gd_e h
  refine x_acmpREF_ne 18 g dX5_raise_4 (by decide) q_1 q_2 (fun c_3 => ?_) (fun c_3 => ?_)
  · have h := ite_f c_3 h
    refine x_aload_n 0 g dX5_raise_18 rfl rfl ?_
    refine x_gst g dX5_raise_19 (hzR g 2 (by decide)) ls_X5_327 ?_
    obtain ⟨q_4, h⟩ := gd_e h
    refine x_acmpREF_ne 36 g dX5_raise_22 (by decide) q_1 q_4 (fun c_5 => ?_) (fun c_5 => ?_)
    · have h := ite_f c_5 h
      refine x_aload_n 0 g dX5_raise_36 rfl rfl ?_
      refine x_gst g dX5_raise_37 (hzR g 3 (by decide)) ls_X5_336 ?_
      obtain ⟨q_6, h⟩ := gd_e h
      refine x_acmpREF_ne 54 g dX5_raise_40 (by decide) q_1 q_6 (fun c_7 => ?_) (fun c_7 => ?_)
      · have h := ite_f c_7 h
        cases h
      · have h := ite_t c_7 h
        cases h
        exact x_throwW "the number of umbrellas does not allow this" g e (by decide +kernel) xnm_ok cl_X5_266 ci_IllegalStateException (by decide +kernel) xat_X5_270 dX5_raise_43 dX5_raise_46 dX5_raise_47 dX5_raise_50 dX5_raise_53 (by decide) (by decide) (Nat.le_of_ble_eq_true rfl) rfl rfl
    · have h := ite_t c_5 h
      cases h
      exact x_throwW "an argument is not in its range" g e (by decide +kernel) xnm_ok cl_X5_183 ci_IllegalArgumentException (by decide +kernel) xat_X5_187 dX5_raise_25 dX5_raise_28 dX5_raise_29 dX5_raise_32 dX5_raise_35 (by decide) (by decide) (Nat.le_of_ble_eq_true rfl) rfl rfl
  · have h := ite_t c_3 h
    cases h
    exact x_throwW "there is no such umbrella" g e (by decide +kernel) xnm_ok cl_X5_251 ci_IndexOutOfBoundsException (by decide +kernel) xat_X5_255 dX5_raise_7 dX5_raise_10 dX5_raise_11 dX5_raise_14 dX5_raise_17 (by decide) (by decide) (Nat.le_of_ble_eq_true rfl) rfl rfl
noncomputable def f_X5_keepForUndo (G : gG) (a0 : Nat) (S : gS) : Option gS := gd (gis G 2 a0) <| if (gI S 20 a0) < 0 then (some S) else (gb (gP S 7 a0) fun (b_3 : Nat) => gd (gis G 8 b_3) <| if (Int32.ofNat (gn G b_3)) ≤ (gI S 20 a0) then (some S) else (gb (gP S 7 a0) fun (b_7 : Nat) => gd (gis G 8 b_7) <| gd (vp_in (gI S 20 a0) (gn G b_7)) <| gb (gq S b_7 (Int32.toNatClampNeg (gI S 20 a0))) fun (b_11 : Nat) => gb (gP S 5 a0) fun (b_13 : Nat) => gd (gis G 0 b_11) <| gb (f_X1_copyFrom G b_11 b_13 S) fun (S_17 : gS) => some S_17))
set_option maxRecDepth 100000 in
set_option maxHeartbeats 4000000 in
theorem k_X5_keepForUndo {ad : Nat → Nat} {G : gG} {a0 : Nat} {S S1 : gS} {T : gT} (h : f_X5_keepForUndo G a0 S = some S1) : Ct ad yX5_keepForUndo (Cond.code yX5_keepForUndo cX5_keepForUndo 1 none :: gTb) 4 0 0 [.ref a0] G S T none G S1 T := by
  refine Ct.ofB rfl (Nat.le_of_ble_eq_true rfl) rfl (fun K g e hK => ?_)
  obtain ⟨rfl, -⟩ := hK
  show Xj K [] G 0 [some (.ref a0)] [] S T 0 0
  unfold f_X5_keepForUndo at h
  refine x_aload_n 0 g dX5_keepForUndo_0 rfl rfl ?_
  obtain ⟨q_1, h⟩ := gd_e h
  refine x_geti g dX5_keepForUndo_1 gXX5 5 20 rfl (by decide) rfl lf_X5_33 q_1 ?_
  refine x_if_lt 35 g dX5_keepForUndo_4 (by decide) (fun c_2 => ?_) (fun c_2 => ?_)
  · have h := ite_t c_2 h
    cases h
    exact x_vretS g e dX5_keepForUndo_35 rfl
  · have h := ite_f c_2 h
    refine x_aload_n 0 g dX5_keepForUndo_7 rfl rfl ?_
    refine x_geti g dX5_keepForUndo_8 gXX5 5 20 rfl (by decide) rfl lf_X5_33 q_1 ?_
    refine x_aload_n 0 g dX5_keepForUndo_11 rfl rfl ?_
    obtain ⟨b_3, e_4, h⟩ := gb_e h
    refine x_getr g dX5_keepForUndo_12 gXX5 2 7 rfl (by decide) rfl lf_X5_19 q_1 e_4 ?_
    obtain ⟨q_5, h⟩ := gd_e h
    refine x_lenb g dX5_keepForUndo_15 q_5 ?_
    refine x_icmp_ge 35 g dX5_keepForUndo_16 (by decide) (fun c_6 => ?_) (fun c_6 => ?_)
    · have h := ite_t c_6 h
      cases h
      exact x_vretS g e dX5_keepForUndo_35 rfl
    · have h := ite_f c_6 h
      refine x_aload_n 0 g dX5_keepForUndo_19 rfl rfl ?_
      obtain ⟨b_7, e_8, h⟩ := gb_e h
      refine x_getr g dX5_keepForUndo_20 gXX5 2 7 rfl (by decide) rfl lf_X5_19 q_1 e_8 ?_
      refine x_aload_n 0 g dX5_keepForUndo_23 rfl rfl ?_
      refine x_geti g dX5_keepForUndo_24 gXX5 5 20 rfl (by decide) rfl lf_X5_33 q_1 ?_
      obtain ⟨q_9, h⟩ := gd_e h
      obtain ⟨q_10, h⟩ := gd_e h
      obtain ⟨b_11, e_12, h⟩ := gb_e h
      refine x_aldb g dX5_keepForUndo_27 q_9 q_10 ?_
      rw [e_12]
      refine x_rf ?_
      refine x_aload_n 0 g dX5_keepForUndo_28 rfl rfl ?_
      obtain ⟨b_13, e_14, h⟩ := gb_e h
      refine x_getr g dX5_keepForUndo_29 gXX5 0 5 rfl (by decide) rfl lf_X5_12 q_1 e_14 ?_
      obtain ⟨q_15, h⟩ := gd_e h
      obtain ⟨S_17, q_16, h⟩ := gb_e h
      refine x_cV [] g (k_X1_copyFrom q_16) ca_X1_copyFrom in_X1_copyFrom se_X1_copyFrom lm_X5_302 gXX1 q_15 (Nat.le_of_ble_eq_true rfl) rfl rfl (Nat.le_of_ble_eq_true rfl) dX5_keepForUndo_32 rfl ?_
      cases h
      exact x_vretS g e dX5_keepForUndo_35 rfl
noncomputable def f_X5_perform (G : gG) (a0 : Nat) (a1 : Nat) (a2 : Int32) (a3 : Int32) (a4 : Int32) (a5 : Int32) (S : gS) : Option (Int32 × gS) := gd (a1 < 8) <| gd (vp_in (nI a1) 8) <| if (gsw (Int32.toNatClampNeg (nI a1))) = 1 then (gd (gis G 2 a0) <| gb (gP S 5 a0) fun (b_5 : Nat) => gd (gis G 0 b_5) <| gb2 (f_X1_enrol G b_5 a2 S) fun (r_9 : Int32) (S_10 : gS) => some (r_9, S_10)) else if (gsw (Int32.toNatClampNeg (nI a1))) = 2 then (gd (gis G 2 a0) <| gb (gP S 5 a0) fun (b_13 : Nat) => gb (gP S 5 a0) fun (b_15 : Nat) => gd (gis G 0 b_15) <| gbx1 (f_X1_umbrellaAt G b_15 a2 S) (fun (E_24 : String) => none) fun (r_19 : Nat) => gd (gis G 0 b_13) <| gb2 (f_X1_teach G b_13 r_19 a3 a4 a5 S) fun (r_22 : Int32) (S_23 : gS) => some (r_22, S_23)) else if (gsw (Int32.toNatClampNeg (nI a1))) = 3 then (gd (gis G 2 a0) <| gb (gP S 5 a0) fun (b_27 : Nat) => gd (gis G 0 b_27) <| gbx1 (f_X1_umbrellaAt G b_27 a2 S) (fun (E_36 : String) => none) fun (r_31 : Nat) => gd (gis G 1 r_31) <| gb2 (f_X4_changePeriod G r_31 a3 S) fun (r_34 : Int32) (S_35 : gS) => some (r_34, S_35)) else if (gsw (Int32.toNatClampNeg (nI a1))) = 4 then (gd (gis G 2 a0) <| gb (gP S 5 a0) fun (b_39 : Nat) => gd (gis G 0 b_39) <| gb2 (f_X1_changeWet G b_39 a2 S) fun (r_43 : Int32) (S_44 : gS) => some (r_43, S_44)) else if (gsw (Int32.toNatClampNeg (nI a1))) = 5 then (gd (gis G 2 a0) <| gb (gP S 5 a0) fun (b_47 : Nat) => gd (gis G 0 b_47) <| gb2 (f_X1_changeGale G b_47 a2 S) fun (r_51 : Int32) (S_52 : gS) => some (r_51, S_52)) else if (gsw (Int32.toNatClampNeg (nI a1))) = 6 then (gd (gis G 2 a0) <| gb (gP S 5 a0) fun (b_55 : Nat) => gd (gis G 0 b_55) <| gbx1 (f_X1_umbrellaAt G b_55 a2 S) (fun (E_64 : String) => none) fun (r_59 : Nat) => gd (gis G 1 r_59) <| gb2 (f_X4_forgetTrialsIn G r_59 a3 S) fun (r_62 : Int32) (S_63 : gS) => some (r_62, S_63)) else if (gsw (Int32.toNatClampNeg (nI a1))) = 7 then (gd (gis G 2 a0) <| gb (gP S 5 a0) fun (b_67 : Nat) => gb (gP S 5 a0) fun (b_69 : Nat) => gd (gis G 0 b_69) <| gbx1 (f_X1_umbrellaAt G b_69 a2 S) (fun (E_78 : String) => none) fun (r_73 : Nat) => gd (gis G 0 b_67) <| gb2 (f_X1_holdExam G b_67 r_73 a3 S) fun (r_76 : Int32) (S_77 : gS) => some (r_76, S_77)) else (gd (gis G 2 a0) <| gb (gP S 5 a0) fun (b_80 : Nat) => gd (gis G 0 b_80) <| gb2 (f_X1_closeTerm G b_80 S) fun (r_84 : Int32) (S_85 : gS) => some (r_84, S_85))
set_option maxRecDepth 100000 in
set_option maxHeartbeats 4000000 in
theorem k_X5_perform {ad : Nat → Nat} {G : gG} {a0 : Nat} {a1 : Nat} {a2 : Int32} {a3 : Int32} {a4 : Int32} {a5 : Int32} {S S1 : gS} {T : gT} {r : Int32} (h : f_X5_perform G a0 a1 a2 a3 a4 a5 S = some (r, S1)) : Ct ad yX5_perform (Cond.code yX5_perform cX5_perform 6 (some .int) :: gTb) 4 0 0 [.ref a0, .ref (ad a1), .int a2, .int a3, .int a4, .int a5] G S T (some (.int r)) G S1 T := by
  refine Ct.ofB rfl (Nat.le_of_ble_eq_true rfl) rfl (fun K g e hK => ?_)
  obtain ⟨rfl, -⟩ := hK
  show Xj K [] G 0 [some (.ref a0), some (.ref ((ky K).2 a1)), some (.int a2), some (.int a3), some (.int a4), some (.int a5)] [] S T 0 0
  unfold f_X5_perform at h
  refine x_gst g dX5_perform_0 (hzW g) ls_X5_319 ?_
  refine x_aload_n 1 g dX5_perform_3 rfl rfl ?_
  obtain ⟨q_1, h⟩ := gd_e h
  refine x_ord g q_1 lmo_X5_324 (by decide) (Nat.le_of_ble_eq_true rfl) dX5_perform_4 ?_
  obtain ⟨q_2, h⟩ := gd_e h
  refine x_ldSW g dX5_perform_7 q_2 ?_
  by_cases c_3 : (gsw (Int32.toNatClampNeg (nI a1))) = 1
  · have h := ite_t c_3 h
    refine x_tabI (off := 44) 1 52 g dX5_perform_8 c_3 (by decide) (by decide) (by decide) (by decide) ?_
    refine x_aload_n 0 g dX5_perform_52 rfl rfl ?_
    obtain ⟨q_4, h⟩ := gd_e h
    obtain ⟨b_5, e_6, h⟩ := gb_e h
    refine x_getr g dX5_perform_53 gXX5 0 5 rfl (by decide) rfl lf_X5_12 q_4 e_6 ?_
    refine x_iload_n 2 g dX5_perform_56 rfl rfl ?_
    obtain ⟨q_7, h⟩ := gd_e h
    obtain ⟨r_9, S_10, q_8, h⟩ := gb2_e h
    refine x_cV [.int r_9] g (k_X1_enrol q_8) ca_X1_enrol in_X1_enrol se_X1_enrol lm_X5_352 gXX1 q_7 (Nat.le_of_ble_eq_true rfl) rfl rfl (Nat.le_of_ble_eq_true rfl) dX5_perform_57 rfl ?_
    cases h
    exact x_iretS g e dX5_perform_60 rfl rfl
  have h := ite_f c_3 h
  by_cases c_11 : (gsw (Int32.toNatClampNeg (nI a1))) = 2
  · have h := ite_t c_11 h
    refine x_tabI (off := 53) 2 61 g dX5_perform_8 c_11 (by decide) (by decide) (by decide) (by decide) ?_
    refine x_aload_n 0 g dX5_perform_61 rfl rfl ?_
    obtain ⟨q_12, h⟩ := gd_e h
    obtain ⟨b_13, e_14, h⟩ := gb_e h
    refine x_getr g dX5_perform_62 gXX5 0 5 rfl (by decide) rfl lf_X5_12 q_12 e_14 ?_
    refine x_aload_n 0 g dX5_perform_65 rfl rfl ?_
    obtain ⟨b_15, e_16, h⟩ := gb_e h
    refine x_getr g dX5_perform_66 gXX5 0 5 rfl (by decide) rfl lf_X5_12 q_12 e_16 ?_
    refine x_iload_n 2 g dX5_perform_69 rfl rfl ?_
    obtain ⟨q_17, h⟩ := gd_e h
    rcases gbx1_e h with ⟨E_24, q_18, h⟩ | ⟨r_19, q_18, h⟩
    · cases h
    refine x_cV [.ref r_19, .ref b_13] g (k_X1_umbrellaAt q_18) ca_X1_umbrellaAt in_X1_umbrellaAt se_X1_umbrellaAt lm_X5_81 gXX1 q_17 (Nat.le_of_ble_eq_true rfl) rfl rfl (Nat.le_of_ble_eq_true rfl) dX5_perform_70 rfl ?_
    refine x_iload_n 3 g dX5_perform_73 rfl rfl ?_
    refine x_iload (i := 4) g dX5_perform_74 rfl ?_
    refine x_iload (i := 5) g dX5_perform_76 rfl ?_
    obtain ⟨q_20, h⟩ := gd_e h
    obtain ⟨r_22, S_23, q_21, h⟩ := gb2_e h
    refine x_cV [.int r_22] g (k_X1_teach q_21) ca_X1_teach in_X1_teach se_X1_teach lm_X5_355 gXX1 q_20 (Nat.le_of_ble_eq_true rfl) rfl rfl (Nat.le_of_ble_eq_true rfl) dX5_perform_78 rfl ?_
    cases h
    exact x_iretS g e dX5_perform_81 rfl rfl
  have h := ite_f c_11 h
  by_cases c_25 : (gsw (Int32.toNatClampNeg (nI a1))) = 3
  · have h := ite_t c_25 h
    refine x_tabI (off := 74) 3 82 g dX5_perform_8 c_25 (by decide) (by decide) (by decide) (by decide) ?_
    refine x_aload_n 0 g dX5_perform_82 rfl rfl ?_
    obtain ⟨q_26, h⟩ := gd_e h
    obtain ⟨b_27, e_28, h⟩ := gb_e h
    refine x_getr g dX5_perform_83 gXX5 0 5 rfl (by decide) rfl lf_X5_12 q_26 e_28 ?_
    refine x_iload_n 2 g dX5_perform_86 rfl rfl ?_
    obtain ⟨q_29, h⟩ := gd_e h
    rcases gbx1_e h with ⟨E_36, q_30, h⟩ | ⟨r_31, q_30, h⟩
    · cases h
    refine x_cV [.ref r_31] g (k_X1_umbrellaAt q_30) ca_X1_umbrellaAt in_X1_umbrellaAt se_X1_umbrellaAt lm_X5_81 gXX1 q_29 (Nat.le_of_ble_eq_true rfl) rfl rfl (Nat.le_of_ble_eq_true rfl) dX5_perform_87 rfl ?_
    refine x_iload_n 3 g dX5_perform_90 rfl rfl ?_
    obtain ⟨q_32, h⟩ := gd_e h
    obtain ⟨r_34, S_35, q_33, h⟩ := gb2_e h
    refine x_cV [.int r_34] g (k_X4_changePeriod q_33) ca_X4_changePeriod in_X4_changePeriod se_X4_changePeriod lm_X5_359 gXX4 q_32 (Nat.le_of_ble_eq_true rfl) rfl rfl (Nat.le_of_ble_eq_true rfl) dX5_perform_91 rfl ?_
    cases h
    exact x_iretS g e dX5_perform_94 rfl rfl
  have h := ite_f c_25 h
  by_cases c_37 : (gsw (Int32.toNatClampNeg (nI a1))) = 4
  · have h := ite_t c_37 h
    refine x_tabI (off := 87) 4 95 g dX5_perform_8 c_37 (by decide) (by decide) (by decide) (by decide) ?_
    refine x_aload_n 0 g dX5_perform_95 rfl rfl ?_
    obtain ⟨q_38, h⟩ := gd_e h
    obtain ⟨b_39, e_40, h⟩ := gb_e h
    refine x_getr g dX5_perform_96 gXX5 0 5 rfl (by decide) rfl lf_X5_12 q_38 e_40 ?_
    refine x_iload_n 2 g dX5_perform_99 rfl rfl ?_
    obtain ⟨q_41, h⟩ := gd_e h
    obtain ⟨r_43, S_44, q_42, h⟩ := gb2_e h
    refine x_cV [.int r_43] g (k_X1_changeWet q_42) ca_X1_changeWet in_X1_changeWet se_X1_changeWet lm_X5_362 gXX1 q_41 (Nat.le_of_ble_eq_true rfl) rfl rfl (Nat.le_of_ble_eq_true rfl) dX5_perform_100 rfl ?_
    cases h
    exact x_iretS g e dX5_perform_103 rfl rfl
  have h := ite_f c_37 h
  by_cases c_45 : (gsw (Int32.toNatClampNeg (nI a1))) = 5
  · have h := ite_t c_45 h
    refine x_tabI (off := 96) 5 104 g dX5_perform_8 c_45 (by decide) (by decide) (by decide) (by decide) ?_
    refine x_aload_n 0 g dX5_perform_104 rfl rfl ?_
    obtain ⟨q_46, h⟩ := gd_e h
    obtain ⟨b_47, e_48, h⟩ := gb_e h
    refine x_getr g dX5_perform_105 gXX5 0 5 rfl (by decide) rfl lf_X5_12 q_46 e_48 ?_
    refine x_iload_n 2 g dX5_perform_108 rfl rfl ?_
    obtain ⟨q_49, h⟩ := gd_e h
    obtain ⟨r_51, S_52, q_50, h⟩ := gb2_e h
    refine x_cV [.int r_51] g (k_X1_changeGale q_50) ca_X1_changeGale in_X1_changeGale se_X1_changeGale lm_X5_365 gXX1 q_49 (Nat.le_of_ble_eq_true rfl) rfl rfl (Nat.le_of_ble_eq_true rfl) dX5_perform_109 rfl ?_
    cases h
    exact x_iretS g e dX5_perform_112 rfl rfl
  have h := ite_f c_45 h
  by_cases c_53 : (gsw (Int32.toNatClampNeg (nI a1))) = 6
  · have h := ite_t c_53 h
    refine x_tabI (off := 105) 6 113 g dX5_perform_8 c_53 (by decide) (by decide) (by decide) (by decide) ?_
    refine x_aload_n 0 g dX5_perform_113 rfl rfl ?_
    obtain ⟨q_54, h⟩ := gd_e h
    obtain ⟨b_55, e_56, h⟩ := gb_e h
    refine x_getr g dX5_perform_114 gXX5 0 5 rfl (by decide) rfl lf_X5_12 q_54 e_56 ?_
    refine x_iload_n 2 g dX5_perform_117 rfl rfl ?_
    obtain ⟨q_57, h⟩ := gd_e h
    rcases gbx1_e h with ⟨E_64, q_58, h⟩ | ⟨r_59, q_58, h⟩
    · cases h
    refine x_cV [.ref r_59] g (k_X1_umbrellaAt q_58) ca_X1_umbrellaAt in_X1_umbrellaAt se_X1_umbrellaAt lm_X5_81 gXX1 q_57 (Nat.le_of_ble_eq_true rfl) rfl rfl (Nat.le_of_ble_eq_true rfl) dX5_perform_118 rfl ?_
    refine x_iload_n 3 g dX5_perform_121 rfl rfl ?_
    obtain ⟨q_60, h⟩ := gd_e h
    obtain ⟨r_62, S_63, q_61, h⟩ := gb2_e h
    refine x_cV [.int r_62] g (k_X4_forgetTrialsIn q_61) ca_X4_forgetTrialsIn in_X4_forgetTrialsIn se_X4_forgetTrialsIn lm_X5_368 gXX4 q_60 (Nat.le_of_ble_eq_true rfl) rfl rfl (Nat.le_of_ble_eq_true rfl) dX5_perform_122 rfl ?_
    cases h
    exact x_iretS g e dX5_perform_125 rfl rfl
  have h := ite_f c_53 h
  by_cases c_65 : (gsw (Int32.toNatClampNeg (nI a1))) = 7
  · have h := ite_t c_65 h
    refine x_tabI (off := 118) 7 126 g dX5_perform_8 c_65 (by decide) (by decide) (by decide) (by decide) ?_
    refine x_aload_n 0 g dX5_perform_126 rfl rfl ?_
    obtain ⟨q_66, h⟩ := gd_e h
    obtain ⟨b_67, e_68, h⟩ := gb_e h
    refine x_getr g dX5_perform_127 gXX5 0 5 rfl (by decide) rfl lf_X5_12 q_66 e_68 ?_
    refine x_aload_n 0 g dX5_perform_130 rfl rfl ?_
    obtain ⟨b_69, e_70, h⟩ := gb_e h
    refine x_getr g dX5_perform_131 gXX5 0 5 rfl (by decide) rfl lf_X5_12 q_66 e_70 ?_
    refine x_iload_n 2 g dX5_perform_134 rfl rfl ?_
    obtain ⟨q_71, h⟩ := gd_e h
    rcases gbx1_e h with ⟨E_78, q_72, h⟩ | ⟨r_73, q_72, h⟩
    · cases h
    refine x_cV [.ref r_73, .ref b_67] g (k_X1_umbrellaAt q_72) ca_X1_umbrellaAt in_X1_umbrellaAt se_X1_umbrellaAt lm_X5_81 gXX1 q_71 (Nat.le_of_ble_eq_true rfl) rfl rfl (Nat.le_of_ble_eq_true rfl) dX5_perform_135 rfl ?_
    refine x_iload_n 3 g dX5_perform_138 rfl rfl ?_
    obtain ⟨q_74, h⟩ := gd_e h
    obtain ⟨r_76, S_77, q_75, h⟩ := gb2_e h
    refine x_cV [.int r_76] g (k_X1_holdExam q_75) ca_X1_holdExam in_X1_holdExam se_X1_holdExam lm_X5_371 gXX1 q_74 (Nat.le_of_ble_eq_true rfl) rfl rfl (Nat.le_of_ble_eq_true rfl) dX5_perform_139 rfl ?_
    cases h
    exact x_iretS g e dX5_perform_142 rfl rfl
  have h := ite_f c_65 h
  refine x_tabD 143 g dX5_perform_8 (by decide) [1, 2, 3, 4, 5, 6, 7] (List.forall_mem_cons.mpr ⟨tab_ne c_3 (by decide), List.forall_mem_cons.mpr ⟨tab_ne c_11 (by decide), List.forall_mem_cons.mpr ⟨tab_ne c_25 (by decide), List.forall_mem_cons.mpr ⟨tab_ne c_37 (by decide), List.forall_mem_cons.mpr ⟨tab_ne c_45 (by decide), List.forall_mem_cons.mpr ⟨tab_ne c_53 (by decide), List.forall_mem_cons.mpr ⟨tab_ne c_65 (by decide), fun _ h9 => nomatch h9⟩⟩⟩⟩⟩⟩⟩) (by decide) ?_
  refine x_aload_n 0 g dX5_perform_143 rfl rfl ?_
  obtain ⟨q_79, h⟩ := gd_e h
  obtain ⟨b_80, e_81, h⟩ := gb_e h
  refine x_getr g dX5_perform_144 gXX5 0 5 rfl (by decide) rfl lf_X5_12 q_79 e_81 ?_
  obtain ⟨q_82, h⟩ := gd_e h
  obtain ⟨r_84, S_85, q_83, h⟩ := gb2_e h
  refine x_cV [.int r_84] g (k_X1_closeTerm q_83) ca_X1_closeTerm in_X1_closeTerm se_X1_closeTerm lm_X5_374 gXX1 q_82 (Nat.le_of_ble_eq_true rfl) rfl rfl (Nat.le_of_ble_eq_true rfl) dX5_perform_147 rfl ?_
  cases h
  exact x_iretS g e dX5_perform_150 rfl rfl
noncomputable def f_X5_moveOldestToEnd_L2 (G : gG) (a0 : Nat) : Nat → Int32 → gS → Option gS
  | 0, _, _ => none
  | n2 + 1, x1, S => gd (gis G 2 a0) <| gb (gP S 7 a0) fun (b_2 : Nat) => gd (gis G 8 b_2) <| if (Int32.ofNat (gn G b_2)) ≤ x1 then (some S) else (gb (gP S 7 a0) fun (b_6 : Nat) => gd (gis G 8 b_6) <| gd (vp_in (x1 - 1) (gn G b_6)) <| gb (gq S b_6 (Int32.toNatClampNeg (x1 - 1))) fun (b_10 : Nat) => gb (gP S 7 a0) fun (b_12 : Nat) => gb (gP S 7 a0) fun (b_14 : Nat) => gd (gis G 8 b_14) <| gd (vp_in x1 (gn G b_14)) <| gb (gq S b_14 (Int32.toNatClampNeg x1)) fun (b_18 : Nat) => gd (gis G 8 b_12) <| gd (vp_in (x1 - 1) (gn G b_12)) <| gd (gis G 0 b_18) <| glt (sq S b_12 (Int32.toNatClampNeg (x1 - 1)) (some b_18)) fun (S_23 : gS) => gb (gP S_23 7 a0) fun (b_25 : Nat) => gd (gis G 8 b_25) <| gd (vp_in x1 (gn G b_25)) <| gd (gis G 0 b_10) <| glt (sq S_23 b_25 (Int32.toNatClampNeg x1) (some b_10)) fun (S_30 : gS) => glt (x1 + 1) fun (x1_32 : Int32) => f_X5_moveOldestToEnd_L2 G a0 n2 x1_32 S_30)
noncomputable def f_X5_moveOldestToEnd (G : gG) (a0 : Nat) (S : gS) : Option gS := f_X5_moveOldestToEnd_L2 G a0 gN 1 S
set_option maxRecDepth 100000 in
set_option maxHeartbeats 4000000 in
theorem k_X5_moveOldestToEnd {ad : Nat → Nat} {G : gG} {a0 : Nat} {S S1 : gS} {T : gT} (h : f_X5_moveOldestToEnd G a0 S = some S1) : Ct ad yX5_moveOldestToEnd (Cond.code yX5_moveOldestToEnd cX5_moveOldestToEnd 3 none :: gTb) 0 0 0 [.ref a0] G S T none G S1 T := by
  refine Ct.ofB rfl (Nat.le_of_ble_eq_true rfl) rfl (fun K g e hK => ?_)
  obtain ⟨rfl, -⟩ := hK
  show Xj K [] G 0 [some (.ref a0), none, none] [] S T 0 0
  unfold f_X5_moveOldestToEnd at h
  refine x_iconst (v := 1) g dX5_moveOldestToEnd_0 (by decide) ?_
  refine x_istore_n 1 g dX5_moveOldestToEnd_1 rfl (Nat.le_of_ble_eq_true rfl) rfl ?_
  have L2 : ∀ (n2 : Nat) (x1 : Int32) (S : gS), f_X5_moveOldestToEnd_L2 G a0 n2 x1 S = some S1 → Xj K [] G 2 [some (.ref a0), some (.int x1), none] [] S T 0 0 := by
    intro n2
    induction n2 with
    | zero =>
      intro x1 S h
      rw [f_X5_moveOldestToEnd_L2] at h
      cases h
    | succ n2 ih =>
      intro x1 S h
      rw [f_X5_moveOldestToEnd_L2] at h
      refine x_iload_n 1 g dX5_moveOldestToEnd_2 rfl rfl ?_
      refine x_aload_n 0 g dX5_moveOldestToEnd_3 rfl rfl ?_
      obtain ⟨q_1, h⟩ := gd_e h
      obtain ⟨b_2, e_3, h⟩ := gb_e h
      refine x_getr g dX5_moveOldestToEnd_4 gXX5 2 7 rfl (by decide) rfl lf_X5_19 q_1 e_3 ?_
      obtain ⟨q_4, h⟩ := gd_e h
      refine x_lenb g dX5_moveOldestToEnd_7 q_4 ?_
      refine x_icmp_ge 47 g dX5_moveOldestToEnd_8 (by decide) (fun c_5 => ?_) (fun c_5 => ?_)
      · have h := ite_t c_5 h
        cases h
        exact x_vretS g e dX5_moveOldestToEnd_47 rfl
      · have h := ite_f c_5 h
        refine x_aload_n 0 g dX5_moveOldestToEnd_11 rfl rfl ?_
        obtain ⟨b_6, e_7, h⟩ := gb_e h
        refine x_getr g dX5_moveOldestToEnd_12 gXX5 2 7 rfl (by decide) rfl lf_X5_19 q_1 e_7 ?_
        refine x_iload_n 1 g dX5_moveOldestToEnd_15 rfl rfl ?_
        refine x_iconst (v := 1) g dX5_moveOldestToEnd_16 (by decide) ?_
        refine x_isub g dX5_moveOldestToEnd_17 ?_
        obtain ⟨q_8, h⟩ := gd_e h
        obtain ⟨q_9, h⟩ := gd_e h
        obtain ⟨b_10, e_11, h⟩ := gb_e h
        refine x_aldb g dX5_moveOldestToEnd_18 q_8 q_9 ?_
        rw [e_11]
        refine x_rf ?_
        refine x_astore_n 2 g dX5_moveOldestToEnd_19 rfl (Nat.le_of_ble_eq_true rfl) rfl ?_
        refine x_aload_n 0 g dX5_moveOldestToEnd_20 rfl rfl ?_
        obtain ⟨b_12, e_13, h⟩ := gb_e h
        refine x_getr g dX5_moveOldestToEnd_21 gXX5 2 7 rfl (by decide) rfl lf_X5_19 q_1 e_13 ?_
        refine x_iload_n 1 g dX5_moveOldestToEnd_24 rfl rfl ?_
        refine x_iconst (v := 1) g dX5_moveOldestToEnd_25 (by decide) ?_
        refine x_isub g dX5_moveOldestToEnd_26 ?_
        refine x_aload_n 0 g dX5_moveOldestToEnd_27 rfl rfl ?_
        obtain ⟨b_14, e_15, h⟩ := gb_e h
        refine x_getr g dX5_moveOldestToEnd_28 gXX5 2 7 rfl (by decide) rfl lf_X5_19 q_1 e_15 ?_
        refine x_iload_n 1 g dX5_moveOldestToEnd_31 rfl rfl ?_
        obtain ⟨q_16, h⟩ := gd_e h
        obtain ⟨q_17, h⟩ := gd_e h
        obtain ⟨b_18, e_19, h⟩ := gb_e h
        refine x_aldb g dX5_moveOldestToEnd_32 q_16 q_17 ?_
        rw [e_19]
        refine x_rf ?_
        obtain ⟨q_20, h⟩ := gd_e h
        obtain ⟨q_21, h⟩ := gd_e h
        obtain ⟨q_22, h⟩ := gd_e h
        refine x_astb g dX5_moveOldestToEnd_33 q_20 q_21 q_22 ?_
        refine x_nS (fun S_23 e_24 => ?_)
        have h := glt_e e_24 h
        refine x_aload_n 0 g dX5_moveOldestToEnd_34 rfl rfl ?_
        obtain ⟨b_25, e_26, h⟩ := gb_e h
        refine x_getr g dX5_moveOldestToEnd_35 gXX5 2 7 rfl (by decide) rfl lf_X5_19 q_1 e_26 ?_
        refine x_iload_n 1 g dX5_moveOldestToEnd_38 rfl rfl ?_
        refine x_aload_n 2 g dX5_moveOldestToEnd_39 rfl rfl ?_
        obtain ⟨q_27, h⟩ := gd_e h
        obtain ⟨q_28, h⟩ := gd_e h
        obtain ⟨q_29, h⟩ := gd_e h
        refine x_astb g dX5_moveOldestToEnd_40 q_27 q_28 q_29 ?_
        refine x_nS (fun S_30 e_31 => ?_)
        have h := glt_e e_31 h
        obtain ⟨x1_32, e_33⟩ : ∃ z : Int32, z = x1 + 1 := ⟨_, rfl⟩
        have h := glt_e e_33 h
        refine x_iinc (v := x1_32) g dX5_moveOldestToEnd_41 rfl (by rw [e_33]; rfl) rfl ?_
        refine x_goto 2 g dX5_moveOldestToEnd_44 (by decide) ?_
        refine x_dr 2 ?_
        exact ih _ _ h
  exact L2 gN _ _ h
noncomputable def f_X5_countChange (G : gG) (a0 : Nat) (S : gS) : Option gS := gd (gis G 2 a0) <| if 8 ≤ (gI S 20 a0) then (gb (f_X5_moveOldestToEnd G a0 S) fun (S_4 : gS) => some S_4) else (glt (sI S 20 a0 ((gI S 20 a0) + 1)) fun (S_5 : gS) => some S_5)
set_option maxRecDepth 100000 in
set_option maxHeartbeats 4000000 in
theorem k_X5_countChange {ad : Nat → Nat} {G : gG} {a0 : Nat} {S S1 : gS} {T : gT} (h : f_X5_countChange G a0 S = some S1) : Ct ad yX5_countChange (Cond.code yX5_countChange cX5_countChange 1 none :: gTb) 1 0 0 [.ref a0] G S T none G S1 T := by
  refine Ct.ofB rfl (Nat.le_of_ble_eq_true rfl) rfl (fun K g e hK => ?_)
  obtain ⟨rfl, -⟩ := hK
  show Xj K [] G 0 [some (.ref a0)] [] S T 0 0
  unfold f_X5_countChange at h
  refine x_aload_n 0 g dX5_countChange_0 rfl rfl ?_
  obtain ⟨q_1, h⟩ := gd_e h
  refine x_geti g dX5_countChange_1 gXX5 5 20 rfl (by decide) rfl lf_X5_33 q_1 ?_
  refine x_bipush (v := 8) g dX5_countChange_4 (by decide) ?_
  refine x_icmp_ge 22 g dX5_countChange_6 (by decide) (fun c_2 => ?_) (fun c_2 => ?_)
  · have h := ite_t c_2 h
    refine x_aload_n 0 g dX5_countChange_22 rfl rfl ?_
    obtain ⟨S_4, q_3, h⟩ := gb_e h
    refine x_cV [] g (k_X5_moveOldestToEnd q_3) ca_X5_moveOldestToEnd in_X5_moveOldestToEnd se_X5_moveOldestToEnd lm_X5_377 gXX5 q_1 (Nat.le_of_ble_eq_true rfl) rfl rfl (Nat.le_of_ble_eq_true rfl) dX5_countChange_23 rfl ?_
    cases h
    exact x_vretS g e dX5_countChange_26 rfl
  · have h := ite_f c_2 h
    refine x_aload_n 0 g dX5_countChange_9 rfl rfl ?_
    refine x_dup g dX5_countChange_10 rfl ?_
    refine x_geti g dX5_countChange_11 gXX5 5 20 rfl (by decide) rfl lf_X5_33 q_1 ?_
    refine x_iconst (v := 1) g dX5_countChange_14 (by decide) ?_
    refine x_iadd g dX5_countChange_15 ?_
    refine x_puti g dX5_countChange_16 gXX5 5 20 rfl (by decide) rfl rfl lf_X5_33 rfl rfl q_1 ?_
    refine x_nS (fun S_5 e_6 => ?_)
    have h := glt_e e_6 h
    refine x_goto 26 g dX5_countChange_19 (by decide) ?_
    cases h
    exact x_vretS g e dX5_countChange_26 rfl
noncomputable def f_X5_change (G : gG) (a0 : Nat) (a1 : Nat) (a2 : Int32) (a3 : Int32) (a4 : Int32) (a5 : Int32) (S : gS) : Option ((String ⊕ Int32) × gS) := gd (gis G 2 a0) <| gb (f_X5_refusalOf G a0 a1 a2 a3 a4 a5 S) fun (r_3 : Nat) => gbx1 (f_X5_raise r_3) (fun (E_13 : String) => some (.inl E_13, S)) fun (r_5 : Unit) => gb (f_X5_keepForUndo G a0 S) fun (S_7 : gS) => gb2 (f_X5_perform G a0 a1 a2 a3 a4 a5 S_7) fun (r_9 : Int32) (S_10 : gS) => gb (f_X5_countChange G a0 S_10) fun (S_12 : gS) => some (.inr r_9, S_12)
set_option maxRecDepth 100000 in
set_option maxHeartbeats 4000000 in
theorem k_X5_change {ad : Nat → Nat} {G : gG} {a0 : Nat} {a1 : Nat} {a2 : Int32} {a3 : Int32} {a4 : Int32} {a5 : Int32} {S S1 : gS} {T : gT} {r : Int32} (h : f_X5_change G a0 a1 a2 a3 a4 a5 S = some (.inr r, S1)) : Ct ad yX5_change (Cond.code yX5_change cX5_change 7 (some .int) :: gTb) 5 0 0 [.ref a0, .ref (ad a1), .int a2, .int a3, .int a4, .int a5] G S T (some (.int r)) G S1 T := by
  refine Ct.ofB rfl (Nat.le_of_ble_eq_true rfl) rfl (fun K g e hK => ?_)
  obtain ⟨rfl, -⟩ := hK
  show Xj K [] G 0 [some (.ref a0), some (.ref ((ky K).2 a1)), some (.int a2), some (.int a3), some (.int a4), some (.int a5), none] [] S T 0 0
  unfold f_X5_change at h
  refine x_aload_n 0 g dX5_change_0 rfl rfl ?_
  refine x_aload_n 1 g dX5_change_1 rfl rfl ?_
  refine x_iload_n 2 g dX5_change_2 rfl rfl ?_
  refine x_iload_n 3 g dX5_change_3 rfl rfl ?_
  refine x_iload (i := 4) g dX5_change_4 rfl ?_
  refine x_iload (i := 5) g dX5_change_6 rfl ?_
  obtain ⟨q_1, h⟩ := gd_e h
  obtain ⟨r_3, q_2, h⟩ := gb_e h
  refine x_cV [.ref ((ky K).2 (10 + r_3))] g (k_X5_refusalOf q_2) ca_X5_refusalOf in_X5_refusalOf se_X5_refusalOf lm_X5_308 gXX5 q_1 (Nat.le_of_ble_eq_true rfl) rfl rfl (Nat.le_of_ble_eq_true rfl) dX5_change_8 rfl ?_
  rcases gbx1_e h with ⟨E_13, q_4, h⟩ | ⟨r_5, q_4, h⟩
  · cases h
  refine x_cS [] g (k_X5_raise q_4) ca_X5_raise st_X5_raise lm_X5_312 (Nat.le_of_ble_eq_true rfl) rfl rfl (Nat.le_of_ble_eq_true rfl) dX5_change_11 rfl ?_
  refine x_aload_n 0 g dX5_change_14 rfl rfl ?_
  obtain ⟨S_7, q_6, h⟩ := gb_e h
  refine x_cV [] g (k_X5_keepForUndo q_6) ca_X5_keepForUndo in_X5_keepForUndo se_X5_keepForUndo lm_X5_276 gXX5 q_1 (Nat.le_of_ble_eq_true rfl) rfl rfl (Nat.le_of_ble_eq_true rfl) dX5_change_15 rfl ?_
  refine x_aload_n 0 g dX5_change_18 rfl rfl ?_
  refine x_aload_n 1 g dX5_change_19 rfl rfl ?_
  refine x_iload_n 2 g dX5_change_20 rfl rfl ?_
  refine x_iload_n 3 g dX5_change_21 rfl rfl ?_
  refine x_iload (i := 4) g dX5_change_22 rfl ?_
  refine x_iload (i := 5) g dX5_change_24 rfl ?_
  obtain ⟨r_9, S_10, q_8, h⟩ := gb2_e h
  refine x_cV [.int r_9] g (k_X5_perform q_8) ca_X5_perform in_X5_perform se_X5_perform lm_X5_316 gXX5 q_1 (Nat.le_of_ble_eq_true rfl) rfl rfl (Nat.le_of_ble_eq_true rfl) dX5_change_26 rfl ?_
  refine x_istore (i := 6) g dX5_change_29 (Nat.le_of_ble_eq_true rfl) rfl ?_
  refine x_aload_n 0 g dX5_change_31 rfl rfl ?_
  obtain ⟨S_12, q_11, h⟩ := gb_e h
  refine x_cV [] g (k_X5_countChange q_11) ca_X5_countChange in_X5_countChange se_X5_countChange lm_X5_293 gXX5 q_1 (Nat.le_of_ble_eq_true rfl) rfl rfl (Nat.le_of_ble_eq_true rfl) dX5_change_32 rfl ?_
  refine x_iload (i := 6) g dX5_change_35 rfl ?_
  cases h
  exact x_iretS g e dX5_change_37 rfl rfl
set_option maxRecDepth 100000 in
set_option maxHeartbeats 4000000 in
theorem t_X5_change {ad : Nat → Nat} {G : gG} {a0 : Nat} {a1 : Nat} {a2 : Int32} {a3 : Int32} {a4 : Int32} {a5 : Int32} {S S1 : gS} {T : gT} {E : String} (h : f_X5_change G a0 a1 a2 a3 a4 a5 S = some (.inl E, S1)) : Cx ad yX5_change (Cond.code yX5_change cX5_change 7 (some .int) :: gTb) 7 [.ref a0, .ref (ad a1), .int a2, .int a3, .int a4, .int a5] G S T E S1 T := by
  refine Cx.ofB rfl (Nat.le_of_ble_eq_true rfl) rfl (fun K g e hK => ?_)
  obtain ⟨rfl, -⟩ := hK
  show Xj K [] G 0 [some (.ref a0), some (.ref ((ky K).2 a1)), some (.int a2), some (.int a3), some (.int a4), some (.int a5), none] [] S T 1 6
  unfold f_X5_change at h
  refine x_aload_n 0 g dX5_change_0 rfl rfl ?_
  refine x_aload_n 1 g dX5_change_1 rfl rfl ?_
  refine x_iload_n 2 g dX5_change_2 rfl rfl ?_
  refine x_iload_n 3 g dX5_change_3 rfl rfl ?_
  refine x_iload (i := 4) g dX5_change_4 rfl ?_
  refine x_iload (i := 5) g dX5_change_6 rfl ?_
  obtain ⟨q_1, h⟩ := gd_e h
  obtain ⟨r_3, q_2, h⟩ := gb_e h
  refine x_cV [.ref ((ky K).2 (10 + r_3))] g (k_X5_refusalOf q_2) ca_X5_refusalOf in_X5_refusalOf se_X5_refusalOf lm_X5_308 gXX5 q_1 (Nat.le_of_ble_eq_true rfl) rfl rfl (Nat.le_of_ble_eq_true rfl) dX5_change_8 rfl ?_
  rcases gbx1_e h with ⟨E_13, q_4, h⟩ | ⟨r_5, q_4, h⟩
  · cases h
    exact x_tS g e (t_X5_raise q_4) ca_X5_raise st_X5_raise lm_X5_312 (Nat.le_of_ble_eq_true rfl) rfl rfl (Nat.le_of_ble_eq_true rfl) dX5_change_11
  refine x_cS [] g (k_X5_raise q_4) ca_X5_raise st_X5_raise lm_X5_312 (Nat.le_of_ble_eq_true rfl) rfl rfl (Nat.le_of_ble_eq_true rfl) dX5_change_11 rfl ?_
  refine x_aload_n 0 g dX5_change_14 rfl rfl ?_
  obtain ⟨S_7, q_6, h⟩ := gb_e h
  refine x_cV [] g (k_X5_keepForUndo q_6) ca_X5_keepForUndo in_X5_keepForUndo se_X5_keepForUndo lm_X5_276 gXX5 q_1 (Nat.le_of_ble_eq_true rfl) rfl rfl (Nat.le_of_ble_eq_true rfl) dX5_change_15 rfl ?_
  refine x_aload_n 0 g dX5_change_18 rfl rfl ?_
  refine x_aload_n 1 g dX5_change_19 rfl rfl ?_
  refine x_iload_n 2 g dX5_change_20 rfl rfl ?_
  refine x_iload_n 3 g dX5_change_21 rfl rfl ?_
  refine x_iload (i := 4) g dX5_change_22 rfl ?_
  refine x_iload (i := 5) g dX5_change_24 rfl ?_
  obtain ⟨r_9, S_10, q_8, h⟩ := gb2_e h
  refine x_cV [.int r_9] g (k_X5_perform q_8) ca_X5_perform in_X5_perform se_X5_perform lm_X5_316 gXX5 q_1 (Nat.le_of_ble_eq_true rfl) rfl rfl (Nat.le_of_ble_eq_true rfl) dX5_change_26 rfl ?_
  refine x_istore (i := 6) g dX5_change_29 (Nat.le_of_ble_eq_true rfl) rfl ?_
  refine x_aload_n 0 g dX5_change_31 rfl rfl ?_
  obtain ⟨S_12, q_11, h⟩ := gb_e h
  refine x_cV [] g (k_X5_countChange q_11) ca_X5_countChange in_X5_countChange se_X5_countChange lm_X5_293 gXX5 q_1 (Nat.le_of_ble_eq_true rfl) rfl rfl (Nat.le_of_ble_eq_true rfl) dX5_change_32 rfl ?_
  refine x_iload (i := 6) g dX5_change_35 rfl ?_
  cases h
noncomputable def f_X5_addUmbrella (G : gG) (a0 : Nat) (a1 : Int32) (S : gS) : Option ((String ⊕ Int32) × gS) := gd (gis G 2 a0) <| gbx2 (f_X5_change G a0 0 a1 0 0 0 S) (fun (E_5 : String) (S_4 : gS) => some (.inl E_5, S_4)) fun (r_3 : Int32) (S_4 : gS) => some (.inr r_3, S_4)
set_option maxRecDepth 100000 in
set_option maxHeartbeats 4000000 in
theorem k_X5_addUmbrella {ad : Nat → Nat} {G : gG} {a0 : Nat} {a1 : Int32} {S S1 : gS} {T : gT} {r : Int32} (h : f_X5_addUmbrella G a0 a1 S = some (.inr r, S1)) : Ct ad yX5_addUmbrella (Cond.code yX5_addUmbrella cX5_addUmbrella 2 (some .int) :: gTb) 6 0 0 [.ref a0, .int a1] G S T (some (.int r)) G S1 T := by
  refine Ct.ofB rfl (Nat.le_of_ble_eq_true rfl) rfl (fun K g e hK => ?_)
  obtain ⟨rfl, -⟩ := hK
  show Xj K [] G 0 [some (.ref a0), some (.int a1)] [] S T 0 0
  unfold f_X5_addUmbrella at h
  refine x_aload_n 0 g dX5_addUmbrella_0 rfl rfl ?_
  refine x_gst g dX5_addUmbrella_1 (hzC g 0 (by decide)) ls_X5_47 ?_
  refine x_iload_n 1 g dX5_addUmbrella_4 rfl rfl ?_
  refine x_iconst (v := 0) g dX5_addUmbrella_5 (by decide) ?_
  refine x_iconst (v := 0) g dX5_addUmbrella_6 (by decide) ?_
  refine x_iconst (v := 0) g dX5_addUmbrella_7 (by decide) ?_
  obtain ⟨q_1, h⟩ := gd_e h
  rcases gbx2_e h with ⟨E_5, S_4, q_2, h⟩ | ⟨r_3, S_4, q_2, h⟩
  · cases h
  refine x_cV [.int r_3] g (k_X5_change q_2) ca_X5_change in_X5_change se_X5_change lm_X5_53 gXX5 q_1 (Nat.le_of_ble_eq_true rfl) rfl rfl (Nat.le_of_ble_eq_true rfl) dX5_addUmbrella_8 rfl ?_
  cases h
  exact x_iretS g e dX5_addUmbrella_11 rfl rfl
set_option maxRecDepth 100000 in
set_option maxHeartbeats 4000000 in
theorem t_X5_addUmbrella {ad : Nat → Nat} {G : gG} {a0 : Nat} {a1 : Int32} {S S1 : gS} {T : gT} {E : String} (h : f_X5_addUmbrella G a0 a1 S = some (.inl E, S1)) : Cx ad yX5_addUmbrella (Cond.code yX5_addUmbrella cX5_addUmbrella 2 (some .int) :: gTb) 8 [.ref a0, .int a1] G S T E S1 T := by
  refine Cx.ofB rfl (Nat.le_of_ble_eq_true rfl) rfl (fun K g e hK => ?_)
  obtain ⟨rfl, -⟩ := hK
  show Xj K [] G 0 [some (.ref a0), some (.int a1)] [] S T 1 6
  unfold f_X5_addUmbrella at h
  refine x_aload_n 0 g dX5_addUmbrella_0 rfl rfl ?_
  refine x_gst g dX5_addUmbrella_1 (hzC g 0 (by decide)) ls_X5_47 ?_
  refine x_iload_n 1 g dX5_addUmbrella_4 rfl rfl ?_
  refine x_iconst (v := 0) g dX5_addUmbrella_5 (by decide) ?_
  refine x_iconst (v := 0) g dX5_addUmbrella_6 (by decide) ?_
  refine x_iconst (v := 0) g dX5_addUmbrella_7 (by decide) ?_
  obtain ⟨q_1, h⟩ := gd_e h
  rcases gbx2_e h with ⟨E_5, S_4, q_2, h⟩ | ⟨r_3, S_4, q_2, h⟩
  · cases h
    exact x_tV g e (t_X5_change q_2) ca_X5_change in_X5_change se_X5_change lm_X5_53 gXX5 q_1 (Nat.le_of_ble_eq_true rfl) rfl rfl (Nat.le_of_ble_eq_true rfl) dX5_addUmbrella_8
  refine x_cV [.int r_3] g (k_X5_change q_2) ca_X5_change in_X5_change se_X5_change lm_X5_53 gXX5 q_1 (Nat.le_of_ble_eq_true rfl) rfl rfl (Nat.le_of_ble_eq_true rfl) dX5_addUmbrella_8 rfl ?_
  cases h
noncomputable def f_X5_train (G : gG) (a0 : Nat) (a1 : Int32) (a2 : Int32) (a3 : Int32) (a4 : Int32) (S : gS) : Option ((String ⊕ Int32) × gS) := gd (gis G 2 a0) <| gbx2 (f_X5_change G a0 1 a1 a2 a3 a4 S) (fun (E_5 : String) (S_4 : gS) => some (.inl E_5, S_4)) fun (r_3 : Int32) (S_4 : gS) => some (.inr r_3, S_4)
set_option maxRecDepth 100000 in
set_option maxHeartbeats 4000000 in
theorem k_X5_train {ad : Nat → Nat} {G : gG} {a0 : Nat} {a1 : Int32} {a2 : Int32} {a3 : Int32} {a4 : Int32} {S S1 : gS} {T : gT} {r : Int32} (h : f_X5_train G a0 a1 a2 a3 a4 S = some (.inr r, S1)) : Ct ad yX5_train (Cond.code yX5_train cX5_train 5 (some .int) :: gTb) 6 0 0 [.ref a0, .int a1, .int a2, .int a3, .int a4] G S T (some (.int r)) G S1 T := by
  refine Ct.ofB rfl (Nat.le_of_ble_eq_true rfl) rfl (fun K g e hK => ?_)
  obtain ⟨rfl, -⟩ := hK
  show Xj K [] G 0 [some (.ref a0), some (.int a1), some (.int a2), some (.int a3), some (.int a4)] [] S T 0 0
  unfold f_X5_train at h
  refine x_aload_n 0 g dX5_train_0 rfl rfl ?_
  refine x_gst g dX5_train_1 (hzC g 1 (by decide)) ls_X5_57 ?_
  refine x_iload_n 1 g dX5_train_4 rfl rfl ?_
  refine x_iload_n 2 g dX5_train_5 rfl rfl ?_
  refine x_iload_n 3 g dX5_train_6 rfl rfl ?_
  refine x_iload (i := 4) g dX5_train_7 rfl ?_
  obtain ⟨q_1, h⟩ := gd_e h
  rcases gbx2_e h with ⟨E_5, S_4, q_2, h⟩ | ⟨r_3, S_4, q_2, h⟩
  · cases h
  refine x_cV [.int r_3] g (k_X5_change q_2) ca_X5_change in_X5_change se_X5_change lm_X5_53 gXX5 q_1 (Nat.le_of_ble_eq_true rfl) rfl rfl (Nat.le_of_ble_eq_true rfl) dX5_train_9 rfl ?_
  cases h
  exact x_iretS g e dX5_train_12 rfl rfl
set_option maxRecDepth 100000 in
set_option maxHeartbeats 4000000 in
theorem t_X5_train {ad : Nat → Nat} {G : gG} {a0 : Nat} {a1 : Int32} {a2 : Int32} {a3 : Int32} {a4 : Int32} {S S1 : gS} {T : gT} {E : String} (h : f_X5_train G a0 a1 a2 a3 a4 S = some (.inl E, S1)) : Cx ad yX5_train (Cond.code yX5_train cX5_train 5 (some .int) :: gTb) 8 [.ref a0, .int a1, .int a2, .int a3, .int a4] G S T E S1 T := by
  refine Cx.ofB rfl (Nat.le_of_ble_eq_true rfl) rfl (fun K g e hK => ?_)
  obtain ⟨rfl, -⟩ := hK
  show Xj K [] G 0 [some (.ref a0), some (.int a1), some (.int a2), some (.int a3), some (.int a4)] [] S T 1 6
  unfold f_X5_train at h
  refine x_aload_n 0 g dX5_train_0 rfl rfl ?_
  refine x_gst g dX5_train_1 (hzC g 1 (by decide)) ls_X5_57 ?_
  refine x_iload_n 1 g dX5_train_4 rfl rfl ?_
  refine x_iload_n 2 g dX5_train_5 rfl rfl ?_
  refine x_iload_n 3 g dX5_train_6 rfl rfl ?_
  refine x_iload (i := 4) g dX5_train_7 rfl ?_
  obtain ⟨q_1, h⟩ := gd_e h
  rcases gbx2_e h with ⟨E_5, S_4, q_2, h⟩ | ⟨r_3, S_4, q_2, h⟩
  · cases h
    exact x_tV g e (t_X5_change q_2) ca_X5_change in_X5_change se_X5_change lm_X5_53 gXX5 q_1 (Nat.le_of_ble_eq_true rfl) rfl rfl (Nat.le_of_ble_eq_true rfl) dX5_train_9
  refine x_cV [.int r_3] g (k_X5_change q_2) ca_X5_change in_X5_change se_X5_change lm_X5_53 gXX5 q_1 (Nat.le_of_ble_eq_true rfl) rfl rfl (Nat.le_of_ble_eq_true rfl) dX5_train_9 rfl ?_
  cases h
noncomputable def f_X5_setPeriod (G : gG) (a0 : Nat) (a1 : Int32) (a2 : Int32) (S : gS) : Option ((String ⊕ Int32) × gS) := gd (gis G 2 a0) <| gbx2 (f_X5_change G a0 2 a1 a2 0 0 S) (fun (E_5 : String) (S_4 : gS) => some (.inl E_5, S_4)) fun (r_3 : Int32) (S_4 : gS) => some (.inr r_3, S_4)
set_option maxRecDepth 100000 in
set_option maxHeartbeats 4000000 in
theorem k_X5_setPeriod {ad : Nat → Nat} {G : gG} {a0 : Nat} {a1 : Int32} {a2 : Int32} {S S1 : gS} {T : gT} {r : Int32} (h : f_X5_setPeriod G a0 a1 a2 S = some (.inr r, S1)) : Ct ad yX5_setPeriod (Cond.code yX5_setPeriod cX5_setPeriod 3 (some .int) :: gTb) 6 0 0 [.ref a0, .int a1, .int a2] G S T (some (.int r)) G S1 T := by
  refine Ct.ofB rfl (Nat.le_of_ble_eq_true rfl) rfl (fun K g e hK => ?_)
  obtain ⟨rfl, -⟩ := hK
  show Xj K [] G 0 [some (.ref a0), some (.int a1), some (.int a2)] [] S T 0 0
  unfold f_X5_setPeriod at h
  refine x_aload_n 0 g dX5_setPeriod_0 rfl rfl ?_
  refine x_gst g dX5_setPeriod_1 (hzC g 2 (by decide)) ls_X5_60 ?_
  refine x_iload_n 1 g dX5_setPeriod_4 rfl rfl ?_
  refine x_iload_n 2 g dX5_setPeriod_5 rfl rfl ?_
  refine x_iconst (v := 0) g dX5_setPeriod_6 (by decide) ?_
  refine x_iconst (v := 0) g dX5_setPeriod_7 (by decide) ?_
  obtain ⟨q_1, h⟩ := gd_e h
  rcases gbx2_e h with ⟨E_5, S_4, q_2, h⟩ | ⟨r_3, S_4, q_2, h⟩
  · cases h
  refine x_cV [.int r_3] g (k_X5_change q_2) ca_X5_change in_X5_change se_X5_change lm_X5_53 gXX5 q_1 (Nat.le_of_ble_eq_true rfl) rfl rfl (Nat.le_of_ble_eq_true rfl) dX5_setPeriod_8 rfl ?_
  cases h
  exact x_iretS g e dX5_setPeriod_11 rfl rfl
set_option maxRecDepth 100000 in
set_option maxHeartbeats 4000000 in
theorem t_X5_setPeriod {ad : Nat → Nat} {G : gG} {a0 : Nat} {a1 : Int32} {a2 : Int32} {S S1 : gS} {T : gT} {E : String} (h : f_X5_setPeriod G a0 a1 a2 S = some (.inl E, S1)) : Cx ad yX5_setPeriod (Cond.code yX5_setPeriod cX5_setPeriod 3 (some .int) :: gTb) 8 [.ref a0, .int a1, .int a2] G S T E S1 T := by
  refine Cx.ofB rfl (Nat.le_of_ble_eq_true rfl) rfl (fun K g e hK => ?_)
  obtain ⟨rfl, -⟩ := hK
  show Xj K [] G 0 [some (.ref a0), some (.int a1), some (.int a2)] [] S T 1 6
  unfold f_X5_setPeriod at h
  refine x_aload_n 0 g dX5_setPeriod_0 rfl rfl ?_
  refine x_gst g dX5_setPeriod_1 (hzC g 2 (by decide)) ls_X5_60 ?_
  refine x_iload_n 1 g dX5_setPeriod_4 rfl rfl ?_
  refine x_iload_n 2 g dX5_setPeriod_5 rfl rfl ?_
  refine x_iconst (v := 0) g dX5_setPeriod_6 (by decide) ?_
  refine x_iconst (v := 0) g dX5_setPeriod_7 (by decide) ?_
  obtain ⟨q_1, h⟩ := gd_e h
  rcases gbx2_e h with ⟨E_5, S_4, q_2, h⟩ | ⟨r_3, S_4, q_2, h⟩
  · cases h
    exact x_tV g e (t_X5_change q_2) ca_X5_change in_X5_change se_X5_change lm_X5_53 gXX5 q_1 (Nat.le_of_ble_eq_true rfl) rfl rfl (Nat.le_of_ble_eq_true rfl) dX5_setPeriod_8
  refine x_cV [.int r_3] g (k_X5_change q_2) ca_X5_change in_X5_change se_X5_change lm_X5_53 gXX5 q_1 (Nat.le_of_ble_eq_true rfl) rfl rfl (Nat.le_of_ble_eq_true rfl) dX5_setPeriod_8 rfl ?_
  cases h
noncomputable def f_X5_setWetPenalty (G : gG) (a0 : Nat) (a1 : Int32) (S : gS) : Option ((String ⊕ Int32) × gS) := gd (gis G 2 a0) <| gbx2 (f_X5_change G a0 3 a1 0 0 0 S) (fun (E_5 : String) (S_4 : gS) => some (.inl E_5, S_4)) fun (r_3 : Int32) (S_4 : gS) => some (.inr r_3, S_4)
set_option maxRecDepth 100000 in
set_option maxHeartbeats 4000000 in
theorem k_X5_setWetPenalty {ad : Nat → Nat} {G : gG} {a0 : Nat} {a1 : Int32} {S S1 : gS} {T : gT} {r : Int32} (h : f_X5_setWetPenalty G a0 a1 S = some (.inr r, S1)) : Ct ad yX5_setWetPenalty (Cond.code yX5_setWetPenalty cX5_setWetPenalty 2 (some .int) :: gTb) 6 0 0 [.ref a0, .int a1] G S T (some (.int r)) G S1 T := by
  refine Ct.ofB rfl (Nat.le_of_ble_eq_true rfl) rfl (fun K g e hK => ?_)
  obtain ⟨rfl, -⟩ := hK
  show Xj K [] G 0 [some (.ref a0), some (.int a1)] [] S T 0 0
  unfold f_X5_setWetPenalty at h
  refine x_aload_n 0 g dX5_setWetPenalty_0 rfl rfl ?_
  refine x_gst g dX5_setWetPenalty_1 (hzC g 3 (by decide)) ls_X5_63 ?_
  refine x_iload_n 1 g dX5_setWetPenalty_4 rfl rfl ?_
  refine x_iconst (v := 0) g dX5_setWetPenalty_5 (by decide) ?_
  refine x_iconst (v := 0) g dX5_setWetPenalty_6 (by decide) ?_
  refine x_iconst (v := 0) g dX5_setWetPenalty_7 (by decide) ?_
  obtain ⟨q_1, h⟩ := gd_e h
  rcases gbx2_e h with ⟨E_5, S_4, q_2, h⟩ | ⟨r_3, S_4, q_2, h⟩
  · cases h
  refine x_cV [.int r_3] g (k_X5_change q_2) ca_X5_change in_X5_change se_X5_change lm_X5_53 gXX5 q_1 (Nat.le_of_ble_eq_true rfl) rfl rfl (Nat.le_of_ble_eq_true rfl) dX5_setWetPenalty_8 rfl ?_
  cases h
  exact x_iretS g e dX5_setWetPenalty_11 rfl rfl
set_option maxRecDepth 100000 in
set_option maxHeartbeats 4000000 in
theorem t_X5_setWetPenalty {ad : Nat → Nat} {G : gG} {a0 : Nat} {a1 : Int32} {S S1 : gS} {T : gT} {E : String} (h : f_X5_setWetPenalty G a0 a1 S = some (.inl E, S1)) : Cx ad yX5_setWetPenalty (Cond.code yX5_setWetPenalty cX5_setWetPenalty 2 (some .int) :: gTb) 8 [.ref a0, .int a1] G S T E S1 T := by
  refine Cx.ofB rfl (Nat.le_of_ble_eq_true rfl) rfl (fun K g e hK => ?_)
  obtain ⟨rfl, -⟩ := hK
  show Xj K [] G 0 [some (.ref a0), some (.int a1)] [] S T 1 6
  unfold f_X5_setWetPenalty at h
  refine x_aload_n 0 g dX5_setWetPenalty_0 rfl rfl ?_
  refine x_gst g dX5_setWetPenalty_1 (hzC g 3 (by decide)) ls_X5_63 ?_
  refine x_iload_n 1 g dX5_setWetPenalty_4 rfl rfl ?_
  refine x_iconst (v := 0) g dX5_setWetPenalty_5 (by decide) ?_
  refine x_iconst (v := 0) g dX5_setWetPenalty_6 (by decide) ?_
  refine x_iconst (v := 0) g dX5_setWetPenalty_7 (by decide) ?_
  obtain ⟨q_1, h⟩ := gd_e h
  rcases gbx2_e h with ⟨E_5, S_4, q_2, h⟩ | ⟨r_3, S_4, q_2, h⟩
  · cases h
    exact x_tV g e (t_X5_change q_2) ca_X5_change in_X5_change se_X5_change lm_X5_53 gXX5 q_1 (Nat.le_of_ble_eq_true rfl) rfl rfl (Nat.le_of_ble_eq_true rfl) dX5_setWetPenalty_8
  refine x_cV [.int r_3] g (k_X5_change q_2) ca_X5_change in_X5_change se_X5_change lm_X5_53 gXX5 q_1 (Nat.le_of_ble_eq_true rfl) rfl rfl (Nat.le_of_ble_eq_true rfl) dX5_setWetPenalty_8 rfl ?_
  cases h
noncomputable def f_X5_setGalePenalty (G : gG) (a0 : Nat) (a1 : Int32) (S : gS) : Option ((String ⊕ Int32) × gS) := gd (gis G 2 a0) <| gbx2 (f_X5_change G a0 4 a1 0 0 0 S) (fun (E_5 : String) (S_4 : gS) => some (.inl E_5, S_4)) fun (r_3 : Int32) (S_4 : gS) => some (.inr r_3, S_4)
set_option maxRecDepth 100000 in
set_option maxHeartbeats 4000000 in
theorem k_X5_setGalePenalty {ad : Nat → Nat} {G : gG} {a0 : Nat} {a1 : Int32} {S S1 : gS} {T : gT} {r : Int32} (h : f_X5_setGalePenalty G a0 a1 S = some (.inr r, S1)) : Ct ad yX5_setGalePenalty (Cond.code yX5_setGalePenalty cX5_setGalePenalty 2 (some .int) :: gTb) 6 0 0 [.ref a0, .int a1] G S T (some (.int r)) G S1 T := by
  refine Ct.ofB rfl (Nat.le_of_ble_eq_true rfl) rfl (fun K g e hK => ?_)
  obtain ⟨rfl, -⟩ := hK
  show Xj K [] G 0 [some (.ref a0), some (.int a1)] [] S T 0 0
  unfold f_X5_setGalePenalty at h
  refine x_aload_n 0 g dX5_setGalePenalty_0 rfl rfl ?_
  refine x_gst g dX5_setGalePenalty_1 (hzC g 4 (by decide)) ls_X5_66 ?_
  refine x_iload_n 1 g dX5_setGalePenalty_4 rfl rfl ?_
  refine x_iconst (v := 0) g dX5_setGalePenalty_5 (by decide) ?_
  refine x_iconst (v := 0) g dX5_setGalePenalty_6 (by decide) ?_
  refine x_iconst (v := 0) g dX5_setGalePenalty_7 (by decide) ?_
  obtain ⟨q_1, h⟩ := gd_e h
  rcases gbx2_e h with ⟨E_5, S_4, q_2, h⟩ | ⟨r_3, S_4, q_2, h⟩
  · cases h
  refine x_cV [.int r_3] g (k_X5_change q_2) ca_X5_change in_X5_change se_X5_change lm_X5_53 gXX5 q_1 (Nat.le_of_ble_eq_true rfl) rfl rfl (Nat.le_of_ble_eq_true rfl) dX5_setGalePenalty_8 rfl ?_
  cases h
  exact x_iretS g e dX5_setGalePenalty_11 rfl rfl
set_option maxRecDepth 100000 in
set_option maxHeartbeats 4000000 in
theorem t_X5_setGalePenalty {ad : Nat → Nat} {G : gG} {a0 : Nat} {a1 : Int32} {S S1 : gS} {T : gT} {E : String} (h : f_X5_setGalePenalty G a0 a1 S = some (.inl E, S1)) : Cx ad yX5_setGalePenalty (Cond.code yX5_setGalePenalty cX5_setGalePenalty 2 (some .int) :: gTb) 8 [.ref a0, .int a1] G S T E S1 T := by
  refine Cx.ofB rfl (Nat.le_of_ble_eq_true rfl) rfl (fun K g e hK => ?_)
  obtain ⟨rfl, -⟩ := hK
  show Xj K [] G 0 [some (.ref a0), some (.int a1)] [] S T 1 6
  unfold f_X5_setGalePenalty at h
  refine x_aload_n 0 g dX5_setGalePenalty_0 rfl rfl ?_
  refine x_gst g dX5_setGalePenalty_1 (hzC g 4 (by decide)) ls_X5_66 ?_
  refine x_iload_n 1 g dX5_setGalePenalty_4 rfl rfl ?_
  refine x_iconst (v := 0) g dX5_setGalePenalty_5 (by decide) ?_
  refine x_iconst (v := 0) g dX5_setGalePenalty_6 (by decide) ?_
  refine x_iconst (v := 0) g dX5_setGalePenalty_7 (by decide) ?_
  obtain ⟨q_1, h⟩ := gd_e h
  rcases gbx2_e h with ⟨E_5, S_4, q_2, h⟩ | ⟨r_3, S_4, q_2, h⟩
  · cases h
    exact x_tV g e (t_X5_change q_2) ca_X5_change in_X5_change se_X5_change lm_X5_53 gXX5 q_1 (Nat.le_of_ble_eq_true rfl) rfl rfl (Nat.le_of_ble_eq_true rfl) dX5_setGalePenalty_8
  refine x_cV [.int r_3] g (k_X5_change q_2) ca_X5_change in_X5_change se_X5_change lm_X5_53 gXX5 q_1 (Nat.le_of_ble_eq_true rfl) rfl rfl (Nat.le_of_ble_eq_true rfl) dX5_setGalePenalty_8 rfl ?_
  cases h
noncomputable def f_X5_forgetRain (G : gG) (a0 : Nat) (a1 : Int32) (a2 : Int32) (S : gS) : Option ((String ⊕ Int32) × gS) := gd (gis G 2 a0) <| gbx2 (f_X5_change G a0 5 a1 a2 0 0 S) (fun (E_5 : String) (S_4 : gS) => some (.inl E_5, S_4)) fun (r_3 : Int32) (S_4 : gS) => some (.inr r_3, S_4)
set_option maxRecDepth 100000 in
set_option maxHeartbeats 4000000 in
theorem k_X5_forgetRain {ad : Nat → Nat} {G : gG} {a0 : Nat} {a1 : Int32} {a2 : Int32} {S S1 : gS} {T : gT} {r : Int32} (h : f_X5_forgetRain G a0 a1 a2 S = some (.inr r, S1)) : Ct ad yX5_forgetRain (Cond.code yX5_forgetRain cX5_forgetRain 3 (some .int) :: gTb) 6 0 0 [.ref a0, .int a1, .int a2] G S T (some (.int r)) G S1 T := by
  refine Ct.ofB rfl (Nat.le_of_ble_eq_true rfl) rfl (fun K g e hK => ?_)
  obtain ⟨rfl, -⟩ := hK
  show Xj K [] G 0 [some (.ref a0), some (.int a1), some (.int a2)] [] S T 0 0
  unfold f_X5_forgetRain at h
  refine x_aload_n 0 g dX5_forgetRain_0 rfl rfl ?_
  refine x_gst g dX5_forgetRain_1 (hzC g 5 (by decide)) ls_X5_69 ?_
  refine x_iload_n 1 g dX5_forgetRain_4 rfl rfl ?_
  refine x_iload_n 2 g dX5_forgetRain_5 rfl rfl ?_
  refine x_iconst (v := 0) g dX5_forgetRain_6 (by decide) ?_
  refine x_iconst (v := 0) g dX5_forgetRain_7 (by decide) ?_
  obtain ⟨q_1, h⟩ := gd_e h
  rcases gbx2_e h with ⟨E_5, S_4, q_2, h⟩ | ⟨r_3, S_4, q_2, h⟩
  · cases h
  refine x_cV [.int r_3] g (k_X5_change q_2) ca_X5_change in_X5_change se_X5_change lm_X5_53 gXX5 q_1 (Nat.le_of_ble_eq_true rfl) rfl rfl (Nat.le_of_ble_eq_true rfl) dX5_forgetRain_8 rfl ?_
  cases h
  exact x_iretS g e dX5_forgetRain_11 rfl rfl
set_option maxRecDepth 100000 in
set_option maxHeartbeats 4000000 in
theorem t_X5_forgetRain {ad : Nat → Nat} {G : gG} {a0 : Nat} {a1 : Int32} {a2 : Int32} {S S1 : gS} {T : gT} {E : String} (h : f_X5_forgetRain G a0 a1 a2 S = some (.inl E, S1)) : Cx ad yX5_forgetRain (Cond.code yX5_forgetRain cX5_forgetRain 3 (some .int) :: gTb) 8 [.ref a0, .int a1, .int a2] G S T E S1 T := by
  refine Cx.ofB rfl (Nat.le_of_ble_eq_true rfl) rfl (fun K g e hK => ?_)
  obtain ⟨rfl, -⟩ := hK
  show Xj K [] G 0 [some (.ref a0), some (.int a1), some (.int a2)] [] S T 1 6
  unfold f_X5_forgetRain at h
  refine x_aload_n 0 g dX5_forgetRain_0 rfl rfl ?_
  refine x_gst g dX5_forgetRain_1 (hzC g 5 (by decide)) ls_X5_69 ?_
  refine x_iload_n 1 g dX5_forgetRain_4 rfl rfl ?_
  refine x_iload_n 2 g dX5_forgetRain_5 rfl rfl ?_
  refine x_iconst (v := 0) g dX5_forgetRain_6 (by decide) ?_
  refine x_iconst (v := 0) g dX5_forgetRain_7 (by decide) ?_
  obtain ⟨q_1, h⟩ := gd_e h
  rcases gbx2_e h with ⟨E_5, S_4, q_2, h⟩ | ⟨r_3, S_4, q_2, h⟩
  · cases h
    exact x_tV g e (t_X5_change q_2) ca_X5_change in_X5_change se_X5_change lm_X5_53 gXX5 q_1 (Nat.le_of_ble_eq_true rfl) rfl rfl (Nat.le_of_ble_eq_true rfl) dX5_forgetRain_8
  refine x_cV [.int r_3] g (k_X5_change q_2) ca_X5_change in_X5_change se_X5_change lm_X5_53 gXX5 q_1 (Nat.le_of_ble_eq_true rfl) rfl rfl (Nat.le_of_ble_eq_true rfl) dX5_forgetRain_8 rfl ?_
  cases h
noncomputable def f_X5_examine (G : gG) (a0 : Nat) (a1 : Int32) (a2 : Int32) (S : gS) : Option ((String ⊕ Int32) × gS) := gd (gis G 2 a0) <| gbx2 (f_X5_change G a0 6 a1 a2 0 0 S) (fun (E_5 : String) (S_4 : gS) => some (.inl E_5, S_4)) fun (r_3 : Int32) (S_4 : gS) => some (.inr r_3, S_4)
set_option maxRecDepth 100000 in
set_option maxHeartbeats 4000000 in
theorem k_X5_examine {ad : Nat → Nat} {G : gG} {a0 : Nat} {a1 : Int32} {a2 : Int32} {S S1 : gS} {T : gT} {r : Int32} (h : f_X5_examine G a0 a1 a2 S = some (.inr r, S1)) : Ct ad yX5_examine (Cond.code yX5_examine cX5_examine 3 (some .int) :: gTb) 6 0 0 [.ref a0, .int a1, .int a2] G S T (some (.int r)) G S1 T := by
  refine Ct.ofB rfl (Nat.le_of_ble_eq_true rfl) rfl (fun K g e hK => ?_)
  obtain ⟨rfl, -⟩ := hK
  show Xj K [] G 0 [some (.ref a0), some (.int a1), some (.int a2)] [] S T 0 0
  unfold f_X5_examine at h
  refine x_aload_n 0 g dX5_examine_0 rfl rfl ?_
  refine x_gst g dX5_examine_1 (hzC g 6 (by decide)) ls_X5_72 ?_
  refine x_iload_n 1 g dX5_examine_4 rfl rfl ?_
  refine x_iload_n 2 g dX5_examine_5 rfl rfl ?_
  refine x_iconst (v := 0) g dX5_examine_6 (by decide) ?_
  refine x_iconst (v := 0) g dX5_examine_7 (by decide) ?_
  obtain ⟨q_1, h⟩ := gd_e h
  rcases gbx2_e h with ⟨E_5, S_4, q_2, h⟩ | ⟨r_3, S_4, q_2, h⟩
  · cases h
  refine x_cV [.int r_3] g (k_X5_change q_2) ca_X5_change in_X5_change se_X5_change lm_X5_53 gXX5 q_1 (Nat.le_of_ble_eq_true rfl) rfl rfl (Nat.le_of_ble_eq_true rfl) dX5_examine_8 rfl ?_
  cases h
  exact x_iretS g e dX5_examine_11 rfl rfl
set_option maxRecDepth 100000 in
set_option maxHeartbeats 4000000 in
theorem t_X5_examine {ad : Nat → Nat} {G : gG} {a0 : Nat} {a1 : Int32} {a2 : Int32} {S S1 : gS} {T : gT} {E : String} (h : f_X5_examine G a0 a1 a2 S = some (.inl E, S1)) : Cx ad yX5_examine (Cond.code yX5_examine cX5_examine 3 (some .int) :: gTb) 8 [.ref a0, .int a1, .int a2] G S T E S1 T := by
  refine Cx.ofB rfl (Nat.le_of_ble_eq_true rfl) rfl (fun K g e hK => ?_)
  obtain ⟨rfl, -⟩ := hK
  show Xj K [] G 0 [some (.ref a0), some (.int a1), some (.int a2)] [] S T 1 6
  unfold f_X5_examine at h
  refine x_aload_n 0 g dX5_examine_0 rfl rfl ?_
  refine x_gst g dX5_examine_1 (hzC g 6 (by decide)) ls_X5_72 ?_
  refine x_iload_n 1 g dX5_examine_4 rfl rfl ?_
  refine x_iload_n 2 g dX5_examine_5 rfl rfl ?_
  refine x_iconst (v := 0) g dX5_examine_6 (by decide) ?_
  refine x_iconst (v := 0) g dX5_examine_7 (by decide) ?_
  obtain ⟨q_1, h⟩ := gd_e h
  rcases gbx2_e h with ⟨E_5, S_4, q_2, h⟩ | ⟨r_3, S_4, q_2, h⟩
  · cases h
    exact x_tV g e (t_X5_change q_2) ca_X5_change in_X5_change se_X5_change lm_X5_53 gXX5 q_1 (Nat.le_of_ble_eq_true rfl) rfl rfl (Nat.le_of_ble_eq_true rfl) dX5_examine_8
  refine x_cV [.int r_3] g (k_X5_change q_2) ca_X5_change in_X5_change se_X5_change lm_X5_53 gXX5 q_1 (Nat.le_of_ble_eq_true rfl) rfl rfl (Nat.le_of_ble_eq_true rfl) dX5_examine_8 rfl ?_
  cases h
noncomputable def f_X5_endTerm (G : gG) (a0 : Nat) (S : gS) : Option ((String ⊕ Int32) × gS) := gd (gis G 2 a0) <| gbx2 (f_X5_change G a0 7 0 0 0 0 S) (fun (E_5 : String) (S_4 : gS) => some (.inl E_5, S_4)) fun (r_3 : Int32) (S_4 : gS) => some (.inr r_3, S_4)
set_option maxRecDepth 100000 in
set_option maxHeartbeats 4000000 in
theorem k_X5_endTerm {ad : Nat → Nat} {G : gG} {a0 : Nat} {S S1 : gS} {T : gT} {r : Int32} (h : f_X5_endTerm G a0 S = some (.inr r, S1)) : Ct ad yX5_endTerm (Cond.code yX5_endTerm cX5_endTerm 1 (some .int) :: gTb) 6 0 0 [.ref a0] G S T (some (.int r)) G S1 T := by
  refine Ct.ofB rfl (Nat.le_of_ble_eq_true rfl) rfl (fun K g e hK => ?_)
  obtain ⟨rfl, -⟩ := hK
  show Xj K [] G 0 [some (.ref a0)] [] S T 0 0
  unfold f_X5_endTerm at h
  refine x_aload_n 0 g dX5_endTerm_0 rfl rfl ?_
  refine x_gst g dX5_endTerm_1 (hzC g 7 (by decide)) ls_X5_75 ?_
  refine x_iconst (v := 0) g dX5_endTerm_4 (by decide) ?_
  refine x_iconst (v := 0) g dX5_endTerm_5 (by decide) ?_
  refine x_iconst (v := 0) g dX5_endTerm_6 (by decide) ?_
  refine x_iconst (v := 0) g dX5_endTerm_7 (by decide) ?_
  obtain ⟨q_1, h⟩ := gd_e h
  rcases gbx2_e h with ⟨E_5, S_4, q_2, h⟩ | ⟨r_3, S_4, q_2, h⟩
  · cases h
  refine x_cV [.int r_3] g (k_X5_change q_2) ca_X5_change in_X5_change se_X5_change lm_X5_53 gXX5 q_1 (Nat.le_of_ble_eq_true rfl) rfl rfl (Nat.le_of_ble_eq_true rfl) dX5_endTerm_8 rfl ?_
  cases h
  exact x_iretS g e dX5_endTerm_11 rfl rfl
set_option maxRecDepth 100000 in
set_option maxHeartbeats 4000000 in
theorem t_X5_endTerm {ad : Nat → Nat} {G : gG} {a0 : Nat} {S S1 : gS} {T : gT} {E : String} (h : f_X5_endTerm G a0 S = some (.inl E, S1)) : Cx ad yX5_endTerm (Cond.code yX5_endTerm cX5_endTerm 1 (some .int) :: gTb) 8 [.ref a0] G S T E S1 T := by
  refine Cx.ofB rfl (Nat.le_of_ble_eq_true rfl) rfl (fun K g e hK => ?_)
  obtain ⟨rfl, -⟩ := hK
  show Xj K [] G 0 [some (.ref a0)] [] S T 1 6
  unfold f_X5_endTerm at h
  refine x_aload_n 0 g dX5_endTerm_0 rfl rfl ?_
  refine x_gst g dX5_endTerm_1 (hzC g 7 (by decide)) ls_X5_75 ?_
  refine x_iconst (v := 0) g dX5_endTerm_4 (by decide) ?_
  refine x_iconst (v := 0) g dX5_endTerm_5 (by decide) ?_
  refine x_iconst (v := 0) g dX5_endTerm_6 (by decide) ?_
  refine x_iconst (v := 0) g dX5_endTerm_7 (by decide) ?_
  obtain ⟨q_1, h⟩ := gd_e h
  rcases gbx2_e h with ⟨E_5, S_4, q_2, h⟩ | ⟨r_3, S_4, q_2, h⟩
  · cases h
    exact x_tV g e (t_X5_change q_2) ca_X5_change in_X5_change se_X5_change lm_X5_53 gXX5 q_1 (Nat.le_of_ble_eq_true rfl) rfl rfl (Nat.le_of_ble_eq_true rfl) dX5_endTerm_8
  refine x_cV [.int r_3] g (k_X5_change q_2) ca_X5_change in_X5_change se_X5_change lm_X5_53 gXX5 q_1 (Nat.le_of_ble_eq_true rfl) rfl rfl (Nat.le_of_ble_eq_true rfl) dX5_endTerm_8 rfl ?_
  cases h
noncomputable def f_X5_umbrellaCount (G : gG) (a0 : Nat) (S : gS) : Option Int32 := gd (gis G 2 a0) <| gb (gP S 5 a0) fun (b_2 : Nat) => gd (gis G 0 b_2) <| some (gI S 0 b_2)
set_option maxRecDepth 100000 in
set_option maxHeartbeats 4000000 in
theorem k_X5_umbrellaCount {ad : Nat → Nat} {G : gG} {a0 : Nat} {S : gS} {T : gT} {r : Int32} (h : f_X5_umbrellaCount G a0 S = some r) : Ct ad yX5_umbrellaCount (Cond.code yX5_umbrellaCount cX5_umbrellaCount 1 (some .int) :: gTb) 0 0 0 [.ref a0] G S T (some (.int r)) G S T := by
  refine Ct.ofB rfl (Nat.le_of_ble_eq_true rfl) rfl (fun K g e hK => ?_)
  obtain ⟨rfl, -⟩ := hK
  show Xj K [] G 0 [some (.ref a0)] [] S T 0 0
  unfold f_X5_umbrellaCount at h
  refine x_aload_n 0 g dX5_umbrellaCount_0 rfl rfl ?_
  obtain ⟨q_1, h⟩ := gd_e h
  obtain ⟨b_2, e_3, h⟩ := gb_e h
  refine x_getr g dX5_umbrellaCount_1 gXX5 0 5 rfl (by decide) rfl lf_X5_12 q_1 e_3 ?_
  obtain ⟨q_4, h⟩ := gd_e h
  refine x_geti g dX5_umbrellaCount_4 gXX1 1 0 rfl (by decide) rfl lf_X5_78 q_4 ?_
  cases h
  exact x_iretS g e dX5_umbrellaCount_7 rfl rfl
noncomputable def f_X5_memory (G : gG) (a0 : Nat) (a1 : Int32) (S : gS) : Option (String ⊕ Int32) := gd (gis G 2 a0) <| gb (gP S 5 a0) fun (b_2 : Nat) => gd (gis G 0 b_2) <| gbx1 (f_X1_umbrellaAt G b_2 a1 S) (fun (E_8 : String) => some (.inl E_8)) fun (r_6 : Nat) => gd (gis G 1 r_6) <| some (.inr (gI S 10 r_6))
set_option maxRecDepth 100000 in
set_option maxHeartbeats 4000000 in
theorem k_X5_memory {ad : Nat → Nat} {G : gG} {a0 : Nat} {a1 : Int32} {S : gS} {T : gT} {r : Int32} (h : f_X5_memory G a0 a1 S = some (.inr r)) : Ct ad yX5_memory (Cond.code yX5_memory cX5_memory 2 (some .int) :: gTb) 1 0 0 [.ref a0, .int a1] G S T (some (.int r)) G S T := by
  refine Ct.ofB rfl (Nat.le_of_ble_eq_true rfl) rfl (fun K g e hK => ?_)
  obtain ⟨rfl, -⟩ := hK
  show Xj K [] G 0 [some (.ref a0), some (.int a1)] [] S T 0 0
  unfold f_X5_memory at h
  refine x_aload_n 0 g dX5_memory_0 rfl rfl ?_
  obtain ⟨q_1, h⟩ := gd_e h
  obtain ⟨b_2, e_3, h⟩ := gb_e h
  refine x_getr g dX5_memory_1 gXX5 0 5 rfl (by decide) rfl lf_X5_12 q_1 e_3 ?_
  refine x_iload_n 1 g dX5_memory_4 rfl rfl ?_
  obtain ⟨q_4, h⟩ := gd_e h
  rcases gbx1_e h with ⟨E_8, q_5, h⟩ | ⟨r_6, q_5, h⟩
  · cases h
  refine x_cV [.ref r_6] g (k_X1_umbrellaAt q_5) ca_X1_umbrellaAt in_X1_umbrellaAt se_X1_umbrellaAt lm_X5_81 gXX1 q_4 (Nat.le_of_ble_eq_true rfl) rfl rfl (Nat.le_of_ble_eq_true rfl) dX5_memory_5 rfl ?_
  obtain ⟨q_7, h⟩ := gd_e h
  refine x_geti g dX5_memory_8 gXX4 4 10 rfl (by decide) rfl lf_X5_85 q_7 ?_
  cases h
  exact x_iretS g e dX5_memory_11 rfl rfl
set_option maxRecDepth 100000 in
set_option maxHeartbeats 4000000 in
theorem t_X5_memory {ad : Nat → Nat} {G : gG} {a0 : Nat} {a1 : Int32} {S : gS} {T : gT} {E : String} (h : f_X5_memory G a0 a1 S = some (.inl E)) : Cx ad yX5_memory (Cond.code yX5_memory cX5_memory 2 (some .int) :: gTb) 7 [.ref a0, .int a1] G S T E S T := by
  refine Cx.ofB rfl (Nat.le_of_ble_eq_true rfl) rfl (fun K g e hK => ?_)
  obtain ⟨rfl, -⟩ := hK
  show Xj K [] G 0 [some (.ref a0), some (.int a1)] [] S T 1 6
  unfold f_X5_memory at h
  refine x_aload_n 0 g dX5_memory_0 rfl rfl ?_
  obtain ⟨q_1, h⟩ := gd_e h
  obtain ⟨b_2, e_3, h⟩ := gb_e h
  refine x_getr g dX5_memory_1 gXX5 0 5 rfl (by decide) rfl lf_X5_12 q_1 e_3 ?_
  refine x_iload_n 1 g dX5_memory_4 rfl rfl ?_
  obtain ⟨q_4, h⟩ := gd_e h
  rcases gbx1_e h with ⟨E_8, q_5, h⟩ | ⟨r_6, q_5, h⟩
  · cases h
    exact x_tV g e (t_X1_umbrellaAt q_5) ca_X1_umbrellaAt in_X1_umbrellaAt se_X1_umbrellaAt lm_X5_81 gXX1 q_4 (Nat.le_of_ble_eq_true rfl) rfl rfl (Nat.le_of_ble_eq_true rfl) dX5_memory_5
  refine x_cV [.ref r_6] g (k_X1_umbrellaAt q_5) ca_X1_umbrellaAt in_X1_umbrellaAt se_X1_umbrellaAt lm_X5_81 gXX1 q_4 (Nat.le_of_ble_eq_true rfl) rfl rfl (Nat.le_of_ble_eq_true rfl) dX5_memory_5 rfl ?_
  obtain ⟨q_7, h⟩ := gd_e h
  refine x_geti g dX5_memory_8 gXX4 4 10 rfl (by decide) rfl lf_X5_85 q_7 ?_
  cases h
noncomputable def f_X5_period (G : gG) (a0 : Nat) (a1 : Int32) (S : gS) : Option (String ⊕ Int32) := gd (gis G 2 a0) <| gb (gP S 5 a0) fun (b_2 : Nat) => gd (gis G 0 b_2) <| gbx1 (f_X1_umbrellaAt G b_2 a1 S) (fun (E_8 : String) => some (.inl E_8)) fun (r_6 : Nat) => gd (gis G 1 r_6) <| some (.inr (gI S 11 r_6))
set_option maxRecDepth 100000 in
set_option maxHeartbeats 4000000 in
theorem k_X5_period {ad : Nat → Nat} {G : gG} {a0 : Nat} {a1 : Int32} {S : gS} {T : gT} {r : Int32} (h : f_X5_period G a0 a1 S = some (.inr r)) : Ct ad yX5_period (Cond.code yX5_period cX5_period 2 (some .int) :: gTb) 1 0 0 [.ref a0, .int a1] G S T (some (.int r)) G S T := by
  refine Ct.ofB rfl (Nat.le_of_ble_eq_true rfl) rfl (fun K g e hK => ?_)
  obtain ⟨rfl, -⟩ := hK
  show Xj K [] G 0 [some (.ref a0), some (.int a1)] [] S T 0 0
  unfold f_X5_period at h
  refine x_aload_n 0 g dX5_period_0 rfl rfl ?_
  obtain ⟨q_1, h⟩ := gd_e h
  obtain ⟨b_2, e_3, h⟩ := gb_e h
  refine x_getr g dX5_period_1 gXX5 0 5 rfl (by decide) rfl lf_X5_12 q_1 e_3 ?_
  refine x_iload_n 1 g dX5_period_4 rfl rfl ?_
  obtain ⟨q_4, h⟩ := gd_e h
  rcases gbx1_e h with ⟨E_8, q_5, h⟩ | ⟨r_6, q_5, h⟩
  · cases h
  refine x_cV [.ref r_6] g (k_X1_umbrellaAt q_5) ca_X1_umbrellaAt in_X1_umbrellaAt se_X1_umbrellaAt lm_X5_81 gXX1 q_4 (Nat.le_of_ble_eq_true rfl) rfl rfl (Nat.le_of_ble_eq_true rfl) dX5_period_5 rfl ?_
  obtain ⟨q_7, h⟩ := gd_e h
  refine x_geti g dX5_period_8 gXX4 5 11 rfl (by decide) rfl lf_X5_90 q_7 ?_
  cases h
  exact x_iretS g e dX5_period_11 rfl rfl
set_option maxRecDepth 100000 in
set_option maxHeartbeats 4000000 in
theorem t_X5_period {ad : Nat → Nat} {G : gG} {a0 : Nat} {a1 : Int32} {S : gS} {T : gT} {E : String} (h : f_X5_period G a0 a1 S = some (.inl E)) : Cx ad yX5_period (Cond.code yX5_period cX5_period 2 (some .int) :: gTb) 7 [.ref a0, .int a1] G S T E S T := by
  refine Cx.ofB rfl (Nat.le_of_ble_eq_true rfl) rfl (fun K g e hK => ?_)
  obtain ⟨rfl, -⟩ := hK
  show Xj K [] G 0 [some (.ref a0), some (.int a1)] [] S T 1 6
  unfold f_X5_period at h
  refine x_aload_n 0 g dX5_period_0 rfl rfl ?_
  obtain ⟨q_1, h⟩ := gd_e h
  obtain ⟨b_2, e_3, h⟩ := gb_e h
  refine x_getr g dX5_period_1 gXX5 0 5 rfl (by decide) rfl lf_X5_12 q_1 e_3 ?_
  refine x_iload_n 1 g dX5_period_4 rfl rfl ?_
  obtain ⟨q_4, h⟩ := gd_e h
  rcases gbx1_e h with ⟨E_8, q_5, h⟩ | ⟨r_6, q_5, h⟩
  · cases h
    exact x_tV g e (t_X1_umbrellaAt q_5) ca_X1_umbrellaAt in_X1_umbrellaAt se_X1_umbrellaAt lm_X5_81 gXX1 q_4 (Nat.le_of_ble_eq_true rfl) rfl rfl (Nat.le_of_ble_eq_true rfl) dX5_period_5
  refine x_cV [.ref r_6] g (k_X1_umbrellaAt q_5) ca_X1_umbrellaAt in_X1_umbrellaAt se_X1_umbrellaAt lm_X5_81 gXX1 q_4 (Nat.le_of_ble_eq_true rfl) rfl rfl (Nat.le_of_ble_eq_true rfl) dX5_period_5 rfl ?_
  obtain ⟨q_7, h⟩ := gd_e h
  refine x_geti g dX5_period_8 gXX4 5 11 rfl (by decide) rfl lf_X5_90 q_7 ?_
  cases h
noncomputable def f_X5_trials (G : gG) (a0 : Nat) (a1 : Int32) (S : gS) : Option (String ⊕ Int32) := gd (gis G 2 a0) <| gb (gP S 5 a0) fun (b_2 : Nat) => gd (gis G 0 b_2) <| gbx1 (f_X1_umbrellaAt G b_2 a1 S) (fun (E_8 : String) => some (.inl E_8)) fun (r_6 : Nat) => gd (gis G 1 r_6) <| some (.inr (gI S 12 r_6))
set_option maxRecDepth 100000 in
set_option maxHeartbeats 4000000 in
theorem k_X5_trials {ad : Nat → Nat} {G : gG} {a0 : Nat} {a1 : Int32} {S : gS} {T : gT} {r : Int32} (h : f_X5_trials G a0 a1 S = some (.inr r)) : Ct ad yX5_trials (Cond.code yX5_trials cX5_trials 2 (some .int) :: gTb) 1 0 0 [.ref a0, .int a1] G S T (some (.int r)) G S T := by
  refine Ct.ofB rfl (Nat.le_of_ble_eq_true rfl) rfl (fun K g e hK => ?_)
  obtain ⟨rfl, -⟩ := hK
  show Xj K [] G 0 [some (.ref a0), some (.int a1)] [] S T 0 0
  unfold f_X5_trials at h
  refine x_aload_n 0 g dX5_trials_0 rfl rfl ?_
  obtain ⟨q_1, h⟩ := gd_e h
  obtain ⟨b_2, e_3, h⟩ := gb_e h
  refine x_getr g dX5_trials_1 gXX5 0 5 rfl (by decide) rfl lf_X5_12 q_1 e_3 ?_
  refine x_iload_n 1 g dX5_trials_4 rfl rfl ?_
  obtain ⟨q_4, h⟩ := gd_e h
  rcases gbx1_e h with ⟨E_8, q_5, h⟩ | ⟨r_6, q_5, h⟩
  · cases h
  refine x_cV [.ref r_6] g (k_X1_umbrellaAt q_5) ca_X1_umbrellaAt in_X1_umbrellaAt se_X1_umbrellaAt lm_X5_81 gXX1 q_4 (Nat.le_of_ble_eq_true rfl) rfl rfl (Nat.le_of_ble_eq_true rfl) dX5_trials_5 rfl ?_
  obtain ⟨q_7, h⟩ := gd_e h
  refine x_geti g dX5_trials_8 gXX4 6 12 rfl (by decide) rfl lf_X5_93 q_7 ?_
  cases h
  exact x_iretS g e dX5_trials_11 rfl rfl
set_option maxRecDepth 100000 in
set_option maxHeartbeats 4000000 in
theorem t_X5_trials {ad : Nat → Nat} {G : gG} {a0 : Nat} {a1 : Int32} {S : gS} {T : gT} {E : String} (h : f_X5_trials G a0 a1 S = some (.inl E)) : Cx ad yX5_trials (Cond.code yX5_trials cX5_trials 2 (some .int) :: gTb) 7 [.ref a0, .int a1] G S T E S T := by
  refine Cx.ofB rfl (Nat.le_of_ble_eq_true rfl) rfl (fun K g e hK => ?_)
  obtain ⟨rfl, -⟩ := hK
  show Xj K [] G 0 [some (.ref a0), some (.int a1)] [] S T 1 6
  unfold f_X5_trials at h
  refine x_aload_n 0 g dX5_trials_0 rfl rfl ?_
  obtain ⟨q_1, h⟩ := gd_e h
  obtain ⟨b_2, e_3, h⟩ := gb_e h
  refine x_getr g dX5_trials_1 gXX5 0 5 rfl (by decide) rfl lf_X5_12 q_1 e_3 ?_
  refine x_iload_n 1 g dX5_trials_4 rfl rfl ?_
  obtain ⟨q_4, h⟩ := gd_e h
  rcases gbx1_e h with ⟨E_8, q_5, h⟩ | ⟨r_6, q_5, h⟩
  · cases h
    exact x_tV g e (t_X1_umbrellaAt q_5) ca_X1_umbrellaAt in_X1_umbrellaAt se_X1_umbrellaAt lm_X5_81 gXX1 q_4 (Nat.le_of_ble_eq_true rfl) rfl rfl (Nat.le_of_ble_eq_true rfl) dX5_trials_5
  refine x_cV [.ref r_6] g (k_X1_umbrellaAt q_5) ca_X1_umbrellaAt in_X1_umbrellaAt se_X1_umbrellaAt lm_X5_81 gXX1 q_4 (Nat.le_of_ble_eq_true rfl) rfl rfl (Nat.le_of_ble_eq_true rfl) dX5_trials_5 rfl ?_
  obtain ⟨q_7, h⟩ := gd_e h
  refine x_geti g dX5_trials_8 gXX4 6 12 rfl (by decide) rfl lf_X5_93 q_7 ?_
  cases h
noncomputable def f_X5_rememberedTrials (G : gG) (a0 : Nat) (a1 : Int32) (S : gS) : Option (String ⊕ Int32) := gd (gis G 2 a0) <| gb (gP S 5 a0) fun (b_2 : Nat) => gd (gis G 0 b_2) <| gbx1 (f_X1_umbrellaAt G b_2 a1 S) (fun (E_8 : String) => some (.inl E_8)) fun (r_6 : Nat) => gd (gis G 1 r_6) <| some (.inr (gI S 13 r_6))
set_option maxRecDepth 100000 in
set_option maxHeartbeats 4000000 in
theorem k_X5_rememberedTrials {ad : Nat → Nat} {G : gG} {a0 : Nat} {a1 : Int32} {S : gS} {T : gT} {r : Int32} (h : f_X5_rememberedTrials G a0 a1 S = some (.inr r)) : Ct ad yX5_rememberedTrials (Cond.code yX5_rememberedTrials cX5_rememberedTrials 2 (some .int) :: gTb) 1 0 0 [.ref a0, .int a1] G S T (some (.int r)) G S T := by
  refine Ct.ofB rfl (Nat.le_of_ble_eq_true rfl) rfl (fun K g e hK => ?_)
  obtain ⟨rfl, -⟩ := hK
  show Xj K [] G 0 [some (.ref a0), some (.int a1)] [] S T 0 0
  unfold f_X5_rememberedTrials at h
  refine x_aload_n 0 g dX5_rememberedTrials_0 rfl rfl ?_
  obtain ⟨q_1, h⟩ := gd_e h
  obtain ⟨b_2, e_3, h⟩ := gb_e h
  refine x_getr g dX5_rememberedTrials_1 gXX5 0 5 rfl (by decide) rfl lf_X5_12 q_1 e_3 ?_
  refine x_iload_n 1 g dX5_rememberedTrials_4 rfl rfl ?_
  obtain ⟨q_4, h⟩ := gd_e h
  rcases gbx1_e h with ⟨E_8, q_5, h⟩ | ⟨r_6, q_5, h⟩
  · cases h
  refine x_cV [.ref r_6] g (k_X1_umbrellaAt q_5) ca_X1_umbrellaAt in_X1_umbrellaAt se_X1_umbrellaAt lm_X5_81 gXX1 q_4 (Nat.le_of_ble_eq_true rfl) rfl rfl (Nat.le_of_ble_eq_true rfl) dX5_rememberedTrials_5 rfl ?_
  obtain ⟨q_7, h⟩ := gd_e h
  refine x_geti g dX5_rememberedTrials_8 gXX4 7 13 rfl (by decide) rfl lf_X5_96 q_7 ?_
  cases h
  exact x_iretS g e dX5_rememberedTrials_11 rfl rfl
set_option maxRecDepth 100000 in
set_option maxHeartbeats 4000000 in
theorem t_X5_rememberedTrials {ad : Nat → Nat} {G : gG} {a0 : Nat} {a1 : Int32} {S : gS} {T : gT} {E : String} (h : f_X5_rememberedTrials G a0 a1 S = some (.inl E)) : Cx ad yX5_rememberedTrials (Cond.code yX5_rememberedTrials cX5_rememberedTrials 2 (some .int) :: gTb) 7 [.ref a0, .int a1] G S T E S T := by
  refine Cx.ofB rfl (Nat.le_of_ble_eq_true rfl) rfl (fun K g e hK => ?_)
  obtain ⟨rfl, -⟩ := hK
  show Xj K [] G 0 [some (.ref a0), some (.int a1)] [] S T 1 6
  unfold f_X5_rememberedTrials at h
  refine x_aload_n 0 g dX5_rememberedTrials_0 rfl rfl ?_
  obtain ⟨q_1, h⟩ := gd_e h
  obtain ⟨b_2, e_3, h⟩ := gb_e h
  refine x_getr g dX5_rememberedTrials_1 gXX5 0 5 rfl (by decide) rfl lf_X5_12 q_1 e_3 ?_
  refine x_iload_n 1 g dX5_rememberedTrials_4 rfl rfl ?_
  obtain ⟨q_4, h⟩ := gd_e h
  rcases gbx1_e h with ⟨E_8, q_5, h⟩ | ⟨r_6, q_5, h⟩
  · cases h
    exact x_tV g e (t_X1_umbrellaAt q_5) ca_X1_umbrellaAt in_X1_umbrellaAt se_X1_umbrellaAt lm_X5_81 gXX1 q_4 (Nat.le_of_ble_eq_true rfl) rfl rfl (Nat.le_of_ble_eq_true rfl) dX5_rememberedTrials_5
  refine x_cV [.ref r_6] g (k_X1_umbrellaAt q_5) ca_X1_umbrellaAt in_X1_umbrellaAt se_X1_umbrellaAt lm_X5_81 gXX1 q_4 (Nat.le_of_ble_eq_true rfl) rfl rfl (Nat.le_of_ble_eq_true rfl) dX5_rememberedTrials_5 rfl ?_
  obtain ⟨q_7, h⟩ := gd_e h
  refine x_geti g dX5_rememberedTrials_8 gXX4 7 13 rfl (by decide) rfl lf_X5_96 q_7 ?_
  cases h
noncomputable def f_X5_trialIndex (G : gG) (a0 : Nat) (a1 : Int32) (S : gS) : Option (String ⊕ Int32) := if a1 < 0 then (some (.inl "java/util/NoSuchElementException")) else (gd (gis G 1 a0) <| if a1 < (gI S 13 a0) then (some (.inr (((gI S 13 a0) - 1) - a1))) else (some (.inl "java/util/NoSuchElementException")))
set_option maxRecDepth 100000 in
set_option maxHeartbeats 4000000 in
theorem k_X5_trialIndex {ad : Nat → Nat} {G : gG} {a0 : Nat} {a1 : Int32} {S : gS} {T : gT} {r : Int32} (h : f_X5_trialIndex G a0 a1 S = some (.inr r)) : Ct ad yX5_trialIndex (Cond.code yX5_trialIndex cX5_trialIndex 2 (some .int) :: gTb) 0 0 0 [.ref a0, .int a1] G S T (some (.int r)) G S T := by
  refine Ct.ofB rfl (Nat.le_of_ble_eq_true rfl) rfl (fun K g e hK => ?_)
  obtain ⟨rfl, -⟩ := hK
  show Xj K [] G 0 [some (.ref a0), some (.int a1)] [] S T 0 0
  unfold f_X5_trialIndex at h
  refine x_iload_n 1 g dX5_trialIndex_0 rfl rfl ?_
  refine x_if_lt 12 g dX5_trialIndex_1 (by decide) (fun c_1 => ?_) (fun c_1 => ?_)
  · have h := ite_t c_1 h
    cases h
  · have h := ite_f c_1 h
    refine x_iload_n 1 g dX5_trialIndex_4 rfl rfl ?_
    refine x_aload_n 0 g dX5_trialIndex_5 rfl rfl ?_
    obtain ⟨q_2, h⟩ := gd_e h
    refine x_geti g dX5_trialIndex_6 gXX4 7 13 rfl (by decide) rfl lf_X5_96 q_2 ?_
    refine x_icmp_lt 22 g dX5_trialIndex_9 (by decide) (fun c_3 => ?_) (fun c_3 => ?_)
    · have h := ite_t c_3 h
      refine x_aload_n 0 g dX5_trialIndex_22 rfl rfl ?_
      refine x_geti g dX5_trialIndex_23 gXX4 7 13 rfl (by decide) rfl lf_X5_96 q_2 ?_
      refine x_iconst (v := 1) g dX5_trialIndex_26 (by decide) ?_
      refine x_isub g dX5_trialIndex_27 ?_
      refine x_iload_n 1 g dX5_trialIndex_28 rfl rfl ?_
      refine x_isub g dX5_trialIndex_29 ?_
      cases h
      exact x_iretS g e dX5_trialIndex_30 rfl rfl
    · have h := ite_f c_3 h
      cases h
set_option maxRecDepth 100000 in
set_option maxHeartbeats 4000000 in
theorem t_X5_trialIndex {ad : Nat → Nat} {G : gG} {a0 : Nat} {a1 : Int32} {S : gS} {T : gT} {E : String} (h : f_X5_trialIndex G a0 a1 S = some (.inl E)) : Cx ad yX5_trialIndex (Cond.code yX5_trialIndex cX5_trialIndex 2 (some .int) :: gTb) 6 [.ref a0, .int a1] G S T E S T := by
  refine Cx.ofB rfl (Nat.le_of_ble_eq_true rfl) rfl (fun K g e hK => ?_)
  obtain ⟨rfl, -⟩ := hK
  show Xj K [] G 0 [some (.ref a0), some (.int a1)] [] S T 1 6
  unfold f_X5_trialIndex at h
  refine x_iload_n 1 g dX5_trialIndex_0 rfl rfl ?_
  refine x_if_lt 12 g dX5_trialIndex_1 (by decide) (fun c_1 => ?_) (fun c_1 => ?_)
  · have h := ite_t c_1 h
    cases h
    exact x_throwN "no such trial is remembered" g e (by decide +kernel) (by decide +kernel) xnm_ok1 cl_X5_157 ci_NoSuchElementException (by decide +kernel) xat_X5_161 dX5_trialIndex_12 dX5_trialIndex_15 dX5_trialIndex_16 dX5_trialIndex_18 dX5_trialIndex_21 (by decide) (by decide) (Nat.le_of_ble_eq_true rfl) rfl rfl
  · have h := ite_f c_1 h
    refine x_iload_n 1 g dX5_trialIndex_4 rfl rfl ?_
    refine x_aload_n 0 g dX5_trialIndex_5 rfl rfl ?_
    obtain ⟨q_2, h⟩ := gd_e h
    refine x_geti g dX5_trialIndex_6 gXX4 7 13 rfl (by decide) rfl lf_X5_96 q_2 ?_
    refine x_icmp_lt 22 g dX5_trialIndex_9 (by decide) (fun c_3 => ?_) (fun c_3 => ?_)
    · have h := ite_t c_3 h
      refine x_aload_n 0 g dX5_trialIndex_22 rfl rfl ?_
      refine x_geti g dX5_trialIndex_23 gXX4 7 13 rfl (by decide) rfl lf_X5_96 q_2 ?_
      refine x_iconst (v := 1) g dX5_trialIndex_26 (by decide) ?_
      refine x_isub g dX5_trialIndex_27 ?_
      refine x_iload_n 1 g dX5_trialIndex_28 rfl rfl ?_
      refine x_isub g dX5_trialIndex_29 ?_
      cases h
    · have h := ite_f c_3 h
      cases h
      exact x_throwN "no such trial is remembered" g e (by decide +kernel) (by decide +kernel) xnm_ok1 cl_X5_157 ci_NoSuchElementException (by decide +kernel) xat_X5_161 dX5_trialIndex_12 dX5_trialIndex_15 dX5_trialIndex_16 dX5_trialIndex_18 dX5_trialIndex_21 (by decide) (by decide) (Nat.le_of_ble_eq_true rfl) rfl rfl
noncomputable def f_X5_trialRain (G : gG) (a0 : Nat) (a1 : Int32) (a2 : Int32) (S : gS) : Option (String ⊕ Int32) := gd (gis G 2 a0) <| gb (gP S 5 a0) fun (b_2 : Nat) => gd (gis G 0 b_2) <| gbx1 (f_X1_umbrellaAt G b_2 a1 S) (fun (E_17 : String) => some (.inl E_17)) fun (r_6 : Nat) => gd (gis G 1 r_6) <| gb (gP S 1 r_6) fun (b_8 : Nat) => gbx1 (f_X5_trialIndex G r_6 a2 S) (fun (E_16 : String) => some (.inl E_16)) fun (r_11 : Int32) => gb (f_X5_valueAt G b_8 r_11 S) fun (r_13 : Int32) => gb (f_X5_rainOfCase r_13) fun (r_15 : Int32) => some (.inr r_15)
set_option maxRecDepth 100000 in
set_option maxHeartbeats 4000000 in
theorem k_X5_trialRain {ad : Nat → Nat} {G : gG} {a0 : Nat} {a1 : Int32} {a2 : Int32} {S : gS} {T : gT} {r : Int32} (h : f_X5_trialRain G a0 a1 a2 S = some (.inr r)) : Ct ad yX5_trialRain (Cond.code yX5_trialRain cX5_trialRain 4 (some .int) :: gTb) 2 0 0 [.ref a0, .int a1, .int a2] G S T (some (.int r)) G S T := by
  refine Ct.ofB rfl (Nat.le_of_ble_eq_true rfl) rfl (fun K g e hK => ?_)
  obtain ⟨rfl, -⟩ := hK
  show Xj K [] G 0 [some (.ref a0), some (.int a1), some (.int a2), none] [] S T 0 0
  unfold f_X5_trialRain at h
  refine x_aload_n 0 g dX5_trialRain_0 rfl rfl ?_
  obtain ⟨q_1, h⟩ := gd_e h
  obtain ⟨b_2, e_3, h⟩ := gb_e h
  refine x_getr g dX5_trialRain_1 gXX5 0 5 rfl (by decide) rfl lf_X5_12 q_1 e_3 ?_
  refine x_iload_n 1 g dX5_trialRain_4 rfl rfl ?_
  obtain ⟨q_4, h⟩ := gd_e h
  rcases gbx1_e h with ⟨E_17, q_5, h⟩ | ⟨r_6, q_5, h⟩
  · cases h
  refine x_cV [.ref r_6] g (k_X1_umbrellaAt q_5) ca_X1_umbrellaAt in_X1_umbrellaAt se_X1_umbrellaAt lm_X5_81 gXX1 q_4 (Nat.le_of_ble_eq_true rfl) rfl rfl (Nat.le_of_ble_eq_true rfl) dX5_trialRain_5 rfl ?_
  refine x_astore_n 3 g dX5_trialRain_8 rfl (Nat.le_of_ble_eq_true rfl) rfl ?_
  refine x_aload_n 3 g dX5_trialRain_9 rfl rfl ?_
  obtain ⟨q_7, h⟩ := gd_e h
  obtain ⟨b_8, e_9, h⟩ := gb_e h
  refine x_getr g dX5_trialRain_10 gXX4 0 1 rfl (by decide) rfl lf_X5_99 q_7 e_9 ?_
  refine x_aload_n 3 g dX5_trialRain_13 rfl rfl ?_
  refine x_iload_n 2 g dX5_trialRain_14 rfl rfl ?_
  rcases gbx1_e h with ⟨E_16, q_10, h⟩ | ⟨r_11, q_10, h⟩
  · cases h
  refine x_cS [.int r_11, .ref b_8] g (k_X5_trialIndex q_10) ca_X5_trialIndex st_X5_trialIndex lm_X5_103 (Nat.le_of_ble_eq_true rfl) rfl rfl (Nat.le_of_ble_eq_true rfl) dX5_trialRain_15 rfl ?_
  obtain ⟨r_13, q_12, h⟩ := gb_e h
  refine x_cS [.int r_13] g (k_X5_valueAt q_12) ca_X5_valueAt st_X5_valueAt lm_X5_107 (Nat.le_of_ble_eq_true rfl) rfl rfl (Nat.le_of_ble_eq_true rfl) dX5_trialRain_18 rfl ?_
  obtain ⟨r_15, q_14, h⟩ := gb_e h
  refine x_cS [.int r_15] g (k_X5_rainOfCase q_14) ca_X5_rainOfCase st_X5_rainOfCase lm_X5_111 (Nat.le_of_ble_eq_true rfl) rfl rfl (Nat.le_of_ble_eq_true rfl) dX5_trialRain_21 rfl ?_
  cases h
  exact x_iretS g e dX5_trialRain_24 rfl rfl
set_option maxRecDepth 100000 in
set_option maxHeartbeats 4000000 in
theorem t_X5_trialRain {ad : Nat → Nat} {G : gG} {a0 : Nat} {a1 : Int32} {a2 : Int32} {S : gS} {T : gT} {E : String} (h : f_X5_trialRain G a0 a1 a2 S = some (.inl E)) : Cx ad yX5_trialRain (Cond.code yX5_trialRain cX5_trialRain 4 (some .int) :: gTb) 7 [.ref a0, .int a1, .int a2] G S T E S T := by
  refine Cx.ofB rfl (Nat.le_of_ble_eq_true rfl) rfl (fun K g e hK => ?_)
  obtain ⟨rfl, -⟩ := hK
  show Xj K [] G 0 [some (.ref a0), some (.int a1), some (.int a2), none] [] S T 1 6
  unfold f_X5_trialRain at h
  refine x_aload_n 0 g dX5_trialRain_0 rfl rfl ?_
  obtain ⟨q_1, h⟩ := gd_e h
  obtain ⟨b_2, e_3, h⟩ := gb_e h
  refine x_getr g dX5_trialRain_1 gXX5 0 5 rfl (by decide) rfl lf_X5_12 q_1 e_3 ?_
  refine x_iload_n 1 g dX5_trialRain_4 rfl rfl ?_
  obtain ⟨q_4, h⟩ := gd_e h
  rcases gbx1_e h with ⟨E_17, q_5, h⟩ | ⟨r_6, q_5, h⟩
  · cases h
    exact x_tV g e (t_X1_umbrellaAt q_5) ca_X1_umbrellaAt in_X1_umbrellaAt se_X1_umbrellaAt lm_X5_81 gXX1 q_4 (Nat.le_of_ble_eq_true rfl) rfl rfl (Nat.le_of_ble_eq_true rfl) dX5_trialRain_5
  refine x_cV [.ref r_6] g (k_X1_umbrellaAt q_5) ca_X1_umbrellaAt in_X1_umbrellaAt se_X1_umbrellaAt lm_X5_81 gXX1 q_4 (Nat.le_of_ble_eq_true rfl) rfl rfl (Nat.le_of_ble_eq_true rfl) dX5_trialRain_5 rfl ?_
  refine x_astore_n 3 g dX5_trialRain_8 rfl (Nat.le_of_ble_eq_true rfl) rfl ?_
  refine x_aload_n 3 g dX5_trialRain_9 rfl rfl ?_
  obtain ⟨q_7, h⟩ := gd_e h
  obtain ⟨b_8, e_9, h⟩ := gb_e h
  refine x_getr g dX5_trialRain_10 gXX4 0 1 rfl (by decide) rfl lf_X5_99 q_7 e_9 ?_
  refine x_aload_n 3 g dX5_trialRain_13 rfl rfl ?_
  refine x_iload_n 2 g dX5_trialRain_14 rfl rfl ?_
  rcases gbx1_e h with ⟨E_16, q_10, h⟩ | ⟨r_11, q_10, h⟩
  · cases h
    exact x_tS g e (t_X5_trialIndex q_10) ca_X5_trialIndex st_X5_trialIndex lm_X5_103 (Nat.le_of_ble_eq_true rfl) rfl rfl (Nat.le_of_ble_eq_true rfl) dX5_trialRain_15
  refine x_cS [.int r_11, .ref b_8] g (k_X5_trialIndex q_10) ca_X5_trialIndex st_X5_trialIndex lm_X5_103 (Nat.le_of_ble_eq_true rfl) rfl rfl (Nat.le_of_ble_eq_true rfl) dX5_trialRain_15 rfl ?_
  obtain ⟨r_13, q_12, h⟩ := gb_e h
  refine x_cS [.int r_13] g (k_X5_valueAt q_12) ca_X5_valueAt st_X5_valueAt lm_X5_107 (Nat.le_of_ble_eq_true rfl) rfl rfl (Nat.le_of_ble_eq_true rfl) dX5_trialRain_18 rfl ?_
  obtain ⟨r_15, q_14, h⟩ := gb_e h
  refine x_cS [.int r_15] g (k_X5_rainOfCase q_14) ca_X5_rainOfCase st_X5_rainOfCase lm_X5_111 (Nat.le_of_ble_eq_true rfl) rfl rfl (Nat.le_of_ble_eq_true rfl) dX5_trialRain_21 rfl ?_
  cases h
noncomputable def f_X5_isOpenCase (a0 : Int32) : Option Bool := if (a0 - a0 / 2 * 2) = 1 then (some true) else (some false)
set_option maxRecDepth 100000 in
set_option maxHeartbeats 4000000 in
theorem k_X5_isOpenCase {ad : Nat → Nat} {G : gG} {a0 : Int32} {S : gS} {T : gT} {r : Bool} (h : f_X5_isOpenCase a0 = some r) : Ct ad yX5_isOpenCase (Cond.code yX5_isOpenCase cX5_isOpenCase 1 (some .boolean) :: gTb) 0 0 0 [.int a0] G S T (some (.int (gz r))) G S T := by
  refine Ct.ofB rfl (Nat.le_of_ble_eq_true rfl) rfl (fun K g e hK => ?_)
  obtain ⟨rfl, -⟩ := hK
  show Xj K [] G 0 [some (.int a0)] [] S T 0 0
  unfold f_X5_isOpenCase at h
  refine x_iload_n 0 g dX5_isOpenCase_0 rfl rfl ?_
  refine x_iconst (v := 2) g dX5_isOpenCase_1 (by decide) ?_
  refine x_irem g dX5_isOpenCase_2 (by decide) ?_
  refine x_iconst (v := 1) g dX5_isOpenCase_3 (by decide) ?_
  refine x_icmp_ne 11 g dX5_isOpenCase_4 (by decide) (fun c_1 => ?_) (fun c_1 => ?_)
  · have h := ite_f c_1 h
    refine x_iconst (v := 0) g dX5_isOpenCase_11 (by decide) ?_
    cases h
    exact x_zretS (b := false) g e dX5_isOpenCase_12 rfl rfl rfl
  · have h := ite_t c_1 h
    refine x_iconst (v := 1) g dX5_isOpenCase_7 (by decide) ?_
    refine x_goto 12 g dX5_isOpenCase_8 (by decide) ?_
    cases h
    exact x_zretS (b := true) g e dX5_isOpenCase_12 rfl rfl rfl
noncomputable def f_X5_trialOpened (G : gG) (a0 : Nat) (a1 : Int32) (a2 : Int32) (S : gS) : Option (String ⊕ Bool) := gd (gis G 2 a0) <| gb (gP S 5 a0) fun (b_2 : Nat) => gd (gis G 0 b_2) <| gbx1 (f_X1_umbrellaAt G b_2 a1 S) (fun (E_17 : String) => some (.inl E_17)) fun (r_6 : Nat) => gd (gis G 1 r_6) <| gb (gP S 1 r_6) fun (b_8 : Nat) => gbx1 (f_X5_trialIndex G r_6 a2 S) (fun (E_16 : String) => some (.inl E_16)) fun (r_11 : Int32) => gb (f_X5_valueAt G b_8 r_11 S) fun (r_13 : Int32) => gb (f_X5_isOpenCase r_13) fun (r_15 : Bool) => some (.inr r_15)
set_option maxRecDepth 100000 in
set_option maxHeartbeats 4000000 in
theorem k_X5_trialOpened {ad : Nat → Nat} {G : gG} {a0 : Nat} {a1 : Int32} {a2 : Int32} {S : gS} {T : gT} {r : Bool} (h : f_X5_trialOpened G a0 a1 a2 S = some (.inr r)) : Ct ad yX5_trialOpened (Cond.code yX5_trialOpened cX5_trialOpened 4 (some .boolean) :: gTb) 1 0 0 [.ref a0, .int a1, .int a2] G S T (some (.int (gz r))) G S T := by
  refine Ct.ofB rfl (Nat.le_of_ble_eq_true rfl) rfl (fun K g e hK => ?_)
  obtain ⟨rfl, -⟩ := hK
  show Xj K [] G 0 [some (.ref a0), some (.int a1), some (.int a2), none] [] S T 0 0
  unfold f_X5_trialOpened at h
  refine x_aload_n 0 g dX5_trialOpened_0 rfl rfl ?_
  obtain ⟨q_1, h⟩ := gd_e h
  obtain ⟨b_2, e_3, h⟩ := gb_e h
  refine x_getr g dX5_trialOpened_1 gXX5 0 5 rfl (by decide) rfl lf_X5_12 q_1 e_3 ?_
  refine x_iload_n 1 g dX5_trialOpened_4 rfl rfl ?_
  obtain ⟨q_4, h⟩ := gd_e h
  rcases gbx1_e h with ⟨E_17, q_5, h⟩ | ⟨r_6, q_5, h⟩
  · cases h
  refine x_cV [.ref r_6] g (k_X1_umbrellaAt q_5) ca_X1_umbrellaAt in_X1_umbrellaAt se_X1_umbrellaAt lm_X5_81 gXX1 q_4 (Nat.le_of_ble_eq_true rfl) rfl rfl (Nat.le_of_ble_eq_true rfl) dX5_trialOpened_5 rfl ?_
  refine x_astore_n 3 g dX5_trialOpened_8 rfl (Nat.le_of_ble_eq_true rfl) rfl ?_
  refine x_aload_n 3 g dX5_trialOpened_9 rfl rfl ?_
  obtain ⟨q_7, h⟩ := gd_e h
  obtain ⟨b_8, e_9, h⟩ := gb_e h
  refine x_getr g dX5_trialOpened_10 gXX4 0 1 rfl (by decide) rfl lf_X5_99 q_7 e_9 ?_
  refine x_aload_n 3 g dX5_trialOpened_13 rfl rfl ?_
  refine x_iload_n 2 g dX5_trialOpened_14 rfl rfl ?_
  rcases gbx1_e h with ⟨E_16, q_10, h⟩ | ⟨r_11, q_10, h⟩
  · cases h
  refine x_cS [.int r_11, .ref b_8] g (k_X5_trialIndex q_10) ca_X5_trialIndex st_X5_trialIndex lm_X5_103 (Nat.le_of_ble_eq_true rfl) rfl rfl (Nat.le_of_ble_eq_true rfl) dX5_trialOpened_15 rfl ?_
  obtain ⟨r_13, q_12, h⟩ := gb_e h
  refine x_cS [.int r_13] g (k_X5_valueAt q_12) ca_X5_valueAt st_X5_valueAt lm_X5_107 (Nat.le_of_ble_eq_true rfl) rfl rfl (Nat.le_of_ble_eq_true rfl) dX5_trialOpened_18 rfl ?_
  obtain ⟨r_15, q_14, h⟩ := gb_e h
  refine x_cS [.int (gz r_15)] g (k_X5_isOpenCase q_14) ca_X5_isOpenCase st_X5_isOpenCase lm_X5_115 (Nat.le_of_ble_eq_true rfl) rfl rfl (Nat.le_of_ble_eq_true rfl) dX5_trialOpened_21 rfl ?_
  cases h
  exact x_zretS g e dX5_trialOpened_24 rfl rfl rfl
set_option maxRecDepth 100000 in
set_option maxHeartbeats 4000000 in
theorem t_X5_trialOpened {ad : Nat → Nat} {G : gG} {a0 : Nat} {a1 : Int32} {a2 : Int32} {S : gS} {T : gT} {E : String} (h : f_X5_trialOpened G a0 a1 a2 S = some (.inl E)) : Cx ad yX5_trialOpened (Cond.code yX5_trialOpened cX5_trialOpened 4 (some .boolean) :: gTb) 7 [.ref a0, .int a1, .int a2] G S T E S T := by
  refine Cx.ofB rfl (Nat.le_of_ble_eq_true rfl) rfl (fun K g e hK => ?_)
  obtain ⟨rfl, -⟩ := hK
  show Xj K [] G 0 [some (.ref a0), some (.int a1), some (.int a2), none] [] S T 1 6
  unfold f_X5_trialOpened at h
  refine x_aload_n 0 g dX5_trialOpened_0 rfl rfl ?_
  obtain ⟨q_1, h⟩ := gd_e h
  obtain ⟨b_2, e_3, h⟩ := gb_e h
  refine x_getr g dX5_trialOpened_1 gXX5 0 5 rfl (by decide) rfl lf_X5_12 q_1 e_3 ?_
  refine x_iload_n 1 g dX5_trialOpened_4 rfl rfl ?_
  obtain ⟨q_4, h⟩ := gd_e h
  rcases gbx1_e h with ⟨E_17, q_5, h⟩ | ⟨r_6, q_5, h⟩
  · cases h
    exact x_tV g e (t_X1_umbrellaAt q_5) ca_X1_umbrellaAt in_X1_umbrellaAt se_X1_umbrellaAt lm_X5_81 gXX1 q_4 (Nat.le_of_ble_eq_true rfl) rfl rfl (Nat.le_of_ble_eq_true rfl) dX5_trialOpened_5
  refine x_cV [.ref r_6] g (k_X1_umbrellaAt q_5) ca_X1_umbrellaAt in_X1_umbrellaAt se_X1_umbrellaAt lm_X5_81 gXX1 q_4 (Nat.le_of_ble_eq_true rfl) rfl rfl (Nat.le_of_ble_eq_true rfl) dX5_trialOpened_5 rfl ?_
  refine x_astore_n 3 g dX5_trialOpened_8 rfl (Nat.le_of_ble_eq_true rfl) rfl ?_
  refine x_aload_n 3 g dX5_trialOpened_9 rfl rfl ?_
  obtain ⟨q_7, h⟩ := gd_e h
  obtain ⟨b_8, e_9, h⟩ := gb_e h
  refine x_getr g dX5_trialOpened_10 gXX4 0 1 rfl (by decide) rfl lf_X5_99 q_7 e_9 ?_
  refine x_aload_n 3 g dX5_trialOpened_13 rfl rfl ?_
  refine x_iload_n 2 g dX5_trialOpened_14 rfl rfl ?_
  rcases gbx1_e h with ⟨E_16, q_10, h⟩ | ⟨r_11, q_10, h⟩
  · cases h
    exact x_tS g e (t_X5_trialIndex q_10) ca_X5_trialIndex st_X5_trialIndex lm_X5_103 (Nat.le_of_ble_eq_true rfl) rfl rfl (Nat.le_of_ble_eq_true rfl) dX5_trialOpened_15
  refine x_cS [.int r_11, .ref b_8] g (k_X5_trialIndex q_10) ca_X5_trialIndex st_X5_trialIndex lm_X5_103 (Nat.le_of_ble_eq_true rfl) rfl rfl (Nat.le_of_ble_eq_true rfl) dX5_trialOpened_15 rfl ?_
  obtain ⟨r_13, q_12, h⟩ := gb_e h
  refine x_cS [.int r_13] g (k_X5_valueAt q_12) ca_X5_valueAt st_X5_valueAt lm_X5_107 (Nat.le_of_ble_eq_true rfl) rfl rfl (Nat.le_of_ble_eq_true rfl) dX5_trialOpened_18 rfl ?_
  obtain ⟨r_15, q_14, h⟩ := gb_e h
  refine x_cS [.int (gz r_15)] g (k_X5_isOpenCase q_14) ca_X5_isOpenCase st_X5_isOpenCase lm_X5_115 (Nat.le_of_ble_eq_true rfl) rfl rfl (Nat.le_of_ble_eq_true rfl) dX5_trialOpened_21 rfl ?_
  cases h
noncomputable def f_X5_trialReward (G : gG) (a0 : Nat) (a1 : Int32) (a2 : Int32) (S : gS) : Option (String ⊕ Int32) := gd (gis G 2 a0) <| gb (gP S 5 a0) fun (b_2 : Nat) => gd (gis G 0 b_2) <| gbx1 (f_X1_umbrellaAt G b_2 a1 S) (fun (E_15 : String) => some (.inl E_15)) fun (r_6 : Nat) => gd (gis G 1 r_6) <| gb (gP S 2 r_6) fun (b_8 : Nat) => gbx1 (f_X5_trialIndex G r_6 a2 S) (fun (E_14 : String) => some (.inl E_14)) fun (r_11 : Int32) => gb (f_X5_valueAt G b_8 r_11 S) fun (r_13 : Int32) => some (.inr r_13)
set_option maxRecDepth 100000 in
set_option maxHeartbeats 4000000 in
theorem k_X5_trialReward {ad : Nat → Nat} {G : gG} {a0 : Nat} {a1 : Int32} {a2 : Int32} {S : gS} {T : gT} {r : Int32} (h : f_X5_trialReward G a0 a1 a2 S = some (.inr r)) : Ct ad yX5_trialReward (Cond.code yX5_trialReward cX5_trialReward 4 (some .int) :: gTb) 1 0 0 [.ref a0, .int a1, .int a2] G S T (some (.int r)) G S T := by
  refine Ct.ofB rfl (Nat.le_of_ble_eq_true rfl) rfl (fun K g e hK => ?_)
  obtain ⟨rfl, -⟩ := hK
  show Xj K [] G 0 [some (.ref a0), some (.int a1), some (.int a2), none] [] S T 0 0
  unfold f_X5_trialReward at h
  refine x_aload_n 0 g dX5_trialReward_0 rfl rfl ?_
  obtain ⟨q_1, h⟩ := gd_e h
  obtain ⟨b_2, e_3, h⟩ := gb_e h
  refine x_getr g dX5_trialReward_1 gXX5 0 5 rfl (by decide) rfl lf_X5_12 q_1 e_3 ?_
  refine x_iload_n 1 g dX5_trialReward_4 rfl rfl ?_
  obtain ⟨q_4, h⟩ := gd_e h
  rcases gbx1_e h with ⟨E_15, q_5, h⟩ | ⟨r_6, q_5, h⟩
  · cases h
  refine x_cV [.ref r_6] g (k_X1_umbrellaAt q_5) ca_X1_umbrellaAt in_X1_umbrellaAt se_X1_umbrellaAt lm_X5_81 gXX1 q_4 (Nat.le_of_ble_eq_true rfl) rfl rfl (Nat.le_of_ble_eq_true rfl) dX5_trialReward_5 rfl ?_
  refine x_astore_n 3 g dX5_trialReward_8 rfl (Nat.le_of_ble_eq_true rfl) rfl ?_
  refine x_aload_n 3 g dX5_trialReward_9 rfl rfl ?_
  obtain ⟨q_7, h⟩ := gd_e h
  obtain ⟨b_8, e_9, h⟩ := gb_e h
  refine x_getr g dX5_trialReward_10 gXX4 1 2 rfl (by decide) rfl lf_X5_119 q_7 e_9 ?_
  refine x_aload_n 3 g dX5_trialReward_13 rfl rfl ?_
  refine x_iload_n 2 g dX5_trialReward_14 rfl rfl ?_
  rcases gbx1_e h with ⟨E_14, q_10, h⟩ | ⟨r_11, q_10, h⟩
  · cases h
  refine x_cS [.int r_11, .ref b_8] g (k_X5_trialIndex q_10) ca_X5_trialIndex st_X5_trialIndex lm_X5_103 (Nat.le_of_ble_eq_true rfl) rfl rfl (Nat.le_of_ble_eq_true rfl) dX5_trialReward_15 rfl ?_
  obtain ⟨r_13, q_12, h⟩ := gb_e h
  refine x_cS [.int r_13] g (k_X5_valueAt q_12) ca_X5_valueAt st_X5_valueAt lm_X5_107 (Nat.le_of_ble_eq_true rfl) rfl rfl (Nat.le_of_ble_eq_true rfl) dX5_trialReward_18 rfl ?_
  cases h
  exact x_iretS g e dX5_trialReward_21 rfl rfl
set_option maxRecDepth 100000 in
set_option maxHeartbeats 4000000 in
theorem t_X5_trialReward {ad : Nat → Nat} {G : gG} {a0 : Nat} {a1 : Int32} {a2 : Int32} {S : gS} {T : gT} {E : String} (h : f_X5_trialReward G a0 a1 a2 S = some (.inl E)) : Cx ad yX5_trialReward (Cond.code yX5_trialReward cX5_trialReward 4 (some .int) :: gTb) 7 [.ref a0, .int a1, .int a2] G S T E S T := by
  refine Cx.ofB rfl (Nat.le_of_ble_eq_true rfl) rfl (fun K g e hK => ?_)
  obtain ⟨rfl, -⟩ := hK
  show Xj K [] G 0 [some (.ref a0), some (.int a1), some (.int a2), none] [] S T 1 6
  unfold f_X5_trialReward at h
  refine x_aload_n 0 g dX5_trialReward_0 rfl rfl ?_
  obtain ⟨q_1, h⟩ := gd_e h
  obtain ⟨b_2, e_3, h⟩ := gb_e h
  refine x_getr g dX5_trialReward_1 gXX5 0 5 rfl (by decide) rfl lf_X5_12 q_1 e_3 ?_
  refine x_iload_n 1 g dX5_trialReward_4 rfl rfl ?_
  obtain ⟨q_4, h⟩ := gd_e h
  rcases gbx1_e h with ⟨E_15, q_5, h⟩ | ⟨r_6, q_5, h⟩
  · cases h
    exact x_tV g e (t_X1_umbrellaAt q_5) ca_X1_umbrellaAt in_X1_umbrellaAt se_X1_umbrellaAt lm_X5_81 gXX1 q_4 (Nat.le_of_ble_eq_true rfl) rfl rfl (Nat.le_of_ble_eq_true rfl) dX5_trialReward_5
  refine x_cV [.ref r_6] g (k_X1_umbrellaAt q_5) ca_X1_umbrellaAt in_X1_umbrellaAt se_X1_umbrellaAt lm_X5_81 gXX1 q_4 (Nat.le_of_ble_eq_true rfl) rfl rfl (Nat.le_of_ble_eq_true rfl) dX5_trialReward_5 rfl ?_
  refine x_astore_n 3 g dX5_trialReward_8 rfl (Nat.le_of_ble_eq_true rfl) rfl ?_
  refine x_aload_n 3 g dX5_trialReward_9 rfl rfl ?_
  obtain ⟨q_7, h⟩ := gd_e h
  obtain ⟨b_8, e_9, h⟩ := gb_e h
  refine x_getr g dX5_trialReward_10 gXX4 1 2 rfl (by decide) rfl lf_X5_119 q_7 e_9 ?_
  refine x_aload_n 3 g dX5_trialReward_13 rfl rfl ?_
  refine x_iload_n 2 g dX5_trialReward_14 rfl rfl ?_
  rcases gbx1_e h with ⟨E_14, q_10, h⟩ | ⟨r_11, q_10, h⟩
  · cases h
    exact x_tS g e (t_X5_trialIndex q_10) ca_X5_trialIndex st_X5_trialIndex lm_X5_103 (Nat.le_of_ble_eq_true rfl) rfl rfl (Nat.le_of_ble_eq_true rfl) dX5_trialReward_15
  refine x_cS [.int r_11, .ref b_8] g (k_X5_trialIndex q_10) ca_X5_trialIndex st_X5_trialIndex lm_X5_103 (Nat.le_of_ble_eq_true rfl) rfl rfl (Nat.le_of_ble_eq_true rfl) dX5_trialReward_15 rfl ?_
  obtain ⟨r_13, q_12, h⟩ := gb_e h
  refine x_cS [.int r_13] g (k_X5_valueAt q_12) ca_X5_valueAt st_X5_valueAt lm_X5_107 (Nat.le_of_ble_eq_true rfl) rfl rfl (Nat.le_of_ble_eq_true rfl) dX5_trialReward_18 rfl ?_
  cases h
noncomputable def f_X5_requireSituation (a0 : Int32) (a1 : Int32) : Option (String ⊕ Unit) := gb (f_X5_isLevel a0) fun (r_2 : Bool) => if (gz r_2) = 0 then (some (.inl "java/lang/IllegalArgumentException")) else (gb (f_X5_isLevel a1) fun (r_5 : Bool) => if (gz r_5) = 0 then (some (.inl "java/lang/IllegalArgumentException")) else (some (.inr ())))
set_option maxRecDepth 100000 in
set_option maxHeartbeats 4000000 in
theorem k_X5_requireSituation {ad : Nat → Nat} {G : gG} {a0 : Int32} {a1 : Int32} {S : gS} {T : gT} (h : f_X5_requireSituation a0 a1 = some (.inr ())) : Ct ad yX5_requireSituation (Cond.code yX5_requireSituation cX5_requireSituation 2 none :: gTb) 2 0 0 [.int a0, .int a1] G S T none G S T := by
  refine Ct.ofB rfl (Nat.le_of_ble_eq_true rfl) rfl (fun K g e hK => ?_)
  obtain ⟨rfl, -⟩ := hK
  show Xj K [] G 0 [some (.int a0), some (.int a1)] [] S T 0 0
  unfold f_X5_requireSituation at h
  refine x_iload_n 0 g dX5_requireSituation_0 rfl rfl ?_
  obtain ⟨r_2, q_1, h⟩ := gb_e h
  refine x_cS [.int (gz r_2)] g (k_X5_isLevel q_1) ca_X5_isLevel st_X5_isLevel lm_X5_180 (Nat.le_of_ble_eq_true rfl) rfl rfl (Nat.le_of_ble_eq_true rfl) dX5_requireSituation_1 rfl ?_
  refine x_if_eq 14 g dX5_requireSituation_4 (by decide) (fun c_3 => ?_) (fun c_3 => ?_)
  · have h := ite_t c_3 h
    cases h
  · have h := ite_f c_3 h
    refine x_iload_n 1 g dX5_requireSituation_7 rfl rfl ?_
    obtain ⟨r_5, q_4, h⟩ := gb_e h
    refine x_cS [.int (gz r_5)] g (k_X5_isLevel q_4) ca_X5_isLevel st_X5_isLevel lm_X5_180 (Nat.le_of_ble_eq_true rfl) rfl rfl (Nat.le_of_ble_eq_true rfl) dX5_requireSituation_8 rfl ?_
    refine x_if_ne 25 g dX5_requireSituation_11 (by decide) (fun c_6 => ?_) (fun c_6 => ?_)
    · have h := ite_f c_6 h
      cases h
      exact x_vretS g e dX5_requireSituation_25 rfl
    · have h := ite_t c_6 h
      cases h
set_option maxRecDepth 100000 in
set_option maxHeartbeats 4000000 in
theorem t_X5_requireSituation {ad : Nat → Nat} {G : gG} {a0 : Int32} {a1 : Int32} {S : gS} {T : gT} {E : String} (h : f_X5_requireSituation a0 a1 = some (.inl E)) : Cx ad yX5_requireSituation (Cond.code yX5_requireSituation cX5_requireSituation 2 none :: gTb) 6 [.int a0, .int a1] G S T E S T := by
  refine Cx.ofB rfl (Nat.le_of_ble_eq_true rfl) rfl (fun K g e hK => ?_)
  obtain ⟨rfl, -⟩ := hK
  show Xj K [] G 0 [some (.int a0), some (.int a1)] [] S T 1 6
  unfold f_X5_requireSituation at h
  refine x_iload_n 0 g dX5_requireSituation_0 rfl rfl ?_
  obtain ⟨r_2, q_1, h⟩ := gb_e h
  refine x_cS [.int (gz r_2)] g (k_X5_isLevel q_1) ca_X5_isLevel st_X5_isLevel lm_X5_180 (Nat.le_of_ble_eq_true rfl) rfl rfl (Nat.le_of_ble_eq_true rfl) dX5_requireSituation_1 rfl ?_
  refine x_if_eq 14 g dX5_requireSituation_4 (by decide) (fun c_3 => ?_) (fun c_3 => ?_)
  · have h := ite_t c_3 h
    cases h
    exact x_throwW "rain or wind is not between 0 and 3" g e (by decide +kernel) xnm_ok cl_X5_183 ci_IllegalArgumentException (by decide +kernel) xat_X5_187 dX5_requireSituation_14 dX5_requireSituation_17 dX5_requireSituation_18 dX5_requireSituation_21 dX5_requireSituation_24 (by decide) (by decide) (Nat.le_of_ble_eq_true rfl) rfl rfl
  · have h := ite_f c_3 h
    refine x_iload_n 1 g dX5_requireSituation_7 rfl rfl ?_
    obtain ⟨r_5, q_4, h⟩ := gb_e h
    refine x_cS [.int (gz r_5)] g (k_X5_isLevel q_4) ca_X5_isLevel st_X5_isLevel lm_X5_180 (Nat.le_of_ble_eq_true rfl) rfl rfl (Nat.le_of_ble_eq_true rfl) dX5_requireSituation_8 rfl ?_
    refine x_if_ne 25 g dX5_requireSituation_11 (by decide) (fun c_6 => ?_) (fun c_6 => ?_)
    · have h := ite_f c_6 h
      cases h
    · have h := ite_t c_6 h
      cases h
      exact x_throwW "rain or wind is not between 0 and 3" g e (by decide +kernel) xnm_ok cl_X5_183 ci_IllegalArgumentException (by decide +kernel) xat_X5_187 dX5_requireSituation_14 dX5_requireSituation_17 dX5_requireSituation_18 dX5_requireSituation_21 dX5_requireSituation_24 (by decide) (by decide) (Nat.le_of_ble_eq_true rfl) rfl rfl
noncomputable def f_X5_reward (G : gG) (a0 : Nat) (a1 : Int32) (a2 : Int32) (a3 : Bool) (S : gS) : Option (String ⊕ Int32) := gbx1 (f_X5_requireSituation a1 a2) (fun (E_9 : String) => some (.inl E_9)) fun (r_2 : Unit) => gd (gis G 2 a0) <| gb (gP S 5 a0) fun (b_4 : Nat) => gd (gis G 0 b_4) <| gb (f_X1_rewardFor G b_4 a1 a2 a3 S) fun (r_8 : Int32) => some (.inr r_8)
set_option maxRecDepth 100000 in
set_option maxHeartbeats 4000000 in
theorem k_X5_reward {ad : Nat → Nat} {G : gG} {a0 : Nat} {a1 : Int32} {a2 : Int32} {a3 : Bool} {S : gS} {T : gT} {r : Int32} (h : f_X5_reward G a0 a1 a2 a3 S = some (.inr r)) : Ct ad yX5_reward (Cond.code yX5_reward cX5_reward 4 (some .int) :: gTb) 3 0 0 [.ref a0, .int a1, .int a2, .int (gz a3)] G S T (some (.int r)) G S T := by
  refine Ct.ofB rfl (Nat.le_of_ble_eq_true rfl) rfl (fun K g e hK => ?_)
  obtain ⟨rfl, -⟩ := hK
  show Xj K [] G 0 [some (.ref a0), some (.int a1), some (.int a2), some (.int (gz a3))] [] S T 0 0
  unfold f_X5_reward at h
  refine x_iload_n 1 g dX5_reward_0 rfl rfl ?_
  refine x_iload_n 2 g dX5_reward_1 rfl rfl ?_
  rcases gbx1_e h with ⟨E_9, q_1, h⟩ | ⟨r_2, q_1, h⟩
  · cases h
  refine x_cS [] g (k_X5_requireSituation q_1) ca_X5_requireSituation st_X5_requireSituation lm_X5_122 (Nat.le_of_ble_eq_true rfl) rfl rfl (Nat.le_of_ble_eq_true rfl) dX5_reward_2 rfl ?_
  refine x_aload_n 0 g dX5_reward_5 rfl rfl ?_
  obtain ⟨q_3, h⟩ := gd_e h
  obtain ⟨b_4, e_5, h⟩ := gb_e h
  refine x_getr g dX5_reward_6 gXX5 0 5 rfl (by decide) rfl lf_X5_12 q_3 e_5 ?_
  refine x_iload_n 1 g dX5_reward_9 rfl rfl ?_
  refine x_iload_n 2 g dX5_reward_10 rfl rfl ?_
  refine x_iload_n 3 g dX5_reward_11 rfl rfl ?_
  obtain ⟨q_6, h⟩ := gd_e h
  obtain ⟨r_8, q_7, h⟩ := gb_e h
  refine x_cV [.int r_8] g (k_X1_rewardFor q_7) ca_X1_rewardFor in_X1_rewardFor se_X1_rewardFor lm_X5_126 gXX1 q_6 (Nat.le_of_ble_eq_true rfl) rfl rfl (Nat.le_of_ble_eq_true rfl) dX5_reward_12 rfl ?_
  cases h
  exact x_iretS g e dX5_reward_15 rfl rfl
set_option maxRecDepth 100000 in
set_option maxHeartbeats 4000000 in
theorem t_X5_reward {ad : Nat → Nat} {G : gG} {a0 : Nat} {a1 : Int32} {a2 : Int32} {a3 : Bool} {S : gS} {T : gT} {E : String} (h : f_X5_reward G a0 a1 a2 a3 S = some (.inl E)) : Cx ad yX5_reward (Cond.code yX5_reward cX5_reward 4 (some .int) :: gTb) 7 [.ref a0, .int a1, .int a2, .int (gz a3)] G S T E S T := by
  refine Cx.ofB rfl (Nat.le_of_ble_eq_true rfl) rfl (fun K g e hK => ?_)
  obtain ⟨rfl, -⟩ := hK
  show Xj K [] G 0 [some (.ref a0), some (.int a1), some (.int a2), some (.int (gz a3))] [] S T 1 6
  unfold f_X5_reward at h
  refine x_iload_n 1 g dX5_reward_0 rfl rfl ?_
  refine x_iload_n 2 g dX5_reward_1 rfl rfl ?_
  rcases gbx1_e h with ⟨E_9, q_1, h⟩ | ⟨r_2, q_1, h⟩
  · cases h
    exact x_tS g e (t_X5_requireSituation q_1) ca_X5_requireSituation st_X5_requireSituation lm_X5_122 (Nat.le_of_ble_eq_true rfl) rfl rfl (Nat.le_of_ble_eq_true rfl) dX5_reward_2
  refine x_cS [] g (k_X5_requireSituation q_1) ca_X5_requireSituation st_X5_requireSituation lm_X5_122 (Nat.le_of_ble_eq_true rfl) rfl rfl (Nat.le_of_ble_eq_true rfl) dX5_reward_2 rfl ?_
  refine x_aload_n 0 g dX5_reward_5 rfl rfl ?_
  obtain ⟨q_3, h⟩ := gd_e h
  obtain ⟨b_4, e_5, h⟩ := gb_e h
  refine x_getr g dX5_reward_6 gXX5 0 5 rfl (by decide) rfl lf_X5_12 q_3 e_5 ?_
  refine x_iload_n 1 g dX5_reward_9 rfl rfl ?_
  refine x_iload_n 2 g dX5_reward_10 rfl rfl ?_
  refine x_iload_n 3 g dX5_reward_11 rfl rfl ?_
  obtain ⟨q_6, h⟩ := gd_e h
  obtain ⟨r_8, q_7, h⟩ := gb_e h
  refine x_cV [.int r_8] g (k_X1_rewardFor q_7) ca_X1_rewardFor in_X1_rewardFor se_X1_rewardFor lm_X5_126 gXX1 q_6 (Nat.le_of_ble_eq_true rfl) rfl rfl (Nat.le_of_ble_eq_true rfl) dX5_reward_12 rfl ?_
  cases h
noncomputable def f_X5_shouldOpen (G : gG) (a0 : Nat) (a1 : Int32) (a2 : Int32) (S : gS) : Option (String ⊕ Bool) := gbx1 (f_X5_requireSituation a1 a2) (fun (E_9 : String) => some (.inl E_9)) fun (r_2 : Unit) => gd (gis G 2 a0) <| gb (gP S 5 a0) fun (b_4 : Nat) => gd (gis G 0 b_4) <| gb (f_X1_openingPays G b_4 a1 a2 S) fun (r_8 : Bool) => some (.inr r_8)
set_option maxRecDepth 100000 in
set_option maxHeartbeats 4000000 in
theorem k_X5_shouldOpen {ad : Nat → Nat} {G : gG} {a0 : Nat} {a1 : Int32} {a2 : Int32} {S : gS} {T : gT} {r : Bool} (h : f_X5_shouldOpen G a0 a1 a2 S = some (.inr r)) : Ct ad yX5_shouldOpen (Cond.code yX5_shouldOpen cX5_shouldOpen 3 (some .boolean) :: gTb) 3 0 0 [.ref a0, .int a1, .int a2] G S T (some (.int (gz r))) G S T := by
  refine Ct.ofB rfl (Nat.le_of_ble_eq_true rfl) rfl (fun K g e hK => ?_)
  obtain ⟨rfl, -⟩ := hK
  show Xj K [] G 0 [some (.ref a0), some (.int a1), some (.int a2)] [] S T 0 0
  unfold f_X5_shouldOpen at h
  refine x_iload_n 1 g dX5_shouldOpen_0 rfl rfl ?_
  refine x_iload_n 2 g dX5_shouldOpen_1 rfl rfl ?_
  rcases gbx1_e h with ⟨E_9, q_1, h⟩ | ⟨r_2, q_1, h⟩
  · cases h
  refine x_cS [] g (k_X5_requireSituation q_1) ca_X5_requireSituation st_X5_requireSituation lm_X5_122 (Nat.le_of_ble_eq_true rfl) rfl rfl (Nat.le_of_ble_eq_true rfl) dX5_shouldOpen_2 rfl ?_
  refine x_aload_n 0 g dX5_shouldOpen_5 rfl rfl ?_
  obtain ⟨q_3, h⟩ := gd_e h
  obtain ⟨b_4, e_5, h⟩ := gb_e h
  refine x_getr g dX5_shouldOpen_6 gXX5 0 5 rfl (by decide) rfl lf_X5_12 q_3 e_5 ?_
  refine x_iload_n 1 g dX5_shouldOpen_9 rfl rfl ?_
  refine x_iload_n 2 g dX5_shouldOpen_10 rfl rfl ?_
  obtain ⟨q_6, h⟩ := gd_e h
  obtain ⟨r_8, q_7, h⟩ := gb_e h
  refine x_cV [.int (gz r_8)] g (k_X1_openingPays q_7) ca_X1_openingPays in_X1_openingPays se_X1_openingPays lm_X5_130 gXX1 q_6 (Nat.le_of_ble_eq_true rfl) rfl rfl (Nat.le_of_ble_eq_true rfl) dX5_shouldOpen_11 rfl ?_
  cases h
  exact x_zretS g e dX5_shouldOpen_14 rfl rfl rfl
set_option maxRecDepth 100000 in
set_option maxHeartbeats 4000000 in
theorem t_X5_shouldOpen {ad : Nat → Nat} {G : gG} {a0 : Nat} {a1 : Int32} {a2 : Int32} {S : gS} {T : gT} {E : String} (h : f_X5_shouldOpen G a0 a1 a2 S = some (.inl E)) : Cx ad yX5_shouldOpen (Cond.code yX5_shouldOpen cX5_shouldOpen 3 (some .boolean) :: gTb) 7 [.ref a0, .int a1, .int a2] G S T E S T := by
  refine Cx.ofB rfl (Nat.le_of_ble_eq_true rfl) rfl (fun K g e hK => ?_)
  obtain ⟨rfl, -⟩ := hK
  show Xj K [] G 0 [some (.ref a0), some (.int a1), some (.int a2)] [] S T 1 6
  unfold f_X5_shouldOpen at h
  refine x_iload_n 1 g dX5_shouldOpen_0 rfl rfl ?_
  refine x_iload_n 2 g dX5_shouldOpen_1 rfl rfl ?_
  rcases gbx1_e h with ⟨E_9, q_1, h⟩ | ⟨r_2, q_1, h⟩
  · cases h
    exact x_tS g e (t_X5_requireSituation q_1) ca_X5_requireSituation st_X5_requireSituation lm_X5_122 (Nat.le_of_ble_eq_true rfl) rfl rfl (Nat.le_of_ble_eq_true rfl) dX5_shouldOpen_2
  refine x_cS [] g (k_X5_requireSituation q_1) ca_X5_requireSituation st_X5_requireSituation lm_X5_122 (Nat.le_of_ble_eq_true rfl) rfl rfl (Nat.le_of_ble_eq_true rfl) dX5_shouldOpen_2 rfl ?_
  refine x_aload_n 0 g dX5_shouldOpen_5 rfl rfl ?_
  obtain ⟨q_3, h⟩ := gd_e h
  obtain ⟨b_4, e_5, h⟩ := gb_e h
  refine x_getr g dX5_shouldOpen_6 gXX5 0 5 rfl (by decide) rfl lf_X5_12 q_3 e_5 ?_
  refine x_iload_n 1 g dX5_shouldOpen_9 rfl rfl ?_
  refine x_iload_n 2 g dX5_shouldOpen_10 rfl rfl ?_
  obtain ⟨q_6, h⟩ := gd_e h
  obtain ⟨r_8, q_7, h⟩ := gb_e h
  refine x_cV [.int (gz r_8)] g (k_X1_openingPays q_7) ca_X1_openingPays in_X1_openingPays se_X1_openingPays lm_X5_130 gXX1 q_6 (Nat.le_of_ble_eq_true rfl) rfl rfl (Nat.le_of_ble_eq_true rfl) dX5_shouldOpen_11 rfl ?_
  cases h
noncomputable def f_X5_wouldOpen (G : gG) (a0 : Nat) (a1 : Int32) (a2 : Int32) (a3 : Int32) (S : gS) : Option (String ⊕ Bool) := gd (gis G 2 a0) <| gb (gP S 5 a0) fun (b_2 : Nat) => gd (gis G 0 b_2) <| gbx1 (f_X1_umbrellaAt G b_2 a1 S) (fun (E_15 : String) => some (.inl E_15)) fun (r_6 : Nat) => gbx1 (f_X5_requireSituation a2 a3) (fun (E_14 : String) => some (.inl E_14)) fun (r_8 : Unit) => gb (f_X5_situationOf a2 a3) fun (r_10 : Int32) => gd (gis G 1 r_6) <| gb (f_X4_opensIn G r_6 r_10 S) fun (r_13 : Bool) => some (.inr r_13)
set_option maxRecDepth 100000 in
set_option maxHeartbeats 4000000 in
theorem k_X5_wouldOpen {ad : Nat → Nat} {G : gG} {a0 : Nat} {a1 : Int32} {a2 : Int32} {a3 : Int32} {S : gS} {T : gT} {r : Bool} (h : f_X5_wouldOpen G a0 a1 a2 a3 S = some (.inr r)) : Ct ad yX5_wouldOpen (Cond.code yX5_wouldOpen cX5_wouldOpen 5 (some .boolean) :: gTb) 3 0 0 [.ref a0, .int a1, .int a2, .int a3] G S T (some (.int (gz r))) G S T := by
  refine Ct.ofB rfl (Nat.le_of_ble_eq_true rfl) rfl (fun K g e hK => ?_)
  obtain ⟨rfl, -⟩ := hK
  show Xj K [] G 0 [some (.ref a0), some (.int a1), some (.int a2), some (.int a3), none] [] S T 0 0
  unfold f_X5_wouldOpen at h
  refine x_aload_n 0 g dX5_wouldOpen_0 rfl rfl ?_
  obtain ⟨q_1, h⟩ := gd_e h
  obtain ⟨b_2, e_3, h⟩ := gb_e h
  refine x_getr g dX5_wouldOpen_1 gXX5 0 5 rfl (by decide) rfl lf_X5_12 q_1 e_3 ?_
  refine x_iload_n 1 g dX5_wouldOpen_4 rfl rfl ?_
  obtain ⟨q_4, h⟩ := gd_e h
  rcases gbx1_e h with ⟨E_15, q_5, h⟩ | ⟨r_6, q_5, h⟩
  · cases h
  refine x_cV [.ref r_6] g (k_X1_umbrellaAt q_5) ca_X1_umbrellaAt in_X1_umbrellaAt se_X1_umbrellaAt lm_X5_81 gXX1 q_4 (Nat.le_of_ble_eq_true rfl) rfl rfl (Nat.le_of_ble_eq_true rfl) dX5_wouldOpen_5 rfl ?_
  refine x_astore (i := 4) g dX5_wouldOpen_8 (Nat.le_of_ble_eq_true rfl) rfl ?_
  refine x_iload_n 2 g dX5_wouldOpen_10 rfl rfl ?_
  refine x_iload_n 3 g dX5_wouldOpen_11 rfl rfl ?_
  rcases gbx1_e h with ⟨E_14, q_7, h⟩ | ⟨r_8, q_7, h⟩
  · cases h
  refine x_cS [] g (k_X5_requireSituation q_7) ca_X5_requireSituation st_X5_requireSituation lm_X5_122 (Nat.le_of_ble_eq_true rfl) rfl rfl (Nat.le_of_ble_eq_true rfl) dX5_wouldOpen_12 rfl ?_
  refine x_aload (i := 4) g dX5_wouldOpen_15 rfl ?_
  refine x_iload_n 2 g dX5_wouldOpen_17 rfl rfl ?_
  refine x_iload_n 3 g dX5_wouldOpen_18 rfl rfl ?_
  obtain ⟨r_10, q_9, h⟩ := gb_e h
  refine x_cS [.int r_10, .ref r_6] g (k_X5_situationOf q_9) ca_X5_situationOf st_X5_situationOf lm_X5_134 (Nat.le_of_ble_eq_true rfl) rfl rfl (Nat.le_of_ble_eq_true rfl) dX5_wouldOpen_19 rfl ?_
  obtain ⟨q_11, h⟩ := gd_e h
  obtain ⟨r_13, q_12, h⟩ := gb_e h
  refine x_cV [.int (gz r_13)] g (k_X4_opensIn q_12) ca_X4_opensIn in_X4_opensIn se_X4_opensIn lm_X5_138 gXX4 q_11 (Nat.le_of_ble_eq_true rfl) rfl rfl (Nat.le_of_ble_eq_true rfl) dX5_wouldOpen_22 rfl ?_
  cases h
  exact x_zretS g e dX5_wouldOpen_25 rfl rfl rfl
set_option maxRecDepth 100000 in
set_option maxHeartbeats 4000000 in
theorem t_X5_wouldOpen {ad : Nat → Nat} {G : gG} {a0 : Nat} {a1 : Int32} {a2 : Int32} {a3 : Int32} {S : gS} {T : gT} {E : String} (h : f_X5_wouldOpen G a0 a1 a2 a3 S = some (.inl E)) : Cx ad yX5_wouldOpen (Cond.code yX5_wouldOpen cX5_wouldOpen 5 (some .boolean) :: gTb) 7 [.ref a0, .int a1, .int a2, .int a3] G S T E S T := by
  refine Cx.ofB rfl (Nat.le_of_ble_eq_true rfl) rfl (fun K g e hK => ?_)
  obtain ⟨rfl, -⟩ := hK
  show Xj K [] G 0 [some (.ref a0), some (.int a1), some (.int a2), some (.int a3), none] [] S T 1 6
  unfold f_X5_wouldOpen at h
  refine x_aload_n 0 g dX5_wouldOpen_0 rfl rfl ?_
  obtain ⟨q_1, h⟩ := gd_e h
  obtain ⟨b_2, e_3, h⟩ := gb_e h
  refine x_getr g dX5_wouldOpen_1 gXX5 0 5 rfl (by decide) rfl lf_X5_12 q_1 e_3 ?_
  refine x_iload_n 1 g dX5_wouldOpen_4 rfl rfl ?_
  obtain ⟨q_4, h⟩ := gd_e h
  rcases gbx1_e h with ⟨E_15, q_5, h⟩ | ⟨r_6, q_5, h⟩
  · cases h
    exact x_tV g e (t_X1_umbrellaAt q_5) ca_X1_umbrellaAt in_X1_umbrellaAt se_X1_umbrellaAt lm_X5_81 gXX1 q_4 (Nat.le_of_ble_eq_true rfl) rfl rfl (Nat.le_of_ble_eq_true rfl) dX5_wouldOpen_5
  refine x_cV [.ref r_6] g (k_X1_umbrellaAt q_5) ca_X1_umbrellaAt in_X1_umbrellaAt se_X1_umbrellaAt lm_X5_81 gXX1 q_4 (Nat.le_of_ble_eq_true rfl) rfl rfl (Nat.le_of_ble_eq_true rfl) dX5_wouldOpen_5 rfl ?_
  refine x_astore (i := 4) g dX5_wouldOpen_8 (Nat.le_of_ble_eq_true rfl) rfl ?_
  refine x_iload_n 2 g dX5_wouldOpen_10 rfl rfl ?_
  refine x_iload_n 3 g dX5_wouldOpen_11 rfl rfl ?_
  rcases gbx1_e h with ⟨E_14, q_7, h⟩ | ⟨r_8, q_7, h⟩
  · cases h
    exact x_tS g e (t_X5_requireSituation q_7) ca_X5_requireSituation st_X5_requireSituation lm_X5_122 (Nat.le_of_ble_eq_true rfl) rfl rfl (Nat.le_of_ble_eq_true rfl) dX5_wouldOpen_12
  refine x_cS [] g (k_X5_requireSituation q_7) ca_X5_requireSituation st_X5_requireSituation lm_X5_122 (Nat.le_of_ble_eq_true rfl) rfl rfl (Nat.le_of_ble_eq_true rfl) dX5_wouldOpen_12 rfl ?_
  refine x_aload (i := 4) g dX5_wouldOpen_15 rfl ?_
  refine x_iload_n 2 g dX5_wouldOpen_17 rfl rfl ?_
  refine x_iload_n 3 g dX5_wouldOpen_18 rfl rfl ?_
  obtain ⟨r_10, q_9, h⟩ := gb_e h
  refine x_cS [.int r_10, .ref r_6] g (k_X5_situationOf q_9) ca_X5_situationOf st_X5_situationOf lm_X5_134 (Nat.le_of_ble_eq_true rfl) rfl rfl (Nat.le_of_ble_eq_true rfl) dX5_wouldOpen_19 rfl ?_
  obtain ⟨q_11, h⟩ := gd_e h
  obtain ⟨r_13, q_12, h⟩ := gb_e h
  refine x_cV [.int (gz r_13)] g (k_X4_opensIn q_12) ca_X4_opensIn in_X4_opensIn se_X4_opensIn lm_X5_138 gXX4 q_11 (Nat.le_of_ble_eq_true rfl) rfl rfl (Nat.le_of_ble_eq_true rfl) dX5_wouldOpen_22 rfl ?_
  cases h
noncomputable def f_X5_exploresNext (G : gG) (a0 : Nat) (a1 : Int32) (S : gS) : Option (String ⊕ Bool) := gd (gis G 2 a0) <| gb (gP S 5 a0) fun (b_2 : Nat) => gd (gis G 0 b_2) <| gbx1 (f_X1_umbrellaAt G b_2 a1 S) (fun (E_10 : String) => some (.inl E_10)) fun (r_6 : Nat) => gd (gis G 1 r_6) <| gb (f_X4_willExplore G r_6 S) fun (r_9 : Bool) => some (.inr r_9)
set_option maxRecDepth 100000 in
set_option maxHeartbeats 4000000 in
theorem k_X5_exploresNext {ad : Nat → Nat} {G : gG} {a0 : Nat} {a1 : Int32} {S : gS} {T : gT} {r : Bool} (h : f_X5_exploresNext G a0 a1 S = some (.inr r)) : Ct ad yX5_exploresNext (Cond.code yX5_exploresNext cX5_exploresNext 2 (some .boolean) :: gTb) 1 0 0 [.ref a0, .int a1] G S T (some (.int (gz r))) G S T := by
  refine Ct.ofB rfl (Nat.le_of_ble_eq_true rfl) rfl (fun K g e hK => ?_)
  obtain ⟨rfl, -⟩ := hK
  show Xj K [] G 0 [some (.ref a0), some (.int a1)] [] S T 0 0
  unfold f_X5_exploresNext at h
  refine x_aload_n 0 g dX5_exploresNext_0 rfl rfl ?_
  obtain ⟨q_1, h⟩ := gd_e h
  obtain ⟨b_2, e_3, h⟩ := gb_e h
  refine x_getr g dX5_exploresNext_1 gXX5 0 5 rfl (by decide) rfl lf_X5_12 q_1 e_3 ?_
  refine x_iload_n 1 g dX5_exploresNext_4 rfl rfl ?_
  obtain ⟨q_4, h⟩ := gd_e h
  rcases gbx1_e h with ⟨E_10, q_5, h⟩ | ⟨r_6, q_5, h⟩
  · cases h
  refine x_cV [.ref r_6] g (k_X1_umbrellaAt q_5) ca_X1_umbrellaAt in_X1_umbrellaAt se_X1_umbrellaAt lm_X5_81 gXX1 q_4 (Nat.le_of_ble_eq_true rfl) rfl rfl (Nat.le_of_ble_eq_true rfl) dX5_exploresNext_5 rfl ?_
  obtain ⟨q_7, h⟩ := gd_e h
  obtain ⟨r_9, q_8, h⟩ := gb_e h
  refine x_cV [.int (gz r_9)] g (k_X4_willExplore q_8) ca_X4_willExplore in_X4_willExplore se_X4_willExplore lm_X5_141 gXX4 q_7 (Nat.le_of_ble_eq_true rfl) rfl rfl (Nat.le_of_ble_eq_true rfl) dX5_exploresNext_8 rfl ?_
  cases h
  exact x_zretS g e dX5_exploresNext_11 rfl rfl rfl
set_option maxRecDepth 100000 in
set_option maxHeartbeats 4000000 in
theorem t_X5_exploresNext {ad : Nat → Nat} {G : gG} {a0 : Nat} {a1 : Int32} {S : gS} {T : gT} {E : String} (h : f_X5_exploresNext G a0 a1 S = some (.inl E)) : Cx ad yX5_exploresNext (Cond.code yX5_exploresNext cX5_exploresNext 2 (some .boolean) :: gTb) 7 [.ref a0, .int a1] G S T E S T := by
  refine Cx.ofB rfl (Nat.le_of_ble_eq_true rfl) rfl (fun K g e hK => ?_)
  obtain ⟨rfl, -⟩ := hK
  show Xj K [] G 0 [some (.ref a0), some (.int a1)] [] S T 1 6
  unfold f_X5_exploresNext at h
  refine x_aload_n 0 g dX5_exploresNext_0 rfl rfl ?_
  obtain ⟨q_1, h⟩ := gd_e h
  obtain ⟨b_2, e_3, h⟩ := gb_e h
  refine x_getr g dX5_exploresNext_1 gXX5 0 5 rfl (by decide) rfl lf_X5_12 q_1 e_3 ?_
  refine x_iload_n 1 g dX5_exploresNext_4 rfl rfl ?_
  obtain ⟨q_4, h⟩ := gd_e h
  rcases gbx1_e h with ⟨E_10, q_5, h⟩ | ⟨r_6, q_5, h⟩
  · cases h
    exact x_tV g e (t_X1_umbrellaAt q_5) ca_X1_umbrellaAt in_X1_umbrellaAt se_X1_umbrellaAt lm_X5_81 gXX1 q_4 (Nat.le_of_ble_eq_true rfl) rfl rfl (Nat.le_of_ble_eq_true rfl) dX5_exploresNext_5
  refine x_cV [.ref r_6] g (k_X1_umbrellaAt q_5) ca_X1_umbrellaAt in_X1_umbrellaAt se_X1_umbrellaAt lm_X5_81 gXX1 q_4 (Nat.le_of_ble_eq_true rfl) rfl rfl (Nat.le_of_ble_eq_true rfl) dX5_exploresNext_5 rfl ?_
  obtain ⟨q_7, h⟩ := gd_e h
  obtain ⟨r_9, q_8, h⟩ := gb_e h
  refine x_cV [.int (gz r_9)] g (k_X4_willExplore q_8) ca_X4_willExplore in_X4_willExplore se_X4_willExplore lm_X5_141 gXX4 q_7 (Nat.le_of_ble_eq_true rfl) rfl rfl (Nat.le_of_ble_eq_true rfl) dX5_exploresNext_8 rfl ?_
  cases h
noncomputable def f_X5_caseOf (a0 : Int32) (a1 : Int32) (a2 : Bool) : Option Int32 := gb (f_X5_situationOf a0 a1) fun (r_2 : Int32) => gb (f_X5_caseInSituation r_2 a2) fun (r_4 : Int32) => some r_4
set_option maxRecDepth 100000 in
set_option maxHeartbeats 4000000 in
theorem k_X5_caseOf {ad : Nat → Nat} {G : gG} {a0 : Int32} {a1 : Int32} {a2 : Bool} {S : gS} {T : gT} {r : Int32} (h : f_X5_caseOf a0 a1 a2 = some r) : Ct ad yX5_caseOf (Cond.code yX5_caseOf cX5_caseOf 3 (some .int) :: gTb) 1 0 0 [.int a0, .int a1, .int (gz a2)] G S T (some (.int r)) G S T := by
  refine Ct.ofB rfl (Nat.le_of_ble_eq_true rfl) rfl (fun K g e hK => ?_)
  obtain ⟨rfl, -⟩ := hK
  show Xj K [] G 0 [some (.int a0), some (.int a1), some (.int (gz a2))] [] S T 0 0
  unfold f_X5_caseOf at h
  refine x_iload_n 0 g dX5_caseOf_0 rfl rfl ?_
  refine x_iload_n 1 g dX5_caseOf_1 rfl rfl ?_
  obtain ⟨r_2, q_1, h⟩ := gb_e h
  refine x_cS [.int r_2] g (k_X5_situationOf q_1) ca_X5_situationOf st_X5_situationOf lm_X5_134 (Nat.le_of_ble_eq_true rfl) rfl rfl (Nat.le_of_ble_eq_true rfl) dX5_caseOf_2 rfl ?_
  refine x_iload_n 2 g dX5_caseOf_5 rfl rfl ?_
  obtain ⟨r_4, q_3, h⟩ := gb_e h
  refine x_cS [.int r_4] g (k_X5_caseInSituation q_3) ca_X5_caseInSituation st_X5_caseInSituation lm_X5_428 (Nat.le_of_ble_eq_true rfl) rfl rfl (Nat.le_of_ble_eq_true rfl) dX5_caseOf_6 rfl ?_
  cases h
  exact x_iretS g e dX5_caseOf_9 rfl rfl
noncomputable def f_X5_timesTried (G : gG) (a0 : Nat) (a1 : Int32) (a2 : Int32) (a3 : Int32) (a4 : Bool) (S : gS) : Option (String ⊕ Int32) := gd (gis G 2 a0) <| gb (gP S 5 a0) fun (b_2 : Nat) => gd (gis G 0 b_2) <| gbx1 (f_X1_umbrellaAt G b_2 a1 S) (fun (E_17 : String) => some (.inl E_17)) fun (r_6 : Nat) => gbx1 (f_X5_requireSituation a2 a3) (fun (E_16 : String) => some (.inl E_16)) fun (r_8 : Unit) => gd (gis G 1 r_6) <| gb (gP S 3 r_6) fun (b_10 : Nat) => gb (f_X5_caseOf a2 a3 a4) fun (r_13 : Int32) => gb (f_X5_valueAt G b_10 r_13 S) fun (r_15 : Int32) => some (.inr r_15)
set_option maxRecDepth 100000 in
set_option maxHeartbeats 4000000 in
theorem k_X5_timesTried {ad : Nat → Nat} {G : gG} {a0 : Nat} {a1 : Int32} {a2 : Int32} {a3 : Int32} {a4 : Bool} {S : gS} {T : gT} {r : Int32} (h : f_X5_timesTried G a0 a1 a2 a3 a4 S = some (.inr r)) : Ct ad yX5_timesTried (Cond.code yX5_timesTried cX5_timesTried 6 (some .int) :: gTb) 3 0 0 [.ref a0, .int a1, .int a2, .int a3, .int (gz a4)] G S T (some (.int r)) G S T := by
  refine Ct.ofB rfl (Nat.le_of_ble_eq_true rfl) rfl (fun K g e hK => ?_)
  obtain ⟨rfl, -⟩ := hK
  show Xj K [] G 0 [some (.ref a0), some (.int a1), some (.int a2), some (.int a3), some (.int (gz a4)), none] [] S T 0 0
  unfold f_X5_timesTried at h
  refine x_aload_n 0 g dX5_timesTried_0 rfl rfl ?_
  obtain ⟨q_1, h⟩ := gd_e h
  obtain ⟨b_2, e_3, h⟩ := gb_e h
  refine x_getr g dX5_timesTried_1 gXX5 0 5 rfl (by decide) rfl lf_X5_12 q_1 e_3 ?_
  refine x_iload_n 1 g dX5_timesTried_4 rfl rfl ?_
  obtain ⟨q_4, h⟩ := gd_e h
  rcases gbx1_e h with ⟨E_17, q_5, h⟩ | ⟨r_6, q_5, h⟩
  · cases h
  refine x_cV [.ref r_6] g (k_X1_umbrellaAt q_5) ca_X1_umbrellaAt in_X1_umbrellaAt se_X1_umbrellaAt lm_X5_81 gXX1 q_4 (Nat.le_of_ble_eq_true rfl) rfl rfl (Nat.le_of_ble_eq_true rfl) dX5_timesTried_5 rfl ?_
  refine x_astore (i := 5) g dX5_timesTried_8 (Nat.le_of_ble_eq_true rfl) rfl ?_
  refine x_iload_n 2 g dX5_timesTried_10 rfl rfl ?_
  refine x_iload_n 3 g dX5_timesTried_11 rfl rfl ?_
  rcases gbx1_e h with ⟨E_16, q_7, h⟩ | ⟨r_8, q_7, h⟩
  · cases h
  refine x_cS [] g (k_X5_requireSituation q_7) ca_X5_requireSituation st_X5_requireSituation lm_X5_122 (Nat.le_of_ble_eq_true rfl) rfl rfl (Nat.le_of_ble_eq_true rfl) dX5_timesTried_12 rfl ?_
  refine x_aload (i := 5) g dX5_timesTried_15 rfl ?_
  obtain ⟨q_9, h⟩ := gd_e h
  obtain ⟨b_10, e_11, h⟩ := gb_e h
  refine x_getr g dX5_timesTried_17 gXX4 2 3 rfl (by decide) rfl lf_X5_145 q_9 e_11 ?_
  refine x_iload_n 2 g dX5_timesTried_20 rfl rfl ?_
  refine x_iload_n 3 g dX5_timesTried_21 rfl rfl ?_
  refine x_iload (i := 4) g dX5_timesTried_22 rfl ?_
  obtain ⟨r_13, q_12, h⟩ := gb_e h
  refine x_cS [.int r_13, .ref b_10] g (k_X5_caseOf q_12) ca_X5_caseOf st_X5_caseOf lm_X5_148 (Nat.le_of_ble_eq_true rfl) rfl rfl (Nat.le_of_ble_eq_true rfl) dX5_timesTried_24 rfl ?_
  obtain ⟨r_15, q_14, h⟩ := gb_e h
  refine x_cS [.int r_15] g (k_X5_valueAt q_14) ca_X5_valueAt st_X5_valueAt lm_X5_107 (Nat.le_of_ble_eq_true rfl) rfl rfl (Nat.le_of_ble_eq_true rfl) dX5_timesTried_27 rfl ?_
  cases h
  exact x_iretS g e dX5_timesTried_30 rfl rfl
set_option maxRecDepth 100000 in
set_option maxHeartbeats 4000000 in
theorem t_X5_timesTried {ad : Nat → Nat} {G : gG} {a0 : Nat} {a1 : Int32} {a2 : Int32} {a3 : Int32} {a4 : Bool} {S : gS} {T : gT} {E : String} (h : f_X5_timesTried G a0 a1 a2 a3 a4 S = some (.inl E)) : Cx ad yX5_timesTried (Cond.code yX5_timesTried cX5_timesTried 6 (some .int) :: gTb) 7 [.ref a0, .int a1, .int a2, .int a3, .int (gz a4)] G S T E S T := by
  refine Cx.ofB rfl (Nat.le_of_ble_eq_true rfl) rfl (fun K g e hK => ?_)
  obtain ⟨rfl, -⟩ := hK
  show Xj K [] G 0 [some (.ref a0), some (.int a1), some (.int a2), some (.int a3), some (.int (gz a4)), none] [] S T 1 6
  unfold f_X5_timesTried at h
  refine x_aload_n 0 g dX5_timesTried_0 rfl rfl ?_
  obtain ⟨q_1, h⟩ := gd_e h
  obtain ⟨b_2, e_3, h⟩ := gb_e h
  refine x_getr g dX5_timesTried_1 gXX5 0 5 rfl (by decide) rfl lf_X5_12 q_1 e_3 ?_
  refine x_iload_n 1 g dX5_timesTried_4 rfl rfl ?_
  obtain ⟨q_4, h⟩ := gd_e h
  rcases gbx1_e h with ⟨E_17, q_5, h⟩ | ⟨r_6, q_5, h⟩
  · cases h
    exact x_tV g e (t_X1_umbrellaAt q_5) ca_X1_umbrellaAt in_X1_umbrellaAt se_X1_umbrellaAt lm_X5_81 gXX1 q_4 (Nat.le_of_ble_eq_true rfl) rfl rfl (Nat.le_of_ble_eq_true rfl) dX5_timesTried_5
  refine x_cV [.ref r_6] g (k_X1_umbrellaAt q_5) ca_X1_umbrellaAt in_X1_umbrellaAt se_X1_umbrellaAt lm_X5_81 gXX1 q_4 (Nat.le_of_ble_eq_true rfl) rfl rfl (Nat.le_of_ble_eq_true rfl) dX5_timesTried_5 rfl ?_
  refine x_astore (i := 5) g dX5_timesTried_8 (Nat.le_of_ble_eq_true rfl) rfl ?_
  refine x_iload_n 2 g dX5_timesTried_10 rfl rfl ?_
  refine x_iload_n 3 g dX5_timesTried_11 rfl rfl ?_
  rcases gbx1_e h with ⟨E_16, q_7, h⟩ | ⟨r_8, q_7, h⟩
  · cases h
    exact x_tS g e (t_X5_requireSituation q_7) ca_X5_requireSituation st_X5_requireSituation lm_X5_122 (Nat.le_of_ble_eq_true rfl) rfl rfl (Nat.le_of_ble_eq_true rfl) dX5_timesTried_12
  refine x_cS [] g (k_X5_requireSituation q_7) ca_X5_requireSituation st_X5_requireSituation lm_X5_122 (Nat.le_of_ble_eq_true rfl) rfl rfl (Nat.le_of_ble_eq_true rfl) dX5_timesTried_12 rfl ?_
  refine x_aload (i := 5) g dX5_timesTried_15 rfl ?_
  obtain ⟨q_9, h⟩ := gd_e h
  obtain ⟨b_10, e_11, h⟩ := gb_e h
  refine x_getr g dX5_timesTried_17 gXX4 2 3 rfl (by decide) rfl lf_X5_145 q_9 e_11 ?_
  refine x_iload_n 2 g dX5_timesTried_20 rfl rfl ?_
  refine x_iload_n 3 g dX5_timesTried_21 rfl rfl ?_
  refine x_iload (i := 4) g dX5_timesTried_22 rfl ?_
  obtain ⟨r_13, q_12, h⟩ := gb_e h
  refine x_cS [.int r_13, .ref b_10] g (k_X5_caseOf q_12) ca_X5_caseOf st_X5_caseOf lm_X5_148 (Nat.le_of_ble_eq_true rfl) rfl rfl (Nat.le_of_ble_eq_true rfl) dX5_timesTried_24 rfl ?_
  obtain ⟨r_15, q_14, h⟩ := gb_e h
  refine x_cS [.int r_15] g (k_X5_valueAt q_14) ca_X5_valueAt st_X5_valueAt lm_X5_107 (Nat.le_of_ble_eq_true rfl) rfl rfl (Nat.le_of_ble_eq_true rfl) dX5_timesTried_27 rfl ?_
  cases h
noncomputable def f_X5_rewardSum (G : gG) (a0 : Nat) (a1 : Int32) (a2 : Int32) (a3 : Int32) (a4 : Bool) (S : gS) : Option (String ⊕ Int32) := gd (gis G 2 a0) <| gb (gP S 5 a0) fun (b_2 : Nat) => gd (gis G 0 b_2) <| gbx1 (f_X1_umbrellaAt G b_2 a1 S) (fun (E_17 : String) => some (.inl E_17)) fun (r_6 : Nat) => gbx1 (f_X5_requireSituation a2 a3) (fun (E_16 : String) => some (.inl E_16)) fun (r_8 : Unit) => gd (gis G 1 r_6) <| gb (gP S 4 r_6) fun (b_10 : Nat) => gb (f_X5_caseOf a2 a3 a4) fun (r_13 : Int32) => gb (f_X5_valueAt G b_10 r_13 S) fun (r_15 : Int32) => some (.inr r_15)
set_option maxRecDepth 100000 in
set_option maxHeartbeats 4000000 in
theorem k_X5_rewardSum {ad : Nat → Nat} {G : gG} {a0 : Nat} {a1 : Int32} {a2 : Int32} {a3 : Int32} {a4 : Bool} {S : gS} {T : gT} {r : Int32} (h : f_X5_rewardSum G a0 a1 a2 a3 a4 S = some (.inr r)) : Ct ad yX5_rewardSum (Cond.code yX5_rewardSum cX5_rewardSum 6 (some .int) :: gTb) 3 0 0 [.ref a0, .int a1, .int a2, .int a3, .int (gz a4)] G S T (some (.int r)) G S T := by
  refine Ct.ofB rfl (Nat.le_of_ble_eq_true rfl) rfl (fun K g e hK => ?_)
  obtain ⟨rfl, -⟩ := hK
  show Xj K [] G 0 [some (.ref a0), some (.int a1), some (.int a2), some (.int a3), some (.int (gz a4)), none] [] S T 0 0
  unfold f_X5_rewardSum at h
  refine x_aload_n 0 g dX5_rewardSum_0 rfl rfl ?_
  obtain ⟨q_1, h⟩ := gd_e h
  obtain ⟨b_2, e_3, h⟩ := gb_e h
  refine x_getr g dX5_rewardSum_1 gXX5 0 5 rfl (by decide) rfl lf_X5_12 q_1 e_3 ?_
  refine x_iload_n 1 g dX5_rewardSum_4 rfl rfl ?_
  obtain ⟨q_4, h⟩ := gd_e h
  rcases gbx1_e h with ⟨E_17, q_5, h⟩ | ⟨r_6, q_5, h⟩
  · cases h
  refine x_cV [.ref r_6] g (k_X1_umbrellaAt q_5) ca_X1_umbrellaAt in_X1_umbrellaAt se_X1_umbrellaAt lm_X5_81 gXX1 q_4 (Nat.le_of_ble_eq_true rfl) rfl rfl (Nat.le_of_ble_eq_true rfl) dX5_rewardSum_5 rfl ?_
  refine x_astore (i := 5) g dX5_rewardSum_8 (Nat.le_of_ble_eq_true rfl) rfl ?_
  refine x_iload_n 2 g dX5_rewardSum_10 rfl rfl ?_
  refine x_iload_n 3 g dX5_rewardSum_11 rfl rfl ?_
  rcases gbx1_e h with ⟨E_16, q_7, h⟩ | ⟨r_8, q_7, h⟩
  · cases h
  refine x_cS [] g (k_X5_requireSituation q_7) ca_X5_requireSituation st_X5_requireSituation lm_X5_122 (Nat.le_of_ble_eq_true rfl) rfl rfl (Nat.le_of_ble_eq_true rfl) dX5_rewardSum_12 rfl ?_
  refine x_aload (i := 5) g dX5_rewardSum_15 rfl ?_
  obtain ⟨q_9, h⟩ := gd_e h
  obtain ⟨b_10, e_11, h⟩ := gb_e h
  refine x_getr g dX5_rewardSum_17 gXX4 3 4 rfl (by decide) rfl lf_X5_151 q_9 e_11 ?_
  refine x_iload_n 2 g dX5_rewardSum_20 rfl rfl ?_
  refine x_iload_n 3 g dX5_rewardSum_21 rfl rfl ?_
  refine x_iload (i := 4) g dX5_rewardSum_22 rfl ?_
  obtain ⟨r_13, q_12, h⟩ := gb_e h
  refine x_cS [.int r_13, .ref b_10] g (k_X5_caseOf q_12) ca_X5_caseOf st_X5_caseOf lm_X5_148 (Nat.le_of_ble_eq_true rfl) rfl rfl (Nat.le_of_ble_eq_true rfl) dX5_rewardSum_24 rfl ?_
  obtain ⟨r_15, q_14, h⟩ := gb_e h
  refine x_cS [.int r_15] g (k_X5_valueAt q_14) ca_X5_valueAt st_X5_valueAt lm_X5_107 (Nat.le_of_ble_eq_true rfl) rfl rfl (Nat.le_of_ble_eq_true rfl) dX5_rewardSum_27 rfl ?_
  cases h
  exact x_iretS g e dX5_rewardSum_30 rfl rfl
set_option maxRecDepth 100000 in
set_option maxHeartbeats 4000000 in
theorem t_X5_rewardSum {ad : Nat → Nat} {G : gG} {a0 : Nat} {a1 : Int32} {a2 : Int32} {a3 : Int32} {a4 : Bool} {S : gS} {T : gT} {E : String} (h : f_X5_rewardSum G a0 a1 a2 a3 a4 S = some (.inl E)) : Cx ad yX5_rewardSum (Cond.code yX5_rewardSum cX5_rewardSum 6 (some .int) :: gTb) 7 [.ref a0, .int a1, .int a2, .int a3, .int (gz a4)] G S T E S T := by
  refine Cx.ofB rfl (Nat.le_of_ble_eq_true rfl) rfl (fun K g e hK => ?_)
  obtain ⟨rfl, -⟩ := hK
  show Xj K [] G 0 [some (.ref a0), some (.int a1), some (.int a2), some (.int a3), some (.int (gz a4)), none] [] S T 1 6
  unfold f_X5_rewardSum at h
  refine x_aload_n 0 g dX5_rewardSum_0 rfl rfl ?_
  obtain ⟨q_1, h⟩ := gd_e h
  obtain ⟨b_2, e_3, h⟩ := gb_e h
  refine x_getr g dX5_rewardSum_1 gXX5 0 5 rfl (by decide) rfl lf_X5_12 q_1 e_3 ?_
  refine x_iload_n 1 g dX5_rewardSum_4 rfl rfl ?_
  obtain ⟨q_4, h⟩ := gd_e h
  rcases gbx1_e h with ⟨E_17, q_5, h⟩ | ⟨r_6, q_5, h⟩
  · cases h
    exact x_tV g e (t_X1_umbrellaAt q_5) ca_X1_umbrellaAt in_X1_umbrellaAt se_X1_umbrellaAt lm_X5_81 gXX1 q_4 (Nat.le_of_ble_eq_true rfl) rfl rfl (Nat.le_of_ble_eq_true rfl) dX5_rewardSum_5
  refine x_cV [.ref r_6] g (k_X1_umbrellaAt q_5) ca_X1_umbrellaAt in_X1_umbrellaAt se_X1_umbrellaAt lm_X5_81 gXX1 q_4 (Nat.le_of_ble_eq_true rfl) rfl rfl (Nat.le_of_ble_eq_true rfl) dX5_rewardSum_5 rfl ?_
  refine x_astore (i := 5) g dX5_rewardSum_8 (Nat.le_of_ble_eq_true rfl) rfl ?_
  refine x_iload_n 2 g dX5_rewardSum_10 rfl rfl ?_
  refine x_iload_n 3 g dX5_rewardSum_11 rfl rfl ?_
  rcases gbx1_e h with ⟨E_16, q_7, h⟩ | ⟨r_8, q_7, h⟩
  · cases h
    exact x_tS g e (t_X5_requireSituation q_7) ca_X5_requireSituation st_X5_requireSituation lm_X5_122 (Nat.le_of_ble_eq_true rfl) rfl rfl (Nat.le_of_ble_eq_true rfl) dX5_rewardSum_12
  refine x_cS [] g (k_X5_requireSituation q_7) ca_X5_requireSituation st_X5_requireSituation lm_X5_122 (Nat.le_of_ble_eq_true rfl) rfl rfl (Nat.le_of_ble_eq_true rfl) dX5_rewardSum_12 rfl ?_
  refine x_aload (i := 5) g dX5_rewardSum_15 rfl ?_
  obtain ⟨q_9, h⟩ := gd_e h
  obtain ⟨b_10, e_11, h⟩ := gb_e h
  refine x_getr g dX5_rewardSum_17 gXX4 3 4 rfl (by decide) rfl lf_X5_151 q_9 e_11 ?_
  refine x_iload_n 2 g dX5_rewardSum_20 rfl rfl ?_
  refine x_iload_n 3 g dX5_rewardSum_21 rfl rfl ?_
  refine x_iload (i := 4) g dX5_rewardSum_22 rfl ?_
  obtain ⟨r_13, q_12, h⟩ := gb_e h
  refine x_cS [.int r_13, .ref b_10] g (k_X5_caseOf q_12) ca_X5_caseOf st_X5_caseOf lm_X5_148 (Nat.le_of_ble_eq_true rfl) rfl rfl (Nat.le_of_ble_eq_true rfl) dX5_rewardSum_24 rfl ?_
  obtain ⟨r_15, q_14, h⟩ := gb_e h
  refine x_cS [.int r_15] g (k_X5_valueAt q_14) ca_X5_valueAt st_X5_valueAt lm_X5_107 (Nat.le_of_ble_eq_true rfl) rfl rfl (Nat.le_of_ble_eq_true rfl) dX5_rewardSum_27 rfl ?_
  cases h
noncomputable def f_X5_rewardSumByTrials (G : gG) (a0 : Nat) (a1 : Int32) (a2 : Int32) (a3 : Int32) (a4 : Bool) (S : gS) : Option (String ⊕ Int32) := gd (gis G 2 a0) <| gb (gP S 5 a0) fun (b_2 : Nat) => gd (gis G 0 b_2) <| gbx1 (f_X1_umbrellaAt G b_2 a1 S) (fun (E_15 : String) => some (.inl E_15)) fun (r_6 : Nat) => gbx1 (f_X5_requireSituation a2 a3) (fun (E_14 : String) => some (.inl E_14)) fun (r_8 : Unit) => gb (f_X5_caseOf a2 a3 a4) fun (r_10 : Int32) => gd (gis G 1 r_6) <| gb (f_X4_addUpTrials G r_6 r_10 S) fun (r_13 : Int32) => some (.inr r_13)
set_option maxRecDepth 100000 in
set_option maxHeartbeats 4000000 in
theorem k_X5_rewardSumByTrials {ad : Nat → Nat} {G : gG} {a0 : Nat} {a1 : Int32} {a2 : Int32} {a3 : Int32} {a4 : Bool} {S : gS} {T : gT} {r : Int32} (h : f_X5_rewardSumByTrials G a0 a1 a2 a3 a4 S = some (.inr r)) : Ct ad yX5_rewardSumByTrials (Cond.code yX5_rewardSumByTrials cX5_rewardSumByTrials 6 (some .int) :: gTb) 3 0 0 [.ref a0, .int a1, .int a2, .int a3, .int (gz a4)] G S T (some (.int r)) G S T := by
  refine Ct.ofB rfl (Nat.le_of_ble_eq_true rfl) rfl (fun K g e hK => ?_)
  obtain ⟨rfl, -⟩ := hK
  show Xj K [] G 0 [some (.ref a0), some (.int a1), some (.int a2), some (.int a3), some (.int (gz a4)), none] [] S T 0 0
  unfold f_X5_rewardSumByTrials at h
  refine x_aload_n 0 g dX5_rewardSumByTrials_0 rfl rfl ?_
  obtain ⟨q_1, h⟩ := gd_e h
  obtain ⟨b_2, e_3, h⟩ := gb_e h
  refine x_getr g dX5_rewardSumByTrials_1 gXX5 0 5 rfl (by decide) rfl lf_X5_12 q_1 e_3 ?_
  refine x_iload_n 1 g dX5_rewardSumByTrials_4 rfl rfl ?_
  obtain ⟨q_4, h⟩ := gd_e h
  rcases gbx1_e h with ⟨E_15, q_5, h⟩ | ⟨r_6, q_5, h⟩
  · cases h
  refine x_cV [.ref r_6] g (k_X1_umbrellaAt q_5) ca_X1_umbrellaAt in_X1_umbrellaAt se_X1_umbrellaAt lm_X5_81 gXX1 q_4 (Nat.le_of_ble_eq_true rfl) rfl rfl (Nat.le_of_ble_eq_true rfl) dX5_rewardSumByTrials_5 rfl ?_
  refine x_astore (i := 5) g dX5_rewardSumByTrials_8 (Nat.le_of_ble_eq_true rfl) rfl ?_
  refine x_iload_n 2 g dX5_rewardSumByTrials_10 rfl rfl ?_
  refine x_iload_n 3 g dX5_rewardSumByTrials_11 rfl rfl ?_
  rcases gbx1_e h with ⟨E_14, q_7, h⟩ | ⟨r_8, q_7, h⟩
  · cases h
  refine x_cS [] g (k_X5_requireSituation q_7) ca_X5_requireSituation st_X5_requireSituation lm_X5_122 (Nat.le_of_ble_eq_true rfl) rfl rfl (Nat.le_of_ble_eq_true rfl) dX5_rewardSumByTrials_12 rfl ?_
  refine x_aload (i := 5) g dX5_rewardSumByTrials_15 rfl ?_
  refine x_iload_n 2 g dX5_rewardSumByTrials_17 rfl rfl ?_
  refine x_iload_n 3 g dX5_rewardSumByTrials_18 rfl rfl ?_
  refine x_iload (i := 4) g dX5_rewardSumByTrials_19 rfl ?_
  obtain ⟨r_10, q_9, h⟩ := gb_e h
  refine x_cS [.int r_10, .ref r_6] g (k_X5_caseOf q_9) ca_X5_caseOf st_X5_caseOf lm_X5_148 (Nat.le_of_ble_eq_true rfl) rfl rfl (Nat.le_of_ble_eq_true rfl) dX5_rewardSumByTrials_21 rfl ?_
  obtain ⟨q_11, h⟩ := gd_e h
  obtain ⟨r_13, q_12, h⟩ := gb_e h
  refine x_cV [.int r_13] g (k_X4_addUpTrials q_12) ca_X4_addUpTrials in_X4_addUpTrials se_X4_addUpTrials lm_X5_154 gXX4 q_11 (Nat.le_of_ble_eq_true rfl) rfl rfl (Nat.le_of_ble_eq_true rfl) dX5_rewardSumByTrials_24 rfl ?_
  cases h
  exact x_iretS g e dX5_rewardSumByTrials_27 rfl rfl
set_option maxRecDepth 100000 in
set_option maxHeartbeats 4000000 in
theorem t_X5_rewardSumByTrials {ad : Nat → Nat} {G : gG} {a0 : Nat} {a1 : Int32} {a2 : Int32} {a3 : Int32} {a4 : Bool} {S : gS} {T : gT} {E : String} (h : f_X5_rewardSumByTrials G a0 a1 a2 a3 a4 S = some (.inl E)) : Cx ad yX5_rewardSumByTrials (Cond.code yX5_rewardSumByTrials cX5_rewardSumByTrials 6 (some .int) :: gTb) 7 [.ref a0, .int a1, .int a2, .int a3, .int (gz a4)] G S T E S T := by
  refine Cx.ofB rfl (Nat.le_of_ble_eq_true rfl) rfl (fun K g e hK => ?_)
  obtain ⟨rfl, -⟩ := hK
  show Xj K [] G 0 [some (.ref a0), some (.int a1), some (.int a2), some (.int a3), some (.int (gz a4)), none] [] S T 1 6
  unfold f_X5_rewardSumByTrials at h
  refine x_aload_n 0 g dX5_rewardSumByTrials_0 rfl rfl ?_
  obtain ⟨q_1, h⟩ := gd_e h
  obtain ⟨b_2, e_3, h⟩ := gb_e h
  refine x_getr g dX5_rewardSumByTrials_1 gXX5 0 5 rfl (by decide) rfl lf_X5_12 q_1 e_3 ?_
  refine x_iload_n 1 g dX5_rewardSumByTrials_4 rfl rfl ?_
  obtain ⟨q_4, h⟩ := gd_e h
  rcases gbx1_e h with ⟨E_15, q_5, h⟩ | ⟨r_6, q_5, h⟩
  · cases h
    exact x_tV g e (t_X1_umbrellaAt q_5) ca_X1_umbrellaAt in_X1_umbrellaAt se_X1_umbrellaAt lm_X5_81 gXX1 q_4 (Nat.le_of_ble_eq_true rfl) rfl rfl (Nat.le_of_ble_eq_true rfl) dX5_rewardSumByTrials_5
  refine x_cV [.ref r_6] g (k_X1_umbrellaAt q_5) ca_X1_umbrellaAt in_X1_umbrellaAt se_X1_umbrellaAt lm_X5_81 gXX1 q_4 (Nat.le_of_ble_eq_true rfl) rfl rfl (Nat.le_of_ble_eq_true rfl) dX5_rewardSumByTrials_5 rfl ?_
  refine x_astore (i := 5) g dX5_rewardSumByTrials_8 (Nat.le_of_ble_eq_true rfl) rfl ?_
  refine x_iload_n 2 g dX5_rewardSumByTrials_10 rfl rfl ?_
  refine x_iload_n 3 g dX5_rewardSumByTrials_11 rfl rfl ?_
  rcases gbx1_e h with ⟨E_14, q_7, h⟩ | ⟨r_8, q_7, h⟩
  · cases h
    exact x_tS g e (t_X5_requireSituation q_7) ca_X5_requireSituation st_X5_requireSituation lm_X5_122 (Nat.le_of_ble_eq_true rfl) rfl rfl (Nat.le_of_ble_eq_true rfl) dX5_rewardSumByTrials_12
  refine x_cS [] g (k_X5_requireSituation q_7) ca_X5_requireSituation st_X5_requireSituation lm_X5_122 (Nat.le_of_ble_eq_true rfl) rfl rfl (Nat.le_of_ble_eq_true rfl) dX5_rewardSumByTrials_12 rfl ?_
  refine x_aload (i := 5) g dX5_rewardSumByTrials_15 rfl ?_
  refine x_iload_n 2 g dX5_rewardSumByTrials_17 rfl rfl ?_
  refine x_iload_n 3 g dX5_rewardSumByTrials_18 rfl rfl ?_
  refine x_iload (i := 4) g dX5_rewardSumByTrials_19 rfl ?_
  obtain ⟨r_10, q_9, h⟩ := gb_e h
  refine x_cS [.int r_10, .ref r_6] g (k_X5_caseOf q_9) ca_X5_caseOf st_X5_caseOf lm_X5_148 (Nat.le_of_ble_eq_true rfl) rfl rfl (Nat.le_of_ble_eq_true rfl) dX5_rewardSumByTrials_21 rfl ?_
  obtain ⟨q_11, h⟩ := gd_e h
  obtain ⟨r_13, q_12, h⟩ := gb_e h
  refine x_cV [.int r_13] g (k_X4_addUpTrials q_12) ca_X4_addUpTrials in_X4_addUpTrials se_X4_addUpTrials lm_X5_154 gXX4 q_11 (Nat.le_of_ble_eq_true rfl) rfl rfl (Nat.le_of_ble_eq_true rfl) dX5_rewardSumByTrials_24 rfl ?_
  cases h
noncomputable def f_X5_meanReward (G : gG) (a0 : Nat) (a1 : Int32) (a2 : Int32) (a3 : Int32) (a4 : Bool) (S : gS) : Option (String ⊕ UInt64) := gd (gis G 2 a0) <| gb (gP S 5 a0) fun (b_2 : Nat) => gd (gis G 0 b_2) <| gbx1 (f_X1_umbrellaAt G b_2 a1 S) (fun (E_23 : String) => some (.inl E_23)) fun (r_6 : Nat) => gbx1 (f_X5_requireSituation a2 a3) (fun (E_22 : String) => some (.inl E_22)) fun (r_8 : Unit) => gb (f_X5_caseOf a2 a3 a4) fun (r_10 : Int32) => gd (gis G 1 r_6) <| gb (gP S 3 r_6) fun (b_12 : Nat) => gb (f_X5_valueAt G b_12 r_10 S) fun (r_15 : Int32) => if r_15 = 0 then (some (.inl "java/util/NoSuchElementException")) else (gb (gP S 4 r_6) fun (b_17 : Nat) => gb (f_X5_valueAt G b_17 r_10 S) fun (r_20 : Int32) => gd (vf_n64 (FP.ddiv (FP.i2d r_20) (FP.i2d r_15))) <| some (.inr (FP.ddiv (FP.i2d r_20) (FP.i2d r_15))))
set_option maxRecDepth 100000 in
set_option maxHeartbeats 4000000 in
theorem k_X5_meanReward {ad : Nat → Nat} {G : gG} {a0 : Nat} {a1 : Int32} {a2 : Int32} {a3 : Int32} {a4 : Bool} {S : gS} {T : gT} {r : UInt64} (h : f_X5_meanReward G a0 a1 a2 a3 a4 S = some (.inr r)) : Ct ad yX5_meanReward (Cond.code yX5_meanReward cX5_meanReward 8 (some .double) :: gTb) 3 0 0 [.ref a0, .int a1, .int a2, .int a3, .int (gz a4)] G S T (some (.double r)) G S T := by
  refine Ct.ofB rfl (Nat.le_of_ble_eq_true rfl) rfl (fun K g e hK => ?_)
  obtain ⟨rfl, -⟩ := hK
  show Xj K [] G 0 [some (.ref a0), some (.int a1), some (.int a2), some (.int a3), some (.int (gz a4)), none, none, none] [] S T 0 0
  unfold f_X5_meanReward at h
  refine x_aload_n 0 g dX5_meanReward_0 rfl rfl ?_
  obtain ⟨q_1, h⟩ := gd_e h
  obtain ⟨b_2, e_3, h⟩ := gb_e h
  refine x_getr g dX5_meanReward_1 gXX5 0 5 rfl (by decide) rfl lf_X5_12 q_1 e_3 ?_
  refine x_iload_n 1 g dX5_meanReward_4 rfl rfl ?_
  obtain ⟨q_4, h⟩ := gd_e h
  rcases gbx1_e h with ⟨E_23, q_5, h⟩ | ⟨r_6, q_5, h⟩
  · cases h
  refine x_cV [.ref r_6] g (k_X1_umbrellaAt q_5) ca_X1_umbrellaAt in_X1_umbrellaAt se_X1_umbrellaAt lm_X5_81 gXX1 q_4 (Nat.le_of_ble_eq_true rfl) rfl rfl (Nat.le_of_ble_eq_true rfl) dX5_meanReward_5 rfl ?_
  refine x_astore (i := 5) g dX5_meanReward_8 (Nat.le_of_ble_eq_true rfl) rfl ?_
  refine x_iload_n 2 g dX5_meanReward_10 rfl rfl ?_
  refine x_iload_n 3 g dX5_meanReward_11 rfl rfl ?_
  rcases gbx1_e h with ⟨E_22, q_7, h⟩ | ⟨r_8, q_7, h⟩
  · cases h
  refine x_cS [] g (k_X5_requireSituation q_7) ca_X5_requireSituation st_X5_requireSituation lm_X5_122 (Nat.le_of_ble_eq_true rfl) rfl rfl (Nat.le_of_ble_eq_true rfl) dX5_meanReward_12 rfl ?_
  refine x_iload_n 2 g dX5_meanReward_15 rfl rfl ?_
  refine x_iload_n 3 g dX5_meanReward_16 rfl rfl ?_
  refine x_iload (i := 4) g dX5_meanReward_17 rfl ?_
  obtain ⟨r_10, q_9, h⟩ := gb_e h
  refine x_cS [.int r_10] g (k_X5_caseOf q_9) ca_X5_caseOf st_X5_caseOf lm_X5_148 (Nat.le_of_ble_eq_true rfl) rfl rfl (Nat.le_of_ble_eq_true rfl) dX5_meanReward_19 rfl ?_
  refine x_istore (i := 6) g dX5_meanReward_22 (Nat.le_of_ble_eq_true rfl) rfl ?_
  refine x_aload (i := 5) g dX5_meanReward_24 rfl ?_
  obtain ⟨q_11, h⟩ := gd_e h
  obtain ⟨b_12, e_13, h⟩ := gb_e h
  refine x_getr g dX5_meanReward_26 gXX4 2 3 rfl (by decide) rfl lf_X5_145 q_11 e_13 ?_
  refine x_iload (i := 6) g dX5_meanReward_29 rfl ?_
  obtain ⟨r_15, q_14, h⟩ := gb_e h
  refine x_cS [.int r_15] g (k_X5_valueAt q_14) ca_X5_valueAt st_X5_valueAt lm_X5_107 (Nat.le_of_ble_eq_true rfl) rfl rfl (Nat.le_of_ble_eq_true rfl) dX5_meanReward_31 rfl ?_
  refine x_istore (i := 7) g dX5_meanReward_34 (Nat.le_of_ble_eq_true rfl) rfl ?_
  refine x_iload (i := 7) g dX5_meanReward_36 rfl ?_
  refine x_if_ne 51 g dX5_meanReward_38 (by decide) (fun c_16 => ?_) (fun c_16 => ?_)
  · have h := ite_f c_16 h
    refine x_aload (i := 5) g dX5_meanReward_51 rfl ?_
    obtain ⟨b_17, e_18, h⟩ := gb_e h
    refine x_getr g dX5_meanReward_53 gXX4 3 4 rfl (by decide) rfl lf_X5_151 q_11 e_18 ?_
    refine x_iload (i := 6) g dX5_meanReward_56 rfl ?_
    obtain ⟨r_20, q_19, h⟩ := gb_e h
    refine x_cS [.int r_20] g (k_X5_valueAt q_19) ca_X5_valueAt st_X5_valueAt lm_X5_107 (Nat.le_of_ble_eq_true rfl) rfl rfl (Nat.le_of_ble_eq_true rfl) dX5_meanReward_58 rfl ?_
    refine x_i2d g dX5_meanReward_61 ?_
    refine x_iload (i := 7) g dX5_meanReward_62 rfl ?_
    refine x_i2d g dX5_meanReward_64 ?_
    obtain ⟨q_21, h⟩ := gd_e h
    refine x_ddiv g dX5_meanReward_65 q_21 ?_
    cases h
    exact x_dret g e dX5_meanReward_66 rfl rfl
  · have h := ite_t c_16 h
    cases h
set_option maxRecDepth 100000 in
set_option maxHeartbeats 4000000 in
theorem t_X5_meanReward {ad : Nat → Nat} {G : gG} {a0 : Nat} {a1 : Int32} {a2 : Int32} {a3 : Int32} {a4 : Bool} {S : gS} {T : gT} {E : String} (h : f_X5_meanReward G a0 a1 a2 a3 a4 S = some (.inl E)) : Cx ad yX5_meanReward (Cond.code yX5_meanReward cX5_meanReward 8 (some .double) :: gTb) 7 [.ref a0, .int a1, .int a2, .int a3, .int (gz a4)] G S T E S T := by
  refine Cx.ofB rfl (Nat.le_of_ble_eq_true rfl) rfl (fun K g e hK => ?_)
  obtain ⟨rfl, -⟩ := hK
  show Xj K [] G 0 [some (.ref a0), some (.int a1), some (.int a2), some (.int a3), some (.int (gz a4)), none, none, none] [] S T 1 6
  unfold f_X5_meanReward at h
  refine x_aload_n 0 g dX5_meanReward_0 rfl rfl ?_
  obtain ⟨q_1, h⟩ := gd_e h
  obtain ⟨b_2, e_3, h⟩ := gb_e h
  refine x_getr g dX5_meanReward_1 gXX5 0 5 rfl (by decide) rfl lf_X5_12 q_1 e_3 ?_
  refine x_iload_n 1 g dX5_meanReward_4 rfl rfl ?_
  obtain ⟨q_4, h⟩ := gd_e h
  rcases gbx1_e h with ⟨E_23, q_5, h⟩ | ⟨r_6, q_5, h⟩
  · cases h
    exact x_tV g e (t_X1_umbrellaAt q_5) ca_X1_umbrellaAt in_X1_umbrellaAt se_X1_umbrellaAt lm_X5_81 gXX1 q_4 (Nat.le_of_ble_eq_true rfl) rfl rfl (Nat.le_of_ble_eq_true rfl) dX5_meanReward_5
  refine x_cV [.ref r_6] g (k_X1_umbrellaAt q_5) ca_X1_umbrellaAt in_X1_umbrellaAt se_X1_umbrellaAt lm_X5_81 gXX1 q_4 (Nat.le_of_ble_eq_true rfl) rfl rfl (Nat.le_of_ble_eq_true rfl) dX5_meanReward_5 rfl ?_
  refine x_astore (i := 5) g dX5_meanReward_8 (Nat.le_of_ble_eq_true rfl) rfl ?_
  refine x_iload_n 2 g dX5_meanReward_10 rfl rfl ?_
  refine x_iload_n 3 g dX5_meanReward_11 rfl rfl ?_
  rcases gbx1_e h with ⟨E_22, q_7, h⟩ | ⟨r_8, q_7, h⟩
  · cases h
    exact x_tS g e (t_X5_requireSituation q_7) ca_X5_requireSituation st_X5_requireSituation lm_X5_122 (Nat.le_of_ble_eq_true rfl) rfl rfl (Nat.le_of_ble_eq_true rfl) dX5_meanReward_12
  refine x_cS [] g (k_X5_requireSituation q_7) ca_X5_requireSituation st_X5_requireSituation lm_X5_122 (Nat.le_of_ble_eq_true rfl) rfl rfl (Nat.le_of_ble_eq_true rfl) dX5_meanReward_12 rfl ?_
  refine x_iload_n 2 g dX5_meanReward_15 rfl rfl ?_
  refine x_iload_n 3 g dX5_meanReward_16 rfl rfl ?_
  refine x_iload (i := 4) g dX5_meanReward_17 rfl ?_
  obtain ⟨r_10, q_9, h⟩ := gb_e h
  refine x_cS [.int r_10] g (k_X5_caseOf q_9) ca_X5_caseOf st_X5_caseOf lm_X5_148 (Nat.le_of_ble_eq_true rfl) rfl rfl (Nat.le_of_ble_eq_true rfl) dX5_meanReward_19 rfl ?_
  refine x_istore (i := 6) g dX5_meanReward_22 (Nat.le_of_ble_eq_true rfl) rfl ?_
  refine x_aload (i := 5) g dX5_meanReward_24 rfl ?_
  obtain ⟨q_11, h⟩ := gd_e h
  obtain ⟨b_12, e_13, h⟩ := gb_e h
  refine x_getr g dX5_meanReward_26 gXX4 2 3 rfl (by decide) rfl lf_X5_145 q_11 e_13 ?_
  refine x_iload (i := 6) g dX5_meanReward_29 rfl ?_
  obtain ⟨r_15, q_14, h⟩ := gb_e h
  refine x_cS [.int r_15] g (k_X5_valueAt q_14) ca_X5_valueAt st_X5_valueAt lm_X5_107 (Nat.le_of_ble_eq_true rfl) rfl rfl (Nat.le_of_ble_eq_true rfl) dX5_meanReward_31 rfl ?_
  refine x_istore (i := 7) g dX5_meanReward_34 (Nat.le_of_ble_eq_true rfl) rfl ?_
  refine x_iload (i := 7) g dX5_meanReward_36 rfl ?_
  refine x_if_ne 51 g dX5_meanReward_38 (by decide) (fun c_16 => ?_) (fun c_16 => ?_)
  · have h := ite_f c_16 h
    refine x_aload (i := 5) g dX5_meanReward_51 rfl ?_
    obtain ⟨b_17, e_18, h⟩ := gb_e h
    refine x_getr g dX5_meanReward_53 gXX4 3 4 rfl (by decide) rfl lf_X5_151 q_11 e_18 ?_
    refine x_iload (i := 6) g dX5_meanReward_56 rfl ?_
    obtain ⟨r_20, q_19, h⟩ := gb_e h
    refine x_cS [.int r_20] g (k_X5_valueAt q_19) ca_X5_valueAt st_X5_valueAt lm_X5_107 (Nat.le_of_ble_eq_true rfl) rfl rfl (Nat.le_of_ble_eq_true rfl) dX5_meanReward_58 rfl ?_
    refine x_i2d g dX5_meanReward_61 ?_
    refine x_iload (i := 7) g dX5_meanReward_62 rfl ?_
    refine x_i2d g dX5_meanReward_64 ?_
    obtain ⟨q_21, h⟩ := gd_e h
    refine x_ddiv g dX5_meanReward_65 q_21 ?_
    cases h
  · have h := ite_t c_16 h
    cases h
    exact x_throwN "no such trial is remembered" g e (by decide +kernel) (by decide +kernel) xnm_ok1 cl_X5_157 ci_NoSuchElementException (by decide +kernel) xat_X5_161 dX5_meanReward_41 dX5_meanReward_44 dX5_meanReward_45 dX5_meanReward_47 dX5_meanReward_50 (by decide) (by decide) (Nat.le_of_ble_eq_true rfl) rfl rfl
noncomputable def f_X5_rightHabits_L14 (G : gG) (a0 : Nat) (a1 : Int32) (S : gS) : Nat → Nat → Int32 → Int32 → Option (String ⊕ Int32)
  | 0, _, _, _ => none
  | n14 + 1, x2, x3, x4 => if 4 ≤ x4 then (some (.inr x3)) else (gd (gis G 2 a0) <| gb (gP S 5 a0) fun (b_9 : Nat) => gd (gis G 0 b_9) <| gb (f_X1_rightAnswers G b_9 x2 x4 S) fun (r_13 : Int32) => glt (x3 + r_13) fun (x3_14 : Int32) => glt (x4 + 1) fun (x4_16 : Int32) => f_X5_rightHabits_L14 G a0 a1 S n14 x2 x3_14 x4_16)
noncomputable def f_X5_rightHabits (G : gG) (a0 : Nat) (a1 : Int32) (S : gS) : Option (String ⊕ Int32) := gd (gis G 2 a0) <| gb (gP S 5 a0) fun (b_2 : Nat) => gd (gis G 0 b_2) <| gbx1 (f_X1_umbrellaAt G b_2 a1 S) (fun (E_18 : String) => some (.inl E_18)) fun (r_6 : Nat) => f_X5_rightHabits_L14 G a0 a1 S gN r_6 0 0
set_option maxRecDepth 100000 in
set_option maxHeartbeats 4000000 in
theorem k_X5_rightHabits {ad : Nat → Nat} {G : gG} {a0 : Nat} {a1 : Int32} {S : gS} {T : gT} {r : Int32} (h : f_X5_rightHabits G a0 a1 S = some (.inr r)) : Ct ad yX5_rightHabits (Cond.code yX5_rightHabits cX5_rightHabits 5 (some .int) :: gTb) 3 0 0 [.ref a0, .int a1] G S T (some (.int r)) G S T := by
  refine Ct.ofB rfl (Nat.le_of_ble_eq_true rfl) rfl (fun K g e hK => ?_)
  obtain ⟨rfl, -⟩ := hK
  show Xj K [] G 0 [some (.ref a0), some (.int a1), none, none, none] [] S T 0 0
  unfold f_X5_rightHabits at h
  refine x_aload_n 0 g dX5_rightHabits_0 rfl rfl ?_
  obtain ⟨q_1, h⟩ := gd_e h
  obtain ⟨b_2, e_3, h⟩ := gb_e h
  refine x_getr g dX5_rightHabits_1 gXX5 0 5 rfl (by decide) rfl lf_X5_12 q_1 e_3 ?_
  refine x_iload_n 1 g dX5_rightHabits_4 rfl rfl ?_
  obtain ⟨q_4, h⟩ := gd_e h
  rcases gbx1_e h with ⟨E_18, q_5, h⟩ | ⟨r_6, q_5, h⟩
  · cases h
  refine x_cV [.ref r_6] g (k_X1_umbrellaAt q_5) ca_X1_umbrellaAt in_X1_umbrellaAt se_X1_umbrellaAt lm_X5_81 gXX1 q_4 (Nat.le_of_ble_eq_true rfl) rfl rfl (Nat.le_of_ble_eq_true rfl) dX5_rightHabits_5 rfl ?_
  refine x_astore_n 2 g dX5_rightHabits_8 rfl (Nat.le_of_ble_eq_true rfl) rfl ?_
  refine x_iconst (v := 0) g dX5_rightHabits_9 (by decide) ?_
  refine x_istore_n 3 g dX5_rightHabits_10 rfl (Nat.le_of_ble_eq_true rfl) rfl ?_
  refine x_iconst (v := 0) g dX5_rightHabits_11 (by decide) ?_
  refine x_istore (i := 4) g dX5_rightHabits_12 (Nat.le_of_ble_eq_true rfl) rfl ?_
  have L14 : ∀ (n14 : Nat) (x2 : Nat) (x3 : Int32) (x4 : Int32), f_X5_rightHabits_L14 G a0 a1 S n14 x2 x3 x4 = some (.inr r) → Xj K [] G 14 [some (.ref a0), some (.int a1), some (.ref x2), some (.int x3), some (.int x4)] [] S T 0 0 := by
    intro n14
    induction n14 with
    | zero =>
      intro x2 x3 x4 h
      rw [f_X5_rightHabits_L14] at h
      cases h
    | succ n14 ih =>
      intro x2 x3 x4 h
      rw [f_X5_rightHabits_L14] at h
      refine x_iload (i := 4) g dX5_rightHabits_14 rfl ?_
      refine x_iconst (v := 4) g dX5_rightHabits_16 (by decide) ?_
      refine x_icmp_ge 39 g dX5_rightHabits_17 (by decide) (fun c_7 => ?_) (fun c_7 => ?_)
      · have h := ite_t c_7 h
        refine x_iload_n 3 g dX5_rightHabits_39 rfl rfl ?_
        cases h
        exact x_iretS g e dX5_rightHabits_40 rfl rfl
      · have h := ite_f c_7 h
        refine x_iload_n 3 g dX5_rightHabits_20 rfl rfl ?_
        refine x_aload_n 0 g dX5_rightHabits_21 rfl rfl ?_
        obtain ⟨q_8, h⟩ := gd_e h
        obtain ⟨b_9, e_10, h⟩ := gb_e h
        refine x_getr g dX5_rightHabits_22 gXX5 0 5 rfl (by decide) rfl lf_X5_12 q_8 e_10 ?_
        refine x_aload_n 2 g dX5_rightHabits_25 rfl rfl ?_
        refine x_iload (i := 4) g dX5_rightHabits_26 rfl ?_
        obtain ⟨q_11, h⟩ := gd_e h
        obtain ⟨r_13, q_12, h⟩ := gb_e h
        refine x_cV [.int r_13, .int x3] g (k_X1_rightAnswers q_12) ca_X1_rightAnswers in_X1_rightAnswers se_X1_rightAnswers lm_X5_164 gXX1 q_11 (Nat.le_of_ble_eq_true rfl) rfl rfl (Nat.le_of_ble_eq_true rfl) dX5_rightHabits_28 rfl ?_
        refine x_iadd g dX5_rightHabits_31 ?_
        refine x_nI (fun x3_14 e_15 => ?_)
        have h := glt_e e_15 h
        refine x_istore_n 3 g dX5_rightHabits_32 rfl (Nat.le_of_ble_eq_true rfl) rfl ?_
        obtain ⟨x4_16, e_17⟩ : ∃ z : Int32, z = x4 + 1 := ⟨_, rfl⟩
        have h := glt_e e_17 h
        refine x_iinc (v := x4_16) g dX5_rightHabits_33 rfl (by rw [e_17]; rfl) rfl ?_
        refine x_goto 14 g dX5_rightHabits_36 (by decide) ?_
        exact ih _ _ _ h
  exact L14 gN _ _ _ h
set_option maxRecDepth 100000 in
set_option maxHeartbeats 4000000 in
theorem t_X5_rightHabits {ad : Nat → Nat} {G : gG} {a0 : Nat} {a1 : Int32} {S : gS} {T : gT} {E : String} (h : f_X5_rightHabits G a0 a1 S = some (.inl E)) : Cx ad yX5_rightHabits (Cond.code yX5_rightHabits cX5_rightHabits 5 (some .int) :: gTb) 7 [.ref a0, .int a1] G S T E S T := by
  refine Cx.ofB rfl (Nat.le_of_ble_eq_true rfl) rfl (fun K g e hK => ?_)
  obtain ⟨rfl, -⟩ := hK
  show Xj K [] G 0 [some (.ref a0), some (.int a1), none, none, none] [] S T 1 6
  unfold f_X5_rightHabits at h
  refine x_aload_n 0 g dX5_rightHabits_0 rfl rfl ?_
  obtain ⟨q_1, h⟩ := gd_e h
  obtain ⟨b_2, e_3, h⟩ := gb_e h
  refine x_getr g dX5_rightHabits_1 gXX5 0 5 rfl (by decide) rfl lf_X5_12 q_1 e_3 ?_
  refine x_iload_n 1 g dX5_rightHabits_4 rfl rfl ?_
  obtain ⟨q_4, h⟩ := gd_e h
  rcases gbx1_e h with ⟨E_18, q_5, h⟩ | ⟨r_6, q_5, h⟩
  · cases h
    exact x_tV g e (t_X1_umbrellaAt q_5) ca_X1_umbrellaAt in_X1_umbrellaAt se_X1_umbrellaAt lm_X5_81 gXX1 q_4 (Nat.le_of_ble_eq_true rfl) rfl rfl (Nat.le_of_ble_eq_true rfl) dX5_rightHabits_5
  refine x_cV [.ref r_6] g (k_X1_umbrellaAt q_5) ca_X1_umbrellaAt in_X1_umbrellaAt se_X1_umbrellaAt lm_X5_81 gXX1 q_4 (Nat.le_of_ble_eq_true rfl) rfl rfl (Nat.le_of_ble_eq_true rfl) dX5_rightHabits_5 rfl ?_
  refine x_astore_n 2 g dX5_rightHabits_8 rfl (Nat.le_of_ble_eq_true rfl) rfl ?_
  refine x_iconst (v := 0) g dX5_rightHabits_9 (by decide) ?_
  refine x_istore_n 3 g dX5_rightHabits_10 rfl (Nat.le_of_ble_eq_true rfl) rfl ?_
  refine x_iconst (v := 0) g dX5_rightHabits_11 (by decide) ?_
  refine x_istore (i := 4) g dX5_rightHabits_12 (Nat.le_of_ble_eq_true rfl) rfl ?_
  have L14 : ∀ (n14 : Nat) (x2 : Nat) (x3 : Int32) (x4 : Int32), f_X5_rightHabits_L14 G a0 a1 S n14 x2 x3 x4 = some (.inl E) → Xj K [] G 14 [some (.ref a0), some (.int a1), some (.ref x2), some (.int x3), some (.int x4)] [] S T 1 6 := by
    intro n14
    induction n14 with
    | zero =>
      intro x2 x3 x4 h
      rw [f_X5_rightHabits_L14] at h
      cases h
    | succ n14 ih =>
      intro x2 x3 x4 h
      rw [f_X5_rightHabits_L14] at h
      refine x_iload (i := 4) g dX5_rightHabits_14 rfl ?_
      refine x_iconst (v := 4) g dX5_rightHabits_16 (by decide) ?_
      refine x_icmp_ge 39 g dX5_rightHabits_17 (by decide) (fun c_7 => ?_) (fun c_7 => ?_)
      · have h := ite_t c_7 h
        refine x_iload_n 3 g dX5_rightHabits_39 rfl rfl ?_
        cases h
      · have h := ite_f c_7 h
        refine x_iload_n 3 g dX5_rightHabits_20 rfl rfl ?_
        refine x_aload_n 0 g dX5_rightHabits_21 rfl rfl ?_
        obtain ⟨q_8, h⟩ := gd_e h
        obtain ⟨b_9, e_10, h⟩ := gb_e h
        refine x_getr g dX5_rightHabits_22 gXX5 0 5 rfl (by decide) rfl lf_X5_12 q_8 e_10 ?_
        refine x_aload_n 2 g dX5_rightHabits_25 rfl rfl ?_
        refine x_iload (i := 4) g dX5_rightHabits_26 rfl ?_
        obtain ⟨q_11, h⟩ := gd_e h
        obtain ⟨r_13, q_12, h⟩ := gb_e h
        refine x_cV [.int r_13, .int x3] g (k_X1_rightAnswers q_12) ca_X1_rightAnswers in_X1_rightAnswers se_X1_rightAnswers lm_X5_164 gXX1 q_11 (Nat.le_of_ble_eq_true rfl) rfl rfl (Nat.le_of_ble_eq_true rfl) dX5_rightHabits_28 rfl ?_
        refine x_iadd g dX5_rightHabits_31 ?_
        refine x_nI (fun x3_14 e_15 => ?_)
        have h := glt_e e_15 h
        refine x_istore_n 3 g dX5_rightHabits_32 rfl (Nat.le_of_ble_eq_true rfl) rfl ?_
        obtain ⟨x4_16, e_17⟩ : ∃ z : Int32, z = x4 + 1 := ⟨_, rfl⟩
        have h := glt_e e_17 h
        refine x_iinc (v := x4_16) g dX5_rightHabits_33 rfl (by rw [e_17]; rfl) rfl ?_
        refine x_goto 14 g dX5_rightHabits_36 (by decide) ?_
        exact ih _ _ _ h
  exact L14 gN _ _ _ h
noncomputable def f_X5_knownSituations (G : gG) (a0 : Nat) (a1 : Int32) (S : gS) : Option (String ⊕ Int32) := gd (gis G 2 a0) <| gb (gP S 5 a0) fun (b_2 : Nat) => gd (gis G 0 b_2) <| gbx1 (f_X1_umbrellaAt G b_2 a1 S) (fun (E_10 : String) => some (.inl E_10)) fun (r_6 : Nat) => gd (gis G 1 r_6) <| gb (f_X4_countKnownSituations G r_6 S) fun (r_9 : Int32) => some (.inr r_9)
set_option maxRecDepth 100000 in
set_option maxHeartbeats 4000000 in
theorem k_X5_knownSituations {ad : Nat → Nat} {G : gG} {a0 : Nat} {a1 : Int32} {S : gS} {T : gT} {r : Int32} (h : f_X5_knownSituations G a0 a1 S = some (.inr r)) : Ct ad yX5_knownSituations (Cond.code yX5_knownSituations cX5_knownSituations 2 (some .int) :: gTb) 3 0 0 [.ref a0, .int a1] G S T (some (.int r)) G S T := by
  refine Ct.ofB rfl (Nat.le_of_ble_eq_true rfl) rfl (fun K g e hK => ?_)
  obtain ⟨rfl, -⟩ := hK
  show Xj K [] G 0 [some (.ref a0), some (.int a1)] [] S T 0 0
  unfold f_X5_knownSituations at h
  refine x_aload_n 0 g dX5_knownSituations_0 rfl rfl ?_
  obtain ⟨q_1, h⟩ := gd_e h
  obtain ⟨b_2, e_3, h⟩ := gb_e h
  refine x_getr g dX5_knownSituations_1 gXX5 0 5 rfl (by decide) rfl lf_X5_12 q_1 e_3 ?_
  refine x_iload_n 1 g dX5_knownSituations_4 rfl rfl ?_
  obtain ⟨q_4, h⟩ := gd_e h
  rcases gbx1_e h with ⟨E_10, q_5, h⟩ | ⟨r_6, q_5, h⟩
  · cases h
  refine x_cV [.ref r_6] g (k_X1_umbrellaAt q_5) ca_X1_umbrellaAt in_X1_umbrellaAt se_X1_umbrellaAt lm_X5_81 gXX1 q_4 (Nat.le_of_ble_eq_true rfl) rfl rfl (Nat.le_of_ble_eq_true rfl) dX5_knownSituations_5 rfl ?_
  obtain ⟨q_7, h⟩ := gd_e h
  obtain ⟨r_9, q_8, h⟩ := gb_e h
  refine x_cV [.int r_9] g (k_X4_countKnownSituations q_8) ca_X4_countKnownSituations in_X4_countKnownSituations se_X4_countKnownSituations lm_X5_167 gXX4 q_7 (Nat.le_of_ble_eq_true rfl) rfl rfl (Nat.le_of_ble_eq_true rfl) dX5_knownSituations_8 rfl ?_
  cases h
  exact x_iretS g e dX5_knownSituations_11 rfl rfl
set_option maxRecDepth 100000 in
set_option maxHeartbeats 4000000 in
theorem t_X5_knownSituations {ad : Nat → Nat} {G : gG} {a0 : Nat} {a1 : Int32} {S : gS} {T : gT} {E : String} (h : f_X5_knownSituations G a0 a1 S = some (.inl E)) : Cx ad yX5_knownSituations (Cond.code yX5_knownSituations cX5_knownSituations 2 (some .int) :: gTb) 7 [.ref a0, .int a1] G S T E S T := by
  refine Cx.ofB rfl (Nat.le_of_ble_eq_true rfl) rfl (fun K g e hK => ?_)
  obtain ⟨rfl, -⟩ := hK
  show Xj K [] G 0 [some (.ref a0), some (.int a1)] [] S T 1 6
  unfold f_X5_knownSituations at h
  refine x_aload_n 0 g dX5_knownSituations_0 rfl rfl ?_
  obtain ⟨q_1, h⟩ := gd_e h
  obtain ⟨b_2, e_3, h⟩ := gb_e h
  refine x_getr g dX5_knownSituations_1 gXX5 0 5 rfl (by decide) rfl lf_X5_12 q_1 e_3 ?_
  refine x_iload_n 1 g dX5_knownSituations_4 rfl rfl ?_
  obtain ⟨q_4, h⟩ := gd_e h
  rcases gbx1_e h with ⟨E_10, q_5, h⟩ | ⟨r_6, q_5, h⟩
  · cases h
    exact x_tV g e (t_X1_umbrellaAt q_5) ca_X1_umbrellaAt in_X1_umbrellaAt se_X1_umbrellaAt lm_X5_81 gXX1 q_4 (Nat.le_of_ble_eq_true rfl) rfl rfl (Nat.le_of_ble_eq_true rfl) dX5_knownSituations_5
  refine x_cV [.ref r_6] g (k_X1_umbrellaAt q_5) ca_X1_umbrellaAt in_X1_umbrellaAt se_X1_umbrellaAt lm_X5_81 gXX1 q_4 (Nat.le_of_ble_eq_true rfl) rfl rfl (Nat.le_of_ble_eq_true rfl) dX5_knownSituations_5 rfl ?_
  obtain ⟨q_7, h⟩ := gd_e h
  obtain ⟨r_9, q_8, h⟩ := gb_e h
  refine x_cV [.int r_9] g (k_X4_countKnownSituations q_8) ca_X4_countKnownSituations in_X4_countKnownSituations se_X4_countKnownSituations lm_X5_167 gXX4 q_7 (Nat.le_of_ble_eq_true rfl) rfl rfl (Nat.le_of_ble_eq_true rfl) dX5_knownSituations_8 rfl ?_
  cases h
noncomputable def f_X5_rankedSituation (G : gG) (a0 : Nat) (a1 : Int32) (a2 : Int32) (S : gS) : Option (String ⊕ Int32) := gd (gis G 2 a0) <| gb (gP S 5 a0) fun (b_2 : Nat) => gd (gis G 0 b_2) <| gbx1 (f_X1_umbrellaAt G b_2 a1 S) (fun (E_11 : String) => some (.inl E_11)) fun (r_6 : Nat) => gd (gis G 1 r_6) <| gb (f_X4_situationAtRank G r_6 a2 S) fun (r_9 : Int32) => if r_9 = (-1) then (some (.inl "java/util/NoSuchElementException")) else (some (.inr r_9))
set_option maxRecDepth 100000 in
set_option maxHeartbeats 4000000 in
theorem k_X5_rankedSituation {ad : Nat → Nat} {G : gG} {a0 : Nat} {a1 : Int32} {a2 : Int32} {S : gS} {T : gT} {r : Int32} (h : f_X5_rankedSituation G a0 a1 a2 S = some (.inr r)) : Ct ad yX5_rankedSituation (Cond.code yX5_rankedSituation cX5_rankedSituation 4 (some .int) :: gTb) 4 0 0 [.ref a0, .int a1, .int a2] G S T (some (.int r)) G S T := by
  refine Ct.ofB rfl (Nat.le_of_ble_eq_true rfl) rfl (fun K g e hK => ?_)
  obtain ⟨rfl, -⟩ := hK
  show Xj K [] G 0 [some (.ref a0), some (.int a1), some (.int a2), none] [] S T 0 0
  unfold f_X5_rankedSituation at h
  refine x_aload_n 0 g dX5_rankedSituation_0 rfl rfl ?_
  obtain ⟨q_1, h⟩ := gd_e h
  obtain ⟨b_2, e_3, h⟩ := gb_e h
  refine x_getr g dX5_rankedSituation_1 gXX5 0 5 rfl (by decide) rfl lf_X5_12 q_1 e_3 ?_
  refine x_iload_n 1 g dX5_rankedSituation_4 rfl rfl ?_
  obtain ⟨q_4, h⟩ := gd_e h
  rcases gbx1_e h with ⟨E_11, q_5, h⟩ | ⟨r_6, q_5, h⟩
  · cases h
  refine x_cV [.ref r_6] g (k_X1_umbrellaAt q_5) ca_X1_umbrellaAt in_X1_umbrellaAt se_X1_umbrellaAt lm_X5_81 gXX1 q_4 (Nat.le_of_ble_eq_true rfl) rfl rfl (Nat.le_of_ble_eq_true rfl) dX5_rankedSituation_5 rfl ?_
  refine x_iload_n 2 g dX5_rankedSituation_8 rfl rfl ?_
  obtain ⟨q_7, h⟩ := gd_e h
  obtain ⟨r_9, q_8, h⟩ := gb_e h
  refine x_cV [.int r_9] g (k_X4_situationAtRank q_8) ca_X4_situationAtRank in_X4_situationAtRank se_X4_situationAtRank lm_X5_425 gXX4 q_7 (Nat.le_of_ble_eq_true rfl) rfl rfl (Nat.le_of_ble_eq_true rfl) dX5_rankedSituation_9 rfl ?_
  refine x_istore_n 3 g dX5_rankedSituation_12 rfl (Nat.le_of_ble_eq_true rfl) rfl ?_
  refine x_iload_n 3 g dX5_rankedSituation_13 rfl rfl ?_
  refine x_iconst (v := (-1)) g dX5_rankedSituation_14 (by decide) ?_
  refine x_icmp_ne 28 g dX5_rankedSituation_15 (by decide) (fun c_10 => ?_) (fun c_10 => ?_)
  · have h := ite_f c_10 h
    refine x_iload_n 3 g dX5_rankedSituation_28 rfl rfl ?_
    cases h
    exact x_iretS g e dX5_rankedSituation_29 rfl rfl
  · have h := ite_t c_10 h
    cases h
set_option maxRecDepth 100000 in
set_option maxHeartbeats 4000000 in
theorem t_X5_rankedSituation {ad : Nat → Nat} {G : gG} {a0 : Nat} {a1 : Int32} {a2 : Int32} {S : gS} {T : gT} {E : String} (h : f_X5_rankedSituation G a0 a1 a2 S = some (.inl E)) : Cx ad yX5_rankedSituation (Cond.code yX5_rankedSituation cX5_rankedSituation 4 (some .int) :: gTb) 7 [.ref a0, .int a1, .int a2] G S T E S T := by
  refine Cx.ofB rfl (Nat.le_of_ble_eq_true rfl) rfl (fun K g e hK => ?_)
  obtain ⟨rfl, -⟩ := hK
  show Xj K [] G 0 [some (.ref a0), some (.int a1), some (.int a2), none] [] S T 1 6
  unfold f_X5_rankedSituation at h
  refine x_aload_n 0 g dX5_rankedSituation_0 rfl rfl ?_
  obtain ⟨q_1, h⟩ := gd_e h
  obtain ⟨b_2, e_3, h⟩ := gb_e h
  refine x_getr g dX5_rankedSituation_1 gXX5 0 5 rfl (by decide) rfl lf_X5_12 q_1 e_3 ?_
  refine x_iload_n 1 g dX5_rankedSituation_4 rfl rfl ?_
  obtain ⟨q_4, h⟩ := gd_e h
  rcases gbx1_e h with ⟨E_11, q_5, h⟩ | ⟨r_6, q_5, h⟩
  · cases h
    exact x_tV g e (t_X1_umbrellaAt q_5) ca_X1_umbrellaAt in_X1_umbrellaAt se_X1_umbrellaAt lm_X5_81 gXX1 q_4 (Nat.le_of_ble_eq_true rfl) rfl rfl (Nat.le_of_ble_eq_true rfl) dX5_rankedSituation_5
  refine x_cV [.ref r_6] g (k_X1_umbrellaAt q_5) ca_X1_umbrellaAt in_X1_umbrellaAt se_X1_umbrellaAt lm_X5_81 gXX1 q_4 (Nat.le_of_ble_eq_true rfl) rfl rfl (Nat.le_of_ble_eq_true rfl) dX5_rankedSituation_5 rfl ?_
  refine x_iload_n 2 g dX5_rankedSituation_8 rfl rfl ?_
  obtain ⟨q_7, h⟩ := gd_e h
  obtain ⟨r_9, q_8, h⟩ := gb_e h
  refine x_cV [.int r_9] g (k_X4_situationAtRank q_8) ca_X4_situationAtRank in_X4_situationAtRank se_X4_situationAtRank lm_X5_425 gXX4 q_7 (Nat.le_of_ble_eq_true rfl) rfl rfl (Nat.le_of_ble_eq_true rfl) dX5_rankedSituation_9 rfl ?_
  refine x_istore_n 3 g dX5_rankedSituation_12 rfl (Nat.le_of_ble_eq_true rfl) rfl ?_
  refine x_iload_n 3 g dX5_rankedSituation_13 rfl rfl ?_
  refine x_iconst (v := (-1)) g dX5_rankedSituation_14 (by decide) ?_
  refine x_icmp_ne 28 g dX5_rankedSituation_15 (by decide) (fun c_10 => ?_) (fun c_10 => ?_)
  · have h := ite_f c_10 h
    refine x_iload_n 3 g dX5_rankedSituation_28 rfl rfl ?_
    cases h
  · have h := ite_t c_10 h
    cases h
    exact x_throwN "there is no such rank" g e (by decide +kernel) (by decide +kernel) xnm_ok1 cl_X5_157 ci_NoSuchElementException (by decide +kernel) xat_X5_161 dX5_rankedSituation_18 dX5_rankedSituation_21 dX5_rankedSituation_22 dX5_rankedSituation_24 dX5_rankedSituation_27 (by decide) (by decide) (Nat.le_of_ble_eq_true rfl) rfl rfl
noncomputable def f_X5_situationRain (G : gG) (a0 : Nat) (a1 : Int32) (a2 : Int32) (S : gS) : Option (String ⊕ Int32) := gd (gis G 2 a0) <| gbx1 (f_X5_rankedSituation G a0 a1 a2 S) (fun (E_6 : String) => some (.inl E_6)) fun (r_3 : Int32) => gb (f_X5_rainOfSituation r_3) fun (r_5 : Int32) => some (.inr r_5)
set_option maxRecDepth 100000 in
set_option maxHeartbeats 4000000 in
theorem k_X5_situationRain {ad : Nat → Nat} {G : gG} {a0 : Nat} {a1 : Int32} {a2 : Int32} {S : gS} {T : gT} {r : Int32} (h : f_X5_situationRain G a0 a1 a2 S = some (.inr r)) : Ct ad yX5_situationRain (Cond.code yX5_situationRain cX5_situationRain 3 (some .int) :: gTb) 5 0 0 [.ref a0, .int a1, .int a2] G S T (some (.int r)) G S T := by
  refine Ct.ofB rfl (Nat.le_of_ble_eq_true rfl) rfl (fun K g e hK => ?_)
  obtain ⟨rfl, -⟩ := hK
  show Xj K [] G 0 [some (.ref a0), some (.int a1), some (.int a2)] [] S T 0 0
  unfold f_X5_situationRain at h
  refine x_aload_n 0 g dX5_situationRain_0 rfl rfl ?_
  refine x_iload_n 1 g dX5_situationRain_1 rfl rfl ?_
  refine x_iload_n 2 g dX5_situationRain_2 rfl rfl ?_
  obtain ⟨q_1, h⟩ := gd_e h
  rcases gbx1_e h with ⟨E_6, q_2, h⟩ | ⟨r_3, q_2, h⟩
  · cases h
  refine x_cV [.int r_3] g (k_X5_rankedSituation q_2) ca_X5_rankedSituation in_X5_rankedSituation se_X5_rankedSituation lm_X5_171 gXX5 q_1 (Nat.le_of_ble_eq_true rfl) rfl rfl (Nat.le_of_ble_eq_true rfl) dX5_situationRain_3 rfl ?_
  obtain ⟨r_5, q_4, h⟩ := gb_e h
  refine x_cS [.int r_5] g (k_X5_rainOfSituation q_4) ca_X5_rainOfSituation st_X5_rainOfSituation lm_X5_174 (Nat.le_of_ble_eq_true rfl) rfl rfl (Nat.le_of_ble_eq_true rfl) dX5_situationRain_6 rfl ?_
  cases h
  exact x_iretS g e dX5_situationRain_9 rfl rfl
set_option maxRecDepth 100000 in
set_option maxHeartbeats 4000000 in
theorem t_X5_situationRain {ad : Nat → Nat} {G : gG} {a0 : Nat} {a1 : Int32} {a2 : Int32} {S : gS} {T : gT} {E : String} (h : f_X5_situationRain G a0 a1 a2 S = some (.inl E)) : Cx ad yX5_situationRain (Cond.code yX5_situationRain cX5_situationRain 3 (some .int) :: gTb) 8 [.ref a0, .int a1, .int a2] G S T E S T := by
  refine Cx.ofB rfl (Nat.le_of_ble_eq_true rfl) rfl (fun K g e hK => ?_)
  obtain ⟨rfl, -⟩ := hK
  show Xj K [] G 0 [some (.ref a0), some (.int a1), some (.int a2)] [] S T 1 6
  unfold f_X5_situationRain at h
  refine x_aload_n 0 g dX5_situationRain_0 rfl rfl ?_
  refine x_iload_n 1 g dX5_situationRain_1 rfl rfl ?_
  refine x_iload_n 2 g dX5_situationRain_2 rfl rfl ?_
  obtain ⟨q_1, h⟩ := gd_e h
  rcases gbx1_e h with ⟨E_6, q_2, h⟩ | ⟨r_3, q_2, h⟩
  · cases h
    exact x_tV g e (t_X5_rankedSituation q_2) ca_X5_rankedSituation in_X5_rankedSituation se_X5_rankedSituation lm_X5_171 gXX5 q_1 (Nat.le_of_ble_eq_true rfl) rfl rfl (Nat.le_of_ble_eq_true rfl) dX5_situationRain_3
  refine x_cV [.int r_3] g (k_X5_rankedSituation q_2) ca_X5_rankedSituation in_X5_rankedSituation se_X5_rankedSituation lm_X5_171 gXX5 q_1 (Nat.le_of_ble_eq_true rfl) rfl rfl (Nat.le_of_ble_eq_true rfl) dX5_situationRain_3 rfl ?_
  obtain ⟨r_5, q_4, h⟩ := gb_e h
  refine x_cS [.int r_5] g (k_X5_rainOfSituation q_4) ca_X5_rainOfSituation st_X5_rainOfSituation lm_X5_174 (Nat.le_of_ble_eq_true rfl) rfl rfl (Nat.le_of_ble_eq_true rfl) dX5_situationRain_6 rfl ?_
  cases h
noncomputable def f_X5_windOfSituation (a0 : Int32) : Option Int32 := some (a0 - a0 / 4 * 4)
set_option maxRecDepth 100000 in
set_option maxHeartbeats 4000000 in
theorem k_X5_windOfSituation {ad : Nat → Nat} {G : gG} {a0 : Int32} {S : gS} {T : gT} {r : Int32} (h : f_X5_windOfSituation a0 = some r) : Ct ad yX5_windOfSituation (Cond.code yX5_windOfSituation cX5_windOfSituation 1 (some .int) :: gTb) 0 0 0 [.int a0] G S T (some (.int r)) G S T := by
  refine Ct.ofB rfl (Nat.le_of_ble_eq_true rfl) rfl (fun K g e hK => ?_)
  obtain ⟨rfl, -⟩ := hK
  show Xj K [] G 0 [some (.int a0)] [] S T 0 0
  unfold f_X5_windOfSituation at h
  refine x_iload_n 0 g dX5_windOfSituation_0 rfl rfl ?_
  refine x_iconst (v := 4) g dX5_windOfSituation_1 (by decide) ?_
  refine x_irem g dX5_windOfSituation_2 (by decide) ?_
  cases h
  exact x_iretS g e dX5_windOfSituation_3 rfl rfl
noncomputable def f_X5_situationWind (G : gG) (a0 : Nat) (a1 : Int32) (a2 : Int32) (S : gS) : Option (String ⊕ Int32) := gd (gis G 2 a0) <| gbx1 (f_X5_rankedSituation G a0 a1 a2 S) (fun (E_6 : String) => some (.inl E_6)) fun (r_3 : Int32) => gb (f_X5_windOfSituation r_3) fun (r_5 : Int32) => some (.inr r_5)
set_option maxRecDepth 100000 in
set_option maxHeartbeats 4000000 in
theorem k_X5_situationWind {ad : Nat → Nat} {G : gG} {a0 : Nat} {a1 : Int32} {a2 : Int32} {S : gS} {T : gT} {r : Int32} (h : f_X5_situationWind G a0 a1 a2 S = some (.inr r)) : Ct ad yX5_situationWind (Cond.code yX5_situationWind cX5_situationWind 3 (some .int) :: gTb) 5 0 0 [.ref a0, .int a1, .int a2] G S T (some (.int r)) G S T := by
  refine Ct.ofB rfl (Nat.le_of_ble_eq_true rfl) rfl (fun K g e hK => ?_)
  obtain ⟨rfl, -⟩ := hK
  show Xj K [] G 0 [some (.ref a0), some (.int a1), some (.int a2)] [] S T 0 0
  unfold f_X5_situationWind at h
  refine x_aload_n 0 g dX5_situationWind_0 rfl rfl ?_
  refine x_iload_n 1 g dX5_situationWind_1 rfl rfl ?_
  refine x_iload_n 2 g dX5_situationWind_2 rfl rfl ?_
  obtain ⟨q_1, h⟩ := gd_e h
  rcases gbx1_e h with ⟨E_6, q_2, h⟩ | ⟨r_3, q_2, h⟩
  · cases h
  refine x_cV [.int r_3] g (k_X5_rankedSituation q_2) ca_X5_rankedSituation in_X5_rankedSituation se_X5_rankedSituation lm_X5_171 gXX5 q_1 (Nat.le_of_ble_eq_true rfl) rfl rfl (Nat.le_of_ble_eq_true rfl) dX5_situationWind_3 rfl ?_
  obtain ⟨r_5, q_4, h⟩ := gb_e h
  refine x_cS [.int r_5] g (k_X5_windOfSituation q_4) ca_X5_windOfSituation st_X5_windOfSituation lm_X5_177 (Nat.le_of_ble_eq_true rfl) rfl rfl (Nat.le_of_ble_eq_true rfl) dX5_situationWind_6 rfl ?_
  cases h
  exact x_iretS g e dX5_situationWind_9 rfl rfl
set_option maxRecDepth 100000 in
set_option maxHeartbeats 4000000 in
theorem t_X5_situationWind {ad : Nat → Nat} {G : gG} {a0 : Nat} {a1 : Int32} {a2 : Int32} {S : gS} {T : gT} {E : String} (h : f_X5_situationWind G a0 a1 a2 S = some (.inl E)) : Cx ad yX5_situationWind (Cond.code yX5_situationWind cX5_situationWind 3 (some .int) :: gTb) 8 [.ref a0, .int a1, .int a2] G S T E S T := by
  refine Cx.ofB rfl (Nat.le_of_ble_eq_true rfl) rfl (fun K g e hK => ?_)
  obtain ⟨rfl, -⟩ := hK
  show Xj K [] G 0 [some (.ref a0), some (.int a1), some (.int a2)] [] S T 1 6
  unfold f_X5_situationWind at h
  refine x_aload_n 0 g dX5_situationWind_0 rfl rfl ?_
  refine x_iload_n 1 g dX5_situationWind_1 rfl rfl ?_
  refine x_iload_n 2 g dX5_situationWind_2 rfl rfl ?_
  obtain ⟨q_1, h⟩ := gd_e h
  rcases gbx1_e h with ⟨E_6, q_2, h⟩ | ⟨r_3, q_2, h⟩
  · cases h
    exact x_tV g e (t_X5_rankedSituation q_2) ca_X5_rankedSituation in_X5_rankedSituation se_X5_rankedSituation lm_X5_171 gXX5 q_1 (Nat.le_of_ble_eq_true rfl) rfl rfl (Nat.le_of_ble_eq_true rfl) dX5_situationWind_3
  refine x_cV [.int r_3] g (k_X5_rankedSituation q_2) ca_X5_rankedSituation in_X5_rankedSituation se_X5_rankedSituation lm_X5_171 gXX5 q_1 (Nat.le_of_ble_eq_true rfl) rfl rfl (Nat.le_of_ble_eq_true rfl) dX5_situationWind_3 rfl ?_
  obtain ⟨r_5, q_4, h⟩ := gb_e h
  refine x_cS [.int r_5] g (k_X5_windOfSituation q_4) ca_X5_windOfSituation st_X5_windOfSituation lm_X5_177 (Nat.le_of_ble_eq_true rfl) rfl rfl (Nat.le_of_ble_eq_true rfl) dX5_situationWind_6 rfl ?_
  cases h
noncomputable def f_X5_hasExam (G : gG) (a0 : Nat) (a1 : Int32) (a2 : Int32) (S : gS) : Option (String ⊕ Bool) := gd (gis G 2 a0) <| gb (gP S 5 a0) fun (b_2 : Nat) => gd (gis G 0 b_2) <| gbx1 (f_X1_umbrellaAt G b_2 a1 S) (fun (E_13 : String) => some (.inl E_13)) fun (r_6 : Nat) => gb (f_X5_isLevel a2) fun (r_8 : Bool) => if (gz r_8) = 0 then (some (.inl "java/lang/IllegalArgumentException")) else (gd (gis G 1 r_6) <| gb (f_X4_hasPassed G r_6 a2 S) fun (r_12 : Bool) => some (.inr r_12))
set_option maxRecDepth 100000 in
set_option maxHeartbeats 4000000 in
theorem k_X5_hasExam {ad : Nat → Nat} {G : gG} {a0 : Nat} {a1 : Int32} {a2 : Int32} {S : gS} {T : gT} {r : Bool} (h : f_X5_hasExam G a0 a1 a2 S = some (.inr r)) : Ct ad yX5_hasExam (Cond.code yX5_hasExam cX5_hasExam 4 (some .boolean) :: gTb) 2 0 0 [.ref a0, .int a1, .int a2] G S T (some (.int (gz r))) G S T := by
  refine Ct.ofB rfl (Nat.le_of_ble_eq_true rfl) rfl (fun K g e hK => ?_)
  obtain ⟨rfl, -⟩ := hK
  show Xj K [] G 0 [some (.ref a0), some (.int a1), some (.int a2), none] [] S T 0 0
  unfold f_X5_hasExam at h
  refine x_aload_n 0 g dX5_hasExam_0 rfl rfl ?_
  obtain ⟨q_1, h⟩ := gd_e h
  obtain ⟨b_2, e_3, h⟩ := gb_e h
  refine x_getr g dX5_hasExam_1 gXX5 0 5 rfl (by decide) rfl lf_X5_12 q_1 e_3 ?_
  refine x_iload_n 1 g dX5_hasExam_4 rfl rfl ?_
  obtain ⟨q_4, h⟩ := gd_e h
  rcases gbx1_e h with ⟨E_13, q_5, h⟩ | ⟨r_6, q_5, h⟩
  · cases h
  refine x_cV [.ref r_6] g (k_X1_umbrellaAt q_5) ca_X1_umbrellaAt in_X1_umbrellaAt se_X1_umbrellaAt lm_X5_81 gXX1 q_4 (Nat.le_of_ble_eq_true rfl) rfl rfl (Nat.le_of_ble_eq_true rfl) dX5_hasExam_5 rfl ?_
  refine x_astore_n 3 g dX5_hasExam_8 rfl (Nat.le_of_ble_eq_true rfl) rfl ?_
  refine x_iload_n 2 g dX5_hasExam_9 rfl rfl ?_
  obtain ⟨r_8, q_7, h⟩ := gb_e h
  refine x_cS [.int (gz r_8)] g (k_X5_isLevel q_7) ca_X5_isLevel st_X5_isLevel lm_X5_180 (Nat.le_of_ble_eq_true rfl) rfl rfl (Nat.le_of_ble_eq_true rfl) dX5_hasExam_10 rfl ?_
  refine x_if_ne 26 g dX5_hasExam_13 (by decide) (fun c_9 => ?_) (fun c_9 => ?_)
  · have h := ite_f c_9 h
    refine x_aload_n 3 g dX5_hasExam_26 rfl rfl ?_
    refine x_iload_n 2 g dX5_hasExam_27 rfl rfl ?_
    obtain ⟨q_10, h⟩ := gd_e h
    obtain ⟨r_12, q_11, h⟩ := gb_e h
    refine x_cV [.int (gz r_12)] g (k_X4_hasPassed q_11) ca_X4_hasPassed in_X4_hasPassed se_X4_hasPassed lm_X5_188 gXX4 q_10 (Nat.le_of_ble_eq_true rfl) rfl rfl (Nat.le_of_ble_eq_true rfl) dX5_hasExam_28 rfl ?_
    cases h
    exact x_zretS g e dX5_hasExam_31 rfl rfl rfl
  · have h := ite_t c_9 h
    cases h
set_option maxRecDepth 100000 in
set_option maxHeartbeats 4000000 in
theorem t_X5_hasExam {ad : Nat → Nat} {G : gG} {a0 : Nat} {a1 : Int32} {a2 : Int32} {S : gS} {T : gT} {E : String} (h : f_X5_hasExam G a0 a1 a2 S = some (.inl E)) : Cx ad yX5_hasExam (Cond.code yX5_hasExam cX5_hasExam 4 (some .boolean) :: gTb) 7 [.ref a0, .int a1, .int a2] G S T E S T := by
  refine Cx.ofB rfl (Nat.le_of_ble_eq_true rfl) rfl (fun K g e hK => ?_)
  obtain ⟨rfl, -⟩ := hK
  show Xj K [] G 0 [some (.ref a0), some (.int a1), some (.int a2), none] [] S T 1 6
  unfold f_X5_hasExam at h
  refine x_aload_n 0 g dX5_hasExam_0 rfl rfl ?_
  obtain ⟨q_1, h⟩ := gd_e h
  obtain ⟨b_2, e_3, h⟩ := gb_e h
  refine x_getr g dX5_hasExam_1 gXX5 0 5 rfl (by decide) rfl lf_X5_12 q_1 e_3 ?_
  refine x_iload_n 1 g dX5_hasExam_4 rfl rfl ?_
  obtain ⟨q_4, h⟩ := gd_e h
  rcases gbx1_e h with ⟨E_13, q_5, h⟩ | ⟨r_6, q_5, h⟩
  · cases h
    exact x_tV g e (t_X1_umbrellaAt q_5) ca_X1_umbrellaAt in_X1_umbrellaAt se_X1_umbrellaAt lm_X5_81 gXX1 q_4 (Nat.le_of_ble_eq_true rfl) rfl rfl (Nat.le_of_ble_eq_true rfl) dX5_hasExam_5
  refine x_cV [.ref r_6] g (k_X1_umbrellaAt q_5) ca_X1_umbrellaAt in_X1_umbrellaAt se_X1_umbrellaAt lm_X5_81 gXX1 q_4 (Nat.le_of_ble_eq_true rfl) rfl rfl (Nat.le_of_ble_eq_true rfl) dX5_hasExam_5 rfl ?_
  refine x_astore_n 3 g dX5_hasExam_8 rfl (Nat.le_of_ble_eq_true rfl) rfl ?_
  refine x_iload_n 2 g dX5_hasExam_9 rfl rfl ?_
  obtain ⟨r_8, q_7, h⟩ := gb_e h
  refine x_cS [.int (gz r_8)] g (k_X5_isLevel q_7) ca_X5_isLevel st_X5_isLevel lm_X5_180 (Nat.le_of_ble_eq_true rfl) rfl rfl (Nat.le_of_ble_eq_true rfl) dX5_hasExam_10 rfl ?_
  refine x_if_ne 26 g dX5_hasExam_13 (by decide) (fun c_9 => ?_) (fun c_9 => ?_)
  · have h := ite_f c_9 h
    refine x_aload_n 3 g dX5_hasExam_26 rfl rfl ?_
    refine x_iload_n 2 g dX5_hasExam_27 rfl rfl ?_
    obtain ⟨q_10, h⟩ := gd_e h
    obtain ⟨r_12, q_11, h⟩ := gb_e h
    refine x_cV [.int (gz r_12)] g (k_X4_hasPassed q_11) ca_X4_hasPassed in_X4_hasPassed se_X4_hasPassed lm_X5_188 gXX4 q_10 (Nat.le_of_ble_eq_true rfl) rfl rfl (Nat.le_of_ble_eq_true rfl) dX5_hasExam_28 rfl ?_
    cases h
  · have h := ite_t c_9 h
    cases h
    exact x_throw "the wind is not between 0 and 3" g e (by decide +kernel) xnm_ok cl_X5_183 ci_IllegalArgumentException (by decide +kernel) xat_X5_187 dX5_hasExam_16 dX5_hasExam_19 dX5_hasExam_20 dX5_hasExam_22 dX5_hasExam_25 (by decide) (by decide) (Nat.le_of_ble_eq_true rfl) rfl rfl
noncomputable def f_X5_isGraduate (G : gG) (a0 : Nat) (a1 : Int32) (S : gS) : Option (String ⊕ Bool) := gd (gis G 2 a0) <| gb (gP S 5 a0) fun (b_2 : Nat) => gd (gis G 0 b_2) <| gbx1 (f_X1_umbrellaAt G b_2 a1 S) (fun (E_9 : String) => some (.inl E_9)) fun (r_6 : Nat) => gd (gis G 1 r_6) <| if (gI S 17 r_6) = 15 then (some (.inr true)) else (some (.inr false))
set_option maxRecDepth 100000 in
set_option maxHeartbeats 4000000 in
theorem k_X5_isGraduate {ad : Nat → Nat} {G : gG} {a0 : Nat} {a1 : Int32} {S : gS} {T : gT} {r : Bool} (h : f_X5_isGraduate G a0 a1 S = some (.inr r)) : Ct ad yX5_isGraduate (Cond.code yX5_isGraduate cX5_isGraduate 2 (some .boolean) :: gTb) 1 0 0 [.ref a0, .int a1] G S T (some (.int (gz r))) G S T := by
  refine Ct.ofB rfl (Nat.le_of_ble_eq_true rfl) rfl (fun K g e hK => ?_)
  obtain ⟨rfl, -⟩ := hK
  show Xj K [] G 0 [some (.ref a0), some (.int a1)] [] S T 0 0
  unfold f_X5_isGraduate at h
  refine x_aload_n 0 g dX5_isGraduate_0 rfl rfl ?_
  obtain ⟨q_1, h⟩ := gd_e h
  obtain ⟨b_2, e_3, h⟩ := gb_e h
  refine x_getr g dX5_isGraduate_1 gXX5 0 5 rfl (by decide) rfl lf_X5_12 q_1 e_3 ?_
  refine x_iload_n 1 g dX5_isGraduate_4 rfl rfl ?_
  obtain ⟨q_4, h⟩ := gd_e h
  rcases gbx1_e h with ⟨E_9, q_5, h⟩ | ⟨r_6, q_5, h⟩
  · cases h
  refine x_cV [.ref r_6] g (k_X1_umbrellaAt q_5) ca_X1_umbrellaAt in_X1_umbrellaAt se_X1_umbrellaAt lm_X5_81 gXX1 q_4 (Nat.le_of_ble_eq_true rfl) rfl rfl (Nat.le_of_ble_eq_true rfl) dX5_isGraduate_5 rfl ?_
  obtain ⟨q_7, h⟩ := gd_e h
  refine x_geti g dX5_isGraduate_8 gXX4 11 17 rfl (by decide) rfl lf_X5_191 q_7 ?_
  refine x_bipush (v := 15) g dX5_isGraduate_11 (by decide) ?_
  refine x_icmp_ne 20 g dX5_isGraduate_13 (by decide) (fun c_8 => ?_) (fun c_8 => ?_)
  · have h := ite_f c_8 h
    refine x_iconst (v := 0) g dX5_isGraduate_20 (by decide) ?_
    cases h
    exact x_zretS (b := false) g e dX5_isGraduate_21 rfl rfl rfl
  · have h := ite_t c_8 h
    refine x_iconst (v := 1) g dX5_isGraduate_16 (by decide) ?_
    refine x_goto 21 g dX5_isGraduate_17 (by decide) ?_
    cases h
    exact x_zretS (b := true) g e dX5_isGraduate_21 rfl rfl rfl
set_option maxRecDepth 100000 in
set_option maxHeartbeats 4000000 in
theorem t_X5_isGraduate {ad : Nat → Nat} {G : gG} {a0 : Nat} {a1 : Int32} {S : gS} {T : gT} {E : String} (h : f_X5_isGraduate G a0 a1 S = some (.inl E)) : Cx ad yX5_isGraduate (Cond.code yX5_isGraduate cX5_isGraduate 2 (some .boolean) :: gTb) 7 [.ref a0, .int a1] G S T E S T := by
  refine Cx.ofB rfl (Nat.le_of_ble_eq_true rfl) rfl (fun K g e hK => ?_)
  obtain ⟨rfl, -⟩ := hK
  show Xj K [] G 0 [some (.ref a0), some (.int a1)] [] S T 1 6
  unfold f_X5_isGraduate at h
  refine x_aload_n 0 g dX5_isGraduate_0 rfl rfl ?_
  obtain ⟨q_1, h⟩ := gd_e h
  obtain ⟨b_2, e_3, h⟩ := gb_e h
  refine x_getr g dX5_isGraduate_1 gXX5 0 5 rfl (by decide) rfl lf_X5_12 q_1 e_3 ?_
  refine x_iload_n 1 g dX5_isGraduate_4 rfl rfl ?_
  obtain ⟨q_4, h⟩ := gd_e h
  rcases gbx1_e h with ⟨E_9, q_5, h⟩ | ⟨r_6, q_5, h⟩
  · cases h
    exact x_tV g e (t_X1_umbrellaAt q_5) ca_X1_umbrellaAt in_X1_umbrellaAt se_X1_umbrellaAt lm_X5_81 gXX1 q_4 (Nat.le_of_ble_eq_true rfl) rfl rfl (Nat.le_of_ble_eq_true rfl) dX5_isGraduate_5
  refine x_cV [.ref r_6] g (k_X1_umbrellaAt q_5) ca_X1_umbrellaAt in_X1_umbrellaAt se_X1_umbrellaAt lm_X5_81 gXX1 q_4 (Nat.le_of_ble_eq_true rfl) rfl rfl (Nat.le_of_ble_eq_true rfl) dX5_isGraduate_5 rfl ?_
  obtain ⟨q_7, h⟩ := gd_e h
  refine x_geti g dX5_isGraduate_8 gXX4 11 17 rfl (by decide) rfl lf_X5_191 q_7 ?_
  refine x_bipush (v := 15) g dX5_isGraduate_11 (by decide) ?_
  refine x_icmp_ne 20 g dX5_isGraduate_13 (by decide) (fun c_8 => ?_) (fun c_8 => ?_)
  · have h := ite_f c_8 h
    refine x_iconst (v := 0) g dX5_isGraduate_20 (by decide) ?_
    cases h
  · have h := ite_t c_8 h
    refine x_iconst (v := 1) g dX5_isGraduate_16 (by decide) ?_
    refine x_goto 21 g dX5_isGraduate_17 (by decide) ?_
    cases h
noncomputable def f_X5_totalReward (G : gG) (a0 : Nat) (a1 : Int32) (S : gS) : Option (String ⊕ Int32) := gd (gis G 2 a0) <| gb (gP S 5 a0) fun (b_2 : Nat) => gd (gis G 0 b_2) <| gbx1 (f_X1_umbrellaAt G b_2 a1 S) (fun (E_8 : String) => some (.inl E_8)) fun (r_6 : Nat) => gd (gis G 1 r_6) <| some (.inr (gI S 14 r_6))
set_option maxRecDepth 100000 in
set_option maxHeartbeats 4000000 in
theorem k_X5_totalReward {ad : Nat → Nat} {G : gG} {a0 : Nat} {a1 : Int32} {S : gS} {T : gT} {r : Int32} (h : f_X5_totalReward G a0 a1 S = some (.inr r)) : Ct ad yX5_totalReward (Cond.code yX5_totalReward cX5_totalReward 2 (some .int) :: gTb) 1 0 0 [.ref a0, .int a1] G S T (some (.int r)) G S T := by
  refine Ct.ofB rfl (Nat.le_of_ble_eq_true rfl) rfl (fun K g e hK => ?_)
  obtain ⟨rfl, -⟩ := hK
  show Xj K [] G 0 [some (.ref a0), some (.int a1)] [] S T 0 0
  unfold f_X5_totalReward at h
  refine x_aload_n 0 g dX5_totalReward_0 rfl rfl ?_
  obtain ⟨q_1, h⟩ := gd_e h
  obtain ⟨b_2, e_3, h⟩ := gb_e h
  refine x_getr g dX5_totalReward_1 gXX5 0 5 rfl (by decide) rfl lf_X5_12 q_1 e_3 ?_
  refine x_iload_n 1 g dX5_totalReward_4 rfl rfl ?_
  obtain ⟨q_4, h⟩ := gd_e h
  rcases gbx1_e h with ⟨E_8, q_5, h⟩ | ⟨r_6, q_5, h⟩
  · cases h
  refine x_cV [.ref r_6] g (k_X1_umbrellaAt q_5) ca_X1_umbrellaAt in_X1_umbrellaAt se_X1_umbrellaAt lm_X5_81 gXX1 q_4 (Nat.le_of_ble_eq_true rfl) rfl rfl (Nat.le_of_ble_eq_true rfl) dX5_totalReward_5 rfl ?_
  obtain ⟨q_7, h⟩ := gd_e h
  refine x_geti g dX5_totalReward_8 gXX4 8 14 rfl (by decide) rfl lf_X5_194 q_7 ?_
  cases h
  exact x_iretS g e dX5_totalReward_11 rfl rfl
set_option maxRecDepth 100000 in
set_option maxHeartbeats 4000000 in
theorem t_X5_totalReward {ad : Nat → Nat} {G : gG} {a0 : Nat} {a1 : Int32} {S : gS} {T : gT} {E : String} (h : f_X5_totalReward G a0 a1 S = some (.inl E)) : Cx ad yX5_totalReward (Cond.code yX5_totalReward cX5_totalReward 2 (some .int) :: gTb) 7 [.ref a0, .int a1] G S T E S T := by
  refine Cx.ofB rfl (Nat.le_of_ble_eq_true rfl) rfl (fun K g e hK => ?_)
  obtain ⟨rfl, -⟩ := hK
  show Xj K [] G 0 [some (.ref a0), some (.int a1)] [] S T 1 6
  unfold f_X5_totalReward at h
  refine x_aload_n 0 g dX5_totalReward_0 rfl rfl ?_
  obtain ⟨q_1, h⟩ := gd_e h
  obtain ⟨b_2, e_3, h⟩ := gb_e h
  refine x_getr g dX5_totalReward_1 gXX5 0 5 rfl (by decide) rfl lf_X5_12 q_1 e_3 ?_
  refine x_iload_n 1 g dX5_totalReward_4 rfl rfl ?_
  obtain ⟨q_4, h⟩ := gd_e h
  rcases gbx1_e h with ⟨E_8, q_5, h⟩ | ⟨r_6, q_5, h⟩
  · cases h
    exact x_tV g e (t_X1_umbrellaAt q_5) ca_X1_umbrellaAt in_X1_umbrellaAt se_X1_umbrellaAt lm_X5_81 gXX1 q_4 (Nat.le_of_ble_eq_true rfl) rfl rfl (Nat.le_of_ble_eq_true rfl) dX5_totalReward_5
  refine x_cV [.ref r_6] g (k_X1_umbrellaAt q_5) ca_X1_umbrellaAt in_X1_umbrellaAt se_X1_umbrellaAt lm_X5_81 gXX1 q_4 (Nat.le_of_ble_eq_true rfl) rfl rfl (Nat.le_of_ble_eq_true rfl) dX5_totalReward_5 rfl ?_
  obtain ⟨q_7, h⟩ := gd_e h
  refine x_geti g dX5_totalReward_8 gXX4 8 14 rfl (by decide) rfl lf_X5_194 q_7 ?_
  cases h
noncomputable def f_X5_termReward (G : gG) (a0 : Nat) (a1 : Int32) (S : gS) : Option (String ⊕ Int32) := gd (gis G 2 a0) <| gb (gP S 5 a0) fun (b_2 : Nat) => gd (gis G 0 b_2) <| gbx1 (f_X1_umbrellaAt G b_2 a1 S) (fun (E_8 : String) => some (.inl E_8)) fun (r_6 : Nat) => gd (gis G 1 r_6) <| some (.inr (gI S 15 r_6))
set_option maxRecDepth 100000 in
set_option maxHeartbeats 4000000 in
theorem k_X5_termReward {ad : Nat → Nat} {G : gG} {a0 : Nat} {a1 : Int32} {S : gS} {T : gT} {r : Int32} (h : f_X5_termReward G a0 a1 S = some (.inr r)) : Ct ad yX5_termReward (Cond.code yX5_termReward cX5_termReward 2 (some .int) :: gTb) 1 0 0 [.ref a0, .int a1] G S T (some (.int r)) G S T := by
  refine Ct.ofB rfl (Nat.le_of_ble_eq_true rfl) rfl (fun K g e hK => ?_)
  obtain ⟨rfl, -⟩ := hK
  show Xj K [] G 0 [some (.ref a0), some (.int a1)] [] S T 0 0
  unfold f_X5_termReward at h
  refine x_aload_n 0 g dX5_termReward_0 rfl rfl ?_
  obtain ⟨q_1, h⟩ := gd_e h
  obtain ⟨b_2, e_3, h⟩ := gb_e h
  refine x_getr g dX5_termReward_1 gXX5 0 5 rfl (by decide) rfl lf_X5_12 q_1 e_3 ?_
  refine x_iload_n 1 g dX5_termReward_4 rfl rfl ?_
  obtain ⟨q_4, h⟩ := gd_e h
  rcases gbx1_e h with ⟨E_8, q_5, h⟩ | ⟨r_6, q_5, h⟩
  · cases h
  refine x_cV [.ref r_6] g (k_X1_umbrellaAt q_5) ca_X1_umbrellaAt in_X1_umbrellaAt se_X1_umbrellaAt lm_X5_81 gXX1 q_4 (Nat.le_of_ble_eq_true rfl) rfl rfl (Nat.le_of_ble_eq_true rfl) dX5_termReward_5 rfl ?_
  obtain ⟨q_7, h⟩ := gd_e h
  refine x_geti g dX5_termReward_8 gXX4 9 15 rfl (by decide) rfl lf_X5_197 q_7 ?_
  cases h
  exact x_iretS g e dX5_termReward_11 rfl rfl
set_option maxRecDepth 100000 in
set_option maxHeartbeats 4000000 in
theorem t_X5_termReward {ad : Nat → Nat} {G : gG} {a0 : Nat} {a1 : Int32} {S : gS} {T : gT} {E : String} (h : f_X5_termReward G a0 a1 S = some (.inl E)) : Cx ad yX5_termReward (Cond.code yX5_termReward cX5_termReward 2 (some .int) :: gTb) 7 [.ref a0, .int a1] G S T E S T := by
  refine Cx.ofB rfl (Nat.le_of_ble_eq_true rfl) rfl (fun K g e hK => ?_)
  obtain ⟨rfl, -⟩ := hK
  show Xj K [] G 0 [some (.ref a0), some (.int a1)] [] S T 1 6
  unfold f_X5_termReward at h
  refine x_aload_n 0 g dX5_termReward_0 rfl rfl ?_
  obtain ⟨q_1, h⟩ := gd_e h
  obtain ⟨b_2, e_3, h⟩ := gb_e h
  refine x_getr g dX5_termReward_1 gXX5 0 5 rfl (by decide) rfl lf_X5_12 q_1 e_3 ?_
  refine x_iload_n 1 g dX5_termReward_4 rfl rfl ?_
  obtain ⟨q_4, h⟩ := gd_e h
  rcases gbx1_e h with ⟨E_8, q_5, h⟩ | ⟨r_6, q_5, h⟩
  · cases h
    exact x_tV g e (t_X1_umbrellaAt q_5) ca_X1_umbrellaAt in_X1_umbrellaAt se_X1_umbrellaAt lm_X5_81 gXX1 q_4 (Nat.le_of_ble_eq_true rfl) rfl rfl (Nat.le_of_ble_eq_true rfl) dX5_termReward_5
  refine x_cV [.ref r_6] g (k_X1_umbrellaAt q_5) ca_X1_umbrellaAt in_X1_umbrellaAt se_X1_umbrellaAt lm_X5_81 gXX1 q_4 (Nat.le_of_ble_eq_true rfl) rfl rfl (Nat.le_of_ble_eq_true rfl) dX5_termReward_5 rfl ?_
  obtain ⟨q_7, h⟩ := gd_e h
  refine x_geti g dX5_termReward_8 gXX4 9 15 rfl (by decide) rfl lf_X5_197 q_7 ?_
  cases h
noncomputable def f_X5_stars (G : gG) (a0 : Nat) (a1 : Int32) (S : gS) : Option (String ⊕ Int32) := gd (gis G 2 a0) <| gb (gP S 5 a0) fun (b_2 : Nat) => gd (gis G 0 b_2) <| gbx1 (f_X1_umbrellaAt G b_2 a1 S) (fun (E_8 : String) => some (.inl E_8)) fun (r_6 : Nat) => gd (gis G 1 r_6) <| some (.inr (gI S 16 r_6))
set_option maxRecDepth 100000 in
set_option maxHeartbeats 4000000 in
theorem k_X5_stars {ad : Nat → Nat} {G : gG} {a0 : Nat} {a1 : Int32} {S : gS} {T : gT} {r : Int32} (h : f_X5_stars G a0 a1 S = some (.inr r)) : Ct ad yX5_stars (Cond.code yX5_stars cX5_stars 2 (some .int) :: gTb) 1 0 0 [.ref a0, .int a1] G S T (some (.int r)) G S T := by
  refine Ct.ofB rfl (Nat.le_of_ble_eq_true rfl) rfl (fun K g e hK => ?_)
  obtain ⟨rfl, -⟩ := hK
  show Xj K [] G 0 [some (.ref a0), some (.int a1)] [] S T 0 0
  unfold f_X5_stars at h
  refine x_aload_n 0 g dX5_stars_0 rfl rfl ?_
  obtain ⟨q_1, h⟩ := gd_e h
  obtain ⟨b_2, e_3, h⟩ := gb_e h
  refine x_getr g dX5_stars_1 gXX5 0 5 rfl (by decide) rfl lf_X5_12 q_1 e_3 ?_
  refine x_iload_n 1 g dX5_stars_4 rfl rfl ?_
  obtain ⟨q_4, h⟩ := gd_e h
  rcases gbx1_e h with ⟨E_8, q_5, h⟩ | ⟨r_6, q_5, h⟩
  · cases h
  refine x_cV [.ref r_6] g (k_X1_umbrellaAt q_5) ca_X1_umbrellaAt in_X1_umbrellaAt se_X1_umbrellaAt lm_X5_81 gXX1 q_4 (Nat.le_of_ble_eq_true rfl) rfl rfl (Nat.le_of_ble_eq_true rfl) dX5_stars_5 rfl ?_
  obtain ⟨q_7, h⟩ := gd_e h
  refine x_geti g dX5_stars_8 gXX4 10 16 rfl (by decide) rfl lf_X5_200 q_7 ?_
  cases h
  exact x_iretS g e dX5_stars_11 rfl rfl
set_option maxRecDepth 100000 in
set_option maxHeartbeats 4000000 in
theorem t_X5_stars {ad : Nat → Nat} {G : gG} {a0 : Nat} {a1 : Int32} {S : gS} {T : gT} {E : String} (h : f_X5_stars G a0 a1 S = some (.inl E)) : Cx ad yX5_stars (Cond.code yX5_stars cX5_stars 2 (some .int) :: gTb) 7 [.ref a0, .int a1] G S T E S T := by
  refine Cx.ofB rfl (Nat.le_of_ble_eq_true rfl) rfl (fun K g e hK => ?_)
  obtain ⟨rfl, -⟩ := hK
  show Xj K [] G 0 [some (.ref a0), some (.int a1)] [] S T 1 6
  unfold f_X5_stars at h
  refine x_aload_n 0 g dX5_stars_0 rfl rfl ?_
  obtain ⟨q_1, h⟩ := gd_e h
  obtain ⟨b_2, e_3, h⟩ := gb_e h
  refine x_getr g dX5_stars_1 gXX5 0 5 rfl (by decide) rfl lf_X5_12 q_1 e_3 ?_
  refine x_iload_n 1 g dX5_stars_4 rfl rfl ?_
  obtain ⟨q_4, h⟩ := gd_e h
  rcases gbx1_e h with ⟨E_8, q_5, h⟩ | ⟨r_6, q_5, h⟩
  · cases h
    exact x_tV g e (t_X1_umbrellaAt q_5) ca_X1_umbrellaAt in_X1_umbrellaAt se_X1_umbrellaAt lm_X5_81 gXX1 q_4 (Nat.le_of_ble_eq_true rfl) rfl rfl (Nat.le_of_ble_eq_true rfl) dX5_stars_5
  refine x_cV [.ref r_6] g (k_X1_umbrellaAt q_5) ca_X1_umbrellaAt in_X1_umbrellaAt se_X1_umbrellaAt lm_X5_81 gXX1 q_4 (Nat.le_of_ble_eq_true rfl) rfl rfl (Nat.le_of_ble_eq_true rfl) dX5_stars_5 rfl ?_
  obtain ⟨q_7, h⟩ := gd_e h
  refine x_geti g dX5_stars_8 gXX4 10 16 rfl (by decide) rfl lf_X5_200 q_7 ?_
  cases h
noncomputable def f_X5_umbrellaByStars (G : gG) (a0 : Nat) (a1 : Int32) (S : gS) : Option (String ⊕ Int32) := gd (gis G 2 a0) <| gb (gP S 5 a0) fun (b_2 : Nat) => gd (gis G 0 b_2) <| gb (f_X1_umbrellaAtRank G b_2 a1 S) fun (r_6 : Int32) => if r_6 = (-1) then (some (.inl "java/util/NoSuchElementException")) else (some (.inr r_6))
set_option maxRecDepth 100000 in
set_option maxHeartbeats 4000000 in
theorem k_X5_umbrellaByStars {ad : Nat → Nat} {G : gG} {a0 : Nat} {a1 : Int32} {S : gS} {T : gT} {r : Int32} (h : f_X5_umbrellaByStars G a0 a1 S = some (.inr r)) : Ct ad yX5_umbrellaByStars (Cond.code yX5_umbrellaByStars cX5_umbrellaByStars 3 (some .int) :: gTb) 3 0 0 [.ref a0, .int a1] G S T (some (.int r)) G S T := by
  refine Ct.ofB rfl (Nat.le_of_ble_eq_true rfl) rfl (fun K g e hK => ?_)
  obtain ⟨rfl, -⟩ := hK
  show Xj K [] G 0 [some (.ref a0), some (.int a1), none] [] S T 0 0
  unfold f_X5_umbrellaByStars at h
  refine x_aload_n 0 g dX5_umbrellaByStars_0 rfl rfl ?_
  obtain ⟨q_1, h⟩ := gd_e h
  obtain ⟨b_2, e_3, h⟩ := gb_e h
  refine x_getr g dX5_umbrellaByStars_1 gXX5 0 5 rfl (by decide) rfl lf_X5_12 q_1 e_3 ?_
  refine x_iload_n 1 g dX5_umbrellaByStars_4 rfl rfl ?_
  obtain ⟨q_4, h⟩ := gd_e h
  obtain ⟨r_6, q_5, h⟩ := gb_e h
  refine x_cV [.int r_6] g (k_X1_umbrellaAtRank q_5) ca_X1_umbrellaAtRank in_X1_umbrellaAtRank se_X1_umbrellaAtRank lm_X5_203 gXX1 q_4 (Nat.le_of_ble_eq_true rfl) rfl rfl (Nat.le_of_ble_eq_true rfl) dX5_umbrellaByStars_5 rfl ?_
  refine x_istore_n 2 g dX5_umbrellaByStars_8 rfl (Nat.le_of_ble_eq_true rfl) rfl ?_
  refine x_iload_n 2 g dX5_umbrellaByStars_9 rfl rfl ?_
  refine x_iconst (v := (-1)) g dX5_umbrellaByStars_10 (by decide) ?_
  refine x_icmp_ne 24 g dX5_umbrellaByStars_11 (by decide) (fun c_7 => ?_) (fun c_7 => ?_)
  · have h := ite_f c_7 h
    refine x_iload_n 2 g dX5_umbrellaByStars_24 rfl rfl ?_
    cases h
    exact x_iretS g e dX5_umbrellaByStars_25 rfl rfl
  · have h := ite_t c_7 h
    cases h
set_option maxRecDepth 100000 in
set_option maxHeartbeats 4000000 in
theorem t_X5_umbrellaByStars {ad : Nat → Nat} {G : gG} {a0 : Nat} {a1 : Int32} {S : gS} {T : gT} {E : String} (h : f_X5_umbrellaByStars G a0 a1 S = some (.inl E)) : Cx ad yX5_umbrellaByStars (Cond.code yX5_umbrellaByStars cX5_umbrellaByStars 3 (some .int) :: gTb) 6 [.ref a0, .int a1] G S T E S T := by
  refine Cx.ofB rfl (Nat.le_of_ble_eq_true rfl) rfl (fun K g e hK => ?_)
  obtain ⟨rfl, -⟩ := hK
  show Xj K [] G 0 [some (.ref a0), some (.int a1), none] [] S T 1 6
  unfold f_X5_umbrellaByStars at h
  refine x_aload_n 0 g dX5_umbrellaByStars_0 rfl rfl ?_
  obtain ⟨q_1, h⟩ := gd_e h
  obtain ⟨b_2, e_3, h⟩ := gb_e h
  refine x_getr g dX5_umbrellaByStars_1 gXX5 0 5 rfl (by decide) rfl lf_X5_12 q_1 e_3 ?_
  refine x_iload_n 1 g dX5_umbrellaByStars_4 rfl rfl ?_
  obtain ⟨q_4, h⟩ := gd_e h
  obtain ⟨r_6, q_5, h⟩ := gb_e h
  refine x_cV [.int r_6] g (k_X1_umbrellaAtRank q_5) ca_X1_umbrellaAtRank in_X1_umbrellaAtRank se_X1_umbrellaAtRank lm_X5_203 gXX1 q_4 (Nat.le_of_ble_eq_true rfl) rfl rfl (Nat.le_of_ble_eq_true rfl) dX5_umbrellaByStars_5 rfl ?_
  refine x_istore_n 2 g dX5_umbrellaByStars_8 rfl (Nat.le_of_ble_eq_true rfl) rfl ?_
  refine x_iload_n 2 g dX5_umbrellaByStars_9 rfl rfl ?_
  refine x_iconst (v := (-1)) g dX5_umbrellaByStars_10 (by decide) ?_
  refine x_icmp_ne 24 g dX5_umbrellaByStars_11 (by decide) (fun c_7 => ?_) (fun c_7 => ?_)
  · have h := ite_f c_7 h
    refine x_iload_n 2 g dX5_umbrellaByStars_24 rfl rfl ?_
    cases h
  · have h := ite_t c_7 h
    cases h
    exact x_throwN "there is no such rank" g e (by decide +kernel) (by decide +kernel) xnm_ok1 cl_X5_157 ci_NoSuchElementException (by decide +kernel) xat_X5_161 dX5_umbrellaByStars_14 dX5_umbrellaByStars_17 dX5_umbrellaByStars_18 dX5_umbrellaByStars_20 dX5_umbrellaByStars_23 (by decide) (by decide) (Nat.le_of_ble_eq_true rfl) rfl rfl
noncomputable def f_X5_wetPenalty (G : gG) (a0 : Nat) (S : gS) : Option Int32 := gd (gis G 2 a0) <| gb (gP S 5 a0) fun (b_2 : Nat) => gd (gis G 0 b_2) <| some (gI S 1 b_2)
set_option maxRecDepth 100000 in
set_option maxHeartbeats 4000000 in
theorem k_X5_wetPenalty {ad : Nat → Nat} {G : gG} {a0 : Nat} {S : gS} {T : gT} {r : Int32} (h : f_X5_wetPenalty G a0 S = some r) : Ct ad yX5_wetPenalty (Cond.code yX5_wetPenalty cX5_wetPenalty 1 (some .int) :: gTb) 0 0 0 [.ref a0] G S T (some (.int r)) G S T := by
  refine Ct.ofB rfl (Nat.le_of_ble_eq_true rfl) rfl (fun K g e hK => ?_)
  obtain ⟨rfl, -⟩ := hK
  show Xj K [] G 0 [some (.ref a0)] [] S T 0 0
  unfold f_X5_wetPenalty at h
  refine x_aload_n 0 g dX5_wetPenalty_0 rfl rfl ?_
  obtain ⟨q_1, h⟩ := gd_e h
  obtain ⟨b_2, e_3, h⟩ := gb_e h
  refine x_getr g dX5_wetPenalty_1 gXX5 0 5 rfl (by decide) rfl lf_X5_12 q_1 e_3 ?_
  obtain ⟨q_4, h⟩ := gd_e h
  refine x_geti g dX5_wetPenalty_4 gXX1 2 1 rfl (by decide) rfl lf_X5_208 q_4 ?_
  cases h
  exact x_iretS g e dX5_wetPenalty_7 rfl rfl
noncomputable def f_X5_galePenalty (G : gG) (a0 : Nat) (S : gS) : Option Int32 := gd (gis G 2 a0) <| gb (gP S 5 a0) fun (b_2 : Nat) => gd (gis G 0 b_2) <| some (gI S 2 b_2)
set_option maxRecDepth 100000 in
set_option maxHeartbeats 4000000 in
theorem k_X5_galePenalty {ad : Nat → Nat} {G : gG} {a0 : Nat} {S : gS} {T : gT} {r : Int32} (h : f_X5_galePenalty G a0 S = some r) : Ct ad yX5_galePenalty (Cond.code yX5_galePenalty cX5_galePenalty 1 (some .int) :: gTb) 0 0 0 [.ref a0] G S T (some (.int r)) G S T := by
  refine Ct.ofB rfl (Nat.le_of_ble_eq_true rfl) rfl (fun K g e hK => ?_)
  obtain ⟨rfl, -⟩ := hK
  show Xj K [] G 0 [some (.ref a0)] [] S T 0 0
  unfold f_X5_galePenalty at h
  refine x_aload_n 0 g dX5_galePenalty_0 rfl rfl ?_
  obtain ⟨q_1, h⟩ := gd_e h
  obtain ⟨b_2, e_3, h⟩ := gb_e h
  refine x_getr g dX5_galePenalty_1 gXX5 0 5 rfl (by decide) rfl lf_X5_12 q_1 e_3 ?_
  obtain ⟨q_4, h⟩ := gd_e h
  refine x_geti g dX5_galePenalty_4 gXX1 3 2 rfl (by decide) rfl lf_X5_211 q_4 ?_
  cases h
  exact x_iretS g e dX5_galePenalty_7 rfl rfl
noncomputable def f_X5_term (G : gG) (a0 : Nat) (S : gS) : Option Int32 := gd (gis G 2 a0) <| gb (gP S 5 a0) fun (b_2 : Nat) => gd (gis G 0 b_2) <| some (gI S 3 b_2)
set_option maxRecDepth 100000 in
set_option maxHeartbeats 4000000 in
theorem k_X5_term {ad : Nat → Nat} {G : gG} {a0 : Nat} {S : gS} {T : gT} {r : Int32} (h : f_X5_term G a0 S = some r) : Ct ad yX5_term (Cond.code yX5_term cX5_term 1 (some .int) :: gTb) 0 0 0 [.ref a0] G S T (some (.int r)) G S T := by
  refine Ct.ofB rfl (Nat.le_of_ble_eq_true rfl) rfl (fun K g e hK => ?_)
  obtain ⟨rfl, -⟩ := hK
  show Xj K [] G 0 [some (.ref a0)] [] S T 0 0
  unfold f_X5_term at h
  refine x_aload_n 0 g dX5_term_0 rfl rfl ?_
  obtain ⟨q_1, h⟩ := gd_e h
  obtain ⟨b_2, e_3, h⟩ := gb_e h
  refine x_getr g dX5_term_1 gXX5 0 5 rfl (by decide) rfl lf_X5_12 q_1 e_3 ?_
  obtain ⟨q_4, h⟩ := gd_e h
  refine x_geti g dX5_term_4 gXX1 4 3 rfl (by decide) rfl lf_X5_214 q_4 ?_
  cases h
  exact x_iretS g e dX5_term_7 rfl rfl
noncomputable def f_X5_schoolReward (G : gG) (a0 : Nat) (S : gS) : Option Int32 := gd (gis G 2 a0) <| gb (gP S 5 a0) fun (b_2 : Nat) => gd (gis G 0 b_2) <| gb (f_X1_rewardByUmbrellas G b_2 S) fun (r_6 : Int32) => some r_6
set_option maxRecDepth 100000 in
set_option maxHeartbeats 4000000 in
theorem k_X5_schoolReward {ad : Nat → Nat} {G : gG} {a0 : Nat} {S : gS} {T : gT} {r : Int32} (h : f_X5_schoolReward G a0 S = some r) : Ct ad yX5_schoolReward (Cond.code yX5_schoolReward cX5_schoolReward 1 (some .int) :: gTb) 2 0 0 [.ref a0] G S T (some (.int r)) G S T := by
  refine Ct.ofB rfl (Nat.le_of_ble_eq_true rfl) rfl (fun K g e hK => ?_)
  obtain ⟨rfl, -⟩ := hK
  show Xj K [] G 0 [some (.ref a0)] [] S T 0 0
  unfold f_X5_schoolReward at h
  refine x_aload_n 0 g dX5_schoolReward_0 rfl rfl ?_
  obtain ⟨q_1, h⟩ := gd_e h
  obtain ⟨b_2, e_3, h⟩ := gb_e h
  refine x_getr g dX5_schoolReward_1 gXX5 0 5 rfl (by decide) rfl lf_X5_12 q_1 e_3 ?_
  obtain ⟨q_4, h⟩ := gd_e h
  obtain ⟨r_6, q_5, h⟩ := gb_e h
  refine x_cV [.int r_6] g (k_X1_rewardByUmbrellas q_5) ca_X1_rewardByUmbrellas in_X1_rewardByUmbrellas se_X1_rewardByUmbrellas lm_X5_217 gXX1 q_4 (Nat.le_of_ble_eq_true rfl) rfl rfl (Nat.le_of_ble_eq_true rfl) dX5_schoolReward_4 rfl ?_
  cases h
  exact x_iretS g e dX5_schoolReward_7 rfl rfl
noncomputable def f_X5_schoolRewardByActions (G : gG) (a0 : Nat) (S : gS) : Option Int32 := gd (gis G 2 a0) <| gb (gP S 5 a0) fun (b_2 : Nat) => gd (gis G 0 b_2) <| gb (f_X1_rewardByActions G b_2 S) fun (r_6 : Int32) => some r_6
set_option maxRecDepth 100000 in
set_option maxHeartbeats 4000000 in
theorem k_X5_schoolRewardByActions {ad : Nat → Nat} {G : gG} {a0 : Nat} {S : gS} {T : gT} {r : Int32} (h : f_X5_schoolRewardByActions G a0 S = some r) : Ct ad yX5_schoolRewardByActions (Cond.code yX5_schoolRewardByActions cX5_schoolRewardByActions 1 (some .int) :: gTb) 1 0 0 [.ref a0] G S T (some (.int r)) G S T := by
  refine Ct.ofB rfl (Nat.le_of_ble_eq_true rfl) rfl (fun K g e hK => ?_)
  obtain ⟨rfl, -⟩ := hK
  show Xj K [] G 0 [some (.ref a0)] [] S T 0 0
  unfold f_X5_schoolRewardByActions at h
  refine x_aload_n 0 g dX5_schoolRewardByActions_0 rfl rfl ?_
  obtain ⟨q_1, h⟩ := gd_e h
  obtain ⟨b_2, e_3, h⟩ := gb_e h
  refine x_getr g dX5_schoolRewardByActions_1 gXX5 0 5 rfl (by decide) rfl lf_X5_12 q_1 e_3 ?_
  obtain ⟨q_4, h⟩ := gd_e h
  obtain ⟨r_6, q_5, h⟩ := gb_e h
  refine x_cV [.int r_6] g (k_X1_rewardByActions q_5) ca_X1_rewardByActions in_X1_rewardByActions se_X1_rewardByActions lm_X5_220 gXX1 q_4 (Nat.le_of_ble_eq_true rfl) rfl rfl (Nat.le_of_ble_eq_true rfl) dX5_schoolRewardByActions_4 rfl ?_
  cases h
  exact x_iretS g e dX5_schoolRewardByActions_7 rfl rfl
noncomputable def f_X5_meanSchoolReward (G : gG) (a0 : Nat) (S : gS) : Option (String ⊕ UInt64) := gd (gis G 2 a0) <| gb (gP S 5 a0) fun (b_2 : Nat) => gd (gis G 0 b_2) <| gb (f_X1_countTrials G b_2 S) fun (r_6 : Int32) => if r_6 = 0 then (some (.inl "java/lang/ArithmeticException")) else (gb (gP S 5 a0) fun (b_8 : Nat) => gd (gis G 0 b_8) <| gb (f_X1_rewardByUmbrellas G b_8 S) fun (r_12 : Int32) => gd (vf_n64 (FP.ddiv (FP.i2d r_12) (FP.i2d r_6))) <| some (.inr (FP.ddiv (FP.i2d r_12) (FP.i2d r_6))))
set_option maxRecDepth 100000 in
set_option maxHeartbeats 4000000 in
theorem k_X5_meanSchoolReward {ad : Nat → Nat} {G : gG} {a0 : Nat} {S : gS} {T : gT} {r : UInt64} (h : f_X5_meanSchoolReward G a0 S = some (.inr r)) : Ct ad yX5_meanSchoolReward (Cond.code yX5_meanSchoolReward cX5_meanSchoolReward 2 (some .double) :: gTb) 2 0 0 [.ref a0] G S T (some (.double r)) G S T := by
  refine Ct.ofB rfl (Nat.le_of_ble_eq_true rfl) rfl (fun K g e hK => ?_)
  obtain ⟨rfl, -⟩ := hK
  show Xj K [] G 0 [some (.ref a0), none] [] S T 0 0
  unfold f_X5_meanSchoolReward at h
  refine x_aload_n 0 g dX5_meanSchoolReward_0 rfl rfl ?_
  obtain ⟨q_1, h⟩ := gd_e h
  obtain ⟨b_2, e_3, h⟩ := gb_e h
  refine x_getr g dX5_meanSchoolReward_1 gXX5 0 5 rfl (by decide) rfl lf_X5_12 q_1 e_3 ?_
  obtain ⟨q_4, h⟩ := gd_e h
  obtain ⟨r_6, q_5, h⟩ := gb_e h
  refine x_cV [.int r_6] g (k_X1_countTrials q_5) ca_X1_countTrials in_X1_countTrials se_X1_countTrials lm_X5_223 gXX1 q_4 (Nat.le_of_ble_eq_true rfl) rfl rfl (Nat.le_of_ble_eq_true rfl) dX5_meanSchoolReward_4 rfl ?_
  refine x_istore_n 1 g dX5_meanSchoolReward_7 rfl (Nat.le_of_ble_eq_true rfl) rfl ?_
  refine x_iload_n 1 g dX5_meanSchoolReward_8 rfl rfl ?_
  refine x_if_ne 22 g dX5_meanSchoolReward_9 (by decide) (fun c_7 => ?_) (fun c_7 => ?_)
  · have h := ite_f c_7 h
    refine x_aload_n 0 g dX5_meanSchoolReward_22 rfl rfl ?_
    obtain ⟨b_8, e_9, h⟩ := gb_e h
    refine x_getr g dX5_meanSchoolReward_23 gXX5 0 5 rfl (by decide) rfl lf_X5_12 q_1 e_9 ?_
    obtain ⟨q_10, h⟩ := gd_e h
    obtain ⟨r_12, q_11, h⟩ := gb_e h
    refine x_cV [.int r_12] g (k_X1_rewardByUmbrellas q_11) ca_X1_rewardByUmbrellas in_X1_rewardByUmbrellas se_X1_rewardByUmbrellas lm_X5_217 gXX1 q_10 (Nat.le_of_ble_eq_true rfl) rfl rfl (Nat.le_of_ble_eq_true rfl) dX5_meanSchoolReward_26 rfl ?_
    refine x_i2d g dX5_meanSchoolReward_29 ?_
    refine x_iload_n 1 g dX5_meanSchoolReward_30 rfl rfl ?_
    refine x_i2d g dX5_meanSchoolReward_31 ?_
    obtain ⟨q_13, h⟩ := gd_e h
    refine x_ddiv g dX5_meanSchoolReward_32 q_13 ?_
    cases h
    exact x_dret g e dX5_meanSchoolReward_33 rfl rfl
  · have h := ite_t c_7 h
    cases h
set_option maxRecDepth 100000 in
set_option maxHeartbeats 4000000 in
theorem t_X5_meanSchoolReward {ad : Nat → Nat} {G : gG} {a0 : Nat} {S : gS} {T : gT} {E : String} (h : f_X5_meanSchoolReward G a0 S = some (.inl E)) : Cx ad yX5_meanSchoolReward (Cond.code yX5_meanSchoolReward cX5_meanSchoolReward 2 (some .double) :: gTb) 6 [.ref a0] G S T E S T := by
  refine Cx.ofB rfl (Nat.le_of_ble_eq_true rfl) rfl (fun K g e hK => ?_)
  obtain ⟨rfl, -⟩ := hK
  show Xj K [] G 0 [some (.ref a0), none] [] S T 1 6
  unfold f_X5_meanSchoolReward at h
  refine x_aload_n 0 g dX5_meanSchoolReward_0 rfl rfl ?_
  obtain ⟨q_1, h⟩ := gd_e h
  obtain ⟨b_2, e_3, h⟩ := gb_e h
  refine x_getr g dX5_meanSchoolReward_1 gXX5 0 5 rfl (by decide) rfl lf_X5_12 q_1 e_3 ?_
  obtain ⟨q_4, h⟩ := gd_e h
  obtain ⟨r_6, q_5, h⟩ := gb_e h
  refine x_cV [.int r_6] g (k_X1_countTrials q_5) ca_X1_countTrials in_X1_countTrials se_X1_countTrials lm_X5_223 gXX1 q_4 (Nat.le_of_ble_eq_true rfl) rfl rfl (Nat.le_of_ble_eq_true rfl) dX5_meanSchoolReward_4 rfl ?_
  refine x_istore_n 1 g dX5_meanSchoolReward_7 rfl (Nat.le_of_ble_eq_true rfl) rfl ?_
  refine x_iload_n 1 g dX5_meanSchoolReward_8 rfl rfl ?_
  refine x_if_ne 22 g dX5_meanSchoolReward_9 (by decide) (fun c_7 => ?_) (fun c_7 => ?_)
  · have h := ite_f c_7 h
    refine x_aload_n 0 g dX5_meanSchoolReward_22 rfl rfl ?_
    obtain ⟨b_8, e_9, h⟩ := gb_e h
    refine x_getr g dX5_meanSchoolReward_23 gXX5 0 5 rfl (by decide) rfl lf_X5_12 q_1 e_9 ?_
    obtain ⟨q_10, h⟩ := gd_e h
    obtain ⟨r_12, q_11, h⟩ := gb_e h
    refine x_cV [.int r_12] g (k_X1_rewardByUmbrellas q_11) ca_X1_rewardByUmbrellas in_X1_rewardByUmbrellas se_X1_rewardByUmbrellas lm_X5_217 gXX1 q_10 (Nat.le_of_ble_eq_true rfl) rfl rfl (Nat.le_of_ble_eq_true rfl) dX5_meanSchoolReward_26 rfl ?_
    refine x_i2d g dX5_meanSchoolReward_29 ?_
    refine x_iload_n 1 g dX5_meanSchoolReward_30 rfl rfl ?_
    refine x_i2d g dX5_meanSchoolReward_31 ?_
    obtain ⟨q_13, h⟩ := gd_e h
    refine x_ddiv g dX5_meanSchoolReward_32 q_13 ?_
    cases h
  · have h := ite_t c_7 h
    cases h
    exact x_throw "there was no trial" g e (by decide +kernel) xnm_ok cl_X5_226 ci_ArithmeticException (by decide +kernel) xat_X5_230 dX5_meanSchoolReward_12 dX5_meanSchoolReward_15 dX5_meanSchoolReward_16 dX5_meanSchoolReward_18 dX5_meanSchoolReward_21 (by decide) (by decide) (Nat.le_of_ble_eq_true rfl) rfl rfl
noncomputable def f_X5_openShare (G : gG) (a0 : Nat) (S : gS) : Option (String ⊕ UInt32) := gd (gis G 2 a0) <| gb (gP S 5 a0) fun (b_2 : Nat) => gd (gis G 0 b_2) <| gb (f_X1_countTrials G b_2 S) fun (r_6 : Int32) => if r_6 = 0 then (some (.inl "java/lang/ArithmeticException")) else (gb (gP S 5 a0) fun (b_8 : Nat) => gd (gis G 0 b_8) <| gd (vf_n32 (FP.fdiv (FP.i2f (gI S 4 b_8)) (FP.i2f r_6))) <| some (.inr (FP.fdiv (FP.i2f (gI S 4 b_8)) (FP.i2f r_6))))
set_option maxRecDepth 100000 in
set_option maxHeartbeats 4000000 in
theorem k_X5_openShare {ad : Nat → Nat} {G : gG} {a0 : Nat} {S : gS} {T : gT} {r : UInt32} (h : f_X5_openShare G a0 S = some (.inr r)) : Ct ad yX5_openShare (Cond.code yX5_openShare cX5_openShare 2 (some .float) :: gTb) 2 0 0 [.ref a0] G S T (some (.float r)) G S T := by
  refine Ct.ofB rfl (Nat.le_of_ble_eq_true rfl) rfl (fun K g e hK => ?_)
  obtain ⟨rfl, -⟩ := hK
  show Xj K [] G 0 [some (.ref a0), none] [] S T 0 0
  unfold f_X5_openShare at h
  refine x_aload_n 0 g dX5_openShare_0 rfl rfl ?_
  obtain ⟨q_1, h⟩ := gd_e h
  obtain ⟨b_2, e_3, h⟩ := gb_e h
  refine x_getr g dX5_openShare_1 gXX5 0 5 rfl (by decide) rfl lf_X5_12 q_1 e_3 ?_
  obtain ⟨q_4, h⟩ := gd_e h
  obtain ⟨r_6, q_5, h⟩ := gb_e h
  refine x_cV [.int r_6] g (k_X1_countTrials q_5) ca_X1_countTrials in_X1_countTrials se_X1_countTrials lm_X5_223 gXX1 q_4 (Nat.le_of_ble_eq_true rfl) rfl rfl (Nat.le_of_ble_eq_true rfl) dX5_openShare_4 rfl ?_
  refine x_istore_n 1 g dX5_openShare_7 rfl (Nat.le_of_ble_eq_true rfl) rfl ?_
  refine x_iload_n 1 g dX5_openShare_8 rfl rfl ?_
  refine x_if_ne 22 g dX5_openShare_9 (by decide) (fun c_7 => ?_) (fun c_7 => ?_)
  · have h := ite_f c_7 h
    refine x_aload_n 0 g dX5_openShare_22 rfl rfl ?_
    obtain ⟨b_8, e_9, h⟩ := gb_e h
    refine x_getr g dX5_openShare_23 gXX5 0 5 rfl (by decide) rfl lf_X5_12 q_1 e_9 ?_
    obtain ⟨q_10, h⟩ := gd_e h
    refine x_geti g dX5_openShare_26 gXX1 5 4 rfl (by decide) rfl lf_X5_231 q_10 ?_
    refine x_i2f g dX5_openShare_29 ?_
    refine x_iload_n 1 g dX5_openShare_30 rfl rfl ?_
    refine x_i2f g dX5_openShare_31 ?_
    obtain ⟨q_11, h⟩ := gd_e h
    refine x_fdiv g dX5_openShare_32 q_11 ?_
    cases h
    exact x_fret g e dX5_openShare_33 rfl rfl
  · have h := ite_t c_7 h
    cases h
set_option maxRecDepth 100000 in
set_option maxHeartbeats 4000000 in
theorem t_X5_openShare {ad : Nat → Nat} {G : gG} {a0 : Nat} {S : gS} {T : gT} {E : String} (h : f_X5_openShare G a0 S = some (.inl E)) : Cx ad yX5_openShare (Cond.code yX5_openShare cX5_openShare 2 (some .float) :: gTb) 6 [.ref a0] G S T E S T := by
  refine Cx.ofB rfl (Nat.le_of_ble_eq_true rfl) rfl (fun K g e hK => ?_)
  obtain ⟨rfl, -⟩ := hK
  show Xj K [] G 0 [some (.ref a0), none] [] S T 1 6
  unfold f_X5_openShare at h
  refine x_aload_n 0 g dX5_openShare_0 rfl rfl ?_
  obtain ⟨q_1, h⟩ := gd_e h
  obtain ⟨b_2, e_3, h⟩ := gb_e h
  refine x_getr g dX5_openShare_1 gXX5 0 5 rfl (by decide) rfl lf_X5_12 q_1 e_3 ?_
  obtain ⟨q_4, h⟩ := gd_e h
  obtain ⟨r_6, q_5, h⟩ := gb_e h
  refine x_cV [.int r_6] g (k_X1_countTrials q_5) ca_X1_countTrials in_X1_countTrials se_X1_countTrials lm_X5_223 gXX1 q_4 (Nat.le_of_ble_eq_true rfl) rfl rfl (Nat.le_of_ble_eq_true rfl) dX5_openShare_4 rfl ?_
  refine x_istore_n 1 g dX5_openShare_7 rfl (Nat.le_of_ble_eq_true rfl) rfl ?_
  refine x_iload_n 1 g dX5_openShare_8 rfl rfl ?_
  refine x_if_ne 22 g dX5_openShare_9 (by decide) (fun c_7 => ?_) (fun c_7 => ?_)
  · have h := ite_f c_7 h
    refine x_aload_n 0 g dX5_openShare_22 rfl rfl ?_
    obtain ⟨b_8, e_9, h⟩ := gb_e h
    refine x_getr g dX5_openShare_23 gXX5 0 5 rfl (by decide) rfl lf_X5_12 q_1 e_9 ?_
    obtain ⟨q_10, h⟩ := gd_e h
    refine x_geti g dX5_openShare_26 gXX1 5 4 rfl (by decide) rfl lf_X5_231 q_10 ?_
    refine x_i2f g dX5_openShare_29 ?_
    refine x_iload_n 1 g dX5_openShare_30 rfl rfl ?_
    refine x_i2f g dX5_openShare_31 ?_
    obtain ⟨q_11, h⟩ := gd_e h
    refine x_fdiv g dX5_openShare_32 q_11 ?_
    cases h
  · have h := ite_t c_7 h
    cases h
    exact x_throw "there was no trial" g e (by decide +kernel) xnm_ok cl_X5_226 ci_ArithmeticException (by decide +kernel) xat_X5_230 dX5_openShare_12 dX5_openShare_15 dX5_openShare_16 dX5_openShare_18 dX5_openShare_21 (by decide) (by decide) (Nat.le_of_ble_eq_true rfl) rfl rfl
noncomputable def f_X5_isConsistent (G : gG) (a0 : Nat) (S : gS) : Option Bool := gd (gis G 2 a0) <| gb (gP S 5 a0) fun (b_2 : Nat) => gd (gis G 0 b_2) <| gb (f_X1_agrees G b_2 S) fun (r_6 : Bool) => some r_6
set_option maxRecDepth 100000 in
set_option maxHeartbeats 4000000 in
theorem k_X5_isConsistent {ad : Nat → Nat} {G : gG} {a0 : Nat} {S : gS} {T : gT} {r : Bool} (h : f_X5_isConsistent G a0 S = some r) : Ct ad yX5_isConsistent (Cond.code yX5_isConsistent cX5_isConsistent 1 (some .boolean) :: gTb) 4 0 0 [.ref a0] G S T (some (.int (gz r))) G S T := by
  refine Ct.ofB rfl (Nat.le_of_ble_eq_true rfl) rfl (fun K g e hK => ?_)
  obtain ⟨rfl, -⟩ := hK
  show Xj K [] G 0 [some (.ref a0)] [] S T 0 0
  unfold f_X5_isConsistent at h
  refine x_aload_n 0 g dX5_isConsistent_0 rfl rfl ?_
  obtain ⟨q_1, h⟩ := gd_e h
  obtain ⟨b_2, e_3, h⟩ := gb_e h
  refine x_getr g dX5_isConsistent_1 gXX5 0 5 rfl (by decide) rfl lf_X5_12 q_1 e_3 ?_
  obtain ⟨q_4, h⟩ := gd_e h
  obtain ⟨r_6, q_5, h⟩ := gb_e h
  refine x_cV [.int (gz r_6)] g (k_X1_agrees q_5) ca_X1_agrees in_X1_agrees se_X1_agrees lm_X5_234 gXX1 q_4 (Nat.le_of_ble_eq_true rfl) rfl rfl (Nat.le_of_ble_eq_true rfl) dX5_isConsistent_4 rfl ?_
  cases h
  exact x_zretS g e dX5_isConsistent_7 rfl rfl rfl
noncomputable def f_X5_renderHabits_L19 (G : gG) (a0 : Nat) (a1 : Int32) : Nat → Nat → Int32 → gS → gT → Option ((String ⊕ Int32) × gS × gT)
  | 0, _, _, _, _ => none
  | n19 + 1, x2, x3, S, T => if 16 ≤ x3 then (gd (gis G 2 a0) <| gb (gP S 9 a0) fun (b_15 : Nat) => gb (tg T b_15) fun (t_17 : List Nat) => some (.inr (nI (List.length t_17)), S, T)) else (if x3 ≤ 0 then (gd (gis G 2 a0) <| gb (gP S 9 a0) fun (b_21 : Nat) => gd (gis G 1 x2) <| gb (f_X4_opensIn G x2 x3 S) fun (r_25 : Bool) => if (gz r_25) = 0 then (gb (tg T b_21) fun (t_27 : List Nat) => gd ((0 : Int32) ≤ 99 ∧ 99 ≤ (255 : Int32) ∧ gcap T b_21) <| gd (List.length (t_27 ++ [Int32.toNatClampNeg 99]) ≤ 70) <| glt (ts T b_21 (t_27 ++ [Int32.toNatClampNeg 99])) fun (T_31 : gT) => glt (x3 + 1) fun (x3_33 : Int32) => f_X5_renderHabits_L19 G a0 a1 n19 x2 x3_33 S T_31) else (gb (tg T b_21) fun (t_35 : List Nat) => gd ((0 : Int32) ≤ 111 ∧ 111 ≤ (255 : Int32) ∧ gcap T b_21) <| gd (List.length (t_35 ++ [Int32.toNatClampNeg 111]) ≤ 70) <| glt (ts T b_21 (t_35 ++ [Int32.toNatClampNeg 111])) fun (T_39 : gT) => glt (x3 + 1) fun (x3_41 : Int32) => f_X5_renderHabits_L19 G a0 a1 n19 x2 x3_41 S T_39)) else (gb (f_X5_windOfSituation x3) fun (r_44 : Int32) => if r_44 = 0 then (gd (gis G 2 a0) <| gb (gP S 9 a0) fun (b_70 : Nat) => gb (tg T b_70) fun (t_72 : List Nat) => gd ((0 : Int32) ≤ 47 ∧ 47 ≤ (255 : Int32) ∧ gcap T b_70) <| gd (List.length (t_72 ++ [Int32.toNatClampNeg 47]) ≤ 70) <| glt (ts T b_70 (t_72 ++ [Int32.toNatClampNeg 47])) fun (T_76 : gT) => gb (gP S 9 a0) fun (b_78 : Nat) => gd (gis G 1 x2) <| gb (f_X4_opensIn G x2 x3 S) fun (r_82 : Bool) => if (gz r_82) = 0 then (gb (tg T_76 b_78) fun (t_84 : List Nat) => gd ((0 : Int32) ≤ 99 ∧ 99 ≤ (255 : Int32) ∧ gcap T_76 b_78) <| gd (List.length (t_84 ++ [Int32.toNatClampNeg 99]) ≤ 70) <| glt (ts T_76 b_78 (t_84 ++ [Int32.toNatClampNeg 99])) fun (T_88 : gT) => glt (x3 + 1) fun (x3_90 : Int32) => f_X5_renderHabits_L19 G a0 a1 n19 x2 x3_90 S T_88) else (gb (tg T_76 b_78) fun (t_92 : List Nat) => gd ((0 : Int32) ≤ 111 ∧ 111 ≤ (255 : Int32) ∧ gcap T_76 b_78) <| gd (List.length (t_92 ++ [Int32.toNatClampNeg 111]) ≤ 70) <| glt (ts T_76 b_78 (t_92 ++ [Int32.toNatClampNeg 111])) fun (T_96 : gT) => glt (x3 + 1) fun (x3_98 : Int32) => f_X5_renderHabits_L19 G a0 a1 n19 x2 x3_98 S T_96)) else (gd (gis G 2 a0) <| gb (gP S 9 a0) fun (b_47 : Nat) => gd (gis G 1 x2) <| gb (f_X4_opensIn G x2 x3 S) fun (r_51 : Bool) => if (gz r_51) = 0 then (gb (tg T b_47) fun (t_53 : List Nat) => gd ((0 : Int32) ≤ 99 ∧ 99 ≤ (255 : Int32) ∧ gcap T b_47) <| gd (List.length (t_53 ++ [Int32.toNatClampNeg 99]) ≤ 70) <| glt (ts T b_47 (t_53 ++ [Int32.toNatClampNeg 99])) fun (T_57 : gT) => glt (x3 + 1) fun (x3_59 : Int32) => f_X5_renderHabits_L19 G a0 a1 n19 x2 x3_59 S T_57) else (gb (tg T b_47) fun (t_61 : List Nat) => gd ((0 : Int32) ≤ 111 ∧ 111 ≤ (255 : Int32) ∧ gcap T b_47) <| gd (List.length (t_61 ++ [Int32.toNatClampNeg 111]) ≤ 70) <| glt (ts T b_47 (t_61 ++ [Int32.toNatClampNeg 111])) fun (T_65 : gT) => glt (x3 + 1) fun (x3_67 : Int32) => f_X5_renderHabits_L19 G a0 a1 n19 x2 x3_67 S T_65))))
theorem nt_X5_renderHabits_L19 {G : gG} {a0 : Nat} {a1 : Int32} : ∀ (n19 : Nat) (x2 : Nat) (x3 : Int32) (S : gS) (T : gT), gNT (f_X5_renderHabits_L19 G a0 a1 n19 x2 x3 S T) := by
  intro n
  induction n with
  | zero =>
    intro x2 x3 S T
    rw [f_X5_renderHabits_L19]
    exact NT_none
  | succ n ih =>
    intro x2 x3 S T
    rw [f_X5_renderHabits_L19]
    repeat' (first | with_reducible exact ih _ _ _ _ | with_reducible refine NT_gd ?_ | with_reducible refine NT_gb fun _ => ?_ | with_reducible refine NT_gb2 fun _ _ => ?_ | with_reducible refine NT_glt ?_ | with_reducible refine NT_ite ?_ ?_ | with_reducible exact NT_ret | with_reducible exact NT_none)
noncomputable def f_X5_renderHabits (G : gG) (a0 : Nat) (a1 : Int32) (S : gS) (T : gT) : Option ((String ⊕ Int32) × gS × gT) := gd (gis G 2 a0) <| gb (gP S 5 a0) fun (b_2 : Nat) => gd (gis G 0 b_2) <| gbx1 (f_X1_umbrellaAt G b_2 a1 S) (fun (E_100 : String) => some (.inl E_100, S, T)) fun (r_6 : Nat) => gb (gP S 9 a0) fun (b_7 : Nat) => gb (tg T b_7) fun (t_9 : List Nat) => glt (ts T b_7 []) fun (T_11 : gT) => f_X5_renderHabits_L19 G a0 a1 gN r_6 0 S T_11
set_option maxRecDepth 100000 in
set_option maxHeartbeats 4000000 in
theorem k_X5_renderHabits {ad : Nat → Nat} {G : gG} {a0 : Nat} {a1 : Int32} {S S1 : gS} {T T1 : gT} {r : Int32} (h : f_X5_renderHabits G a0 a1 S T = some (.inr r, S1, T1)) : Ct ad yX5_renderHabits (Cond.code yX5_renderHabits cX5_renderHabits 4 (some .int) :: gTb) 8 (gpc T) (gps T) [.ref a0, .int a1] G S T (some (.int r)) G S1 T1 := by
  refine Ct.ofB rfl (Nat.le_of_ble_eq_true rfl) rfl (fun K g e hK => ?_)
  obtain ⟨rfl, -⟩ := hK
  show Xj K [] G 0 [some (.ref a0), some (.int a1), none, none] [] S T (gpc T) (gps T)
  unfold f_X5_renderHabits at h
  refine x_aload_n 0 g dX5_renderHabits_0 rfl rfl ?_
  obtain ⟨q_1, h⟩ := gd_e h
  obtain ⟨b_2, e_3, h⟩ := gb_e h
  refine x_getr g dX5_renderHabits_1 gXX5 0 5 rfl (by decide) rfl lf_X5_12 q_1 e_3 ?_
  refine x_iload_n 1 g dX5_renderHabits_4 rfl rfl ?_
  obtain ⟨q_4, h⟩ := gd_e h
  rcases gbx1_e h with ⟨E_100, q_5, h⟩ | ⟨r_6, q_5, h⟩
  · cases h
  refine x_cV [.ref r_6] g (k_X1_umbrellaAt q_5) ca_X1_umbrellaAt in_X1_umbrellaAt se_X1_umbrellaAt lm_X5_81 gXX1 q_4 (Nat.le_of_ble_eq_true rfl) rfl rfl (Nat.le_of_ble_eq_true rfl) dX5_renderHabits_5 rfl ?_
  refine x_astore_n 2 g dX5_renderHabits_8 rfl (Nat.le_of_ble_eq_true rfl) rfl ?_
  refine x_aload_n 0 g dX5_renderHabits_9 rfl rfl ?_
  obtain ⟨b_7, e_8, h⟩ := gb_e h
  refine x_getr g dX5_renderHabits_10 gXX5 4 9 rfl (by decide) rfl lf_X5_30 q_1 e_8 ?_
  refine x_iconst (v := 0) g dX5_renderHabits_13 (by decide) ?_
  obtain ⟨t_9, q_10, h⟩ := gb_e h
  refine x_sbZp g q_10 lmb_X5_237 (by decide) (Nat.le_of_ble_eq_true rfl) dX5_renderHabits_14 ?_
  refine x_nTp (fun T_11 e_12 => ?_)
  have h := glt_e e_12 h
  refine x_iconst (v := 0) g dX5_renderHabits_17 (by decide) ?_
  refine x_istore_n 3 g dX5_renderHabits_18 rfl (Nat.le_of_ble_eq_true rfl) rfl ?_
  have L19 : ∀ (n19 : Nat) (x2 : Nat) (x3 : Int32) (S : gS) (T : gT), f_X5_renderHabits_L19 G a0 a1 n19 x2 x3 S T = some (.inr r, S1, T1) → Xj K [] G 19 [some (.ref a0), some (.int a1), some (.ref x2), some (.int x3)] [] S T (gpc T) (gps T) := by
    intro n19
    induction n19 with
    | zero =>
      intro x2 x3 S T h
      rw [f_X5_renderHabits_L19] at h
      cases h
    | succ n19 ih =>
      intro x2 x3 S T h
      rw [f_X5_renderHabits_L19] at h
      refine x_iload_n 3 g dX5_renderHabits_19 rfl rfl ?_
      refine x_bipush (v := 16) g dX5_renderHabits_20 (by decide) ?_
      refine x_icmp_ge 75 g dX5_renderHabits_22 (by decide) (fun c_13 => ?_) (fun c_13 => ?_)
      · have h := ite_t c_13 h
        refine x_aload_n 0 g dX5_renderHabits_75 rfl rfl ?_
        obtain ⟨q_14, h⟩ := gd_e h
        obtain ⟨b_15, e_16, h⟩ := gb_e h
        refine x_getr g dX5_renderHabits_76 gXX5 4 9 rfl (by decide) rfl lf_X5_30 q_14 e_16 ?_
        obtain ⟨t_17, q_18, h⟩ := gb_e h
        refine x_sbL g q_18 lmb_X5_245 (by decide) (Nat.le_of_ble_eq_true rfl) dX5_renderHabits_79 ?_
        cases h
        exact x_iretS g e dX5_renderHabits_82 rfl rfl
      · have h := ite_f c_13 h
        refine x_iload_n 3 g dX5_renderHabits_25 rfl rfl ?_
        refine x_if_le 46 g dX5_renderHabits_26 (by decide) (fun c_19 => ?_) (fun c_19 => ?_)
        · have h := ite_t c_19 h
          refine x_aload_n 0 g dX5_renderHabits_46 rfl rfl ?_
          obtain ⟨q_20, h⟩ := gd_e h
          obtain ⟨b_21, e_22, h⟩ := gb_e h
          refine x_getr g dX5_renderHabits_47 gXX5 4 9 rfl (by decide) rfl lf_X5_30 q_20 e_22 ?_
          refine x_aload_n 2 g dX5_renderHabits_50 rfl rfl ?_
          refine x_iload_n 3 g dX5_renderHabits_51 rfl rfl ?_
          obtain ⟨q_23, h⟩ := gd_e h
          obtain ⟨r_25, q_24, h⟩ := gb_e h
          refine x_cV [.int (gz r_25), .ref b_21] g (k_X4_opensIn q_24) ca_X4_opensIn in_X4_opensIn se_X4_opensIn lm_X5_138 gXX4 q_23 (Nat.le_of_ble_eq_true rfl) rfl rfl (Nat.le_of_ble_eq_true rfl) dX5_renderHabits_52 rfl ?_
          refine x_if_eq 63 g dX5_renderHabits_55 (by decide) (fun c_26 => ?_) (fun c_26 => ?_)
          · have h := ite_t c_26 h
            refine x_bipush (v := 99) g dX5_renderHabits_63 (by decide) ?_
            obtain ⟨t_27, q_28, h⟩ := gb_e h
            obtain ⟨q_29, h⟩ := gd_e h
            obtain ⟨q_30, h⟩ := gd_e h
            refine x_sbA g q_28 q_29 q_30 lmb_X5_241 (by decide) (Nat.le_of_ble_eq_true rfl) dX5_renderHabits_65 ?_
            refine x_nTp (fun T_31 e_32 => ?_)
            have h := glt_e e_32 h
            refine x_pop g dX5_renderHabits_68 rfl ?_
            obtain ⟨x3_33, e_34⟩ : ∃ z : Int32, z = x3 + 1 := ⟨_, rfl⟩
            have h := glt_e e_34 h
            refine x_iinc (v := x3_33) g dX5_renderHabits_69 rfl (by rw [e_34]; rfl) rfl ?_
            refine x_goto 19 g dX5_renderHabits_72 (by decide) ?_
            exact ih _ _ _ _ h
          · have h := ite_f c_26 h
            refine x_bipush (v := 111) g dX5_renderHabits_58 (by decide) ?_
            refine x_goto 65 g dX5_renderHabits_60 (by decide) ?_
            obtain ⟨t_35, q_36, h⟩ := gb_e h
            obtain ⟨q_37, h⟩ := gd_e h
            obtain ⟨q_38, h⟩ := gd_e h
            refine x_sbA g q_36 q_37 q_38 lmb_X5_241 (by decide) (Nat.le_of_ble_eq_true rfl) dX5_renderHabits_65 ?_
            refine x_nTp (fun T_39 e_40 => ?_)
            have h := glt_e e_40 h
            refine x_pop g dX5_renderHabits_68 rfl ?_
            obtain ⟨x3_41, e_42⟩ : ∃ z : Int32, z = x3 + 1 := ⟨_, rfl⟩
            have h := glt_e e_42 h
            refine x_iinc (v := x3_41) g dX5_renderHabits_69 rfl (by rw [e_42]; rfl) rfl ?_
            refine x_goto 19 g dX5_renderHabits_72 (by decide) ?_
            exact ih _ _ _ _ h
        · have h := ite_f c_19 h
          refine x_iload_n 3 g dX5_renderHabits_29 rfl rfl ?_
          obtain ⟨r_44, q_43, h⟩ := gb_e h
          refine x_cS [.int r_44] g (k_X5_windOfSituation q_43) ca_X5_windOfSituation st_X5_windOfSituation lm_X5_177 (Nat.le_of_ble_eq_true rfl) rfl rfl (Nat.le_of_ble_eq_true rfl) dX5_renderHabits_30 rfl ?_
          refine x_if_ne 46 g dX5_renderHabits_33 (by decide) (fun c_45 => ?_) (fun c_45 => ?_)
          · have h := ite_f c_45 h
            refine x_aload_n 0 g dX5_renderHabits_46 rfl rfl ?_
            obtain ⟨q_46, h⟩ := gd_e h
            obtain ⟨b_47, e_48, h⟩ := gb_e h
            refine x_getr g dX5_renderHabits_47 gXX5 4 9 rfl (by decide) rfl lf_X5_30 q_46 e_48 ?_
            refine x_aload_n 2 g dX5_renderHabits_50 rfl rfl ?_
            refine x_iload_n 3 g dX5_renderHabits_51 rfl rfl ?_
            obtain ⟨q_49, h⟩ := gd_e h
            obtain ⟨r_51, q_50, h⟩ := gb_e h
            refine x_cV [.int (gz r_51), .ref b_47] g (k_X4_opensIn q_50) ca_X4_opensIn in_X4_opensIn se_X4_opensIn lm_X5_138 gXX4 q_49 (Nat.le_of_ble_eq_true rfl) rfl rfl (Nat.le_of_ble_eq_true rfl) dX5_renderHabits_52 rfl ?_
            refine x_if_eq 63 g dX5_renderHabits_55 (by decide) (fun c_52 => ?_) (fun c_52 => ?_)
            · have h := ite_t c_52 h
              refine x_bipush (v := 99) g dX5_renderHabits_63 (by decide) ?_
              obtain ⟨t_53, q_54, h⟩ := gb_e h
              obtain ⟨q_55, h⟩ := gd_e h
              obtain ⟨q_56, h⟩ := gd_e h
              refine x_sbA g q_54 q_55 q_56 lmb_X5_241 (by decide) (Nat.le_of_ble_eq_true rfl) dX5_renderHabits_65 ?_
              refine x_nTp (fun T_57 e_58 => ?_)
              have h := glt_e e_58 h
              refine x_pop g dX5_renderHabits_68 rfl ?_
              obtain ⟨x3_59, e_60⟩ : ∃ z : Int32, z = x3 + 1 := ⟨_, rfl⟩
              have h := glt_e e_60 h
              refine x_iinc (v := x3_59) g dX5_renderHabits_69 rfl (by rw [e_60]; rfl) rfl ?_
              refine x_goto 19 g dX5_renderHabits_72 (by decide) ?_
              exact ih _ _ _ _ h
            · have h := ite_f c_52 h
              refine x_bipush (v := 111) g dX5_renderHabits_58 (by decide) ?_
              refine x_goto 65 g dX5_renderHabits_60 (by decide) ?_
              obtain ⟨t_61, q_62, h⟩ := gb_e h
              obtain ⟨q_63, h⟩ := gd_e h
              obtain ⟨q_64, h⟩ := gd_e h
              refine x_sbA g q_62 q_63 q_64 lmb_X5_241 (by decide) (Nat.le_of_ble_eq_true rfl) dX5_renderHabits_65 ?_
              refine x_nTp (fun T_65 e_66 => ?_)
              have h := glt_e e_66 h
              refine x_pop g dX5_renderHabits_68 rfl ?_
              obtain ⟨x3_67, e_68⟩ : ∃ z : Int32, z = x3 + 1 := ⟨_, rfl⟩
              have h := glt_e e_68 h
              refine x_iinc (v := x3_67) g dX5_renderHabits_69 rfl (by rw [e_68]; rfl) rfl ?_
              refine x_goto 19 g dX5_renderHabits_72 (by decide) ?_
              exact ih _ _ _ _ h
          · have h := ite_t c_45 h
            refine x_aload_n 0 g dX5_renderHabits_36 rfl rfl ?_
            obtain ⟨q_69, h⟩ := gd_e h
            obtain ⟨b_70, e_71, h⟩ := gb_e h
            refine x_getr g dX5_renderHabits_37 gXX5 4 9 rfl (by decide) rfl lf_X5_30 q_69 e_71 ?_
            refine x_bipush (v := 47) g dX5_renderHabits_40 (by decide) ?_
            obtain ⟨t_72, q_73, h⟩ := gb_e h
            obtain ⟨q_74, h⟩ := gd_e h
            obtain ⟨q_75, h⟩ := gd_e h
            refine x_sbA g q_73 q_74 q_75 lmb_X5_241 (by decide) (Nat.le_of_ble_eq_true rfl) dX5_renderHabits_42 ?_
            refine x_nTp (fun T_76 e_77 => ?_)
            have h := glt_e e_77 h
            refine x_pop g dX5_renderHabits_45 rfl ?_
            refine x_aload_n 0 g dX5_renderHabits_46 rfl rfl ?_
            obtain ⟨b_78, e_79, h⟩ := gb_e h
            refine x_getr g dX5_renderHabits_47 gXX5 4 9 rfl (by decide) rfl lf_X5_30 q_69 e_79 ?_
            refine x_aload_n 2 g dX5_renderHabits_50 rfl rfl ?_
            refine x_iload_n 3 g dX5_renderHabits_51 rfl rfl ?_
            obtain ⟨q_80, h⟩ := gd_e h
            obtain ⟨r_82, q_81, h⟩ := gb_e h
            refine x_cV [.int (gz r_82), .ref b_78] g (k_X4_opensIn q_81) ca_X4_opensIn in_X4_opensIn se_X4_opensIn lm_X5_138 gXX4 q_80 (Nat.le_of_ble_eq_true rfl) rfl rfl (Nat.le_of_ble_eq_true rfl) dX5_renderHabits_52 rfl ?_
            refine x_if_eq 63 g dX5_renderHabits_55 (by decide) (fun c_83 => ?_) (fun c_83 => ?_)
            · have h := ite_t c_83 h
              refine x_bipush (v := 99) g dX5_renderHabits_63 (by decide) ?_
              obtain ⟨t_84, q_85, h⟩ := gb_e h
              obtain ⟨q_86, h⟩ := gd_e h
              obtain ⟨q_87, h⟩ := gd_e h
              refine x_sbA g q_85 q_86 q_87 lmb_X5_241 (by decide) (Nat.le_of_ble_eq_true rfl) dX5_renderHabits_65 ?_
              refine x_nTp (fun T_88 e_89 => ?_)
              have h := glt_e e_89 h
              refine x_pop g dX5_renderHabits_68 rfl ?_
              obtain ⟨x3_90, e_91⟩ : ∃ z : Int32, z = x3 + 1 := ⟨_, rfl⟩
              have h := glt_e e_91 h
              refine x_iinc (v := x3_90) g dX5_renderHabits_69 rfl (by rw [e_91]; rfl) rfl ?_
              refine x_goto 19 g dX5_renderHabits_72 (by decide) ?_
              exact ih _ _ _ _ h
            · have h := ite_f c_83 h
              refine x_bipush (v := 111) g dX5_renderHabits_58 (by decide) ?_
              refine x_goto 65 g dX5_renderHabits_60 (by decide) ?_
              obtain ⟨t_92, q_93, h⟩ := gb_e h
              obtain ⟨q_94, h⟩ := gd_e h
              obtain ⟨q_95, h⟩ := gd_e h
              refine x_sbA g q_93 q_94 q_95 lmb_X5_241 (by decide) (Nat.le_of_ble_eq_true rfl) dX5_renderHabits_65 ?_
              refine x_nTp (fun T_96 e_97 => ?_)
              have h := glt_e e_97 h
              refine x_pop g dX5_renderHabits_68 rfl ?_
              obtain ⟨x3_98, e_99⟩ : ∃ z : Int32, z = x3 + 1 := ⟨_, rfl⟩
              have h := glt_e e_99 h
              refine x_iinc (v := x3_98) g dX5_renderHabits_69 rfl (by rw [e_99]; rfl) rfl ?_
              refine x_goto 19 g dX5_renderHabits_72 (by decide) ?_
              exact ih _ _ _ _ h
  exact L19 gN _ _ _ _ h
set_option maxRecDepth 100000 in
set_option maxHeartbeats 4000000 in
theorem t_X5_renderHabits {ad : Nat → Nat} {G : gG} {a0 : Nat} {a1 : Int32} {S S1 : gS} {T T1 : gT} {E : String} (h : f_X5_renderHabits G a0 a1 S T = some (.inl E, S1, T1)) : Cx ad yX5_renderHabits (Cond.code yX5_renderHabits cX5_renderHabits 4 (some .int) :: gTb) 8 [.ref a0, .int a1] G S T E S1 T1 := by
  refine Cx.ofB rfl (Nat.le_of_ble_eq_true rfl) rfl (fun K g e hK => ?_)
  obtain ⟨rfl, -⟩ := hK
  show Xj K [] G 0 [some (.ref a0), some (.int a1), none, none] [] S T 1 6
  unfold f_X5_renderHabits at h
  refine x_aload_n 0 g dX5_renderHabits_0 rfl rfl ?_
  obtain ⟨q_1, h⟩ := gd_e h
  obtain ⟨b_2, e_3, h⟩ := gb_e h
  refine x_getr g dX5_renderHabits_1 gXX5 0 5 rfl (by decide) rfl lf_X5_12 q_1 e_3 ?_
  refine x_iload_n 1 g dX5_renderHabits_4 rfl rfl ?_
  obtain ⟨q_4, h⟩ := gd_e h
  rcases gbx1_e h with ⟨E_100, q_5, h⟩ | ⟨r_6, q_5, h⟩
  · cases h
    exact x_tV g e (t_X1_umbrellaAt q_5) ca_X1_umbrellaAt in_X1_umbrellaAt se_X1_umbrellaAt lm_X5_81 gXX1 q_4 (Nat.le_of_ble_eq_true rfl) rfl rfl (Nat.le_of_ble_eq_true rfl) dX5_renderHabits_5
  refine x_cV [.ref r_6] g (k_X1_umbrellaAt q_5) ca_X1_umbrellaAt in_X1_umbrellaAt se_X1_umbrellaAt lm_X5_81 gXX1 q_4 (Nat.le_of_ble_eq_true rfl) rfl rfl (Nat.le_of_ble_eq_true rfl) dX5_renderHabits_5 rfl ?_
  refine x_astore_n 2 g dX5_renderHabits_8 rfl (Nat.le_of_ble_eq_true rfl) rfl ?_
  refine x_aload_n 0 g dX5_renderHabits_9 rfl rfl ?_
  obtain ⟨b_7, e_8, h⟩ := gb_e h
  refine x_getr g dX5_renderHabits_10 gXX5 4 9 rfl (by decide) rfl lf_X5_30 q_1 e_8 ?_
  refine x_iconst (v := 0) g dX5_renderHabits_13 (by decide) ?_
  obtain ⟨t_9, q_10, h⟩ := gb_e h
  refine x_sbZ g q_10 lmb_X5_237 (by decide) (Nat.le_of_ble_eq_true rfl) dX5_renderHabits_14 ?_
  refine x_nT (fun T_11 e_12 => ?_)
  have h := glt_e e_12 h
  refine x_iconst (v := 0) g dX5_renderHabits_17 (by decide) ?_
  refine x_istore_n 3 g dX5_renderHabits_18 rfl (Nat.le_of_ble_eq_true rfl) rfl ?_
  exact (nt_X5_renderHabits_L19 gN _ _ _ _ _ _ _ h).elim
noncomputable def f_X5_renderUmbrella_L107 (G : gG) (a0 : Nat) (a1 : Int32) : Nat → Nat → Int32 → gS → gT → Option ((String ⊕ Int32) × gS × gT)
  | 0, _, _, _, _ => none
  | n107 + 1, x2, x3, S, T => if 4 ≤ x3 then (gd (gis G 2 a0) <| gb (gP S 9 a0) fun (b_80 : Nat) => gb (tg T b_80) fun (t_82 : List Nat) => some (.inr (nI (List.length t_82)), S, T)) else (gd (gis G 1 x2) <| gb (f_X4_hasPassed G x2 x3 S) fun (r_86 : Bool) => if (gz r_86) = 0 then (glt (x3 + 1) fun (x3_88 : Int32) => f_X5_renderUmbrella_L107 G a0 a1 n107 x2 x3_88 S T) else (gd (gis G 2 a0) <| gb (gP S 9 a0) fun (b_91 : Nat) => gb (tg T b_91) fun (t_93 : List Nat) => gd ((0 : Int32) ≤ x3 ∧ gcap T b_91) <| gd (List.length (t_93 ++ (gdec (Int32.toNatClampNeg x3))) ≤ 70) <| glt (ts T b_91 (t_93 ++ (gdec (Int32.toNatClampNeg x3)))) fun (T_97 : gT) => glt (x3 + 1) fun (x3_99 : Int32) => f_X5_renderUmbrella_L107 G a0 a1 n107 x2 x3_99 S T_97))
theorem nt_X5_renderUmbrella_L107 {G : gG} {a0 : Nat} {a1 : Int32} : ∀ (n107 : Nat) (x2 : Nat) (x3 : Int32) (S : gS) (T : gT), gNT (f_X5_renderUmbrella_L107 G a0 a1 n107 x2 x3 S T) := by
  intro n
  induction n with
  | zero =>
    intro x2 x3 S T
    rw [f_X5_renderUmbrella_L107]
    exact NT_none
  | succ n ih =>
    intro x2 x3 S T
    rw [f_X5_renderUmbrella_L107]
    repeat' (first | with_reducible exact ih _ _ _ _ | with_reducible refine NT_gd ?_ | with_reducible refine NT_gb fun _ => ?_ | with_reducible refine NT_gb2 fun _ _ => ?_ | with_reducible refine NT_glt ?_ | with_reducible refine NT_ite ?_ ?_ | with_reducible exact NT_ret | with_reducible exact NT_none)
noncomputable def f_X5_renderUmbrella (G : gG) (a0 : Nat) (a1 : Int32) (S : gS) (T : gT) : Option ((String ⊕ Int32) × gS × gT) := gd (gis G 2 a0) <| gb (gP S 5 a0) fun (b_2 : Nat) => gd (gis G 0 b_2) <| gbx1 (f_X1_umbrellaAt G b_2 a1 S) (fun (E_101 : String) => some (.inl E_101, S, T)) fun (r_6 : Nat) => gb (gP S 9 a0) fun (b_7 : Nat) => gb (tg T b_7) fun (t_9 : List Nat) => glt (ts T b_7 []) fun (T_11 : gT) => gb (gP S 9 a0) fun (b_13 : Nat) => gd (gis G 1 r_6) <| gb (tg T_11 b_13) fun (t_16 : List Nat) => gd ((0 : Int32) ≤ (gI S 13 r_6) ∧ gcap T_11 b_13) <| gd (List.length (t_16 ++ (gdec (Int32.toNatClampNeg (gI S 13 r_6)))) ≤ 70) <| glt (ts T_11 b_13 (t_16 ++ (gdec (Int32.toNatClampNeg (gI S 13 r_6))))) fun (T_20 : gT) => gb (gP S 9 a0) fun (b_22 : Nat) => gb (tg T_20 b_22) fun (t_24 : List Nat) => gd ((0 : Int32) ≤ 47 ∧ 47 ≤ (255 : Int32) ∧ gcap T_20 b_22) <| gd (List.length (t_24 ++ [Int32.toNatClampNeg 47]) ≤ 70) <| glt (ts T_20 b_22 (t_24 ++ [Int32.toNatClampNeg 47])) fun (T_28 : gT) => gb (gP S 9 a0) fun (b_30 : Nat) => gb (tg T_28 b_30) fun (t_32 : List Nat) => gd ((0 : Int32) ≤ (gI S 10 r_6) ∧ gcap T_28 b_30) <| gd (List.length (t_32 ++ (gdec (Int32.toNatClampNeg (gI S 10 r_6)))) ≤ 70) <| glt (ts T_28 b_30 (t_32 ++ (gdec (Int32.toNatClampNeg (gI S 10 r_6))))) fun (T_36 : gT) => gb (gP S 9 a0) fun (b_38 : Nat) => gb (tg T_36 b_38) fun (t_40 : List Nat) => gd ((0 : Int32) ≤ 112 ∧ 112 ≤ (255 : Int32) ∧ gcap T_36 b_38) <| gd (List.length (t_40 ++ [Int32.toNatClampNeg 112]) ≤ 70) <| glt (ts T_36 b_38 (t_40 ++ [Int32.toNatClampNeg 112])) fun (T_44 : gT) => gb (gP S 9 a0) fun (b_46 : Nat) => gb (tg T_44 b_46) fun (t_48 : List Nat) => gd ((0 : Int32) ≤ (gI S 11 r_6) ∧ gcap T_44 b_46) <| gd (List.length (t_48 ++ (gdec (Int32.toNatClampNeg (gI S 11 r_6)))) ≤ 70) <| glt (ts T_44 b_46 (t_48 ++ (gdec (Int32.toNatClampNeg (gI S 11 r_6))))) fun (T_52 : gT) => gb (gP S 9 a0) fun (b_54 : Nat) => gb (tg T_52 b_54) fun (t_56 : List Nat) => gd ((0 : Int32) ≤ 42 ∧ 42 ≤ (255 : Int32) ∧ gcap T_52 b_54) <| gd (List.length (t_56 ++ [Int32.toNatClampNeg 42]) ≤ 70) <| glt (ts T_52 b_54 (t_56 ++ [Int32.toNatClampNeg 42])) fun (T_60 : gT) => gb (gP S 9 a0) fun (b_62 : Nat) => gb (tg T_60 b_62) fun (t_64 : List Nat) => gd ((0 : Int32) ≤ (gI S 16 r_6) ∧ gcap T_60 b_62) <| gd (List.length (t_64 ++ (gdec (Int32.toNatClampNeg (gI S 16 r_6)))) ≤ 70) <| glt (ts T_60 b_62 (t_64 ++ (gdec (Int32.toNatClampNeg (gI S 16 r_6))))) fun (T_68 : gT) => gb (gP S 9 a0) fun (b_70 : Nat) => gb (tg T_68 b_70) fun (t_72 : List Nat) => gd ((0 : Int32) ≤ 58 ∧ 58 ≤ (255 : Int32) ∧ gcap T_68 b_70) <| gd (List.length (t_72 ++ [Int32.toNatClampNeg 58]) ≤ 70) <| glt (ts T_68 b_70 (t_72 ++ [Int32.toNatClampNeg 58])) fun (T_76 : gT) => f_X5_renderUmbrella_L107 G a0 a1 gN r_6 0 S T_76
set_option maxRecDepth 100000 in
set_option maxHeartbeats 4000000 in
theorem k_X5_renderUmbrella {ad : Nat → Nat} {G : gG} {a0 : Nat} {a1 : Int32} {S S1 : gS} {T T1 : gT} {r : Int32} (h : f_X5_renderUmbrella G a0 a1 S T = some (.inr r, S1, T1)) : Ct ad yX5_renderUmbrella (Cond.code yX5_renderUmbrella cX5_renderUmbrella 4 (some .int) :: gTb) 8 (gpc T) (gps T) [.ref a0, .int a1] G S T (some (.int r)) G S1 T1 := by
  refine Ct.ofB rfl (Nat.le_of_ble_eq_true rfl) rfl (fun K g e hK => ?_)
  obtain ⟨rfl, -⟩ := hK
  show Xj K [] G 0 [some (.ref a0), some (.int a1), none, none] [] S T (gpc T) (gps T)
  unfold f_X5_renderUmbrella at h
  refine x_aload_n 0 g dX5_renderUmbrella_0 rfl rfl ?_
  obtain ⟨q_1, h⟩ := gd_e h
  obtain ⟨b_2, e_3, h⟩ := gb_e h
  refine x_getr g dX5_renderUmbrella_1 gXX5 0 5 rfl (by decide) rfl lf_X5_12 q_1 e_3 ?_
  refine x_iload_n 1 g dX5_renderUmbrella_4 rfl rfl ?_
  obtain ⟨q_4, h⟩ := gd_e h
  rcases gbx1_e h with ⟨E_101, q_5, h⟩ | ⟨r_6, q_5, h⟩
  · cases h
  refine x_cV [.ref r_6] g (k_X1_umbrellaAt q_5) ca_X1_umbrellaAt in_X1_umbrellaAt se_X1_umbrellaAt lm_X5_81 gXX1 q_4 (Nat.le_of_ble_eq_true rfl) rfl rfl (Nat.le_of_ble_eq_true rfl) dX5_renderUmbrella_5 rfl ?_
  refine x_astore_n 2 g dX5_renderUmbrella_8 rfl (Nat.le_of_ble_eq_true rfl) rfl ?_
  refine x_aload_n 0 g dX5_renderUmbrella_9 rfl rfl ?_
  obtain ⟨b_7, e_8, h⟩ := gb_e h
  refine x_getr g dX5_renderUmbrella_10 gXX5 4 9 rfl (by decide) rfl lf_X5_30 q_1 e_8 ?_
  refine x_iconst (v := 0) g dX5_renderUmbrella_13 (by decide) ?_
  obtain ⟨t_9, q_10, h⟩ := gb_e h
  refine x_sbZp g q_10 lmb_X5_237 (by decide) (Nat.le_of_ble_eq_true rfl) dX5_renderUmbrella_14 ?_
  refine x_nTp (fun T_11 e_12 => ?_)
  have h := glt_e e_12 h
  refine x_aload_n 0 g dX5_renderUmbrella_17 rfl rfl ?_
  obtain ⟨b_13, e_14, h⟩ := gb_e h
  refine x_getr g dX5_renderUmbrella_18 gXX5 4 9 rfl (by decide) rfl lf_X5_30 q_1 e_14 ?_
  refine x_aload_n 2 g dX5_renderUmbrella_21 rfl rfl ?_
  obtain ⟨q_15, h⟩ := gd_e h
  refine x_geti g dX5_renderUmbrella_22 gXX4 7 13 rfl (by decide) rfl lf_X5_96 q_15 ?_
  obtain ⟨t_16, q_17, h⟩ := gb_e h
  obtain ⟨q_18, h⟩ := gd_e h
  obtain ⟨q_19, h⟩ := gd_e h
  refine x_sbI g q_17 q_18 q_19 lmb_X5_248 (by decide) (Nat.le_of_ble_eq_true rfl) dX5_renderUmbrella_25 ?_
  refine x_nTp (fun T_20 e_21 => ?_)
  have h := glt_e e_21 h
  refine x_pop g dX5_renderUmbrella_28 rfl ?_
  refine x_aload_n 0 g dX5_renderUmbrella_29 rfl rfl ?_
  obtain ⟨b_22, e_23, h⟩ := gb_e h
  refine x_getr g dX5_renderUmbrella_30 gXX5 4 9 rfl (by decide) rfl lf_X5_30 q_1 e_23 ?_
  refine x_bipush (v := 47) g dX5_renderUmbrella_33 (by decide) ?_
  obtain ⟨t_24, q_25, h⟩ := gb_e h
  obtain ⟨q_26, h⟩ := gd_e h
  obtain ⟨q_27, h⟩ := gd_e h
  refine x_sbA g q_25 q_26 q_27 lmb_X5_241 (by decide) (Nat.le_of_ble_eq_true rfl) dX5_renderUmbrella_35 ?_
  refine x_nTp (fun T_28 e_29 => ?_)
  have h := glt_e e_29 h
  refine x_pop g dX5_renderUmbrella_38 rfl ?_
  refine x_aload_n 0 g dX5_renderUmbrella_39 rfl rfl ?_
  obtain ⟨b_30, e_31, h⟩ := gb_e h
  refine x_getr g dX5_renderUmbrella_40 gXX5 4 9 rfl (by decide) rfl lf_X5_30 q_1 e_31 ?_
  refine x_aload_n 2 g dX5_renderUmbrella_43 rfl rfl ?_
  refine x_geti g dX5_renderUmbrella_44 gXX4 4 10 rfl (by decide) rfl lf_X5_85 q_15 ?_
  obtain ⟨t_32, q_33, h⟩ := gb_e h
  obtain ⟨q_34, h⟩ := gd_e h
  obtain ⟨q_35, h⟩ := gd_e h
  refine x_sbI g q_33 q_34 q_35 lmb_X5_248 (by decide) (Nat.le_of_ble_eq_true rfl) dX5_renderUmbrella_47 ?_
  refine x_nTp (fun T_36 e_37 => ?_)
  have h := glt_e e_37 h
  refine x_pop g dX5_renderUmbrella_50 rfl ?_
  refine x_aload_n 0 g dX5_renderUmbrella_51 rfl rfl ?_
  obtain ⟨b_38, e_39, h⟩ := gb_e h
  refine x_getr g dX5_renderUmbrella_52 gXX5 4 9 rfl (by decide) rfl lf_X5_30 q_1 e_39 ?_
  refine x_bipush (v := 112) g dX5_renderUmbrella_55 (by decide) ?_
  obtain ⟨t_40, q_41, h⟩ := gb_e h
  obtain ⟨q_42, h⟩ := gd_e h
  obtain ⟨q_43, h⟩ := gd_e h
  refine x_sbA g q_41 q_42 q_43 lmb_X5_241 (by decide) (Nat.le_of_ble_eq_true rfl) dX5_renderUmbrella_57 ?_
  refine x_nTp (fun T_44 e_45 => ?_)
  have h := glt_e e_45 h
  refine x_pop g dX5_renderUmbrella_60 rfl ?_
  refine x_aload_n 0 g dX5_renderUmbrella_61 rfl rfl ?_
  obtain ⟨b_46, e_47, h⟩ := gb_e h
  refine x_getr g dX5_renderUmbrella_62 gXX5 4 9 rfl (by decide) rfl lf_X5_30 q_1 e_47 ?_
  refine x_aload_n 2 g dX5_renderUmbrella_65 rfl rfl ?_
  refine x_geti g dX5_renderUmbrella_66 gXX4 5 11 rfl (by decide) rfl lf_X5_90 q_15 ?_
  obtain ⟨t_48, q_49, h⟩ := gb_e h
  obtain ⟨q_50, h⟩ := gd_e h
  obtain ⟨q_51, h⟩ := gd_e h
  refine x_sbI g q_49 q_50 q_51 lmb_X5_248 (by decide) (Nat.le_of_ble_eq_true rfl) dX5_renderUmbrella_69 ?_
  refine x_nTp (fun T_52 e_53 => ?_)
  have h := glt_e e_53 h
  refine x_pop g dX5_renderUmbrella_72 rfl ?_
  refine x_aload_n 0 g dX5_renderUmbrella_73 rfl rfl ?_
  obtain ⟨b_54, e_55, h⟩ := gb_e h
  refine x_getr g dX5_renderUmbrella_74 gXX5 4 9 rfl (by decide) rfl lf_X5_30 q_1 e_55 ?_
  refine x_bipush (v := 42) g dX5_renderUmbrella_77 (by decide) ?_
  obtain ⟨t_56, q_57, h⟩ := gb_e h
  obtain ⟨q_58, h⟩ := gd_e h
  obtain ⟨q_59, h⟩ := gd_e h
  refine x_sbA g q_57 q_58 q_59 lmb_X5_241 (by decide) (Nat.le_of_ble_eq_true rfl) dX5_renderUmbrella_79 ?_
  refine x_nTp (fun T_60 e_61 => ?_)
  have h := glt_e e_61 h
  refine x_pop g dX5_renderUmbrella_82 rfl ?_
  refine x_aload_n 0 g dX5_renderUmbrella_83 rfl rfl ?_
  obtain ⟨b_62, e_63, h⟩ := gb_e h
  refine x_getr g dX5_renderUmbrella_84 gXX5 4 9 rfl (by decide) rfl lf_X5_30 q_1 e_63 ?_
  refine x_aload_n 2 g dX5_renderUmbrella_87 rfl rfl ?_
  refine x_geti g dX5_renderUmbrella_88 gXX4 10 16 rfl (by decide) rfl lf_X5_200 q_15 ?_
  obtain ⟨t_64, q_65, h⟩ := gb_e h
  obtain ⟨q_66, h⟩ := gd_e h
  obtain ⟨q_67, h⟩ := gd_e h
  refine x_sbI g q_65 q_66 q_67 lmb_X5_248 (by decide) (Nat.le_of_ble_eq_true rfl) dX5_renderUmbrella_91 ?_
  refine x_nTp (fun T_68 e_69 => ?_)
  have h := glt_e e_69 h
  refine x_pop g dX5_renderUmbrella_94 rfl ?_
  refine x_aload_n 0 g dX5_renderUmbrella_95 rfl rfl ?_
  obtain ⟨b_70, e_71, h⟩ := gb_e h
  refine x_getr g dX5_renderUmbrella_96 gXX5 4 9 rfl (by decide) rfl lf_X5_30 q_1 e_71 ?_
  refine x_bipush (v := 58) g dX5_renderUmbrella_99 (by decide) ?_
  obtain ⟨t_72, q_73, h⟩ := gb_e h
  obtain ⟨q_74, h⟩ := gd_e h
  obtain ⟨q_75, h⟩ := gd_e h
  refine x_sbA g q_73 q_74 q_75 lmb_X5_241 (by decide) (Nat.le_of_ble_eq_true rfl) dX5_renderUmbrella_101 ?_
  refine x_nTp (fun T_76 e_77 => ?_)
  have h := glt_e e_77 h
  refine x_pop g dX5_renderUmbrella_104 rfl ?_
  refine x_iconst (v := 0) g dX5_renderUmbrella_105 (by decide) ?_
  refine x_istore_n 3 g dX5_renderUmbrella_106 rfl (Nat.le_of_ble_eq_true rfl) rfl ?_
  have L107 : ∀ (n107 : Nat) (x2 : Nat) (x3 : Int32) (S : gS) (T : gT), f_X5_renderUmbrella_L107 G a0 a1 n107 x2 x3 S T = some (.inr r, S1, T1) → Xj K [] G 107 [some (.ref a0), some (.int a1), some (.ref x2), some (.int x3)] [] S T (gpc T) (gps T) := by
    intro n107
    induction n107 with
    | zero =>
      intro x2 x3 S T h
      rw [f_X5_renderUmbrella_L107] at h
      cases h
    | succ n107 ih =>
      intro x2 x3 S T h
      rw [f_X5_renderUmbrella_L107] at h
      refine x_iload_n 3 g dX5_renderUmbrella_107 rfl rfl ?_
      refine x_iconst (v := 4) g dX5_renderUmbrella_108 (by decide) ?_
      refine x_icmp_ge 135 g dX5_renderUmbrella_109 (by decide) (fun c_78 => ?_) (fun c_78 => ?_)
      · have h := ite_t c_78 h
        refine x_aload_n 0 g dX5_renderUmbrella_135 rfl rfl ?_
        obtain ⟨q_79, h⟩ := gd_e h
        obtain ⟨b_80, e_81, h⟩ := gb_e h
        refine x_getr g dX5_renderUmbrella_136 gXX5 4 9 rfl (by decide) rfl lf_X5_30 q_79 e_81 ?_
        obtain ⟨t_82, q_83, h⟩ := gb_e h
        refine x_sbL g q_83 lmb_X5_245 (by decide) (Nat.le_of_ble_eq_true rfl) dX5_renderUmbrella_139 ?_
        cases h
        exact x_iretS g e dX5_renderUmbrella_142 rfl rfl
      · have h := ite_f c_78 h
        refine x_aload_n 2 g dX5_renderUmbrella_112 rfl rfl ?_
        refine x_iload_n 3 g dX5_renderUmbrella_113 rfl rfl ?_
        obtain ⟨q_84, h⟩ := gd_e h
        obtain ⟨r_86, q_85, h⟩ := gb_e h
        refine x_cV [.int (gz r_86)] g (k_X4_hasPassed q_85) ca_X4_hasPassed in_X4_hasPassed se_X4_hasPassed lm_X5_188 gXX4 q_84 (Nat.le_of_ble_eq_true rfl) rfl rfl (Nat.le_of_ble_eq_true rfl) dX5_renderUmbrella_114 rfl ?_
        refine x_if_eq 129 g dX5_renderUmbrella_117 (by decide) (fun c_87 => ?_) (fun c_87 => ?_)
        · have h := ite_t c_87 h
          obtain ⟨x3_88, e_89⟩ : ∃ z : Int32, z = x3 + 1 := ⟨_, rfl⟩
          have h := glt_e e_89 h
          refine x_iinc (v := x3_88) g dX5_renderUmbrella_129 rfl (by rw [e_89]; rfl) rfl ?_
          refine x_goto 107 g dX5_renderUmbrella_132 (by decide) ?_
          exact ih _ _ _ _ h
        · have h := ite_f c_87 h
          refine x_aload_n 0 g dX5_renderUmbrella_120 rfl rfl ?_
          obtain ⟨q_90, h⟩ := gd_e h
          obtain ⟨b_91, e_92, h⟩ := gb_e h
          refine x_getr g dX5_renderUmbrella_121 gXX5 4 9 rfl (by decide) rfl lf_X5_30 q_90 e_92 ?_
          refine x_iload_n 3 g dX5_renderUmbrella_124 rfl rfl ?_
          obtain ⟨t_93, q_94, h⟩ := gb_e h
          obtain ⟨q_95, h⟩ := gd_e h
          obtain ⟨q_96, h⟩ := gd_e h
          refine x_sbI g q_94 q_95 q_96 lmb_X5_248 (by decide) (Nat.le_of_ble_eq_true rfl) dX5_renderUmbrella_125 ?_
          refine x_nTp (fun T_97 e_98 => ?_)
          have h := glt_e e_98 h
          refine x_pop g dX5_renderUmbrella_128 rfl ?_
          obtain ⟨x3_99, e_100⟩ : ∃ z : Int32, z = x3 + 1 := ⟨_, rfl⟩
          have h := glt_e e_100 h
          refine x_iinc (v := x3_99) g dX5_renderUmbrella_129 rfl (by rw [e_100]; rfl) rfl ?_
          refine x_goto 107 g dX5_renderUmbrella_132 (by decide) ?_
          exact ih _ _ _ _ h
  exact L107 gN _ _ _ _ h
set_option maxRecDepth 100000 in
set_option maxHeartbeats 4000000 in
theorem t_X5_renderUmbrella {ad : Nat → Nat} {G : gG} {a0 : Nat} {a1 : Int32} {S S1 : gS} {T T1 : gT} {E : String} (h : f_X5_renderUmbrella G a0 a1 S T = some (.inl E, S1, T1)) : Cx ad yX5_renderUmbrella (Cond.code yX5_renderUmbrella cX5_renderUmbrella 4 (some .int) :: gTb) 8 [.ref a0, .int a1] G S T E S1 T1 := by
  refine Cx.ofB rfl (Nat.le_of_ble_eq_true rfl) rfl (fun K g e hK => ?_)
  obtain ⟨rfl, -⟩ := hK
  show Xj K [] G 0 [some (.ref a0), some (.int a1), none, none] [] S T 1 6
  unfold f_X5_renderUmbrella at h
  refine x_aload_n 0 g dX5_renderUmbrella_0 rfl rfl ?_
  obtain ⟨q_1, h⟩ := gd_e h
  obtain ⟨b_2, e_3, h⟩ := gb_e h
  refine x_getr g dX5_renderUmbrella_1 gXX5 0 5 rfl (by decide) rfl lf_X5_12 q_1 e_3 ?_
  refine x_iload_n 1 g dX5_renderUmbrella_4 rfl rfl ?_
  obtain ⟨q_4, h⟩ := gd_e h
  rcases gbx1_e h with ⟨E_101, q_5, h⟩ | ⟨r_6, q_5, h⟩
  · cases h
    exact x_tV g e (t_X1_umbrellaAt q_5) ca_X1_umbrellaAt in_X1_umbrellaAt se_X1_umbrellaAt lm_X5_81 gXX1 q_4 (Nat.le_of_ble_eq_true rfl) rfl rfl (Nat.le_of_ble_eq_true rfl) dX5_renderUmbrella_5
  refine x_cV [.ref r_6] g (k_X1_umbrellaAt q_5) ca_X1_umbrellaAt in_X1_umbrellaAt se_X1_umbrellaAt lm_X5_81 gXX1 q_4 (Nat.le_of_ble_eq_true rfl) rfl rfl (Nat.le_of_ble_eq_true rfl) dX5_renderUmbrella_5 rfl ?_
  refine x_astore_n 2 g dX5_renderUmbrella_8 rfl (Nat.le_of_ble_eq_true rfl) rfl ?_
  refine x_aload_n 0 g dX5_renderUmbrella_9 rfl rfl ?_
  obtain ⟨b_7, e_8, h⟩ := gb_e h
  refine x_getr g dX5_renderUmbrella_10 gXX5 4 9 rfl (by decide) rfl lf_X5_30 q_1 e_8 ?_
  refine x_iconst (v := 0) g dX5_renderUmbrella_13 (by decide) ?_
  obtain ⟨t_9, q_10, h⟩ := gb_e h
  refine x_sbZ g q_10 lmb_X5_237 (by decide) (Nat.le_of_ble_eq_true rfl) dX5_renderUmbrella_14 ?_
  refine x_nT (fun T_11 e_12 => ?_)
  have h := glt_e e_12 h
  refine x_aload_n 0 g dX5_renderUmbrella_17 rfl rfl ?_
  obtain ⟨b_13, e_14, h⟩ := gb_e h
  refine x_getr g dX5_renderUmbrella_18 gXX5 4 9 rfl (by decide) rfl lf_X5_30 q_1 e_14 ?_
  refine x_aload_n 2 g dX5_renderUmbrella_21 rfl rfl ?_
  obtain ⟨q_15, h⟩ := gd_e h
  refine x_geti g dX5_renderUmbrella_22 gXX4 7 13 rfl (by decide) rfl lf_X5_96 q_15 ?_
  obtain ⟨t_16, q_17, h⟩ := gb_e h
  obtain ⟨q_18, h⟩ := gd_e h
  obtain ⟨q_19, h⟩ := gd_e h
  refine ((?_ : gNT _) _ _ _ h).elim
  repeat' (first | with_reducible exact nt_X5_renderUmbrella_L107 _ _ _ _ _ | with_reducible refine NT_gd ?_ | with_reducible refine NT_gb fun _ => ?_ | with_reducible refine NT_gb2 fun _ _ => ?_ | with_reducible refine NT_glt ?_ | with_reducible refine NT_ite ?_ ?_ | with_reducible exact NT_ret | with_reducible exact NT_none)
noncomputable def f_X5_outputAt (G : gG) (a0 : Nat) (a1 : Int32) (S : gS) (T : gT) : Option (String ⊕ Int32) := if a1 < 0 then (some (.inl "java/lang/IndexOutOfBoundsException")) else (gd (gis G 2 a0) <| gb (gP S 9 a0) fun (b_3 : Nat) => gb (tg T b_3) fun (t_5 : List Nat) => if a1 < (nI (List.length t_5)) then (gb (gP S 9 a0) fun (b_8 : Nat) => gb (tg T b_8) fun (t_10 : List Nat) => gd (vp_in a1 (List.length t_10)) <| gd (narrow .char (.int (nI (List.getD t_10 (Int32.toNatClampNeg a1) 0))) = .int (nI (List.getD t_10 (Int32.toNatClampNeg a1) 0))) <| some (.inr (nI (List.getD t_10 (Int32.toNatClampNeg a1) 0)))) else (some (.inl "java/lang/IndexOutOfBoundsException")))
set_option maxRecDepth 100000 in
set_option maxHeartbeats 4000000 in
theorem k_X5_outputAt {ad : Nat → Nat} {G : gG} {a0 : Nat} {a1 : Int32} {S : gS} {T : gT} {r : Int32} (h : f_X5_outputAt G a0 a1 S T = some (.inr r)) : Ct ad yX5_outputAt (Cond.code yX5_outputAt cX5_outputAt 2 (some .char) :: gTb) 8 0 0 [.ref a0, .int a1] G S T (some (.int r)) G S T := by
  refine Ct.ofB rfl (Nat.le_of_ble_eq_true rfl) rfl (fun K g e hK => ?_)
  obtain ⟨rfl, -⟩ := hK
  show Xj K [] G 0 [some (.ref a0), some (.int a1)] [] S T 0 0
  unfold f_X5_outputAt at h
  refine x_iload_n 1 g dX5_outputAt_0 rfl rfl ?_
  refine x_if_lt 15 g dX5_outputAt_1 (by decide) (fun c_1 => ?_) (fun c_1 => ?_)
  · have h := ite_t c_1 h
    cases h
  · have h := ite_f c_1 h
    refine x_iload_n 1 g dX5_outputAt_4 rfl rfl ?_
    refine x_aload_n 0 g dX5_outputAt_5 rfl rfl ?_
    obtain ⟨q_2, h⟩ := gd_e h
    obtain ⟨b_3, e_4, h⟩ := gb_e h
    refine x_getr g dX5_outputAt_6 gXX5 4 9 rfl (by decide) rfl lf_X5_30 q_2 e_4 ?_
    obtain ⟨t_5, q_6, h⟩ := gb_e h
    refine x_sbL g q_6 lmb_X5_245 (by decide) (Nat.le_of_ble_eq_true rfl) dX5_outputAt_9 ?_
    refine x_icmp_lt 25 g dX5_outputAt_12 (by decide) (fun c_7 => ?_) (fun c_7 => ?_)
    · have h := ite_t c_7 h
      refine x_aload_n 0 g dX5_outputAt_25 rfl rfl ?_
      obtain ⟨b_8, e_9, h⟩ := gb_e h
      refine x_getr g dX5_outputAt_26 gXX5 4 9 rfl (by decide) rfl lf_X5_30 q_2 e_9 ?_
      refine x_iload_n 1 g dX5_outputAt_29 rfl rfl ?_
      obtain ⟨t_10, q_11, h⟩ := gb_e h
      obtain ⟨q_12, h⟩ := gd_e h
      refine x_sbC g q_11 q_12 lmb_X5_256 (by decide) (Nat.le_of_ble_eq_true rfl) dX5_outputAt_30 ?_
      obtain ⟨q_13, h⟩ := gd_e h
      cases h
      exact x_cretS g e dX5_outputAt_33 q_13 rfl rfl
    · have h := ite_f c_7 h
      cases h
set_option maxRecDepth 100000 in
set_option maxHeartbeats 4000000 in
theorem t_X5_outputAt {ad : Nat → Nat} {G : gG} {a0 : Nat} {a1 : Int32} {S : gS} {T : gT} {E : String} (h : f_X5_outputAt G a0 a1 S T = some (.inl E)) : Cx ad yX5_outputAt (Cond.code yX5_outputAt cX5_outputAt 2 (some .char) :: gTb) 8 [.ref a0, .int a1] G S T E S T := by
  refine Cx.ofB rfl (Nat.le_of_ble_eq_true rfl) rfl (fun K g e hK => ?_)
  obtain ⟨rfl, -⟩ := hK
  show Xj K [] G 0 [some (.ref a0), some (.int a1)] [] S T 1 6
  unfold f_X5_outputAt at h
  refine x_iload_n 1 g dX5_outputAt_0 rfl rfl ?_
  refine x_if_lt 15 g dX5_outputAt_1 (by decide) (fun c_1 => ?_) (fun c_1 => ?_)
  · have h := ite_t c_1 h
    cases h
    exact x_throw "there is no such index" g e (by decide +kernel) xnm_ok cl_X5_251 ci_IndexOutOfBoundsException (by decide +kernel) xat_X5_255 dX5_outputAt_15 dX5_outputAt_18 dX5_outputAt_19 dX5_outputAt_21 dX5_outputAt_24 (by decide) (by decide) (Nat.le_of_ble_eq_true rfl) rfl rfl
  · have h := ite_f c_1 h
    refine x_iload_n 1 g dX5_outputAt_4 rfl rfl ?_
    refine x_aload_n 0 g dX5_outputAt_5 rfl rfl ?_
    obtain ⟨q_2, h⟩ := gd_e h
    obtain ⟨b_3, e_4, h⟩ := gb_e h
    refine x_getr g dX5_outputAt_6 gXX5 4 9 rfl (by decide) rfl lf_X5_30 q_2 e_4 ?_
    obtain ⟨t_5, q_6, h⟩ := gb_e h
    refine x_sbL g q_6 lmb_X5_245 (by decide) (Nat.le_of_ble_eq_true rfl) dX5_outputAt_9 ?_
    refine x_icmp_lt 25 g dX5_outputAt_12 (by decide) (fun c_7 => ?_) (fun c_7 => ?_)
    · have h := ite_t c_7 h
      refine x_aload_n 0 g dX5_outputAt_25 rfl rfl ?_
      obtain ⟨b_8, e_9, h⟩ := gb_e h
      refine x_getr g dX5_outputAt_26 gXX5 4 9 rfl (by decide) rfl lf_X5_30 q_2 e_9 ?_
      refine x_iload_n 1 g dX5_outputAt_29 rfl rfl ?_
      obtain ⟨t_10, q_11, h⟩ := gb_e h
      obtain ⟨q_12, h⟩ := gd_e h
      refine x_sbC g q_11 q_12 lmb_X5_256 (by decide) (Nat.le_of_ble_eq_true rfl) dX5_outputAt_30 ?_
      obtain ⟨q_13, h⟩ := gd_e h
      cases h
    · have h := ite_f c_7 h
      cases h
      exact x_throw "there is no such index" g e (by decide +kernel) xnm_ok cl_X5_251 ci_IndexOutOfBoundsException (by decide +kernel) xat_X5_255 dX5_outputAt_15 dX5_outputAt_18 dX5_outputAt_19 dX5_outputAt_21 dX5_outputAt_24 (by decide) (by decide) (Nat.le_of_ble_eq_true rfl) rfl rfl
noncomputable def f_X5_type (G : gG) (a0 : Nat) (a1 : Int32) (S : gS) (T : gT) : Option ((String ⊕ Int32) × gS × gT) := gb (f_X5_isBetween a1 32 126) fun (r_2 : Bool) => if (gz r_2) = 0 then (some (.inl "java/lang/IllegalArgumentException", S, T)) else (gd (gis G 2 a0) <| gb (gP S 8 a0) fun (b_5 : Nat) => gb (tg T b_5) fun (t_7 : List Nat) => if (nI (List.length t_7)) < 60 then (gb (gP S 8 a0) fun (b_10 : Nat) => gb (tg T b_10) fun (t_12 : List Nat) => gd ((0 : Int32) ≤ a1 ∧ a1 ≤ (255 : Int32) ∧ gcap T b_10) <| gd (List.length (t_12 ++ [Int32.toNatClampNeg a1]) ≤ 70) <| glt (ts T b_10 (t_12 ++ [Int32.toNatClampNeg a1])) fun (T_16 : gT) => gb (gP S 8 a0) fun (b_18 : Nat) => gb (tg T_16 b_18) fun (t_20 : List Nat) => some (.inr (nI (List.length t_20)), S, T_16)) else (some (.inl "java/lang/IllegalStateException", S, T)))
set_option maxRecDepth 100000 in
set_option maxHeartbeats 4000000 in
theorem k_X5_type {ad : Nat → Nat} {G : gG} {a0 : Nat} {a1 : Int32} {S S1 : gS} {T T1 : gT} {r : Int32} (h : f_X5_type G a0 a1 S T = some (.inr r, S1, T1)) : Ct ad yX5_type (Cond.code yX5_type cX5_type 2 (some .int) :: gTb) 8 (gpc T) (gps T) [.ref a0, .int a1] G S T (some (.int r)) G S1 T1 := by
  refine Ct.ofB rfl (Nat.le_of_ble_eq_true rfl) rfl (fun K g e hK => ?_)
  obtain ⟨rfl, -⟩ := hK
  show Xj K [] G 0 [some (.ref a0), some (.int a1)] [] S T (gpc T) (gps T)
  unfold f_X5_type at h
  refine x_iload_n 1 g dX5_type_0 rfl rfl ?_
  refine x_bipush (v := 32) g dX5_type_1 (by decide) ?_
  refine x_bipush (v := 126) g dX5_type_3 (by decide) ?_
  obtain ⟨r_2, q_1, h⟩ := gb_e h
  refine x_cS [.int (gz r_2)] g (k_X5_isBetween q_1) ca_X5_isBetween st_X5_isBetween lm_X5_260 (Nat.le_of_ble_eq_true rfl) rfl rfl (Nat.le_of_ble_eq_true rfl) dX5_type_5 rfl ?_
  refine x_if_ne 22 g dX5_type_8 (by decide) (fun c_3 => ?_) (fun c_3 => ?_)
  · have h := ite_f c_3 h
    refine x_aload_n 0 g dX5_type_22 rfl rfl ?_
    obtain ⟨q_4, h⟩ := gd_e h
    obtain ⟨b_5, e_6, h⟩ := gb_e h
    refine x_getr g dX5_type_23 gXX5 3 8 rfl (by decide) rfl lf_X5_26 q_4 e_6 ?_
    obtain ⟨t_7, q_8, h⟩ := gb_e h
    refine x_sbL g q_8 lmb_X5_245 (by decide) (Nat.le_of_ble_eq_true rfl) dX5_type_26 ?_
    refine x_bipush (v := 60) g dX5_type_29 (by decide) ?_
    refine x_icmp_lt 45 g dX5_type_31 (by decide) (fun c_9 => ?_) (fun c_9 => ?_)
    · have h := ite_t c_9 h
      refine x_aload_n 0 g dX5_type_45 rfl rfl ?_
      obtain ⟨b_10, e_11, h⟩ := gb_e h
      refine x_getr g dX5_type_46 gXX5 3 8 rfl (by decide) rfl lf_X5_26 q_4 e_11 ?_
      refine x_iload_n 1 g dX5_type_49 rfl rfl ?_
      obtain ⟨t_12, q_13, h⟩ := gb_e h
      obtain ⟨q_14, h⟩ := gd_e h
      obtain ⟨q_15, h⟩ := gd_e h
      refine x_sbA g q_13 q_14 q_15 lmb_X5_241 (by decide) (Nat.le_of_ble_eq_true rfl) dX5_type_50 ?_
      refine x_nTp (fun T_16 e_17 => ?_)
      have h := glt_e e_17 h
      refine x_pop g dX5_type_53 rfl ?_
      refine x_aload_n 0 g dX5_type_54 rfl rfl ?_
      obtain ⟨b_18, e_19, h⟩ := gb_e h
      refine x_getr g dX5_type_55 gXX5 3 8 rfl (by decide) rfl lf_X5_26 q_4 e_19 ?_
      obtain ⟨t_20, q_21, h⟩ := gb_e h
      refine x_sbL g q_21 lmb_X5_245 (by decide) (Nat.le_of_ble_eq_true rfl) dX5_type_58 ?_
      cases h
      exact x_iretS g e dX5_type_61 rfl rfl
    · have h := ite_f c_9 h
      cases h
  · have h := ite_t c_3 h
    cases h
set_option maxRecDepth 100000 in
set_option maxHeartbeats 4000000 in
theorem t_X5_type {ad : Nat → Nat} {G : gG} {a0 : Nat} {a1 : Int32} {S S1 : gS} {T T1 : gT} {E : String} (h : f_X5_type G a0 a1 S T = some (.inl E, S1, T1)) : Cx ad yX5_type (Cond.code yX5_type cX5_type 2 (some .int) :: gTb) 8 [.ref a0, .int a1] G S T E S1 T1 := by
  refine Cx.ofB rfl (Nat.le_of_ble_eq_true rfl) rfl (fun K g e hK => ?_)
  obtain ⟨rfl, -⟩ := hK
  show Xj K [] G 0 [some (.ref a0), some (.int a1)] [] S T 1 6
  unfold f_X5_type at h
  refine x_iload_n 1 g dX5_type_0 rfl rfl ?_
  refine x_bipush (v := 32) g dX5_type_1 (by decide) ?_
  refine x_bipush (v := 126) g dX5_type_3 (by decide) ?_
  obtain ⟨r_2, q_1, h⟩ := gb_e h
  refine x_cS [.int (gz r_2)] g (k_X5_isBetween q_1) ca_X5_isBetween st_X5_isBetween lm_X5_260 (Nat.le_of_ble_eq_true rfl) rfl rfl (Nat.le_of_ble_eq_true rfl) dX5_type_5 rfl ?_
  refine x_if_ne 22 g dX5_type_8 (by decide) (fun c_3 => ?_) (fun c_3 => ?_)
  · have h := ite_f c_3 h
    refine x_aload_n 0 g dX5_type_22 rfl rfl ?_
    obtain ⟨q_4, h⟩ := gd_e h
    obtain ⟨b_5, e_6, h⟩ := gb_e h
    refine x_getr g dX5_type_23 gXX5 3 8 rfl (by decide) rfl lf_X5_26 q_4 e_6 ?_
    obtain ⟨t_7, q_8, h⟩ := gb_e h
    refine x_sbL g q_8 lmb_X5_245 (by decide) (Nat.le_of_ble_eq_true rfl) dX5_type_26 ?_
    refine x_bipush (v := 60) g dX5_type_29 (by decide) ?_
    refine x_icmp_lt 45 g dX5_type_31 (by decide) (fun c_9 => ?_) (fun c_9 => ?_)
    · have h := ite_t c_9 h
      refine x_aload_n 0 g dX5_type_45 rfl rfl ?_
      obtain ⟨b_10, e_11, h⟩ := gb_e h
      refine x_getr g dX5_type_46 gXX5 3 8 rfl (by decide) rfl lf_X5_26 q_4 e_11 ?_
      refine x_iload_n 1 g dX5_type_49 rfl rfl ?_
      obtain ⟨t_12, q_13, h⟩ := gb_e h
      obtain ⟨q_14, h⟩ := gd_e h
      obtain ⟨q_15, h⟩ := gd_e h
      refine ((?_ : gNT _) _ _ _ h).elim
      repeat' (first | with_reducible refine NT_gd ?_ | with_reducible refine NT_gb fun _ => ?_ | with_reducible refine NT_gb2 fun _ _ => ?_ | with_reducible refine NT_glt ?_ | with_reducible refine NT_ite ?_ ?_ | with_reducible exact NT_ret | with_reducible exact NT_none)
    · have h := ite_f c_9 h
      cases h
      exact x_throwW "the script buffer is full" g e (by decide +kernel) xnm_ok cl_X5_266 ci_IllegalStateException (by decide +kernel) xat_X5_270 dX5_type_34 dX5_type_37 dX5_type_38 dX5_type_41 dX5_type_44 (by decide) (by decide) (Nat.le_of_ble_eq_true rfl) rfl rfl
  · have h := ite_t c_3 h
    cases h
    exact x_throwW "the character code is not between 32 and 126" g e (by decide +kernel) xnm_ok cl_X5_183 ci_IllegalArgumentException (by decide +kernel) xat_X5_187 dX5_type_11 dX5_type_14 dX5_type_15 dX5_type_18 dX5_type_21 (by decide) (by decide) (Nat.le_of_ble_eq_true rfl) rfl rfl
noncomputable def f_X5_commandEnd_L2 (G : gG) (a0 : Nat) (a1 : Int32) (S : gS) (T : gT) : Nat → Int32 → Option Int32
  | 0, _ => none
  | n2 + 1, x2 => gd (gis G 2 a0) <| gb (gP S 8 a0) fun (b_2 : Nat) => gb (tg T b_2) fun (t_4 : List Nat) => if (nI (List.length t_4)) ≤ x2 then (gb (gP S 8 a0) fun (b_7 : Nat) => gb (tg T b_7) fun (t_9 : List Nat) => some (nI (List.length t_9))) else (gb (gP S 8 a0) fun (b_11 : Nat) => gb (tg T b_11) fun (t_13 : List Nat) => gd (vp_in x2 (List.length t_13)) <| if (nI (List.getD t_13 (Int32.toNatClampNeg x2) 0)) = 59 then (some x2) else (glt (x2 + 1) fun (x2_17 : Int32) => f_X5_commandEnd_L2 G a0 a1 S T n2 x2_17))
noncomputable def f_X5_commandEnd (G : gG) (a0 : Nat) (a1 : Int32) (S : gS) (T : gT) : Option Int32 := f_X5_commandEnd_L2 G a0 a1 S T gN a1
set_option maxRecDepth 100000 in
set_option maxHeartbeats 4000000 in
theorem k_X5_commandEnd {ad : Nat → Nat} {G : gG} {a0 : Nat} {a1 : Int32} {S : gS} {T : gT} {r : Int32} (h : f_X5_commandEnd G a0 a1 S T = some r) : Ct ad yX5_commandEnd (Cond.code yX5_commandEnd cX5_commandEnd 3 (some .int) :: gTb) 8 0 0 [.ref a0, .int a1] G S T (some (.int r)) G S T := by
  refine Ct.ofB rfl (Nat.le_of_ble_eq_true rfl) rfl (fun K g e hK => ?_)
  obtain ⟨rfl, -⟩ := hK
  show Xj K [] G 0 [some (.ref a0), some (.int a1), none] [] S T 0 0
  unfold f_X5_commandEnd at h
  refine x_iload_n 1 g dX5_commandEnd_0 rfl rfl ?_
  refine x_istore_n 2 g dX5_commandEnd_1 rfl (Nat.le_of_ble_eq_true rfl) rfl ?_
  have L2 : ∀ (n2 : Nat) (x2 : Int32), f_X5_commandEnd_L2 G a0 a1 S T n2 x2 = some r → Xj K [] G 2 [some (.ref a0), some (.int a1), some (.int x2)] [] S T 0 0 := by
    intro n2
    induction n2 with
    | zero =>
      intro x2 h
      rw [f_X5_commandEnd_L2] at h
      cases h
    | succ n2 ih =>
      intro x2 h
      rw [f_X5_commandEnd_L2] at h
      refine x_iload_n 2 g dX5_commandEnd_2 rfl rfl ?_
      refine x_aload_n 0 g dX5_commandEnd_3 rfl rfl ?_
      obtain ⟨q_1, h⟩ := gd_e h
      obtain ⟨b_2, e_3, h⟩ := gb_e h
      refine x_getr g dX5_commandEnd_4 gXX5 3 8 rfl (by decide) rfl lf_X5_26 q_1 e_3 ?_
      obtain ⟨t_4, q_5, h⟩ := gb_e h
      refine x_sbL g q_5 lmb_X5_245 (by decide) (Nat.le_of_ble_eq_true rfl) dX5_commandEnd_7 ?_
      refine x_icmp_ge 34 g dX5_commandEnd_10 (by decide) (fun c_6 => ?_) (fun c_6 => ?_)
      · have h := ite_t c_6 h
        refine x_aload_n 0 g dX5_commandEnd_34 rfl rfl ?_
        obtain ⟨b_7, e_8, h⟩ := gb_e h
        refine x_getr g dX5_commandEnd_35 gXX5 3 8 rfl (by decide) rfl lf_X5_26 q_1 e_8 ?_
        obtain ⟨t_9, q_10, h⟩ := gb_e h
        refine x_sbL g q_10 lmb_X5_245 (by decide) (Nat.le_of_ble_eq_true rfl) dX5_commandEnd_38 ?_
        cases h
        exact x_iretS g e dX5_commandEnd_41 rfl rfl
      · have h := ite_f c_6 h
        refine x_aload_n 0 g dX5_commandEnd_13 rfl rfl ?_
        obtain ⟨b_11, e_12, h⟩ := gb_e h
        refine x_getr g dX5_commandEnd_14 gXX5 3 8 rfl (by decide) rfl lf_X5_26 q_1 e_12 ?_
        refine x_iload_n 2 g dX5_commandEnd_17 rfl rfl ?_
        obtain ⟨t_13, q_14, h⟩ := gb_e h
        obtain ⟨q_15, h⟩ := gd_e h
        refine x_sbC g q_14 q_15 lmb_X5_256 (by decide) (Nat.le_of_ble_eq_true rfl) dX5_commandEnd_18 ?_
        refine x_bipush (v := 59) g dX5_commandEnd_21 (by decide) ?_
        refine x_icmp_ne 28 g dX5_commandEnd_23 (by decide) (fun c_16 => ?_) (fun c_16 => ?_)
        · have h := ite_f c_16 h
          obtain ⟨x2_17, e_18⟩ : ∃ z : Int32, z = x2 + 1 := ⟨_, rfl⟩
          have h := glt_e e_18 h
          refine x_iinc (v := x2_17) g dX5_commandEnd_28 rfl (by rw [e_18]; rfl) rfl ?_
          refine x_goto 2 g dX5_commandEnd_31 (by decide) ?_
          exact ih _ h
        · have h := ite_t c_16 h
          refine x_iload_n 2 g dX5_commandEnd_26 rfl rfl ?_
          cases h
          exact x_iretS g e dX5_commandEnd_27 rfl rfl
  exact L2 gN _ h
noncomputable def f_X5_isDigit (a0 : Int32) : Option Bool := if a0 < 48 then (some false) else (if 57 < a0 then (some false) else (some true))
set_option maxRecDepth 100000 in
set_option maxHeartbeats 4000000 in
theorem k_X5_isDigit {ad : Nat → Nat} {G : gG} {a0 : Int32} {S : gS} {T : gT} {r : Bool} (h : f_X5_isDigit a0 = some r) : Ct ad yX5_isDigit (Cond.code yX5_isDigit cX5_isDigit 1 (some .boolean) :: gTb) 0 0 0 [.int a0] G S T (some (.int (gz r))) G S T := by
  refine Ct.ofB rfl (Nat.le_of_ble_eq_true rfl) rfl (fun K g e hK => ?_)
  obtain ⟨rfl, -⟩ := hK
  show Xj K [] G 0 [some (.int a0)] [] S T 0 0
  unfold f_X5_isDigit at h
  refine x_iload_n 0 g dX5_isDigit_0 rfl rfl ?_
  refine x_bipush (v := 48) g dX5_isDigit_1 (by decide) ?_
  refine x_icmp_lt 16 g dX5_isDigit_3 (by decide) (fun c_1 => ?_) (fun c_1 => ?_)
  · have h := ite_t c_1 h
    refine x_iconst (v := 0) g dX5_isDigit_16 (by decide) ?_
    cases h
    exact x_zretS (b := false) g e dX5_isDigit_17 rfl rfl rfl
  · have h := ite_f c_1 h
    refine x_iload_n 0 g dX5_isDigit_6 rfl rfl ?_
    refine x_bipush (v := 57) g dX5_isDigit_7 (by decide) ?_
    refine x_icmp_gt 16 g dX5_isDigit_9 (by decide) (fun c_2 => ?_) (fun c_2 => ?_)
    · have h := ite_t c_2 h
      refine x_iconst (v := 0) g dX5_isDigit_16 (by decide) ?_
      cases h
      exact x_zretS (b := false) g e dX5_isDigit_17 rfl rfl rfl
    · have h := ite_f c_2 h
      refine x_iconst (v := 1) g dX5_isDigit_12 (by decide) ?_
      refine x_goto 17 g dX5_isDigit_13 (by decide) ?_
      cases h
      exact x_zretS (b := true) g e dX5_isDigit_17 rfl rfl rfl
noncomputable def f_X5_fits (a0 : Int32) (a1 : Int32) : Option Bool := if a0 = 35 then (gb (f_X5_isDigit a1) fun (r_4 : Bool) => some r_4) else (if a0 = a1 then (some true) else (some false))
set_option maxRecDepth 100000 in
set_option maxHeartbeats 4000000 in
theorem k_X5_fits {ad : Nat → Nat} {G : gG} {a0 : Int32} {a1 : Int32} {S : gS} {T : gT} {r : Bool} (h : f_X5_fits a0 a1 = some r) : Ct ad yX5_fits (Cond.code yX5_fits cX5_fits 2 (some .boolean) :: gTb) 1 0 0 [.int a0, .int a1] G S T (some (.int (gz r))) G S T := by
  refine Ct.ofB rfl (Nat.le_of_ble_eq_true rfl) rfl (fun K g e hK => ?_)
  obtain ⟨rfl, -⟩ := hK
  show Xj K [] G 0 [some (.int a0), some (.int a1)] [] S T 0 0
  unfold f_X5_fits at h
  refine x_iload_n 0 g dX5_fits_0 rfl rfl ?_
  refine x_bipush (v := 35) g dX5_fits_1 (by decide) ?_
  refine x_icmp_ne 13 g dX5_fits_3 (by decide) (fun c_1 => ?_) (fun c_1 => ?_)
  · have h := ite_f c_1 h
    refine x_iload_n 0 g dX5_fits_13 rfl rfl ?_
    refine x_iload_n 1 g dX5_fits_14 rfl rfl ?_
    refine x_icmp_ne 22 g dX5_fits_15 (by decide) (fun c_2 => ?_) (fun c_2 => ?_)
    · have h := ite_f c_2 h
      refine x_iconst (v := 0) g dX5_fits_22 (by decide) ?_
      cases h
      exact x_zretS (b := false) g e dX5_fits_23 rfl rfl rfl
    · have h := ite_t c_2 h
      refine x_iconst (v := 1) g dX5_fits_18 (by decide) ?_
      refine x_goto 23 g dX5_fits_19 (by decide) ?_
      cases h
      exact x_zretS (b := true) g e dX5_fits_23 rfl rfl rfl
  · have h := ite_t c_1 h
    refine x_iload_n 1 g dX5_fits_6 rfl rfl ?_
    obtain ⟨r_4, q_3, h⟩ := gb_e h
    refine x_cS [.int (gz r_4)] g (k_X5_isDigit q_3) ca_X5_isDigit st_X5_isDigit lm_X5_419 (Nat.le_of_ble_eq_true rfl) rfl rfl (Nat.le_of_ble_eq_true rfl) dX5_fits_7 rfl ?_
    refine x_goto 23 g dX5_fits_10 (by decide) ?_
    cases h
    exact x_zretS g e dX5_fits_23 rfl rfl rfl
noncomputable def f_X5_matchedLength_L2 (G : gG) (a0 : Nat) (a1 : Nat) (a2 : Int32) (S : gS) (T : gT) : Nat → Int32 → Option Int32
  | 0, _ => none
  | n2 + 1, x3 => gd (a1 < 8) <| if (nI (gfl a1)) ≤ x3 then (some x3) else (gd (gis G 2 a0) <| gb (gP S 8 a0) fun (b_4 : Nat) => gb (tg T b_4) fun (t_6 : List Nat) => if (nI (List.length t_6)) ≤ (a2 + x3) then (some x3) else (gd (vp_in x3 (gfl a1)) <| gb (gP S 8 a0) fun (b_10 : Nat) => gb (tg T b_10) fun (t_12 : List Nat) => gd (vp_in (a2 + x3) (List.length t_12)) <| gb (f_X5_fits (gfc a1 (Int32.toNatClampNeg x3)) (nI (List.getD t_12 (Int32.toNatClampNeg (a2 + x3)) 0))) fun (r_16 : Bool) => if (gz r_16) = 0 then (some x3) else (glt (x3 + 1) fun (x3_18 : Int32) => f_X5_matchedLength_L2 G a0 a1 a2 S T n2 x3_18)))
noncomputable def f_X5_matchedLength (G : gG) (a0 : Nat) (a1 : Nat) (a2 : Int32) (S : gS) (T : gT) : Option Int32 := f_X5_matchedLength_L2 G a0 a1 a2 S T gN 0
set_option maxRecDepth 100000 in
set_option maxHeartbeats 4000000 in
theorem k_X5_matchedLength {ad : Nat → Nat} {G : gG} {a0 : Nat} {a1 : Nat} {a2 : Int32} {S : gS} {T : gT} {r : Int32} (h : f_X5_matchedLength G a0 a1 a2 S T = some r) : Ct ad yX5_matchedLength (Cond.code yX5_matchedLength cX5_matchedLength 4 (some .int) :: gTb) 8 0 0 [.ref a0, .ref (ad (20 + a1)), .int a2] G S T (some (.int r)) G S T := by
  refine Ct.ofB rfl (Nat.le_of_ble_eq_true rfl) rfl (fun K g e hK => ?_)
  obtain ⟨rfl, -⟩ := hK
  show Xj K [] G 0 [some (.ref a0), some (.ref ((ky K).2 (20 + a1))), some (.int a2), none] [] S T 0 0
  unfold f_X5_matchedLength at h
  refine x_iconst (v := 0) g dX5_matchedLength_0 (by decide) ?_
  refine x_istore_n 3 g dX5_matchedLength_1 rfl (Nat.le_of_ble_eq_true rfl) rfl ?_
  have L2 : ∀ (n2 : Nat) (x3 : Int32), f_X5_matchedLength_L2 G a0 a1 a2 S T n2 x3 = some r → Xj K [] G 2 [some (.ref a0), some (.ref ((ky K).2 (20 + a1))), some (.int a2), some (.int x3)] [] S T 0 0 := by
    intro n2
    induction n2 with
    | zero =>
      intro x3 h
      rw [f_X5_matchedLength_L2] at h
      cases h
    | succ n2 ih =>
      intro x3 h
      rw [f_X5_matchedLength_L2] at h
      refine x_iload_n 3 g dX5_matchedLength_2 rfl rfl ?_
      refine x_aload_n 1 g dX5_matchedLength_3 rfl rfl ?_
      obtain ⟨q_1, h⟩ := gd_e h
      refine x_strL g q_1 lms_X5_406 (by decide) (Nat.le_of_ble_eq_true rfl) dX5_matchedLength_4 ?_
      refine x_icmp_ge 50 g dX5_matchedLength_7 (by decide) (fun c_2 => ?_) (fun c_2 => ?_)
      · have h := ite_t c_2 h
        refine x_iload_n 3 g dX5_matchedLength_50 rfl rfl ?_
        cases h
        exact x_iretS g e dX5_matchedLength_51 rfl rfl
      · have h := ite_f c_2 h
        refine x_iload_n 2 g dX5_matchedLength_10 rfl rfl ?_
        refine x_iload_n 3 g dX5_matchedLength_11 rfl rfl ?_
        refine x_iadd g dX5_matchedLength_12 ?_
        refine x_aload_n 0 g dX5_matchedLength_13 rfl rfl ?_
        obtain ⟨q_3, h⟩ := gd_e h
        obtain ⟨b_4, e_5, h⟩ := gb_e h
        refine x_getr g dX5_matchedLength_14 gXX5 3 8 rfl (by decide) rfl lf_X5_26 q_3 e_5 ?_
        obtain ⟨t_6, q_7, h⟩ := gb_e h
        refine x_sbL g q_7 lmb_X5_245 (by decide) (Nat.le_of_ble_eq_true rfl) dX5_matchedLength_17 ?_
        refine x_icmp_ge 50 g dX5_matchedLength_20 (by decide) (fun c_8 => ?_) (fun c_8 => ?_)
        · have h := ite_t c_8 h
          refine x_iload_n 3 g dX5_matchedLength_50 rfl rfl ?_
          cases h
          exact x_iretS g e dX5_matchedLength_51 rfl rfl
        · have h := ite_f c_8 h
          refine x_aload_n 1 g dX5_matchedLength_23 rfl rfl ?_
          refine x_iload_n 3 g dX5_matchedLength_24 rfl rfl ?_
          obtain ⟨q_9, h⟩ := gd_e h
          refine x_strC g q_1 q_9 lms_X5_414 (by decide) (Nat.le_of_ble_eq_true rfl) dX5_matchedLength_25 ?_
          refine x_aload_n 0 g dX5_matchedLength_28 rfl rfl ?_
          obtain ⟨b_10, e_11, h⟩ := gb_e h
          refine x_getr g dX5_matchedLength_29 gXX5 3 8 rfl (by decide) rfl lf_X5_26 q_3 e_11 ?_
          refine x_iload_n 2 g dX5_matchedLength_32 rfl rfl ?_
          refine x_iload_n 3 g dX5_matchedLength_33 rfl rfl ?_
          refine x_iadd g dX5_matchedLength_34 ?_
          obtain ⟨t_12, q_13, h⟩ := gb_e h
          obtain ⟨q_14, h⟩ := gd_e h
          refine x_sbC g q_13 q_14 lmb_X5_256 (by decide) (Nat.le_of_ble_eq_true rfl) dX5_matchedLength_35 ?_
          obtain ⟨r_16, q_15, h⟩ := gb_e h
          refine x_cS [.int (gz r_16)] g (k_X5_fits q_15) ca_X5_fits st_X5_fits lm_X5_415 (Nat.le_of_ble_eq_true rfl) rfl rfl (Nat.le_of_ble_eq_true rfl) dX5_matchedLength_38 rfl ?_
          refine x_if_eq 50 g dX5_matchedLength_41 (by decide) (fun c_17 => ?_) (fun c_17 => ?_)
          · have h := ite_t c_17 h
            refine x_iload_n 3 g dX5_matchedLength_50 rfl rfl ?_
            cases h
            exact x_iretS g e dX5_matchedLength_51 rfl rfl
          · have h := ite_f c_17 h
            obtain ⟨x3_18, e_19⟩ : ∃ z : Int32, z = x3 + 1 := ⟨_, rfl⟩
            have h := glt_e e_19 h
            refine x_iinc (v := x3_18) g dX5_matchedLength_44 rfl (by rw [e_19]; rfl) rfl ?_
            refine x_goto 2 g dX5_matchedLength_47 (by decide) ?_
            exact ih _ h
  exact L2 gN _ h
noncomputable def f_X5_commandAt_L11 (G : gG) (a0 : Nat) (a1 : Int32) (a2 : Int32) (S : gS) (T : gT) : Nat → Int32 → Int32 → Option (Option Nat)
  | 0, _, _ => none
  | n11 + 1, x4, x5 => if x4 ≤ x5 then (some none) else (gd (vp_in x5 8) <| gd ((Int32.toNatClampNeg x5) < 8) <| gd (gis G 2 a0) <| gb (f_X5_matchedLength G a0 (Int32.toNatClampNeg x5) a1 S T) fun (r_6 : Int32) => if r_6 = (glst (Int32.toNatClampNeg x5)) then (if r_6 = (a2 - a1) then (some (some (Int32.toNatClampNeg x5))) else (glt (x5 + 1) fun (x5_9 : Int32) => f_X5_commandAt_L11 G a0 a1 a2 S T n11 x4 x5_9)) else (if r_6 = (nI (gfl (Int32.toNatClampNeg x5))) then (if r_6 = (a2 - a1) then (some (some (Int32.toNatClampNeg x5))) else (glt (x5 + 1) fun (x5_15 : Int32) => f_X5_commandAt_L11 G a0 a1 a2 S T n11 x4 x5_15)) else (glt (x5 + 1) fun (x5_12 : Int32) => f_X5_commandAt_L11 G a0 a1 a2 S T n11 x4 x5_12)))
noncomputable def f_X5_commandAt (G : gG) (a0 : Nat) (a1 : Int32) (a2 : Int32) (S : gS) (T : gT) : Option (Option Nat) := f_X5_commandAt_L11 G a0 a1 a2 S T gN 8 0
set_option maxRecDepth 100000 in
set_option maxHeartbeats 4000000 in
theorem k_X5_commandAt {ad : Nat → Nat} {G : gG} {a0 : Nat} {a1 : Int32} {a2 : Int32} {S : gS} {T : gT} {r : (Option Nat)} (h : f_X5_commandAt G a0 a1 a2 S T = some r) : Ct ad yX5_commandAt (Cond.code yX5_commandAt cX5_commandAt 9 (some ( .object "UmbrellaSchool$Command")) :: gTb) 9 0 0 [.ref a0, .int a1, .int a2] G S T (some (va_rf (r.map ad))) G S T := by
  refine Ct.ofB rfl (Nat.le_of_ble_eq_true rfl) rfl (fun K g e hK => ?_)
  obtain ⟨rfl, -⟩ := hK
  show Xj K [] G 0 [some (.ref a0), some (.int a1), some (.int a2), none, none, none, none, none, none] [] S T 0 0
  unfold f_X5_commandAt at h
  refine x_gst g dX5_commandAt_0 (hzS g) ls_X5_391 ?_
  refine x_astore_n 3 g dX5_commandAt_3 rfl (Nat.le_of_ble_eq_true rfl) rfl ?_
  refine x_aload_n 3 g dX5_commandAt_4 rfl rfl ?_
  refine x_lenCM g dX5_commandAt_5 ?_
  refine x_istore (i := 4) g dX5_commandAt_6 (Nat.le_of_ble_eq_true rfl) rfl ?_
  refine x_iconst (v := 0) g dX5_commandAt_8 (by decide) ?_
  refine x_istore (i := 5) g dX5_commandAt_9 (Nat.le_of_ble_eq_true rfl) rfl ?_
  have L11 : ∀ (n11 : Nat) (x4 : Int32) (x5 : Int32), f_X5_commandAt_L11 G a0 a1 a2 S T n11 x4 x5 = some r → Xj K [] G 11 [some (.ref a0), some (.int a1), some (.int a2), some (.ref ((ky K).2 40)), some (.int x4), some (.int x5), none, none, none] [] S T 0 0 := by
    intro n11
    induction n11 with
    | zero =>
      intro x4 x5 h
      rw [f_X5_commandAt_L11] at h
      cases h
    | succ n11 ih =>
      intro x4 x5 h
      rw [f_X5_commandAt_L11] at h
      refine x_iload (i := 5) g dX5_commandAt_11 rfl ?_
      refine x_iload (i := 4) g dX5_commandAt_13 rfl ?_
      refine x_icmp_ge 88 g dX5_commandAt_15 (by decide) (fun c_1 => ?_) (fun c_1 => ?_)
      · have h := ite_t c_1 h
        refine x_null g dX5_commandAt_88 ?_
        cases h
        exact x_aretN g e dX5_commandAt_89 rfl
      · have h := ite_f c_1 h
        refine x_aload_n 3 g dX5_commandAt_18 rfl rfl ?_
        refine x_iload (i := 5) g dX5_commandAt_19 rfl ?_
        obtain ⟨q_2, h⟩ := gd_e h
        refine x_ldCM g dX5_commandAt_21 q_2 ?_
        refine x_astore (i := 6) g dX5_commandAt_22 (Nat.le_of_ble_eq_true rfl) rfl ?_
        refine x_aload_n 0 g dX5_commandAt_24 rfl rfl ?_
        refine x_aload (i := 6) g dX5_commandAt_25 rfl ?_
        obtain ⟨q_3, h⟩ := gd_e h
        refine x_gcf g dX5_commandAt_27 (hzF g q_3) ls_X5_395 ?_
        refine x_iload_n 1 g dX5_commandAt_30 rfl rfl ?_
        obtain ⟨q_4, h⟩ := gd_e h
        obtain ⟨r_6, q_5, h⟩ := gb_e h
        refine x_cV [.int r_6] g (k_X5_matchedLength q_5) ca_X5_matchedLength in_X5_matchedLength se_X5_matchedLength lm_X5_399 gXX5 q_4 (Nat.le_of_ble_eq_true rfl) rfl rfl (Nat.le_of_ble_eq_true rfl) dX5_commandAt_31 rfl ?_
        refine x_istore (i := 7) g dX5_commandAt_34 (Nat.le_of_ble_eq_true rfl) rfl ?_
        refine x_iload (i := 7) g dX5_commandAt_36 rfl ?_
        refine x_aload (i := 6) g dX5_commandAt_38 rfl ?_
        refine x_gcf g dX5_commandAt_40 (hzL g q_3) ls_X5_403 ?_
        refine x_icmp_eq 59 g dX5_commandAt_43 (by decide) (fun c_7 => ?_) (fun c_7 => ?_)
        · have h := ite_t c_7 h
          refine x_iconst (v := 1) g dX5_commandAt_59 (by decide) ?_
          refine x_goto 64 g dX5_commandAt_60 (by decide) ?_
          refine x_istore (i := 8) g dX5_commandAt_64 (Nat.le_of_ble_eq_true rfl) rfl ?_
          refine x_iload (i := 8) g dX5_commandAt_66 rfl ?_
          refine x_if_eq 82 g dX5_commandAt_68 (by decide) (fun c9 => absurd c9 (by decide)) (fun _ => ?_)
          refine x_iload (i := 7) g dX5_commandAt_71 rfl ?_
          refine x_iload_n 2 g dX5_commandAt_73 rfl rfl ?_
          refine x_iload_n 1 g dX5_commandAt_74 rfl rfl ?_
          refine x_isub g dX5_commandAt_75 ?_
          refine x_icmp_ne 82 g dX5_commandAt_76 (by decide) (fun c_8 => ?_) (fun c_8 => ?_)
          · have h := ite_f c_8 h
            obtain ⟨x5_9, e_10⟩ : ∃ z : Int32, z = x5 + 1 := ⟨_, rfl⟩
            have h := glt_e e_10 h
            refine x_iinc (v := x5_9) g dX5_commandAt_82 rfl (by rw [e_10]; rfl) rfl ?_
            refine x_goto 11 g dX5_commandAt_85 (by decide) ?_
            refine x_dr 6 ?_
            refine x_dr 7 ?_
            refine x_dr 8 ?_
            exact ih _ _ h
          · have h := ite_t c_8 h
            refine x_aload (i := 6) g dX5_commandAt_79 rfl ?_
            cases h
            exact x_aretC g e dX5_commandAt_81 rfl
        · have h := ite_f c_7 h
          refine x_iload (i := 7) g dX5_commandAt_46 rfl ?_
          refine x_aload (i := 6) g dX5_commandAt_48 rfl ?_
          refine x_gcf g dX5_commandAt_50 (hzF g q_3) ls_X5_395 ?_
          refine x_strL g q_3 lms_X5_406 (by decide) (Nat.le_of_ble_eq_true rfl) dX5_commandAt_53 ?_
          refine x_icmp_ne 63 g dX5_commandAt_56 (by decide) (fun c_11 => ?_) (fun c_11 => ?_)
          · have h := ite_f c_11 h
            refine x_iconst (v := 0) g dX5_commandAt_63 (by decide) ?_
            refine x_istore (i := 8) g dX5_commandAt_64 (Nat.le_of_ble_eq_true rfl) rfl ?_
            refine x_iload (i := 8) g dX5_commandAt_66 rfl ?_
            refine x_if_eq 82 g dX5_commandAt_68 (by decide) (fun _ => ?_) (fun c9 => absurd c9 (by decide))
            obtain ⟨x5_12, e_13⟩ : ∃ z : Int32, z = x5 + 1 := ⟨_, rfl⟩
            have h := glt_e e_13 h
            refine x_iinc (v := x5_12) g dX5_commandAt_82 rfl (by rw [e_13]; rfl) rfl ?_
            refine x_goto 11 g dX5_commandAt_85 (by decide) ?_
            refine x_dr 6 ?_
            refine x_dr 7 ?_
            refine x_dr 8 ?_
            exact ih _ _ h
          · have h := ite_t c_11 h
            refine x_iconst (v := 1) g dX5_commandAt_59 (by decide) ?_
            refine x_goto 64 g dX5_commandAt_60 (by decide) ?_
            refine x_istore (i := 8) g dX5_commandAt_64 (Nat.le_of_ble_eq_true rfl) rfl ?_
            refine x_iload (i := 8) g dX5_commandAt_66 rfl ?_
            refine x_if_eq 82 g dX5_commandAt_68 (by decide) (fun c9 => absurd c9 (by decide)) (fun _ => ?_)
            refine x_iload (i := 7) g dX5_commandAt_71 rfl ?_
            refine x_iload_n 2 g dX5_commandAt_73 rfl rfl ?_
            refine x_iload_n 1 g dX5_commandAt_74 rfl rfl ?_
            refine x_isub g dX5_commandAt_75 ?_
            refine x_icmp_ne 82 g dX5_commandAt_76 (by decide) (fun c_14 => ?_) (fun c_14 => ?_)
            · have h := ite_f c_14 h
              obtain ⟨x5_15, e_16⟩ : ∃ z : Int32, z = x5 + 1 := ⟨_, rfl⟩
              have h := glt_e e_16 h
              refine x_iinc (v := x5_15) g dX5_commandAt_82 rfl (by rw [e_16]; rfl) rfl ?_
              refine x_goto 11 g dX5_commandAt_85 (by decide) ?_
              refine x_dr 6 ?_
              refine x_dr 7 ?_
              refine x_dr 8 ?_
              exact ih _ _ h
            · have h := ite_t c_14 h
              refine x_aload (i := 6) g dX5_commandAt_79 rfl ?_
              cases h
              exact x_aretC g e dX5_commandAt_81 rfl
  exact L11 gN _ _ h
noncomputable def f_X5_longestMatch_L13 (G : gG) (a0 : Nat) (a1 : Int32) (S : gS) (T : gT) : Nat → Int32 → Int32 → Int32 → Option Int32
  | 0, _, _, _ => none
  | n13 + 1, x2, x4, x5 => if x4 ≤ x5 then (some x2) else (gd (vp_in x5 8) <| gd ((Int32.toNatClampNeg x5) < 8) <| gd (gis G 2 a0) <| gb (f_X5_matchedLength G a0 (Int32.toNatClampNeg x5) a1 S T) fun (r_6 : Int32) => glt (if x2 < r_6 then r_6 else x2) fun (x2_7 : Int32) => glt (x5 + 1) fun (x5_9 : Int32) => f_X5_longestMatch_L13 G a0 a1 S T n13 x2_7 x4 x5_9)
noncomputable def f_X5_longestMatch (G : gG) (a0 : Nat) (a1 : Int32) (S : gS) (T : gT) : Option Int32 := f_X5_longestMatch_L13 G a0 a1 S T gN 0 8 0
set_option maxRecDepth 100000 in
set_option maxHeartbeats 4000000 in
theorem k_X5_longestMatch {ad : Nat → Nat} {G : gG} {a0 : Nat} {a1 : Int32} {S : gS} {T : gT} {r : Int32} (h : f_X5_longestMatch G a0 a1 S T = some r) : Ct ad yX5_longestMatch (Cond.code yX5_longestMatch cX5_longestMatch 7 (some .int) :: gTb) 9 0 0 [.ref a0, .int a1] G S T (some (.int r)) G S T := by
  refine Ct.ofB rfl (Nat.le_of_ble_eq_true rfl) rfl (fun K g e hK => ?_)
  obtain ⟨rfl, -⟩ := hK
  show Xj K [] G 0 [some (.ref a0), some (.int a1), none, none, none, none, none] [] S T 0 0
  unfold f_X5_longestMatch at h
  refine x_iconst (v := 0) g dX5_longestMatch_0 (by decide) ?_
  refine x_istore_n 2 g dX5_longestMatch_1 rfl (Nat.le_of_ble_eq_true rfl) rfl ?_
  refine x_gst g dX5_longestMatch_2 (hzS g) ls_X5_391 ?_
  refine x_astore_n 3 g dX5_longestMatch_5 rfl (Nat.le_of_ble_eq_true rfl) rfl ?_
  refine x_aload_n 3 g dX5_longestMatch_6 rfl rfl ?_
  refine x_lenCM g dX5_longestMatch_7 ?_
  refine x_istore (i := 4) g dX5_longestMatch_8 (Nat.le_of_ble_eq_true rfl) rfl ?_
  refine x_iconst (v := 0) g dX5_longestMatch_10 (by decide) ?_
  refine x_istore (i := 5) g dX5_longestMatch_11 (Nat.le_of_ble_eq_true rfl) rfl ?_
  have L13 : ∀ (n13 : Nat) (x2 : Int32) (x4 : Int32) (x5 : Int32), f_X5_longestMatch_L13 G a0 a1 S T n13 x2 x4 x5 = some r → Xj K [] G 13 [some (.ref a0), some (.int a1), some (.int x2), some (.ref ((ky K).2 40)), some (.int x4), some (.int x5), none] [] S T 0 0 := by
    intro n13
    induction n13 with
    | zero =>
      intro x2 x4 x5 h
      rw [f_X5_longestMatch_L13] at h
      cases h
    | succ n13 ih =>
      intro x2 x4 x5 h
      rw [f_X5_longestMatch_L13] at h
      refine x_iload (i := 5) g dX5_longestMatch_13 rfl ?_
      refine x_iload (i := 4) g dX5_longestMatch_15 rfl ?_
      refine x_icmp_ge 47 g dX5_longestMatch_17 (by decide) (fun c_1 => ?_) (fun c_1 => ?_)
      · have h := ite_t c_1 h
        refine x_iload_n 2 g dX5_longestMatch_47 rfl rfl ?_
        cases h
        exact x_iretS g e dX5_longestMatch_48 rfl rfl
      · have h := ite_f c_1 h
        refine x_aload_n 3 g dX5_longestMatch_20 rfl rfl ?_
        refine x_iload (i := 5) g dX5_longestMatch_21 rfl ?_
        obtain ⟨q_2, h⟩ := gd_e h
        refine x_ldCM g dX5_longestMatch_23 q_2 ?_
        refine x_astore (i := 6) g dX5_longestMatch_24 (Nat.le_of_ble_eq_true rfl) rfl ?_
        refine x_iload_n 2 g dX5_longestMatch_26 rfl rfl ?_
        refine x_aload_n 0 g dX5_longestMatch_27 rfl rfl ?_
        refine x_aload (i := 6) g dX5_longestMatch_28 rfl ?_
        obtain ⟨q_3, h⟩ := gd_e h
        refine x_gcf g dX5_longestMatch_30 (hzF g q_3) ls_X5_395 ?_
        refine x_iload_n 1 g dX5_longestMatch_33 rfl rfl ?_
        obtain ⟨q_4, h⟩ := gd_e h
        obtain ⟨r_6, q_5, h⟩ := gb_e h
        refine x_cV [.int r_6, .int x2] g (k_X5_matchedLength q_5) ca_X5_matchedLength in_X5_matchedLength se_X5_matchedLength lm_X5_399 gXX5 q_4 (Nat.le_of_ble_eq_true rfl) rfl rfl (Nat.le_of_ble_eq_true rfl) dX5_longestMatch_34 rfl ?_
        refine x_mmax g lmm_X5_409 (by decide) (Nat.le_of_ble_eq_true rfl) dX5_longestMatch_37 ?_
        refine x_nI (fun x2_7 e_8 => ?_)
        have h := glt_e e_8 h
        refine x_istore_n 2 g dX5_longestMatch_40 rfl (Nat.le_of_ble_eq_true rfl) rfl ?_
        obtain ⟨x5_9, e_10⟩ : ∃ z : Int32, z = x5 + 1 := ⟨_, rfl⟩
        have h := glt_e e_10 h
        refine x_iinc (v := x5_9) g dX5_longestMatch_41 rfl (by rw [e_10]; rfl) rfl ?_
        refine x_goto 13 g dX5_longestMatch_44 (by decide) ?_
        refine x_dr 6 ?_
        exact ih _ _ _ h
  exact L13 gN _ _ _ h
noncomputable def f_X5_findFormError_L4 (G : gG) (a0 : Nat) (S : gS) (T : gT) : Nat → Int32 → Int32 → Option Int32
  | 0, _, _ => none
  | n4 + 1, x1, x2 => gd (gis G 2 a0) <| gb (gP S 8 a0) fun (b_2 : Nat) => gb (tg T b_2) fun (t_4 : List Nat) => if (nI (List.length t_4)) < x2 then (some (-1)) else (gb (f_X5_commandEnd G a0 x1 S T) fun (r_8 : Int32) => gb (f_X5_commandAt G a0 x1 r_8 S T) fun (r_10 : (Option Nat)) => (match r_10 with | none => (gb (f_X5_longestMatch G a0 x1 S T) fun (r_13 : Int32) => some (x1 + r_13)) | some k_11 => (gb (gP S 8 a0) fun (b_14 : Nat) => gb (tg T b_14) fun (t_16 : List Nat) => if r_8 < (nI (List.length t_16)) then (glt (r_8 + 1) fun (x1_19 : Int32) => glt (x2 + 1) fun (x2_21 : Int32) => f_X5_findFormError_L4 G a0 S T n4 x1_19 x2_21) else (some (-1)))))
noncomputable def f_X5_findFormError (G : gG) (a0 : Nat) (S : gS) (T : gT) : Option Int32 := f_X5_findFormError_L4 G a0 S T gN 0 0
set_option maxRecDepth 100000 in
set_option maxHeartbeats 4000000 in
theorem k_X5_findFormError {ad : Nat → Nat} {G : gG} {a0 : Nat} {S : gS} {T : gT} {r : Int32} (h : f_X5_findFormError G a0 S T = some r) : Ct ad yX5_findFormError (Cond.code yX5_findFormError cX5_findFormError 4 (some .int) :: gTb) 10 0 0 [.ref a0] G S T (some (.int r)) G S T := by
  refine Ct.ofB rfl (Nat.le_of_ble_eq_true rfl) rfl (fun K g e hK => ?_)
  obtain ⟨rfl, -⟩ := hK
  show Xj K [] G 0 [some (.ref a0), none, none, none] [] S T 0 0
  unfold f_X5_findFormError at h
  refine x_iconst (v := 0) g dX5_findFormError_0 (by decide) ?_
  refine x_istore_n 1 g dX5_findFormError_1 rfl (Nat.le_of_ble_eq_true rfl) rfl ?_
  refine x_iconst (v := 0) g dX5_findFormError_2 (by decide) ?_
  refine x_istore_n 2 g dX5_findFormError_3 rfl (Nat.le_of_ble_eq_true rfl) rfl ?_
  have L4 : ∀ (n4 : Nat) (x1 : Int32) (x2 : Int32), f_X5_findFormError_L4 G a0 S T n4 x1 x2 = some r → Xj K [] G 4 [some (.ref a0), some (.int x1), some (.int x2), none] [] S T 0 0 := by
    intro n4
    induction n4 with
    | zero =>
      intro x1 x2 h
      rw [f_X5_findFormError_L4] at h
      cases h
    | succ n4 ih =>
      intro x1 x2 h
      rw [f_X5_findFormError_L4] at h
      refine x_iload_n 2 g dX5_findFormError_4 rfl rfl ?_
      refine x_aload_n 0 g dX5_findFormError_5 rfl rfl ?_
      obtain ⟨q_1, h⟩ := gd_e h
      obtain ⟨b_2, e_3, h⟩ := gb_e h
      refine x_getr g dX5_findFormError_6 gXX5 3 8 rfl (by decide) rfl lf_X5_26 q_1 e_3 ?_
      obtain ⟨t_4, q_5, h⟩ := gb_e h
      refine x_sbL g q_5 lmb_X5_245 (by decide) (Nat.le_of_ble_eq_true rfl) dX5_findFormError_9 ?_
      refine x_icmp_gt 61 g dX5_findFormError_12 (by decide) (fun c_6 => ?_) (fun c_6 => ?_)
      · have h := ite_t c_6 h
        refine x_iconst (v := (-1)) g dX5_findFormError_61 (by decide) ?_
        cases h
        exact x_iretS g e dX5_findFormError_62 rfl rfl
      · have h := ite_f c_6 h
        refine x_aload_n 0 g dX5_findFormError_15 rfl rfl ?_
        refine x_iload_n 1 g dX5_findFormError_16 rfl rfl ?_
        obtain ⟨r_8, q_7, h⟩ := gb_e h
        refine x_cV [.int r_8] g (k_X5_commandEnd q_7) ca_X5_commandEnd in_X5_commandEnd se_X5_commandEnd lm_X5_285 gXX5 q_1 (Nat.le_of_ble_eq_true rfl) rfl rfl (Nat.le_of_ble_eq_true rfl) dX5_findFormError_17 rfl ?_
        refine x_istore_n 3 g dX5_findFormError_20 rfl (Nat.le_of_ble_eq_true rfl) rfl ?_
        refine x_aload_n 0 g dX5_findFormError_21 rfl rfl ?_
        refine x_iload_n 1 g dX5_findFormError_22 rfl rfl ?_
        refine x_iload_n 3 g dX5_findFormError_23 rfl rfl ?_
        obtain ⟨r_10, q_9, h⟩ := gb_e h
        refine x_cV [va_rf (r_10.map (ky K).2)] g (k_X5_commandAt q_9) ca_X5_commandAt in_X5_commandAt se_X5_commandAt lm_X5_380 gXX5 q_1 (Nat.le_of_ble_eq_true rfl) rfl rfl (Nat.le_of_ble_eq_true rfl) dX5_findFormError_24 rfl ?_
        cases r_10 with
        | none =>
          show Xj K [] G _ _ (.null :: []) _ _ _ _
          refine x_ifnnN g dX5_findFormError_27 ?_
          refine x_iload_n 1 g dX5_findFormError_30 rfl rfl ?_
          refine x_aload_n 0 g dX5_findFormError_31 rfl rfl ?_
          refine x_iload_n 1 g dX5_findFormError_32 rfl rfl ?_
          obtain ⟨r_13, q_12, h⟩ := gb_e h
          refine x_cV [.int r_13, .int x1] g (k_X5_longestMatch q_12) ca_X5_longestMatch in_X5_longestMatch se_X5_longestMatch lm_X5_384 gXX5 q_1 (Nat.le_of_ble_eq_true rfl) rfl rfl (Nat.le_of_ble_eq_true rfl) dX5_findFormError_33 rfl ?_
          refine x_iadd g dX5_findFormError_36 ?_
          cases h
          exact x_iretS g e dX5_findFormError_37 rfl rfl
        | some k_11 =>
          show Xj K [] G _ _ (.ref ((ky K).2 k_11) :: []) _ _ _ _
          refine x_ifnn 38 g dX5_findFormError_27 (by decide) ?_
          refine x_iload_n 3 g dX5_findFormError_38 rfl rfl ?_
          refine x_aload_n 0 g dX5_findFormError_39 rfl rfl ?_
          obtain ⟨b_14, e_15, h⟩ := gb_e h
          refine x_getr g dX5_findFormError_40 gXX5 3 8 rfl (by decide) rfl lf_X5_26 q_1 e_15 ?_
          obtain ⟨t_16, q_17, h⟩ := gb_e h
          refine x_sbL g q_17 lmb_X5_245 (by decide) (Nat.le_of_ble_eq_true rfl) dX5_findFormError_43 ?_
          refine x_icmp_lt 51 g dX5_findFormError_46 (by decide) (fun c_18 => ?_) (fun c_18 => ?_)
          · have h := ite_t c_18 h
            refine x_iload_n 3 g dX5_findFormError_51 rfl rfl ?_
            refine x_iconst (v := 1) g dX5_findFormError_52 (by decide) ?_
            refine x_iadd g dX5_findFormError_53 ?_
            refine x_nI (fun x1_19 e_20 => ?_)
            have h := glt_e e_20 h
            refine x_istore_n 1 g dX5_findFormError_54 rfl (Nat.le_of_ble_eq_true rfl) rfl ?_
            obtain ⟨x2_21, e_22⟩ : ∃ z : Int32, z = x2 + 1 := ⟨_, rfl⟩
            have h := glt_e e_22 h
            refine x_iinc (v := x2_21) g dX5_findFormError_55 rfl (by rw [e_22]; rfl) rfl ?_
            refine x_goto 4 g dX5_findFormError_58 (by decide) ?_
            refine x_dr 3 ?_
            exact ih _ _ h
          · have h := ite_f c_18 h
            refine x_iconst (v := (-1)) g dX5_findFormError_49 (by decide) ?_
            cases h
            exact x_iretS g e dX5_findFormError_50 rfl rfl
  exact L4 gN _ _ h
noncomputable def f_X5_countCommands_L4 (G : gG) (a0 : Nat) (S : gS) (T : gT) : Nat → Int32 → Int32 → Option Int32
  | 0, _, _ => none
  | n4 + 1, x1, x2 => gd (gis G 2 a0) <| gb (gP S 8 a0) fun (b_2 : Nat) => gb (tg T b_2) fun (t_4 : List Nat) => if (nI (List.length t_4)) ≤ x2 then (some x1) else (gb (gP S 8 a0) fun (b_7 : Nat) => gb (tg T b_7) fun (t_9 : List Nat) => gd (vp_in x2 (List.length t_9)) <| if (nI (List.getD t_9 (Int32.toNatClampNeg x2) 0)) = 59 then (glt (x1 + 1) fun (x1_15 : Int32) => glt (x2 + 1) fun (x2_17 : Int32) => f_X5_countCommands_L4 G a0 S T n4 x1_15 x2_17) else (glt (x2 + 1) fun (x2_13 : Int32) => f_X5_countCommands_L4 G a0 S T n4 x1 x2_13))
noncomputable def f_X5_countCommands (G : gG) (a0 : Nat) (S : gS) (T : gT) : Option Int32 := f_X5_countCommands_L4 G a0 S T gN 1 0
set_option maxRecDepth 100000 in
set_option maxHeartbeats 4000000 in
theorem k_X5_countCommands {ad : Nat → Nat} {G : gG} {a0 : Nat} {S : gS} {T : gT} {r : Int32} (h : f_X5_countCommands G a0 S T = some r) : Ct ad yX5_countCommands (Cond.code yX5_countCommands cX5_countCommands 3 (some .int) :: gTb) 8 0 0 [.ref a0] G S T (some (.int r)) G S T := by
  refine Ct.ofB rfl (Nat.le_of_ble_eq_true rfl) rfl (fun K g e hK => ?_)
  obtain ⟨rfl, -⟩ := hK
  show Xj K [] G 0 [some (.ref a0), none, none] [] S T 0 0
  unfold f_X5_countCommands at h
  refine x_iconst (v := 1) g dX5_countCommands_0 (by decide) ?_
  refine x_istore_n 1 g dX5_countCommands_1 rfl (Nat.le_of_ble_eq_true rfl) rfl ?_
  refine x_iconst (v := 0) g dX5_countCommands_2 (by decide) ?_
  refine x_istore_n 2 g dX5_countCommands_3 rfl (Nat.le_of_ble_eq_true rfl) rfl ?_
  have L4 : ∀ (n4 : Nat) (x1 : Int32) (x2 : Int32), f_X5_countCommands_L4 G a0 S T n4 x1 x2 = some r → Xj K [] G 4 [some (.ref a0), some (.int x1), some (.int x2)] [] S T 0 0 := by
    intro n4
    induction n4 with
    | zero =>
      intro x1 x2 h
      rw [f_X5_countCommands_L4] at h
      cases h
    | succ n4 ih =>
      intro x1 x2 h
      rw [f_X5_countCommands_L4] at h
      refine x_iload_n 2 g dX5_countCommands_4 rfl rfl ?_
      refine x_aload_n 0 g dX5_countCommands_5 rfl rfl ?_
      obtain ⟨q_1, h⟩ := gd_e h
      obtain ⟨b_2, e_3, h⟩ := gb_e h
      refine x_getr g dX5_countCommands_6 gXX5 3 8 rfl (by decide) rfl lf_X5_26 q_1 e_3 ?_
      obtain ⟨t_4, q_5, h⟩ := gb_e h
      refine x_sbL g q_5 lmb_X5_245 (by decide) (Nat.le_of_ble_eq_true rfl) dX5_countCommands_9 ?_
      refine x_icmp_ge 37 g dX5_countCommands_12 (by decide) (fun c_6 => ?_) (fun c_6 => ?_)
      · have h := ite_t c_6 h
        refine x_iload_n 1 g dX5_countCommands_37 rfl rfl ?_
        cases h
        exact x_iretS g e dX5_countCommands_38 rfl rfl
      · have h := ite_f c_6 h
        refine x_aload_n 0 g dX5_countCommands_15 rfl rfl ?_
        obtain ⟨b_7, e_8, h⟩ := gb_e h
        refine x_getr g dX5_countCommands_16 gXX5 3 8 rfl (by decide) rfl lf_X5_26 q_1 e_8 ?_
        refine x_iload_n 2 g dX5_countCommands_19 rfl rfl ?_
        obtain ⟨t_9, q_10, h⟩ := gb_e h
        obtain ⟨q_11, h⟩ := gd_e h
        refine x_sbC g q_10 q_11 lmb_X5_256 (by decide) (Nat.le_of_ble_eq_true rfl) dX5_countCommands_20 ?_
        refine x_bipush (v := 59) g dX5_countCommands_23 (by decide) ?_
        refine x_icmp_ne 31 g dX5_countCommands_25 (by decide) (fun c_12 => ?_) (fun c_12 => ?_)
        · have h := ite_f c_12 h
          obtain ⟨x2_13, e_14⟩ : ∃ z : Int32, z = x2 + 1 := ⟨_, rfl⟩
          have h := glt_e e_14 h
          refine x_iinc (v := x2_13) g dX5_countCommands_31 rfl (by rw [e_14]; rfl) rfl ?_
          refine x_goto 4 g dX5_countCommands_34 (by decide) ?_
          exact ih _ _ h
        · have h := ite_t c_12 h
          obtain ⟨x1_15, e_16⟩ : ∃ z : Int32, z = x1 + 1 := ⟨_, rfl⟩
          have h := glt_e e_16 h
          refine x_iinc (v := x1_15) g dX5_countCommands_28 rfl (by rw [e_16]; rfl) rfl ?_
          obtain ⟨x2_17, e_18⟩ : ∃ z : Int32, z = x2 + 1 := ⟨_, rfl⟩
          have h := glt_e e_18 h
          refine x_iinc (v := x2_17) g dX5_countCommands_31 rfl (by rw [e_18]; rfl) rfl ?_
          refine x_goto 4 g dX5_countCommands_34 (by decide) ?_
          exact ih _ _ h
  exact L4 gN _ _ h
noncomputable def f_X5_digitAt_L6 (G : gG) (a0 : Nat) (a1 : Int32) (a2 : Int32) (a3 : Int32) (S : gS) (T : gT) : Nat → Int32 → Int32 → Option Int32
  | 0, _, _ => none
  | n6 + 1, x4, x5 => if a2 ≤ x5 then (some (-1)) else (gd (gis G 2 a0) <| gb (gP S 8 a0) fun (b_3 : Nat) => gb (tg T b_3) fun (t_5 : List Nat) => if (nI (List.length t_5)) ≤ x5 then (some (-1)) else (gb (gP S 8 a0) fun (b_8 : Nat) => gb (tg T b_8) fun (t_10 : List Nat) => gd (vp_in x5 (List.length t_10)) <| glt (nI (List.getD t_10 (Int32.toNatClampNeg x5) 0)) fun (x6_13 : Int32) => gb (f_X5_isDigit x6_13) fun (r_16 : Bool) => if (gz r_16) = 0 then (glt (x5 + 1) fun (x5_18 : Int32) => f_X5_digitAt_L6 G a0 a1 a2 a3 S T n6 x4 x5_18) else (if x4 = a3 then (some (x6_13 - 48)) else (glt (x4 + 1) fun (x4_21 : Int32) => glt (x5 + 1) fun (x5_23 : Int32) => f_X5_digitAt_L6 G a0 a1 a2 a3 S T n6 x4_21 x5_23))))
noncomputable def f_X5_digitAt (G : gG) (a0 : Nat) (a1 : Int32) (a2 : Int32) (a3 : Int32) (S : gS) (T : gT) : Option Int32 := f_X5_digitAt_L6 G a0 a1 a2 a3 S T gN 0 a1
set_option maxRecDepth 100000 in
set_option maxHeartbeats 4000000 in
theorem k_X5_digitAt {ad : Nat → Nat} {G : gG} {a0 : Nat} {a1 : Int32} {a2 : Int32} {a3 : Int32} {S : gS} {T : gT} {r : Int32} (h : f_X5_digitAt G a0 a1 a2 a3 S T = some r) : Ct ad yX5_digitAt (Cond.code yX5_digitAt cX5_digitAt 7 (some .int) :: gTb) 8 0 0 [.ref a0, .int a1, .int a2, .int a3] G S T (some (.int r)) G S T := by
  refine Ct.ofB rfl (Nat.le_of_ble_eq_true rfl) rfl (fun K g e hK => ?_)
  obtain ⟨rfl, -⟩ := hK
  show Xj K [] G 0 [some (.ref a0), some (.int a1), some (.int a2), some (.int a3), none, none, none] [] S T 0 0
  unfold f_X5_digitAt at h
  refine x_iconst (v := 0) g dX5_digitAt_0 (by decide) ?_
  refine x_istore (i := 4) g dX5_digitAt_1 (Nat.le_of_ble_eq_true rfl) rfl ?_
  refine x_iload_n 1 g dX5_digitAt_3 rfl rfl ?_
  refine x_istore (i := 5) g dX5_digitAt_4 (Nat.le_of_ble_eq_true rfl) rfl ?_
  have L6 : ∀ (n6 : Nat) (x4 : Int32) (x5 : Int32), f_X5_digitAt_L6 G a0 a1 a2 a3 S T n6 x4 x5 = some r → Xj K [] G 6 [some (.ref a0), some (.int a1), some (.int a2), some (.int a3), some (.int x4), some (.int x5), none] [] S T 0 0 := by
    intro n6
    induction n6 with
    | zero =>
      intro x4 x5 h
      rw [f_X5_digitAt_L6] at h
      cases h
    | succ n6 ih =>
      intro x4 x5 h
      rw [f_X5_digitAt_L6] at h
      refine x_iload (i := 5) g dX5_digitAt_6 rfl ?_
      refine x_iload_n 2 g dX5_digitAt_8 rfl rfl ?_
      refine x_icmp_ge 64 g dX5_digitAt_9 (by decide) (fun c_1 => ?_) (fun c_1 => ?_)
      · have h := ite_t c_1 h
        refine x_iconst (v := (-1)) g dX5_digitAt_64 (by decide) ?_
        cases h
        exact x_iretS g e dX5_digitAt_65 rfl rfl
      · have h := ite_f c_1 h
        refine x_iload (i := 5) g dX5_digitAt_12 rfl ?_
        refine x_aload_n 0 g dX5_digitAt_14 rfl rfl ?_
        obtain ⟨q_2, h⟩ := gd_e h
        obtain ⟨b_3, e_4, h⟩ := gb_e h
        refine x_getr g dX5_digitAt_15 gXX5 3 8 rfl (by decide) rfl lf_X5_26 q_2 e_4 ?_
        obtain ⟨t_5, q_6, h⟩ := gb_e h
        refine x_sbL g q_6 lmb_X5_245 (by decide) (Nat.le_of_ble_eq_true rfl) dX5_digitAt_18 ?_
        refine x_icmp_ge 64 g dX5_digitAt_21 (by decide) (fun c_7 => ?_) (fun c_7 => ?_)
        · have h := ite_t c_7 h
          refine x_iconst (v := (-1)) g dX5_digitAt_64 (by decide) ?_
          cases h
          exact x_iretS g e dX5_digitAt_65 rfl rfl
        · have h := ite_f c_7 h
          refine x_aload_n 0 g dX5_digitAt_24 rfl rfl ?_
          obtain ⟨b_8, e_9, h⟩ := gb_e h
          refine x_getr g dX5_digitAt_25 gXX5 3 8 rfl (by decide) rfl lf_X5_26 q_2 e_9 ?_
          refine x_iload (i := 5) g dX5_digitAt_28 rfl ?_
          obtain ⟨t_10, q_11, h⟩ := gb_e h
          obtain ⟨q_12, h⟩ := gd_e h
          refine x_sbC g q_11 q_12 lmb_X5_256 (by decide) (Nat.le_of_ble_eq_true rfl) dX5_digitAt_30 ?_
          refine x_nI (fun x6_13 e_14 => ?_)
          have h := glt_e e_14 h
          refine x_istore (i := 6) g dX5_digitAt_33 (Nat.le_of_ble_eq_true rfl) rfl ?_
          refine x_iload (i := 6) g dX5_digitAt_35 rfl ?_
          obtain ⟨r_16, q_15, h⟩ := gb_e h
          refine x_cS [.int (gz r_16)] g (k_X5_isDigit q_15) ca_X5_isDigit st_X5_isDigit lm_X5_419 (Nat.le_of_ble_eq_true rfl) rfl rfl (Nat.le_of_ble_eq_true rfl) dX5_digitAt_37 rfl ?_
          refine x_if_eq 58 g dX5_digitAt_40 (by decide) (fun c_17 => ?_) (fun c_17 => ?_)
          · have h := ite_t c_17 h
            obtain ⟨x5_18, e_19⟩ : ∃ z : Int32, z = x5 + 1 := ⟨_, rfl⟩
            have h := glt_e e_19 h
            refine x_iinc (v := x5_18) g dX5_digitAt_58 rfl (by rw [e_19]; rfl) rfl ?_
            refine x_goto 6 g dX5_digitAt_61 (by decide) ?_
            refine x_dr 6 ?_
            exact ih _ _ h
          · have h := ite_f c_17 h
            refine x_iload (i := 4) g dX5_digitAt_43 rfl ?_
            refine x_iload_n 3 g dX5_digitAt_45 rfl rfl ?_
            refine x_icmp_ne 55 g dX5_digitAt_46 (by decide) (fun c_20 => ?_) (fun c_20 => ?_)
            · have h := ite_f c_20 h
              obtain ⟨x4_21, e_22⟩ : ∃ z : Int32, z = x4 + 1 := ⟨_, rfl⟩
              have h := glt_e e_22 h
              refine x_iinc (v := x4_21) g dX5_digitAt_55 rfl (by rw [e_22]; rfl) rfl ?_
              obtain ⟨x5_23, e_24⟩ : ∃ z : Int32, z = x5 + 1 := ⟨_, rfl⟩
              have h := glt_e e_24 h
              refine x_iinc (v := x5_23) g dX5_digitAt_58 rfl (by rw [e_24]; rfl) rfl ?_
              refine x_goto 6 g dX5_digitAt_61 (by decide) ?_
              refine x_dr 6 ?_
              exact ih _ _ h
            · have h := ite_t c_20 h
              refine x_iload (i := 6) g dX5_digitAt_49 rfl ?_
              refine x_bipush (v := 48) g dX5_digitAt_51 (by decide) ?_
              refine x_isub g dX5_digitAt_53 ?_
              cases h
              exact x_iretS g e dX5_digitAt_54 rfl rfl
  exact L6 gN _ _ h
noncomputable def f_X5_runCommand (G : gG) (a0 : Nat) (a1 : Int32) (S : gS) (T : gT) : Option (Bool × gS) := gd (gis G 2 a0) <| gb (f_X5_commandEnd G a0 a1 S T) fun (r_3 : Int32) => gb (f_X5_commandAt G a0 a1 r_3 S T) fun (r_5 : (Option Nat)) => (match r_5 with | none => (some (false, S)) | some k_6 => (gb (f_X5_digitAt G a0 a1 r_3 0 S T) fun (r_8 : Int32) => gb (f_X5_digitAt G a0 a1 r_3 1 S T) fun (r_10 : Int32) => gb (f_X5_digitAt G a0 a1 r_3 2 S T) fun (r_12 : Int32) => gb (f_X5_digitAt G a0 a1 r_3 3 S T) fun (r_14 : Int32) => gd (k_6 < 8) <| gd (0 < 8) <| if k_6 = 0 then (if r_10 = (-1) then (gd (1 < 8) <| if k_6 = 1 then (if r_14 = (-1) then (gb (f_X5_refusalOf G a0 k_6 r_8 r_10 r_12 1 S) fun (r_66 : Nat) => gd (r_66 < 4) <| gd (0 < 4) <| if r_66 = 0 then (gb2 (f_X5_perform G a0 k_6 r_8 r_10 r_12 1 S) fun (r_71 : Int32) (S_72 : gS) => some (true, S_72)) else (some (false, S))) else (gb (f_X5_refusalOf G a0 k_6 r_8 r_10 r_12 r_14 S) fun (r_58 : Nat) => gd (r_58 < 4) <| gd (0 < 4) <| if r_58 = 0 then (gb2 (f_X5_perform G a0 k_6 r_8 r_10 r_12 r_14 S) fun (r_63 : Int32) (S_64 : gS) => some (true, S_64)) else (some (false, S)))) else (gb (f_X5_refusalOf G a0 k_6 r_8 r_10 r_12 r_14 S) fun (r_49 : Nat) => gd (r_49 < 4) <| gd (0 < 4) <| if r_49 = 0 then (gb2 (f_X5_perform G a0 k_6 r_8 r_10 r_12 r_14 S) fun (r_54 : Int32) (S_55 : gS) => some (true, S_55)) else (some (false, S)))) else (glt ((10 * r_8) + r_10) fun (x4_73 : Int32) => gd (1 < 8) <| if k_6 = 1 then (if r_14 = (-1) then (gb (f_X5_refusalOf G a0 k_6 x4_73 r_10 r_12 1 S) fun (r_95 : Nat) => gd (r_95 < 4) <| gd (0 < 4) <| if r_95 = 0 then (gb2 (f_X5_perform G a0 k_6 x4_73 r_10 r_12 1 S) fun (r_100 : Int32) (S_101 : gS) => some (true, S_101)) else (some (false, S))) else (gb (f_X5_refusalOf G a0 k_6 x4_73 r_10 r_12 r_14 S) fun (r_87 : Nat) => gd (r_87 < 4) <| gd (0 < 4) <| if r_87 = 0 then (gb2 (f_X5_perform G a0 k_6 x4_73 r_10 r_12 r_14 S) fun (r_92 : Int32) (S_93 : gS) => some (true, S_93)) else (some (false, S)))) else (gb (f_X5_refusalOf G a0 k_6 x4_73 r_10 r_12 r_14 S) fun (r_78 : Nat) => gd (r_78 < 4) <| gd (0 < 4) <| if r_78 = 0 then (gb2 (f_X5_perform G a0 k_6 x4_73 r_10 r_12 r_14 S) fun (r_83 : Int32) (S_84 : gS) => some (true, S_84)) else (some (false, S))))) else (gd (1 < 8) <| if k_6 = 1 then (if r_14 = (-1) then (gb (f_X5_refusalOf G a0 k_6 r_8 r_10 r_12 1 S) fun (r_38 : Nat) => gd (r_38 < 4) <| gd (0 < 4) <| if r_38 = 0 then (gb2 (f_X5_perform G a0 k_6 r_8 r_10 r_12 1 S) fun (r_43 : Int32) (S_44 : gS) => some (true, S_44)) else (some (false, S))) else (gb (f_X5_refusalOf G a0 k_6 r_8 r_10 r_12 r_14 S) fun (r_30 : Nat) => gd (r_30 < 4) <| gd (0 < 4) <| if r_30 = 0 then (gb2 (f_X5_perform G a0 k_6 r_8 r_10 r_12 r_14 S) fun (r_35 : Int32) (S_36 : gS) => some (true, S_36)) else (some (false, S)))) else (gb (f_X5_refusalOf G a0 k_6 r_8 r_10 r_12 r_14 S) fun (r_21 : Nat) => gd (r_21 < 4) <| gd (0 < 4) <| if r_21 = 0 then (gb2 (f_X5_perform G a0 k_6 r_8 r_10 r_12 r_14 S) fun (r_26 : Int32) (S_27 : gS) => some (true, S_27)) else (some (false, S))))))
set_option maxRecDepth 100000 in
set_option maxHeartbeats 4000000 in
theorem k_X5_runCommand {ad : Nat → Nat} {G : gG} {a0 : Nat} {a1 : Int32} {S S1 : gS} {T : gT} {r : Bool} (h : f_X5_runCommand G a0 a1 S T = some (r, S1)) : Ct ad yX5_runCommand (Cond.code yX5_runCommand cX5_runCommand 8 (some .boolean) :: gTb) 10 0 0 [.ref a0, .int a1] G S T (some (.int (gz r))) G S1 T := by
  refine Ct.ofB rfl (Nat.le_of_ble_eq_true rfl) rfl (fun K g e hK => ?_)
  obtain ⟨rfl, -⟩ := hK
  show Xj K [] G 0 [some (.ref a0), some (.int a1), none, none, none, none, none, none] [] S T 0 0
  unfold f_X5_runCommand at h
  refine x_aload_n 0 g dX5_runCommand_0 rfl rfl ?_
  refine x_iload_n 1 g dX5_runCommand_1 rfl rfl ?_
  obtain ⟨q_1, h⟩ := gd_e h
  obtain ⟨r_3, q_2, h⟩ := gb_e h
  refine x_cV [.int r_3] g (k_X5_commandEnd q_2) ca_X5_commandEnd in_X5_commandEnd se_X5_commandEnd lm_X5_285 gXX5 q_1 (Nat.le_of_ble_eq_true rfl) rfl rfl (Nat.le_of_ble_eq_true rfl) dX5_runCommand_2 rfl ?_
  refine x_istore_n 2 g dX5_runCommand_5 rfl (Nat.le_of_ble_eq_true rfl) rfl ?_
  refine x_aload_n 0 g dX5_runCommand_6 rfl rfl ?_
  refine x_iload_n 1 g dX5_runCommand_7 rfl rfl ?_
  refine x_iload_n 2 g dX5_runCommand_8 rfl rfl ?_
  obtain ⟨r_5, q_4, h⟩ := gb_e h
  refine x_cV [va_rf (r_5.map (ky K).2)] g (k_X5_commandAt q_4) ca_X5_commandAt in_X5_commandAt se_X5_commandAt lm_X5_380 gXX5 q_1 (Nat.le_of_ble_eq_true rfl) rfl rfl (Nat.le_of_ble_eq_true rfl) dX5_runCommand_9 rfl ?_
  cases r_5 with
  | none =>
    show Xj K [] G _ _ (.null :: []) _ _ _ _
    refine x_astoreN_n 3 g dX5_runCommand_12 rfl (Nat.le_of_ble_eq_true rfl) rfl ?_
    refine x_aloadN_n 3 g dX5_runCommand_13 rfl rfl ?_
    refine x_ifnnN g dX5_runCommand_14 ?_
    refine x_iconst (v := 0) g dX5_runCommand_17 (by decide) ?_
    cases h
    exact x_zretS (b := false) g e dX5_runCommand_18 rfl rfl rfl
  | some k_6 =>
    show Xj K [] G _ _ (.ref ((ky K).2 k_6) :: []) _ _ _ _
    refine x_astore_n 3 g dX5_runCommand_12 rfl (Nat.le_of_ble_eq_true rfl) rfl ?_
    refine x_aload_n 3 g dX5_runCommand_13 rfl rfl ?_
    refine x_ifnn 19 g dX5_runCommand_14 (by decide) ?_
    refine x_aload_n 0 g dX5_runCommand_19 rfl rfl ?_
    refine x_iload_n 1 g dX5_runCommand_20 rfl rfl ?_
    refine x_iload_n 2 g dX5_runCommand_21 rfl rfl ?_
    refine x_iconst (v := 0) g dX5_runCommand_22 (by decide) ?_
    obtain ⟨r_8, q_7, h⟩ := gb_e h
    refine x_cV [.int r_8] g (k_X5_digitAt q_7) ca_X5_digitAt in_X5_digitAt se_X5_digitAt lm_X5_387 gXX5 q_1 (Nat.le_of_ble_eq_true rfl) rfl rfl (Nat.le_of_ble_eq_true rfl) dX5_runCommand_23 rfl ?_
    refine x_istore (i := 4) g dX5_runCommand_26 (Nat.le_of_ble_eq_true rfl) rfl ?_
    refine x_aload_n 0 g dX5_runCommand_28 rfl rfl ?_
    refine x_iload_n 1 g dX5_runCommand_29 rfl rfl ?_
    refine x_iload_n 2 g dX5_runCommand_30 rfl rfl ?_
    refine x_iconst (v := 1) g dX5_runCommand_31 (by decide) ?_
    obtain ⟨r_10, q_9, h⟩ := gb_e h
    refine x_cV [.int r_10] g (k_X5_digitAt q_9) ca_X5_digitAt in_X5_digitAt se_X5_digitAt lm_X5_387 gXX5 q_1 (Nat.le_of_ble_eq_true rfl) rfl rfl (Nat.le_of_ble_eq_true rfl) dX5_runCommand_32 rfl ?_
    refine x_istore (i := 5) g dX5_runCommand_35 (Nat.le_of_ble_eq_true rfl) rfl ?_
    refine x_aload_n 0 g dX5_runCommand_37 rfl rfl ?_
    refine x_iload_n 1 g dX5_runCommand_38 rfl rfl ?_
    refine x_iload_n 2 g dX5_runCommand_39 rfl rfl ?_
    refine x_iconst (v := 2) g dX5_runCommand_40 (by decide) ?_
    obtain ⟨r_12, q_11, h⟩ := gb_e h
    refine x_cV [.int r_12] g (k_X5_digitAt q_11) ca_X5_digitAt in_X5_digitAt se_X5_digitAt lm_X5_387 gXX5 q_1 (Nat.le_of_ble_eq_true rfl) rfl rfl (Nat.le_of_ble_eq_true rfl) dX5_runCommand_41 rfl ?_
    refine x_istore (i := 6) g dX5_runCommand_44 (Nat.le_of_ble_eq_true rfl) rfl ?_
    refine x_aload_n 0 g dX5_runCommand_46 rfl rfl ?_
    refine x_iload_n 1 g dX5_runCommand_47 rfl rfl ?_
    refine x_iload_n 2 g dX5_runCommand_48 rfl rfl ?_
    refine x_iconst (v := 3) g dX5_runCommand_49 (by decide) ?_
    obtain ⟨r_14, q_13, h⟩ := gb_e h
    refine x_cV [.int r_14] g (k_X5_digitAt q_13) ca_X5_digitAt in_X5_digitAt se_X5_digitAt lm_X5_387 gXX5 q_1 (Nat.le_of_ble_eq_true rfl) rfl rfl (Nat.le_of_ble_eq_true rfl) dX5_runCommand_50 rfl ?_
    refine x_istore (i := 7) g dX5_runCommand_53 (Nat.le_of_ble_eq_true rfl) rfl ?_
    refine x_aload_n 3 g dX5_runCommand_55 rfl rfl ?_
    refine x_gst g dX5_runCommand_56 (hzC g 0 (by decide)) ls_X5_47 ?_
    obtain ⟨q_15, h⟩ := gd_e h
    obtain ⟨q_16, h⟩ := gd_e h
    refine x_acmpCMD_ne 78 g dX5_runCommand_59 (by decide) q_15 q_16 (fun c_17 => ?_) (fun c_17 => ?_)
    · have h := ite_f c_17 h
      refine x_aload_n 3 g dX5_runCommand_78 rfl rfl ?_
      refine x_gst g dX5_runCommand_79 (hzC g 1 (by decide)) ls_X5_57 ?_
      obtain ⟨q_18, h⟩ := gd_e h
      refine x_acmpCMD_ne 94 g dX5_runCommand_82 (by decide) q_15 q_18 (fun c_19 => ?_) (fun c_19 => ?_)
      · have h := ite_f c_19 h
        refine x_aload_n 0 g dX5_runCommand_94 rfl rfl ?_
        refine x_aload_n 3 g dX5_runCommand_95 rfl rfl ?_
        refine x_iload (i := 4) g dX5_runCommand_96 rfl ?_
        refine x_iload (i := 5) g dX5_runCommand_98 rfl ?_
        refine x_iload (i := 6) g dX5_runCommand_100 rfl ?_
        refine x_iload (i := 7) g dX5_runCommand_102 rfl ?_
        obtain ⟨r_21, q_20, h⟩ := gb_e h
        refine x_cV [.ref ((ky K).2 (10 + r_21))] g (k_X5_refusalOf q_20) ca_X5_refusalOf in_X5_refusalOf se_X5_refusalOf lm_X5_308 gXX5 q_1 (Nat.le_of_ble_eq_true rfl) rfl rfl (Nat.le_of_ble_eq_true rfl) dX5_runCommand_104 rfl ?_
        refine x_gst g dX5_runCommand_107 (hzR g 0 (by decide)) ls_X5_333 ?_
        obtain ⟨q_22, h⟩ := gd_e h
        obtain ⟨q_23, h⟩ := gd_e h
        refine x_acmpREF_eq 115 g dX5_runCommand_110 (by decide) q_22 q_23 (fun c_24 => ?_) (fun c_24 => ?_)
        · have h := ite_t c_24 h
          refine x_aload_n 0 g dX5_runCommand_115 rfl rfl ?_
          refine x_aload_n 3 g dX5_runCommand_116 rfl rfl ?_
          refine x_iload (i := 4) g dX5_runCommand_117 rfl ?_
          refine x_iload (i := 5) g dX5_runCommand_119 rfl ?_
          refine x_iload (i := 6) g dX5_runCommand_121 rfl ?_
          refine x_iload (i := 7) g dX5_runCommand_123 rfl ?_
          obtain ⟨r_26, S_27, q_25, h⟩ := gb2_e h
          refine x_cV [.int r_26] g (k_X5_perform q_25) ca_X5_perform in_X5_perform se_X5_perform lm_X5_316 gXX5 q_1 (Nat.le_of_ble_eq_true rfl) rfl rfl (Nat.le_of_ble_eq_true rfl) dX5_runCommand_125 rfl ?_
          refine x_pop g dX5_runCommand_128 rfl ?_
          refine x_iconst (v := 1) g dX5_runCommand_129 (by decide) ?_
          cases h
          exact x_zretS (b := true) g e dX5_runCommand_130 rfl rfl rfl
        · have h := ite_f c_24 h
          refine x_iconst (v := 0) g dX5_runCommand_113 (by decide) ?_
          cases h
          exact x_zretS (b := false) g e dX5_runCommand_114 rfl rfl rfl
      · have h := ite_t c_19 h
        refine x_iload (i := 7) g dX5_runCommand_85 rfl ?_
        refine x_iconst (v := (-1)) g dX5_runCommand_87 (by decide) ?_
        refine x_icmp_ne 94 g dX5_runCommand_88 (by decide) (fun c_28 => ?_) (fun c_28 => ?_)
        · have h := ite_f c_28 h
          refine x_aload_n 0 g dX5_runCommand_94 rfl rfl ?_
          refine x_aload_n 3 g dX5_runCommand_95 rfl rfl ?_
          refine x_iload (i := 4) g dX5_runCommand_96 rfl ?_
          refine x_iload (i := 5) g dX5_runCommand_98 rfl ?_
          refine x_iload (i := 6) g dX5_runCommand_100 rfl ?_
          refine x_iload (i := 7) g dX5_runCommand_102 rfl ?_
          obtain ⟨r_30, q_29, h⟩ := gb_e h
          refine x_cV [.ref ((ky K).2 (10 + r_30))] g (k_X5_refusalOf q_29) ca_X5_refusalOf in_X5_refusalOf se_X5_refusalOf lm_X5_308 gXX5 q_1 (Nat.le_of_ble_eq_true rfl) rfl rfl (Nat.le_of_ble_eq_true rfl) dX5_runCommand_104 rfl ?_
          refine x_gst g dX5_runCommand_107 (hzR g 0 (by decide)) ls_X5_333 ?_
          obtain ⟨q_31, h⟩ := gd_e h
          obtain ⟨q_32, h⟩ := gd_e h
          refine x_acmpREF_eq 115 g dX5_runCommand_110 (by decide) q_31 q_32 (fun c_33 => ?_) (fun c_33 => ?_)
          · have h := ite_t c_33 h
            refine x_aload_n 0 g dX5_runCommand_115 rfl rfl ?_
            refine x_aload_n 3 g dX5_runCommand_116 rfl rfl ?_
            refine x_iload (i := 4) g dX5_runCommand_117 rfl ?_
            refine x_iload (i := 5) g dX5_runCommand_119 rfl ?_
            refine x_iload (i := 6) g dX5_runCommand_121 rfl ?_
            refine x_iload (i := 7) g dX5_runCommand_123 rfl ?_
            obtain ⟨r_35, S_36, q_34, h⟩ := gb2_e h
            refine x_cV [.int r_35] g (k_X5_perform q_34) ca_X5_perform in_X5_perform se_X5_perform lm_X5_316 gXX5 q_1 (Nat.le_of_ble_eq_true rfl) rfl rfl (Nat.le_of_ble_eq_true rfl) dX5_runCommand_125 rfl ?_
            refine x_pop g dX5_runCommand_128 rfl ?_
            refine x_iconst (v := 1) g dX5_runCommand_129 (by decide) ?_
            cases h
            exact x_zretS (b := true) g e dX5_runCommand_130 rfl rfl rfl
          · have h := ite_f c_33 h
            refine x_iconst (v := 0) g dX5_runCommand_113 (by decide) ?_
            cases h
            exact x_zretS (b := false) g e dX5_runCommand_114 rfl rfl rfl
        · have h := ite_t c_28 h
          refine x_iconst (v := 1) g dX5_runCommand_91 (by decide) ?_
          refine x_istore (i := 7) g dX5_runCommand_92 (Nat.le_of_ble_eq_true rfl) rfl ?_
          refine x_aload_n 0 g dX5_runCommand_94 rfl rfl ?_
          refine x_aload_n 3 g dX5_runCommand_95 rfl rfl ?_
          refine x_iload (i := 4) g dX5_runCommand_96 rfl ?_
          refine x_iload (i := 5) g dX5_runCommand_98 rfl ?_
          refine x_iload (i := 6) g dX5_runCommand_100 rfl ?_
          refine x_iload (i := 7) g dX5_runCommand_102 rfl ?_
          obtain ⟨r_38, q_37, h⟩ := gb_e h
          refine x_cV [.ref ((ky K).2 (10 + r_38))] g (k_X5_refusalOf q_37) ca_X5_refusalOf in_X5_refusalOf se_X5_refusalOf lm_X5_308 gXX5 q_1 (Nat.le_of_ble_eq_true rfl) rfl rfl (Nat.le_of_ble_eq_true rfl) dX5_runCommand_104 rfl ?_
          refine x_gst g dX5_runCommand_107 (hzR g 0 (by decide)) ls_X5_333 ?_
          obtain ⟨q_39, h⟩ := gd_e h
          obtain ⟨q_40, h⟩ := gd_e h
          refine x_acmpREF_eq 115 g dX5_runCommand_110 (by decide) q_39 q_40 (fun c_41 => ?_) (fun c_41 => ?_)
          · have h := ite_t c_41 h
            refine x_aload_n 0 g dX5_runCommand_115 rfl rfl ?_
            refine x_aload_n 3 g dX5_runCommand_116 rfl rfl ?_
            refine x_iload (i := 4) g dX5_runCommand_117 rfl ?_
            refine x_iload (i := 5) g dX5_runCommand_119 rfl ?_
            refine x_iload (i := 6) g dX5_runCommand_121 rfl ?_
            refine x_iload (i := 7) g dX5_runCommand_123 rfl ?_
            obtain ⟨r_43, S_44, q_42, h⟩ := gb2_e h
            refine x_cV [.int r_43] g (k_X5_perform q_42) ca_X5_perform in_X5_perform se_X5_perform lm_X5_316 gXX5 q_1 (Nat.le_of_ble_eq_true rfl) rfl rfl (Nat.le_of_ble_eq_true rfl) dX5_runCommand_125 rfl ?_
            refine x_pop g dX5_runCommand_128 rfl ?_
            refine x_iconst (v := 1) g dX5_runCommand_129 (by decide) ?_
            cases h
            exact x_zretS (b := true) g e dX5_runCommand_130 rfl rfl rfl
          · have h := ite_f c_41 h
            refine x_iconst (v := 0) g dX5_runCommand_113 (by decide) ?_
            cases h
            exact x_zretS (b := false) g e dX5_runCommand_114 rfl rfl rfl
    · have h := ite_t c_17 h
      refine x_iload (i := 5) g dX5_runCommand_62 rfl ?_
      refine x_iconst (v := (-1)) g dX5_runCommand_64 (by decide) ?_
      refine x_icmp_eq 78 g dX5_runCommand_65 (by decide) (fun c_45 => ?_) (fun c_45 => ?_)
      · have h := ite_t c_45 h
        refine x_aload_n 3 g dX5_runCommand_78 rfl rfl ?_
        refine x_gst g dX5_runCommand_79 (hzC g 1 (by decide)) ls_X5_57 ?_
        obtain ⟨q_46, h⟩ := gd_e h
        refine x_acmpCMD_ne 94 g dX5_runCommand_82 (by decide) q_15 q_46 (fun c_47 => ?_) (fun c_47 => ?_)
        · have h := ite_f c_47 h
          refine x_aload_n 0 g dX5_runCommand_94 rfl rfl ?_
          refine x_aload_n 3 g dX5_runCommand_95 rfl rfl ?_
          refine x_iload (i := 4) g dX5_runCommand_96 rfl ?_
          refine x_iload (i := 5) g dX5_runCommand_98 rfl ?_
          refine x_iload (i := 6) g dX5_runCommand_100 rfl ?_
          refine x_iload (i := 7) g dX5_runCommand_102 rfl ?_
          obtain ⟨r_49, q_48, h⟩ := gb_e h
          refine x_cV [.ref ((ky K).2 (10 + r_49))] g (k_X5_refusalOf q_48) ca_X5_refusalOf in_X5_refusalOf se_X5_refusalOf lm_X5_308 gXX5 q_1 (Nat.le_of_ble_eq_true rfl) rfl rfl (Nat.le_of_ble_eq_true rfl) dX5_runCommand_104 rfl ?_
          refine x_gst g dX5_runCommand_107 (hzR g 0 (by decide)) ls_X5_333 ?_
          obtain ⟨q_50, h⟩ := gd_e h
          obtain ⟨q_51, h⟩ := gd_e h
          refine x_acmpREF_eq 115 g dX5_runCommand_110 (by decide) q_50 q_51 (fun c_52 => ?_) (fun c_52 => ?_)
          · have h := ite_t c_52 h
            refine x_aload_n 0 g dX5_runCommand_115 rfl rfl ?_
            refine x_aload_n 3 g dX5_runCommand_116 rfl rfl ?_
            refine x_iload (i := 4) g dX5_runCommand_117 rfl ?_
            refine x_iload (i := 5) g dX5_runCommand_119 rfl ?_
            refine x_iload (i := 6) g dX5_runCommand_121 rfl ?_
            refine x_iload (i := 7) g dX5_runCommand_123 rfl ?_
            obtain ⟨r_54, S_55, q_53, h⟩ := gb2_e h
            refine x_cV [.int r_54] g (k_X5_perform q_53) ca_X5_perform in_X5_perform se_X5_perform lm_X5_316 gXX5 q_1 (Nat.le_of_ble_eq_true rfl) rfl rfl (Nat.le_of_ble_eq_true rfl) dX5_runCommand_125 rfl ?_
            refine x_pop g dX5_runCommand_128 rfl ?_
            refine x_iconst (v := 1) g dX5_runCommand_129 (by decide) ?_
            cases h
            exact x_zretS (b := true) g e dX5_runCommand_130 rfl rfl rfl
          · have h := ite_f c_52 h
            refine x_iconst (v := 0) g dX5_runCommand_113 (by decide) ?_
            cases h
            exact x_zretS (b := false) g e dX5_runCommand_114 rfl rfl rfl
        · have h := ite_t c_47 h
          refine x_iload (i := 7) g dX5_runCommand_85 rfl ?_
          refine x_iconst (v := (-1)) g dX5_runCommand_87 (by decide) ?_
          refine x_icmp_ne 94 g dX5_runCommand_88 (by decide) (fun c_56 => ?_) (fun c_56 => ?_)
          · have h := ite_f c_56 h
            refine x_aload_n 0 g dX5_runCommand_94 rfl rfl ?_
            refine x_aload_n 3 g dX5_runCommand_95 rfl rfl ?_
            refine x_iload (i := 4) g dX5_runCommand_96 rfl ?_
            refine x_iload (i := 5) g dX5_runCommand_98 rfl ?_
            refine x_iload (i := 6) g dX5_runCommand_100 rfl ?_
            refine x_iload (i := 7) g dX5_runCommand_102 rfl ?_
            obtain ⟨r_58, q_57, h⟩ := gb_e h
            refine x_cV [.ref ((ky K).2 (10 + r_58))] g (k_X5_refusalOf q_57) ca_X5_refusalOf in_X5_refusalOf se_X5_refusalOf lm_X5_308 gXX5 q_1 (Nat.le_of_ble_eq_true rfl) rfl rfl (Nat.le_of_ble_eq_true rfl) dX5_runCommand_104 rfl ?_
            refine x_gst g dX5_runCommand_107 (hzR g 0 (by decide)) ls_X5_333 ?_
            obtain ⟨q_59, h⟩ := gd_e h
            obtain ⟨q_60, h⟩ := gd_e h
            refine x_acmpREF_eq 115 g dX5_runCommand_110 (by decide) q_59 q_60 (fun c_61 => ?_) (fun c_61 => ?_)
            · have h := ite_t c_61 h
              refine x_aload_n 0 g dX5_runCommand_115 rfl rfl ?_
              refine x_aload_n 3 g dX5_runCommand_116 rfl rfl ?_
              refine x_iload (i := 4) g dX5_runCommand_117 rfl ?_
              refine x_iload (i := 5) g dX5_runCommand_119 rfl ?_
              refine x_iload (i := 6) g dX5_runCommand_121 rfl ?_
              refine x_iload (i := 7) g dX5_runCommand_123 rfl ?_
              obtain ⟨r_63, S_64, q_62, h⟩ := gb2_e h
              refine x_cV [.int r_63] g (k_X5_perform q_62) ca_X5_perform in_X5_perform se_X5_perform lm_X5_316 gXX5 q_1 (Nat.le_of_ble_eq_true rfl) rfl rfl (Nat.le_of_ble_eq_true rfl) dX5_runCommand_125 rfl ?_
              refine x_pop g dX5_runCommand_128 rfl ?_
              refine x_iconst (v := 1) g dX5_runCommand_129 (by decide) ?_
              cases h
              exact x_zretS (b := true) g e dX5_runCommand_130 rfl rfl rfl
            · have h := ite_f c_61 h
              refine x_iconst (v := 0) g dX5_runCommand_113 (by decide) ?_
              cases h
              exact x_zretS (b := false) g e dX5_runCommand_114 rfl rfl rfl
          · have h := ite_t c_56 h
            refine x_iconst (v := 1) g dX5_runCommand_91 (by decide) ?_
            refine x_istore (i := 7) g dX5_runCommand_92 (Nat.le_of_ble_eq_true rfl) rfl ?_
            refine x_aload_n 0 g dX5_runCommand_94 rfl rfl ?_
            refine x_aload_n 3 g dX5_runCommand_95 rfl rfl ?_
            refine x_iload (i := 4) g dX5_runCommand_96 rfl ?_
            refine x_iload (i := 5) g dX5_runCommand_98 rfl ?_
            refine x_iload (i := 6) g dX5_runCommand_100 rfl ?_
            refine x_iload (i := 7) g dX5_runCommand_102 rfl ?_
            obtain ⟨r_66, q_65, h⟩ := gb_e h
            refine x_cV [.ref ((ky K).2 (10 + r_66))] g (k_X5_refusalOf q_65) ca_X5_refusalOf in_X5_refusalOf se_X5_refusalOf lm_X5_308 gXX5 q_1 (Nat.le_of_ble_eq_true rfl) rfl rfl (Nat.le_of_ble_eq_true rfl) dX5_runCommand_104 rfl ?_
            refine x_gst g dX5_runCommand_107 (hzR g 0 (by decide)) ls_X5_333 ?_
            obtain ⟨q_67, h⟩ := gd_e h
            obtain ⟨q_68, h⟩ := gd_e h
            refine x_acmpREF_eq 115 g dX5_runCommand_110 (by decide) q_67 q_68 (fun c_69 => ?_) (fun c_69 => ?_)
            · have h := ite_t c_69 h
              refine x_aload_n 0 g dX5_runCommand_115 rfl rfl ?_
              refine x_aload_n 3 g dX5_runCommand_116 rfl rfl ?_
              refine x_iload (i := 4) g dX5_runCommand_117 rfl ?_
              refine x_iload (i := 5) g dX5_runCommand_119 rfl ?_
              refine x_iload (i := 6) g dX5_runCommand_121 rfl ?_
              refine x_iload (i := 7) g dX5_runCommand_123 rfl ?_
              obtain ⟨r_71, S_72, q_70, h⟩ := gb2_e h
              refine x_cV [.int r_71] g (k_X5_perform q_70) ca_X5_perform in_X5_perform se_X5_perform lm_X5_316 gXX5 q_1 (Nat.le_of_ble_eq_true rfl) rfl rfl (Nat.le_of_ble_eq_true rfl) dX5_runCommand_125 rfl ?_
              refine x_pop g dX5_runCommand_128 rfl ?_
              refine x_iconst (v := 1) g dX5_runCommand_129 (by decide) ?_
              cases h
              exact x_zretS (b := true) g e dX5_runCommand_130 rfl rfl rfl
            · have h := ite_f c_69 h
              refine x_iconst (v := 0) g dX5_runCommand_113 (by decide) ?_
              cases h
              exact x_zretS (b := false) g e dX5_runCommand_114 rfl rfl rfl
      · have h := ite_f c_45 h
        refine x_bipush (v := 10) g dX5_runCommand_68 (by decide) ?_
        refine x_iload (i := 4) g dX5_runCommand_70 rfl ?_
        refine x_imul g dX5_runCommand_72 ?_
        refine x_iload (i := 5) g dX5_runCommand_73 rfl ?_
        refine x_iadd g dX5_runCommand_75 ?_
        refine x_nI (fun x4_73 e_74 => ?_)
        have h := glt_e e_74 h
        refine x_istore (i := 4) g dX5_runCommand_76 (Nat.le_of_ble_eq_true rfl) rfl ?_
        refine x_aload_n 3 g dX5_runCommand_78 rfl rfl ?_
        refine x_gst g dX5_runCommand_79 (hzC g 1 (by decide)) ls_X5_57 ?_
        obtain ⟨q_75, h⟩ := gd_e h
        refine x_acmpCMD_ne 94 g dX5_runCommand_82 (by decide) q_15 q_75 (fun c_76 => ?_) (fun c_76 => ?_)
        · have h := ite_f c_76 h
          refine x_aload_n 0 g dX5_runCommand_94 rfl rfl ?_
          refine x_aload_n 3 g dX5_runCommand_95 rfl rfl ?_
          refine x_iload (i := 4) g dX5_runCommand_96 rfl ?_
          refine x_iload (i := 5) g dX5_runCommand_98 rfl ?_
          refine x_iload (i := 6) g dX5_runCommand_100 rfl ?_
          refine x_iload (i := 7) g dX5_runCommand_102 rfl ?_
          obtain ⟨r_78, q_77, h⟩ := gb_e h
          refine x_cV [.ref ((ky K).2 (10 + r_78))] g (k_X5_refusalOf q_77) ca_X5_refusalOf in_X5_refusalOf se_X5_refusalOf lm_X5_308 gXX5 q_1 (Nat.le_of_ble_eq_true rfl) rfl rfl (Nat.le_of_ble_eq_true rfl) dX5_runCommand_104 rfl ?_
          refine x_gst g dX5_runCommand_107 (hzR g 0 (by decide)) ls_X5_333 ?_
          obtain ⟨q_79, h⟩ := gd_e h
          obtain ⟨q_80, h⟩ := gd_e h
          refine x_acmpREF_eq 115 g dX5_runCommand_110 (by decide) q_79 q_80 (fun c_81 => ?_) (fun c_81 => ?_)
          · have h := ite_t c_81 h
            refine x_aload_n 0 g dX5_runCommand_115 rfl rfl ?_
            refine x_aload_n 3 g dX5_runCommand_116 rfl rfl ?_
            refine x_iload (i := 4) g dX5_runCommand_117 rfl ?_
            refine x_iload (i := 5) g dX5_runCommand_119 rfl ?_
            refine x_iload (i := 6) g dX5_runCommand_121 rfl ?_
            refine x_iload (i := 7) g dX5_runCommand_123 rfl ?_
            obtain ⟨r_83, S_84, q_82, h⟩ := gb2_e h
            refine x_cV [.int r_83] g (k_X5_perform q_82) ca_X5_perform in_X5_perform se_X5_perform lm_X5_316 gXX5 q_1 (Nat.le_of_ble_eq_true rfl) rfl rfl (Nat.le_of_ble_eq_true rfl) dX5_runCommand_125 rfl ?_
            refine x_pop g dX5_runCommand_128 rfl ?_
            refine x_iconst (v := 1) g dX5_runCommand_129 (by decide) ?_
            cases h
            exact x_zretS (b := true) g e dX5_runCommand_130 rfl rfl rfl
          · have h := ite_f c_81 h
            refine x_iconst (v := 0) g dX5_runCommand_113 (by decide) ?_
            cases h
            exact x_zretS (b := false) g e dX5_runCommand_114 rfl rfl rfl
        · have h := ite_t c_76 h
          refine x_iload (i := 7) g dX5_runCommand_85 rfl ?_
          refine x_iconst (v := (-1)) g dX5_runCommand_87 (by decide) ?_
          refine x_icmp_ne 94 g dX5_runCommand_88 (by decide) (fun c_85 => ?_) (fun c_85 => ?_)
          · have h := ite_f c_85 h
            refine x_aload_n 0 g dX5_runCommand_94 rfl rfl ?_
            refine x_aload_n 3 g dX5_runCommand_95 rfl rfl ?_
            refine x_iload (i := 4) g dX5_runCommand_96 rfl ?_
            refine x_iload (i := 5) g dX5_runCommand_98 rfl ?_
            refine x_iload (i := 6) g dX5_runCommand_100 rfl ?_
            refine x_iload (i := 7) g dX5_runCommand_102 rfl ?_
            obtain ⟨r_87, q_86, h⟩ := gb_e h
            refine x_cV [.ref ((ky K).2 (10 + r_87))] g (k_X5_refusalOf q_86) ca_X5_refusalOf in_X5_refusalOf se_X5_refusalOf lm_X5_308 gXX5 q_1 (Nat.le_of_ble_eq_true rfl) rfl rfl (Nat.le_of_ble_eq_true rfl) dX5_runCommand_104 rfl ?_
            refine x_gst g dX5_runCommand_107 (hzR g 0 (by decide)) ls_X5_333 ?_
            obtain ⟨q_88, h⟩ := gd_e h
            obtain ⟨q_89, h⟩ := gd_e h
            refine x_acmpREF_eq 115 g dX5_runCommand_110 (by decide) q_88 q_89 (fun c_90 => ?_) (fun c_90 => ?_)
            · have h := ite_t c_90 h
              refine x_aload_n 0 g dX5_runCommand_115 rfl rfl ?_
              refine x_aload_n 3 g dX5_runCommand_116 rfl rfl ?_
              refine x_iload (i := 4) g dX5_runCommand_117 rfl ?_
              refine x_iload (i := 5) g dX5_runCommand_119 rfl ?_
              refine x_iload (i := 6) g dX5_runCommand_121 rfl ?_
              refine x_iload (i := 7) g dX5_runCommand_123 rfl ?_
              obtain ⟨r_92, S_93, q_91, h⟩ := gb2_e h
              refine x_cV [.int r_92] g (k_X5_perform q_91) ca_X5_perform in_X5_perform se_X5_perform lm_X5_316 gXX5 q_1 (Nat.le_of_ble_eq_true rfl) rfl rfl (Nat.le_of_ble_eq_true rfl) dX5_runCommand_125 rfl ?_
              refine x_pop g dX5_runCommand_128 rfl ?_
              refine x_iconst (v := 1) g dX5_runCommand_129 (by decide) ?_
              cases h
              exact x_zretS (b := true) g e dX5_runCommand_130 rfl rfl rfl
            · have h := ite_f c_90 h
              refine x_iconst (v := 0) g dX5_runCommand_113 (by decide) ?_
              cases h
              exact x_zretS (b := false) g e dX5_runCommand_114 rfl rfl rfl
          · have h := ite_t c_85 h
            refine x_iconst (v := 1) g dX5_runCommand_91 (by decide) ?_
            refine x_istore (i := 7) g dX5_runCommand_92 (Nat.le_of_ble_eq_true rfl) rfl ?_
            refine x_aload_n 0 g dX5_runCommand_94 rfl rfl ?_
            refine x_aload_n 3 g dX5_runCommand_95 rfl rfl ?_
            refine x_iload (i := 4) g dX5_runCommand_96 rfl ?_
            refine x_iload (i := 5) g dX5_runCommand_98 rfl ?_
            refine x_iload (i := 6) g dX5_runCommand_100 rfl ?_
            refine x_iload (i := 7) g dX5_runCommand_102 rfl ?_
            obtain ⟨r_95, q_94, h⟩ := gb_e h
            refine x_cV [.ref ((ky K).2 (10 + r_95))] g (k_X5_refusalOf q_94) ca_X5_refusalOf in_X5_refusalOf se_X5_refusalOf lm_X5_308 gXX5 q_1 (Nat.le_of_ble_eq_true rfl) rfl rfl (Nat.le_of_ble_eq_true rfl) dX5_runCommand_104 rfl ?_
            refine x_gst g dX5_runCommand_107 (hzR g 0 (by decide)) ls_X5_333 ?_
            obtain ⟨q_96, h⟩ := gd_e h
            obtain ⟨q_97, h⟩ := gd_e h
            refine x_acmpREF_eq 115 g dX5_runCommand_110 (by decide) q_96 q_97 (fun c_98 => ?_) (fun c_98 => ?_)
            · have h := ite_t c_98 h
              refine x_aload_n 0 g dX5_runCommand_115 rfl rfl ?_
              refine x_aload_n 3 g dX5_runCommand_116 rfl rfl ?_
              refine x_iload (i := 4) g dX5_runCommand_117 rfl ?_
              refine x_iload (i := 5) g dX5_runCommand_119 rfl ?_
              refine x_iload (i := 6) g dX5_runCommand_121 rfl ?_
              refine x_iload (i := 7) g dX5_runCommand_123 rfl ?_
              obtain ⟨r_100, S_101, q_99, h⟩ := gb2_e h
              refine x_cV [.int r_100] g (k_X5_perform q_99) ca_X5_perform in_X5_perform se_X5_perform lm_X5_316 gXX5 q_1 (Nat.le_of_ble_eq_true rfl) rfl rfl (Nat.le_of_ble_eq_true rfl) dX5_runCommand_125 rfl ?_
              refine x_pop g dX5_runCommand_128 rfl ?_
              refine x_iconst (v := 1) g dX5_runCommand_129 (by decide) ?_
              cases h
              exact x_zretS (b := true) g e dX5_runCommand_130 rfl rfl rfl
            · have h := ite_f c_98 h
              refine x_iconst (v := 0) g dX5_runCommand_113 (by decide) ?_
              cases h
              exact x_zretS (b := false) g e dX5_runCommand_114 rfl rfl rfl
noncomputable def f_X5_takeBack (G : gG) (a0 : Nat) (S : gS) : Option gS := gd (gis G 2 a0) <| if (gI S 20 a0) < 0 then (some S) else (gb (gP S 7 a0) fun (b_3 : Nat) => gd (gis G 8 b_3) <| if (Int32.ofNat (gn G b_3)) ≤ (gI S 20 a0) then (some S) else (gb (gP S 5 a0) fun (b_7 : Nat) => gb (gP S 7 a0) fun (b_9 : Nat) => gd (gis G 8 b_9) <| gd (vp_in (gI S 20 a0) (gn G b_9)) <| gb (gq S b_9 (Int32.toNatClampNeg (gI S 20 a0))) fun (b_13 : Nat) => gd (gis G 0 b_7) <| gb (f_X1_copyFrom G b_7 b_13 S) fun (S_17 : gS) => some S_17))
set_option maxRecDepth 100000 in
set_option maxHeartbeats 4000000 in
theorem k_X5_takeBack {ad : Nat → Nat} {G : gG} {a0 : Nat} {S S1 : gS} {T : gT} (h : f_X5_takeBack G a0 S = some S1) : Ct ad yX5_takeBack (Cond.code yX5_takeBack cX5_takeBack 1 none :: gTb) 4 0 0 [.ref a0] G S T none G S1 T := by
  refine Ct.ofB rfl (Nat.le_of_ble_eq_true rfl) rfl (fun K g e hK => ?_)
  obtain ⟨rfl, -⟩ := hK
  show Xj K [] G 0 [some (.ref a0)] [] S T 0 0
  unfold f_X5_takeBack at h
  refine x_aload_n 0 g dX5_takeBack_0 rfl rfl ?_
  obtain ⟨q_1, h⟩ := gd_e h
  refine x_geti g dX5_takeBack_1 gXX5 5 20 rfl (by decide) rfl lf_X5_33 q_1 ?_
  refine x_if_lt 35 g dX5_takeBack_4 (by decide) (fun c_2 => ?_) (fun c_2 => ?_)
  · have h := ite_t c_2 h
    cases h
    exact x_vretS g e dX5_takeBack_35 rfl
  · have h := ite_f c_2 h
    refine x_aload_n 0 g dX5_takeBack_7 rfl rfl ?_
    refine x_geti g dX5_takeBack_8 gXX5 5 20 rfl (by decide) rfl lf_X5_33 q_1 ?_
    refine x_aload_n 0 g dX5_takeBack_11 rfl rfl ?_
    obtain ⟨b_3, e_4, h⟩ := gb_e h
    refine x_getr g dX5_takeBack_12 gXX5 2 7 rfl (by decide) rfl lf_X5_19 q_1 e_4 ?_
    obtain ⟨q_5, h⟩ := gd_e h
    refine x_lenb g dX5_takeBack_15 q_5 ?_
    refine x_icmp_ge 35 g dX5_takeBack_16 (by decide) (fun c_6 => ?_) (fun c_6 => ?_)
    · have h := ite_t c_6 h
      cases h
      exact x_vretS g e dX5_takeBack_35 rfl
    · have h := ite_f c_6 h
      refine x_aload_n 0 g dX5_takeBack_19 rfl rfl ?_
      obtain ⟨b_7, e_8, h⟩ := gb_e h
      refine x_getr g dX5_takeBack_20 gXX5 0 5 rfl (by decide) rfl lf_X5_12 q_1 e_8 ?_
      refine x_aload_n 0 g dX5_takeBack_23 rfl rfl ?_
      obtain ⟨b_9, e_10, h⟩ := gb_e h
      refine x_getr g dX5_takeBack_24 gXX5 2 7 rfl (by decide) rfl lf_X5_19 q_1 e_10 ?_
      refine x_aload_n 0 g dX5_takeBack_27 rfl rfl ?_
      refine x_geti g dX5_takeBack_28 gXX5 5 20 rfl (by decide) rfl lf_X5_33 q_1 ?_
      obtain ⟨q_11, h⟩ := gd_e h
      obtain ⟨q_12, h⟩ := gd_e h
      obtain ⟨b_13, e_14, h⟩ := gb_e h
      refine x_aldb g dX5_takeBack_31 q_11 q_12 ?_
      rw [e_14]
      refine x_rf ?_
      obtain ⟨q_15, h⟩ := gd_e h
      obtain ⟨S_17, q_16, h⟩ := gb_e h
      refine x_cV [] g (k_X1_copyFrom q_16) ca_X1_copyFrom in_X1_copyFrom se_X1_copyFrom lm_X5_302 gXX1 q_15 (Nat.le_of_ble_eq_true rfl) rfl rfl (Nat.le_of_ble_eq_true rfl) dX5_takeBack_32 rfl ?_
      cases h
      exact x_vretS g e dX5_takeBack_35 rfl
noncomputable def f_X5_runScript_L48 (G : gG) (a0 : Nat) : Nat → Int32 → Int32 → Int32 → Int32 → gS → gT → Option ((String ⊕ Int32) × gS × gT)
  | 0, _, _, _, _, _, _ => none
  | n48 + 1, x1, x2, x3, x4, S, T => if x2 ≤ x3 then (gd (gis G 2 a0) <| gb (gP S 8 a0) fun (b_11 : Nat) => gb (tg T b_11) fun (t_13 : List Nat) => glt (ts T b_11 []) fun (T_15 : gT) => if x2 ≤ x3 then (gb (f_X5_countChange G a0 S) fun (S_19 : gS) => some (.inr x2, S_19, T_15)) else (gb (f_X5_takeBack G a0 S) fun (S_21 : gS) => glt (sI S_21 23 a0 x3) fun (S_22 : gS) => some (.inl "java/lang/IllegalStateException", S_22, T_15))) else (gd (gis G 2 a0) <| gb2 (f_X5_runCommand G a0 x4 S T) fun (r_26 : Bool) (S_27 : gS) => if (gz r_26) = 0 then (gb (gP S_27 8 a0) fun (b_29 : Nat) => gb (tg T b_29) fun (t_31 : List Nat) => glt (ts T b_29 []) fun (T_33 : gT) => if x2 ≤ x3 then (gb (f_X5_countChange G a0 S_27) fun (S_37 : gS) => some (.inr x2, S_37, T_33)) else (gb (f_X5_takeBack G a0 S_27) fun (S_39 : gS) => glt (sI S_39 23 a0 x3) fun (S_40 : gS) => some (.inl "java/lang/IllegalStateException", S_40, T_33))) else (gb (f_X5_commandEnd G a0 x4 S_27 T) fun (r_43 : Int32) => glt (r_43 + 1) fun (x4_44 : Int32) => glt (x3 + 1) fun (x3_46 : Int32) => f_X5_runScript_L48 G a0 n48 x1 x2 x3_46 x4_44 S_27 T))
noncomputable def f_X5_runScript (G : gG) (a0 : Nat) (S : gS) (T : gT) : Option ((String ⊕ Int32) × gS × gT) := gd (gis G 2 a0) <| gb (f_X5_findFormError G a0 S T) fun (r_3 : Int32) => if r_3 = (-1) then (gb (f_X5_keepForUndo G a0 S) fun (S_6 : gS) => gb (f_X5_countCommands G a0 S_6 T) fun (r_8 : Int32) => f_X5_runScript_L48 G a0 gN r_3 r_8 0 0 S_6 T) else (gb (gP S 8 a0) fun (b_48 : Nat) => gb (tg T b_48) fun (t_50 : List Nat) => glt (ts T b_48 []) fun (T_52 : gT) => glt (sI S 22 a0 r_3) fun (S_54 : gS) => some (.inl "java/lang/IllegalArgumentException", S_54, T_52))
set_option maxRecDepth 100000 in
set_option maxHeartbeats 4000000 in
theorem k_X5_runScript {ad : Nat → Nat} {G : gG} {a0 : Nat} {S S1 : gS} {T T1 : gT} {r : Int32} (h : f_X5_runScript G a0 S T = some (.inr r, S1, T1)) : Ct ad yX5_runScript (Cond.code yX5_runScript cX5_runScript 5 (some .int) :: gTb) 11 (gpc T) (gps T) [.ref a0] G S T (some (.int r)) G S1 T1 := by
  refine Ct.ofB rfl (Nat.le_of_ble_eq_true rfl) rfl (fun K g e hK => ?_)
  obtain ⟨rfl, -⟩ := hK
  show Xj K [] G 0 [some (.ref a0), none, none, none, none] [] S T (gpc T) (gps T)
  unfold f_X5_runScript at h
  refine x_aload_n 0 g dX5_runScript_0 rfl rfl ?_
  obtain ⟨q_1, h⟩ := gd_e h
  obtain ⟨r_3, q_2, h⟩ := gb_e h
  refine x_cV [.int r_3] g (k_X5_findFormError q_2) ca_X5_findFormError in_X5_findFormError se_X5_findFormError lm_X5_271 gXX5 q_1 (Nat.le_of_ble_eq_true rfl) rfl rfl (Nat.le_of_ble_eq_true rfl) dX5_runScript_1 rfl ?_
  refine x_istore_n 1 g dX5_runScript_4 rfl (Nat.le_of_ble_eq_true rfl) rfl ?_
  refine x_iload_n 1 g dX5_runScript_5 rfl rfl ?_
  refine x_iconst (v := (-1)) g dX5_runScript_6 (by decide) ?_
  refine x_icmp_eq 34 g dX5_runScript_7 (by decide) (fun c_4 => ?_) (fun c_4 => ?_)
  · have h := ite_t c_4 h
    refine x_aload_n 0 g dX5_runScript_34 rfl rfl ?_
    obtain ⟨S_6, q_5, h⟩ := gb_e h
    refine x_cV [] g (k_X5_keepForUndo q_5) ca_X5_keepForUndo in_X5_keepForUndo se_X5_keepForUndo lm_X5_276 gXX5 q_1 (Nat.le_of_ble_eq_true rfl) rfl rfl (Nat.le_of_ble_eq_true rfl) dX5_runScript_35 rfl ?_
    refine x_aload_n 0 g dX5_runScript_38 rfl rfl ?_
    obtain ⟨r_8, q_7, h⟩ := gb_e h
    refine x_cV [.int r_8] g (k_X5_countCommands q_7) ca_X5_countCommands in_X5_countCommands se_X5_countCommands lm_X5_279 gXX5 q_1 (Nat.le_of_ble_eq_true rfl) rfl rfl (Nat.le_of_ble_eq_true rfl) dX5_runScript_39 rfl ?_
    refine x_istore_n 2 g dX5_runScript_42 rfl (Nat.le_of_ble_eq_true rfl) rfl ?_
    refine x_iconst (v := 0) g dX5_runScript_43 (by decide) ?_
    refine x_istore_n 3 g dX5_runScript_44 rfl (Nat.le_of_ble_eq_true rfl) rfl ?_
    refine x_iconst (v := 0) g dX5_runScript_45 (by decide) ?_
    refine x_istore (i := 4) g dX5_runScript_46 (Nat.le_of_ble_eq_true rfl) rfl ?_
    have L48 : ∀ (n48 : Nat) (x1 : Int32) (x2 : Int32) (x3 : Int32) (x4 : Int32) (S : gS) (T : gT), f_X5_runScript_L48 G a0 n48 x1 x2 x3 x4 S T = some (.inr r, S1, T1) → Xj K [] G 48 [some (.ref a0), some (.int x1), some (.int x2), some (.int x3), some (.int x4)] [] S T (gpc T) (gps T) := by
      intro n48
      induction n48 with
      | zero =>
        intro x1 x2 x3 x4 S T h
        rw [f_X5_runScript_L48] at h
        cases h
      | succ n48 ih =>
        intro x1 x2 x3 x4 S T h
        rw [f_X5_runScript_L48] at h
        refine x_iload_n 3 g dX5_runScript_48 rfl rfl ?_
        refine x_iload_n 2 g dX5_runScript_49 rfl rfl ?_
        refine x_icmp_ge 78 g dX5_runScript_50 (by decide) (fun c_9 => ?_) (fun c_9 => ?_)
        · have h := ite_t c_9 h
          refine x_aload_n 0 g dX5_runScript_78 rfl rfl ?_
          obtain ⟨q_10, h⟩ := gd_e h
          obtain ⟨b_11, e_12, h⟩ := gb_e h
          refine x_getr g dX5_runScript_79 gXX5 3 8 rfl (by decide) rfl lf_X5_26 q_10 e_12 ?_
          refine x_iconst (v := 0) g dX5_runScript_82 (by decide) ?_
          obtain ⟨t_13, q_14, h⟩ := gb_e h
          refine x_sbZp g q_14 lmb_X5_237 (by decide) (Nat.le_of_ble_eq_true rfl) dX5_runScript_83 ?_
          refine x_nTp (fun T_15 e_16 => ?_)
          have h := glt_e e_16 h
          refine x_iload_n 3 g dX5_runScript_86 rfl rfl ?_
          refine x_iload_n 2 g dX5_runScript_87 rfl rfl ?_
          refine x_icmp_ge 111 g dX5_runScript_88 (by decide) (fun c_17 => ?_) (fun c_17 => ?_)
          · have h := ite_t c_17 h
            refine x_aload_n 0 g dX5_runScript_111 rfl rfl ?_
            obtain ⟨S_19, q_18, h⟩ := gb_e h
            refine x_cV [] g (k_X5_countChange q_18) ca_X5_countChange in_X5_countChange se_X5_countChange lm_X5_293 gXX5 q_10 (Nat.le_of_ble_eq_true rfl) rfl rfl (Nat.le_of_ble_eq_true rfl) dX5_runScript_112 rfl ?_
            refine x_iload_n 2 g dX5_runScript_115 rfl rfl ?_
            cases h
            exact x_iretS g e dX5_runScript_116 rfl rfl
          · have h := ite_f c_17 h
            refine x_aload_n 0 g dX5_runScript_91 rfl rfl ?_
            obtain ⟨S_21, q_20, h⟩ := gb_e h
            refine x_cV [] g (k_X5_takeBack q_20) ca_X5_takeBack in_X5_takeBack se_X5_takeBack lm_X5_288 gXX5 q_10 (Nat.le_of_ble_eq_true rfl) rfl rfl (Nat.le_of_ble_eq_true rfl) dX5_runScript_92 rfl ?_
            refine x_aload_n 0 g dX5_runScript_95 rfl rfl ?_
            refine x_iload_n 3 g dX5_runScript_96 rfl rfl ?_
            refine x_puti g dX5_runScript_97 gXX5 8 23 rfl (by decide) rfl rfl lf_X5_44 rfl rfl q_10 ?_
            refine x_nS (fun S_22 e_23 => ?_)
            have h := glt_e e_23 h
            cases h
        · have h := ite_f c_9 h
          refine x_aload_n 0 g dX5_runScript_53 rfl rfl ?_
          refine x_iload (i := 4) g dX5_runScript_54 rfl ?_
          obtain ⟨q_24, h⟩ := gd_e h
          obtain ⟨r_26, S_27, q_25, h⟩ := gb2_e h
          refine x_cV [.int (gz r_26)] g (k_X5_runCommand q_25) ca_X5_runCommand in_X5_runCommand se_X5_runCommand lm_X5_282 gXX5 q_24 (Nat.le_of_ble_eq_true rfl) rfl rfl (Nat.le_of_ble_eq_true rfl) dX5_runScript_56 rfl ?_
          refine x_if_eq 78 g dX5_runScript_59 (by decide) (fun c_28 => ?_) (fun c_28 => ?_)
          · have h := ite_t c_28 h
            refine x_aload_n 0 g dX5_runScript_78 rfl rfl ?_
            obtain ⟨b_29, e_30, h⟩ := gb_e h
            refine x_getr g dX5_runScript_79 gXX5 3 8 rfl (by decide) rfl lf_X5_26 q_24 e_30 ?_
            refine x_iconst (v := 0) g dX5_runScript_82 (by decide) ?_
            obtain ⟨t_31, q_32, h⟩ := gb_e h
            refine x_sbZp g q_32 lmb_X5_237 (by decide) (Nat.le_of_ble_eq_true rfl) dX5_runScript_83 ?_
            refine x_nTp (fun T_33 e_34 => ?_)
            have h := glt_e e_34 h
            refine x_iload_n 3 g dX5_runScript_86 rfl rfl ?_
            refine x_iload_n 2 g dX5_runScript_87 rfl rfl ?_
            refine x_icmp_ge 111 g dX5_runScript_88 (by decide) (fun c_35 => ?_) (fun c_35 => ?_)
            · have h := ite_t c_35 h
              refine x_aload_n 0 g dX5_runScript_111 rfl rfl ?_
              obtain ⟨S_37, q_36, h⟩ := gb_e h
              refine x_cV [] g (k_X5_countChange q_36) ca_X5_countChange in_X5_countChange se_X5_countChange lm_X5_293 gXX5 q_24 (Nat.le_of_ble_eq_true rfl) rfl rfl (Nat.le_of_ble_eq_true rfl) dX5_runScript_112 rfl ?_
              refine x_iload_n 2 g dX5_runScript_115 rfl rfl ?_
              cases h
              exact x_iretS g e dX5_runScript_116 rfl rfl
            · have h := ite_f c_35 h
              refine x_aload_n 0 g dX5_runScript_91 rfl rfl ?_
              obtain ⟨S_39, q_38, h⟩ := gb_e h
              refine x_cV [] g (k_X5_takeBack q_38) ca_X5_takeBack in_X5_takeBack se_X5_takeBack lm_X5_288 gXX5 q_24 (Nat.le_of_ble_eq_true rfl) rfl rfl (Nat.le_of_ble_eq_true rfl) dX5_runScript_92 rfl ?_
              refine x_aload_n 0 g dX5_runScript_95 rfl rfl ?_
              refine x_iload_n 3 g dX5_runScript_96 rfl rfl ?_
              refine x_puti g dX5_runScript_97 gXX5 8 23 rfl (by decide) rfl rfl lf_X5_44 rfl rfl q_24 ?_
              refine x_nS (fun S_40 e_41 => ?_)
              have h := glt_e e_41 h
              cases h
          · have h := ite_f c_28 h
            refine x_aload_n 0 g dX5_runScript_62 rfl rfl ?_
            refine x_iload (i := 4) g dX5_runScript_63 rfl ?_
            obtain ⟨r_43, q_42, h⟩ := gb_e h
            refine x_cV [.int r_43] g (k_X5_commandEnd q_42) ca_X5_commandEnd in_X5_commandEnd se_X5_commandEnd lm_X5_285 gXX5 q_24 (Nat.le_of_ble_eq_true rfl) rfl rfl (Nat.le_of_ble_eq_true rfl) dX5_runScript_65 rfl ?_
            refine x_iconst (v := 1) g dX5_runScript_68 (by decide) ?_
            refine x_iadd g dX5_runScript_69 ?_
            refine x_nI (fun x4_44 e_45 => ?_)
            have h := glt_e e_45 h
            refine x_istore (i := 4) g dX5_runScript_70 (Nat.le_of_ble_eq_true rfl) rfl ?_
            obtain ⟨x3_46, e_47⟩ : ∃ z : Int32, z = x3 + 1 := ⟨_, rfl⟩
            have h := glt_e e_47 h
            refine x_iinc (v := x3_46) g dX5_runScript_72 rfl (by rw [e_47]; rfl) rfl ?_
            refine x_goto 48 g dX5_runScript_75 (by decide) ?_
            exact ih _ _ _ _ _ _ h
    exact L48 gN _ _ _ _ _ _ h
  · have h := ite_f c_4 h
    refine x_aload_n 0 g dX5_runScript_10 rfl rfl ?_
    obtain ⟨b_48, e_49, h⟩ := gb_e h
    refine x_getr g dX5_runScript_11 gXX5 3 8 rfl (by decide) rfl lf_X5_26 q_1 e_49 ?_
    refine x_iconst (v := 0) g dX5_runScript_14 (by decide) ?_
    obtain ⟨t_50, q_51, h⟩ := gb_e h
    refine x_sbZp g q_51 lmb_X5_237 (by decide) (Nat.le_of_ble_eq_true rfl) dX5_runScript_15 ?_
    refine x_nTp (fun T_52 e_53 => ?_)
    have h := glt_e e_53 h
    refine x_aload_n 0 g dX5_runScript_18 rfl rfl ?_
    refine x_iload_n 1 g dX5_runScript_19 rfl rfl ?_
    refine x_puti g dX5_runScript_20 gXX5 7 22 rfl (by decide) rfl rfl lf_X5_41 rfl rfl q_1 ?_
    refine x_nS (fun S_54 e_55 => ?_)
    have h := glt_e e_55 h
    cases h
set_option maxRecDepth 100000 in
set_option maxHeartbeats 4000000 in
theorem t_X5_runScript {ad : Nat → Nat} {G : gG} {a0 : Nat} {S S1 : gS} {T T1 : gT} {E : String} (h : f_X5_runScript G a0 S T = some (.inl E, S1, T1)) : Cx ad yX5_runScript (Cond.code yX5_runScript cX5_runScript 5 (some .int) :: gTb) 11 [.ref a0] G S T E S1 T1 := by
  refine Cx.ofB rfl (Nat.le_of_ble_eq_true rfl) rfl (fun K g e hK => ?_)
  obtain ⟨rfl, -⟩ := hK
  show Xj K [] G 0 [some (.ref a0), none, none, none, none] [] S T 1 6
  unfold f_X5_runScript at h
  refine x_aload_n 0 g dX5_runScript_0 rfl rfl ?_
  obtain ⟨q_1, h⟩ := gd_e h
  obtain ⟨r_3, q_2, h⟩ := gb_e h
  refine x_cV [.int r_3] g (k_X5_findFormError q_2) ca_X5_findFormError in_X5_findFormError se_X5_findFormError lm_X5_271 gXX5 q_1 (Nat.le_of_ble_eq_true rfl) rfl rfl (Nat.le_of_ble_eq_true rfl) dX5_runScript_1 rfl ?_
  refine x_istore_n 1 g dX5_runScript_4 rfl (Nat.le_of_ble_eq_true rfl) rfl ?_
  refine x_iload_n 1 g dX5_runScript_5 rfl rfl ?_
  refine x_iconst (v := (-1)) g dX5_runScript_6 (by decide) ?_
  refine x_icmp_eq 34 g dX5_runScript_7 (by decide) (fun c_4 => ?_) (fun c_4 => ?_)
  · have h := ite_t c_4 h
    refine x_aload_n 0 g dX5_runScript_34 rfl rfl ?_
    obtain ⟨S_6, q_5, h⟩ := gb_e h
    refine x_cV [] g (k_X5_keepForUndo q_5) ca_X5_keepForUndo in_X5_keepForUndo se_X5_keepForUndo lm_X5_276 gXX5 q_1 (Nat.le_of_ble_eq_true rfl) rfl rfl (Nat.le_of_ble_eq_true rfl) dX5_runScript_35 rfl ?_
    refine x_aload_n 0 g dX5_runScript_38 rfl rfl ?_
    obtain ⟨r_8, q_7, h⟩ := gb_e h
    refine x_cV [.int r_8] g (k_X5_countCommands q_7) ca_X5_countCommands in_X5_countCommands se_X5_countCommands lm_X5_279 gXX5 q_1 (Nat.le_of_ble_eq_true rfl) rfl rfl (Nat.le_of_ble_eq_true rfl) dX5_runScript_39 rfl ?_
    refine x_istore_n 2 g dX5_runScript_42 rfl (Nat.le_of_ble_eq_true rfl) rfl ?_
    refine x_iconst (v := 0) g dX5_runScript_43 (by decide) ?_
    refine x_istore_n 3 g dX5_runScript_44 rfl (Nat.le_of_ble_eq_true rfl) rfl ?_
    refine x_iconst (v := 0) g dX5_runScript_45 (by decide) ?_
    refine x_istore (i := 4) g dX5_runScript_46 (Nat.le_of_ble_eq_true rfl) rfl ?_
    have L48 : ∀ (n48 : Nat) (x1 : Int32) (x2 : Int32) (x3 : Int32) (x4 : Int32) (S : gS) (T : gT), f_X5_runScript_L48 G a0 n48 x1 x2 x3 x4 S T = some (.inl E, S1, T1) → Xj K [] G 48 [some (.ref a0), some (.int x1), some (.int x2), some (.int x3), some (.int x4)] [] S T 1 6 := by
      intro n48
      induction n48 with
      | zero =>
        intro x1 x2 x3 x4 S T h
        rw [f_X5_runScript_L48] at h
        cases h
      | succ n48 ih =>
        intro x1 x2 x3 x4 S T h
        rw [f_X5_runScript_L48] at h
        refine x_iload_n 3 g dX5_runScript_48 rfl rfl ?_
        refine x_iload_n 2 g dX5_runScript_49 rfl rfl ?_
        refine x_icmp_ge 78 g dX5_runScript_50 (by decide) (fun c_9 => ?_) (fun c_9 => ?_)
        · have h := ite_t c_9 h
          refine x_aload_n 0 g dX5_runScript_78 rfl rfl ?_
          obtain ⟨q_10, h⟩ := gd_e h
          obtain ⟨b_11, e_12, h⟩ := gb_e h
          refine x_getr g dX5_runScript_79 gXX5 3 8 rfl (by decide) rfl lf_X5_26 q_10 e_12 ?_
          refine x_iconst (v := 0) g dX5_runScript_82 (by decide) ?_
          obtain ⟨t_13, q_14, h⟩ := gb_e h
          refine x_sbZ g q_14 lmb_X5_237 (by decide) (Nat.le_of_ble_eq_true rfl) dX5_runScript_83 ?_
          refine x_nT (fun T_15 e_16 => ?_)
          have h := glt_e e_16 h
          refine x_iload_n 3 g dX5_runScript_86 rfl rfl ?_
          refine x_iload_n 2 g dX5_runScript_87 rfl rfl ?_
          refine x_icmp_ge 111 g dX5_runScript_88 (by decide) (fun c_17 => ?_) (fun c_17 => ?_)
          · have h := ite_t c_17 h
            refine x_aload_n 0 g dX5_runScript_111 rfl rfl ?_
            obtain ⟨S_19, q_18, h⟩ := gb_e h
            refine x_cV [] g (k_X5_countChange q_18) ca_X5_countChange in_X5_countChange se_X5_countChange lm_X5_293 gXX5 q_10 (Nat.le_of_ble_eq_true rfl) rfl rfl (Nat.le_of_ble_eq_true rfl) dX5_runScript_112 rfl ?_
            refine x_iload_n 2 g dX5_runScript_115 rfl rfl ?_
            cases h
          · have h := ite_f c_17 h
            refine x_aload_n 0 g dX5_runScript_91 rfl rfl ?_
            obtain ⟨S_21, q_20, h⟩ := gb_e h
            refine x_cV [] g (k_X5_takeBack q_20) ca_X5_takeBack in_X5_takeBack se_X5_takeBack lm_X5_288 gXX5 q_10 (Nat.le_of_ble_eq_true rfl) rfl rfl (Nat.le_of_ble_eq_true rfl) dX5_runScript_92 rfl ?_
            refine x_aload_n 0 g dX5_runScript_95 rfl rfl ?_
            refine x_iload_n 3 g dX5_runScript_96 rfl rfl ?_
            refine x_puti g dX5_runScript_97 gXX5 8 23 rfl (by decide) rfl rfl lf_X5_44 rfl rfl q_10 ?_
            refine x_nS (fun S_22 e_23 => ?_)
            have h := glt_e e_23 h
            cases h
            exact x_throwW "a command of the script failed" g e (by decide +kernel) xnm_ok cl_X5_266 ci_IllegalStateException (by decide +kernel) xat_X5_270 dX5_runScript_100 dX5_runScript_103 dX5_runScript_104 dX5_runScript_107 dX5_runScript_110 (by decide) (by decide) (Nat.le_of_ble_eq_true rfl) rfl rfl
        · have h := ite_f c_9 h
          refine x_aload_n 0 g dX5_runScript_53 rfl rfl ?_
          refine x_iload (i := 4) g dX5_runScript_54 rfl ?_
          obtain ⟨q_24, h⟩ := gd_e h
          obtain ⟨r_26, S_27, q_25, h⟩ := gb2_e h
          refine x_cV [.int (gz r_26)] g (k_X5_runCommand q_25) ca_X5_runCommand in_X5_runCommand se_X5_runCommand lm_X5_282 gXX5 q_24 (Nat.le_of_ble_eq_true rfl) rfl rfl (Nat.le_of_ble_eq_true rfl) dX5_runScript_56 rfl ?_
          refine x_if_eq 78 g dX5_runScript_59 (by decide) (fun c_28 => ?_) (fun c_28 => ?_)
          · have h := ite_t c_28 h
            refine x_aload_n 0 g dX5_runScript_78 rfl rfl ?_
            obtain ⟨b_29, e_30, h⟩ := gb_e h
            refine x_getr g dX5_runScript_79 gXX5 3 8 rfl (by decide) rfl lf_X5_26 q_24 e_30 ?_
            refine x_iconst (v := 0) g dX5_runScript_82 (by decide) ?_
            obtain ⟨t_31, q_32, h⟩ := gb_e h
            refine x_sbZ g q_32 lmb_X5_237 (by decide) (Nat.le_of_ble_eq_true rfl) dX5_runScript_83 ?_
            refine x_nT (fun T_33 e_34 => ?_)
            have h := glt_e e_34 h
            refine x_iload_n 3 g dX5_runScript_86 rfl rfl ?_
            refine x_iload_n 2 g dX5_runScript_87 rfl rfl ?_
            refine x_icmp_ge 111 g dX5_runScript_88 (by decide) (fun c_35 => ?_) (fun c_35 => ?_)
            · have h := ite_t c_35 h
              refine x_aload_n 0 g dX5_runScript_111 rfl rfl ?_
              obtain ⟨S_37, q_36, h⟩ := gb_e h
              refine x_cV [] g (k_X5_countChange q_36) ca_X5_countChange in_X5_countChange se_X5_countChange lm_X5_293 gXX5 q_24 (Nat.le_of_ble_eq_true rfl) rfl rfl (Nat.le_of_ble_eq_true rfl) dX5_runScript_112 rfl ?_
              refine x_iload_n 2 g dX5_runScript_115 rfl rfl ?_
              cases h
            · have h := ite_f c_35 h
              refine x_aload_n 0 g dX5_runScript_91 rfl rfl ?_
              obtain ⟨S_39, q_38, h⟩ := gb_e h
              refine x_cV [] g (k_X5_takeBack q_38) ca_X5_takeBack in_X5_takeBack se_X5_takeBack lm_X5_288 gXX5 q_24 (Nat.le_of_ble_eq_true rfl) rfl rfl (Nat.le_of_ble_eq_true rfl) dX5_runScript_92 rfl ?_
              refine x_aload_n 0 g dX5_runScript_95 rfl rfl ?_
              refine x_iload_n 3 g dX5_runScript_96 rfl rfl ?_
              refine x_puti g dX5_runScript_97 gXX5 8 23 rfl (by decide) rfl rfl lf_X5_44 rfl rfl q_24 ?_
              refine x_nS (fun S_40 e_41 => ?_)
              have h := glt_e e_41 h
              cases h
              exact x_throwW "a command of the script failed" g e (by decide +kernel) xnm_ok cl_X5_266 ci_IllegalStateException (by decide +kernel) xat_X5_270 dX5_runScript_100 dX5_runScript_103 dX5_runScript_104 dX5_runScript_107 dX5_runScript_110 (by decide) (by decide) (Nat.le_of_ble_eq_true rfl) rfl rfl
          · have h := ite_f c_28 h
            refine x_aload_n 0 g dX5_runScript_62 rfl rfl ?_
            refine x_iload (i := 4) g dX5_runScript_63 rfl ?_
            obtain ⟨r_43, q_42, h⟩ := gb_e h
            refine x_cV [.int r_43] g (k_X5_commandEnd q_42) ca_X5_commandEnd in_X5_commandEnd se_X5_commandEnd lm_X5_285 gXX5 q_24 (Nat.le_of_ble_eq_true rfl) rfl rfl (Nat.le_of_ble_eq_true rfl) dX5_runScript_65 rfl ?_
            refine x_iconst (v := 1) g dX5_runScript_68 (by decide) ?_
            refine x_iadd g dX5_runScript_69 ?_
            refine x_nI (fun x4_44 e_45 => ?_)
            have h := glt_e e_45 h
            refine x_istore (i := 4) g dX5_runScript_70 (Nat.le_of_ble_eq_true rfl) rfl ?_
            obtain ⟨x3_46, e_47⟩ : ∃ z : Int32, z = x3 + 1 := ⟨_, rfl⟩
            have h := glt_e e_47 h
            refine x_iinc (v := x3_46) g dX5_runScript_72 rfl (by rw [e_47]; rfl) rfl ?_
            refine x_goto 48 g dX5_runScript_75 (by decide) ?_
            exact ih _ _ _ _ _ _ h
    exact L48 gN _ _ _ _ _ _ h
  · have h := ite_f c_4 h
    refine x_aload_n 0 g dX5_runScript_10 rfl rfl ?_
    obtain ⟨b_48, e_49, h⟩ := gb_e h
    refine x_getr g dX5_runScript_11 gXX5 3 8 rfl (by decide) rfl lf_X5_26 q_1 e_49 ?_
    refine x_iconst (v := 0) g dX5_runScript_14 (by decide) ?_
    obtain ⟨t_50, q_51, h⟩ := gb_e h
    refine x_sbZ g q_51 lmb_X5_237 (by decide) (Nat.le_of_ble_eq_true rfl) dX5_runScript_15 ?_
    refine x_nT (fun T_52 e_53 => ?_)
    have h := glt_e e_53 h
    refine x_aload_n 0 g dX5_runScript_18 rfl rfl ?_
    refine x_iload_n 1 g dX5_runScript_19 rfl rfl ?_
    refine x_puti g dX5_runScript_20 gXX5 7 22 rfl (by decide) rfl rfl lf_X5_41 rfl rfl q_1 ?_
    refine x_nS (fun S_54 e_55 => ?_)
    have h := glt_e e_55 h
    cases h
    exact x_throwW "the script does not have the required form" g e (by decide +kernel) xnm_ok cl_X5_183 ci_IllegalArgumentException (by decide +kernel) xat_X5_187 dX5_runScript_23 dX5_runScript_26 dX5_runScript_27 dX5_runScript_30 dX5_runScript_33 (by decide) (by decide) (Nat.le_of_ble_eq_true rfl) rfl rfl
noncomputable def f_X5_errorPosition (G : gG) (a0 : Nat) (S : gS) : Option (String ⊕ Int32) := gd (gis G 2 a0) <| if (gI S 22 a0) = (-1) then (some (.inl "java/util/NoSuchElementException")) else (some (.inr (gI S 22 a0)))
set_option maxRecDepth 100000 in
set_option maxHeartbeats 4000000 in
theorem k_X5_errorPosition {ad : Nat → Nat} {G : gG} {a0 : Nat} {S : gS} {T : gT} {r : Int32} (h : f_X5_errorPosition G a0 S = some (.inr r)) : Ct ad yX5_errorPosition (Cond.code yX5_errorPosition cX5_errorPosition 1 (some .int) :: gTb) 0 0 0 [.ref a0] G S T (some (.int r)) G S T := by
  refine Ct.ofB rfl (Nat.le_of_ble_eq_true rfl) rfl (fun K g e hK => ?_)
  obtain ⟨rfl, -⟩ := hK
  show Xj K [] G 0 [some (.ref a0)] [] S T 0 0
  unfold f_X5_errorPosition at h
  refine x_aload_n 0 g dX5_errorPosition_0 rfl rfl ?_
  obtain ⟨q_1, h⟩ := gd_e h
  refine x_geti g dX5_errorPosition_1 gXX5 7 22 rfl (by decide) rfl lf_X5_41 q_1 ?_
  refine x_iconst (v := (-1)) g dX5_errorPosition_4 (by decide) ?_
  refine x_icmp_ne 19 g dX5_errorPosition_5 (by decide) (fun c_2 => ?_) (fun c_2 => ?_)
  · have h := ite_f c_2 h
    refine x_aload_n 0 g dX5_errorPosition_19 rfl rfl ?_
    refine x_geti g dX5_errorPosition_20 gXX5 7 22 rfl (by decide) rfl lf_X5_41 q_1 ?_
    cases h
    exact x_iretS g e dX5_errorPosition_23 rfl rfl
  · have h := ite_t c_2 h
    cases h
set_option maxRecDepth 100000 in
set_option maxHeartbeats 4000000 in
theorem t_X5_errorPosition {ad : Nat → Nat} {G : gG} {a0 : Nat} {S : gS} {T : gT} {E : String} (h : f_X5_errorPosition G a0 S = some (.inl E)) : Cx ad yX5_errorPosition (Cond.code yX5_errorPosition cX5_errorPosition 1 (some .int) :: gTb) 6 [.ref a0] G S T E S T := by
  refine Cx.ofB rfl (Nat.le_of_ble_eq_true rfl) rfl (fun K g e hK => ?_)
  obtain ⟨rfl, -⟩ := hK
  show Xj K [] G 0 [some (.ref a0)] [] S T 1 6
  unfold f_X5_errorPosition at h
  refine x_aload_n 0 g dX5_errorPosition_0 rfl rfl ?_
  obtain ⟨q_1, h⟩ := gd_e h
  refine x_geti g dX5_errorPosition_1 gXX5 7 22 rfl (by decide) rfl lf_X5_41 q_1 ?_
  refine x_iconst (v := (-1)) g dX5_errorPosition_4 (by decide) ?_
  refine x_icmp_ne 19 g dX5_errorPosition_5 (by decide) (fun c_2 => ?_) (fun c_2 => ?_)
  · have h := ite_f c_2 h
    refine x_aload_n 0 g dX5_errorPosition_19 rfl rfl ?_
    refine x_geti g dX5_errorPosition_20 gXX5 7 22 rfl (by decide) rfl lf_X5_41 q_1 ?_
    cases h
  · have h := ite_t c_2 h
    cases h
    exact x_throwNW "every script had the required form" g e (by decide +kernel) (by decide +kernel) xnm_ok1 cl_X5_157 ci_NoSuchElementException (by decide +kernel) xat_X5_161 dX5_errorPosition_8 dX5_errorPosition_11 dX5_errorPosition_12 dX5_errorPosition_15 dX5_errorPosition_18 (by decide) (by decide) (Nat.le_of_ble_eq_true rfl) rfl rfl
noncomputable def f_X5_failedCommand (G : gG) (a0 : Nat) (S : gS) : Option (String ⊕ Int32) := gd (gis G 2 a0) <| if (gI S 23 a0) = (-1) then (some (.inl "java/util/NoSuchElementException")) else (some (.inr (gI S 23 a0)))
set_option maxRecDepth 100000 in
set_option maxHeartbeats 4000000 in
theorem k_X5_failedCommand {ad : Nat → Nat} {G : gG} {a0 : Nat} {S : gS} {T : gT} {r : Int32} (h : f_X5_failedCommand G a0 S = some (.inr r)) : Ct ad yX5_failedCommand (Cond.code yX5_failedCommand cX5_failedCommand 1 (some .int) :: gTb) 0 0 0 [.ref a0] G S T (some (.int r)) G S T := by
  refine Ct.ofB rfl (Nat.le_of_ble_eq_true rfl) rfl (fun K g e hK => ?_)
  obtain ⟨rfl, -⟩ := hK
  show Xj K [] G 0 [some (.ref a0)] [] S T 0 0
  unfold f_X5_failedCommand at h
  refine x_aload_n 0 g dX5_failedCommand_0 rfl rfl ?_
  obtain ⟨q_1, h⟩ := gd_e h
  refine x_geti g dX5_failedCommand_1 gXX5 8 23 rfl (by decide) rfl lf_X5_44 q_1 ?_
  refine x_iconst (v := (-1)) g dX5_failedCommand_4 (by decide) ?_
  refine x_icmp_ne 19 g dX5_failedCommand_5 (by decide) (fun c_2 => ?_) (fun c_2 => ?_)
  · have h := ite_f c_2 h
    refine x_aload_n 0 g dX5_failedCommand_19 rfl rfl ?_
    refine x_geti g dX5_failedCommand_20 gXX5 8 23 rfl (by decide) rfl lf_X5_44 q_1 ?_
    cases h
    exact x_iretS g e dX5_failedCommand_23 rfl rfl
  · have h := ite_t c_2 h
    cases h
set_option maxRecDepth 100000 in
set_option maxHeartbeats 4000000 in
theorem t_X5_failedCommand {ad : Nat → Nat} {G : gG} {a0 : Nat} {S : gS} {T : gT} {E : String} (h : f_X5_failedCommand G a0 S = some (.inl E)) : Cx ad yX5_failedCommand (Cond.code yX5_failedCommand cX5_failedCommand 1 (some .int) :: gTb) 6 [.ref a0] G S T E S T := by
  refine Cx.ofB rfl (Nat.le_of_ble_eq_true rfl) rfl (fun K g e hK => ?_)
  obtain ⟨rfl, -⟩ := hK
  show Xj K [] G 0 [some (.ref a0)] [] S T 1 6
  unfold f_X5_failedCommand at h
  refine x_aload_n 0 g dX5_failedCommand_0 rfl rfl ?_
  obtain ⟨q_1, h⟩ := gd_e h
  refine x_geti g dX5_failedCommand_1 gXX5 8 23 rfl (by decide) rfl lf_X5_44 q_1 ?_
  refine x_iconst (v := (-1)) g dX5_failedCommand_4 (by decide) ?_
  refine x_icmp_ne 19 g dX5_failedCommand_5 (by decide) (fun c_2 => ?_) (fun c_2 => ?_)
  · have h := ite_f c_2 h
    refine x_aload_n 0 g dX5_failedCommand_19 rfl rfl ?_
    refine x_geti g dX5_failedCommand_20 gXX5 8 23 rfl (by decide) rfl lf_X5_44 q_1 ?_
    cases h
  · have h := ite_t c_2 h
    cases h
    exact x_throwNW "no script had a failed command" g e (by decide +kernel) (by decide +kernel) xnm_ok1 cl_X5_157 ci_NoSuchElementException (by decide +kernel) xat_X5_161 dX5_failedCommand_8 dX5_failedCommand_11 dX5_failedCommand_12 dX5_failedCommand_15 dX5_failedCommand_18 (by decide) (by decide) (Nat.le_of_ble_eq_true rfl) rfl rfl
noncomputable def f_X5_undo (G : gG) (a0 : Nat) (S : gS) : Option ((String ⊕ Int32) × gS) := gd (gis G 2 a0) <| if 0 < (gI S 20 a0) then (glt (sI S 20 a0 ((gI S 20 a0) - 1)) fun (S_3 : gS) => gb (f_X5_takeBack G a0 S_3) fun (S_6 : gS) => some (.inr (gI S_6 20 a0), S_6)) else (some (.inl "java/lang/IllegalStateException", S))
set_option maxRecDepth 100000 in
set_option maxHeartbeats 4000000 in
theorem k_X5_undo {ad : Nat → Nat} {G : gG} {a0 : Nat} {S S1 : gS} {T : gT} {r : Int32} (h : f_X5_undo G a0 S = some (.inr r, S1)) : Ct ad yX5_undo (Cond.code yX5_undo cX5_undo 1 (some .int) :: gTb) 5 0 0 [.ref a0] G S T (some (.int r)) G S1 T := by
  refine Ct.ofB rfl (Nat.le_of_ble_eq_true rfl) rfl (fun K g e hK => ?_)
  obtain ⟨rfl, -⟩ := hK
  show Xj K [] G 0 [some (.ref a0)] [] S T 0 0
  unfold f_X5_undo at h
  refine x_aload_n 0 g dX5_undo_0 rfl rfl ?_
  obtain ⟨q_1, h⟩ := gd_e h
  refine x_geti g dX5_undo_1 gXX5 5 20 rfl (by decide) rfl lf_X5_33 q_1 ?_
  refine x_if_gt 18 g dX5_undo_4 (by decide) (fun c_2 => ?_) (fun c_2 => ?_)
  · have h := ite_t c_2 h
    refine x_aload_n 0 g dX5_undo_18 rfl rfl ?_
    refine x_dup g dX5_undo_19 rfl ?_
    refine x_geti g dX5_undo_20 gXX5 5 20 rfl (by decide) rfl lf_X5_33 q_1 ?_
    refine x_iconst (v := 1) g dX5_undo_23 (by decide) ?_
    refine x_isub g dX5_undo_24 ?_
    refine x_puti g dX5_undo_25 gXX5 5 20 rfl (by decide) rfl rfl lf_X5_33 rfl rfl q_1 ?_
    refine x_nS (fun S_3 e_4 => ?_)
    have h := glt_e e_4 h
    refine x_aload_n 0 g dX5_undo_28 rfl rfl ?_
    obtain ⟨S_6, q_5, h⟩ := gb_e h
    refine x_cV [] g (k_X5_takeBack q_5) ca_X5_takeBack in_X5_takeBack se_X5_takeBack lm_X5_288 gXX5 q_1 (Nat.le_of_ble_eq_true rfl) rfl rfl (Nat.le_of_ble_eq_true rfl) dX5_undo_29 rfl ?_
    refine x_aload_n 0 g dX5_undo_32 rfl rfl ?_
    refine x_geti g dX5_undo_33 gXX5 5 20 rfl (by decide) rfl lf_X5_33 q_1 ?_
    cases h
    exact x_iretS g e dX5_undo_36 rfl rfl
  · have h := ite_f c_2 h
    cases h
set_option maxRecDepth 100000 in
set_option maxHeartbeats 4000000 in
theorem t_X5_undo {ad : Nat → Nat} {G : gG} {a0 : Nat} {S S1 : gS} {T : gT} {E : String} (h : f_X5_undo G a0 S = some (.inl E, S1)) : Cx ad yX5_undo (Cond.code yX5_undo cX5_undo 1 (some .int) :: gTb) 6 [.ref a0] G S T E S1 T := by
  refine Cx.ofB rfl (Nat.le_of_ble_eq_true rfl) rfl (fun K g e hK => ?_)
  obtain ⟨rfl, -⟩ := hK
  show Xj K [] G 0 [some (.ref a0)] [] S T 1 6
  unfold f_X5_undo at h
  refine x_aload_n 0 g dX5_undo_0 rfl rfl ?_
  obtain ⟨q_1, h⟩ := gd_e h
  refine x_geti g dX5_undo_1 gXX5 5 20 rfl (by decide) rfl lf_X5_33 q_1 ?_
  refine x_if_gt 18 g dX5_undo_4 (by decide) (fun c_2 => ?_) (fun c_2 => ?_)
  · have h := ite_t c_2 h
    refine x_aload_n 0 g dX5_undo_18 rfl rfl ?_
    refine x_dup g dX5_undo_19 rfl ?_
    refine x_geti g dX5_undo_20 gXX5 5 20 rfl (by decide) rfl lf_X5_33 q_1 ?_
    refine x_iconst (v := 1) g dX5_undo_23 (by decide) ?_
    refine x_isub g dX5_undo_24 ?_
    refine x_puti g dX5_undo_25 gXX5 5 20 rfl (by decide) rfl rfl lf_X5_33 rfl rfl q_1 ?_
    refine x_nS (fun S_3 e_4 => ?_)
    have h := glt_e e_4 h
    refine x_aload_n 0 g dX5_undo_28 rfl rfl ?_
    obtain ⟨S_6, q_5, h⟩ := gb_e h
    refine x_cV [] g (k_X5_takeBack q_5) ca_X5_takeBack in_X5_takeBack se_X5_takeBack lm_X5_288 gXX5 q_1 (Nat.le_of_ble_eq_true rfl) rfl rfl (Nat.le_of_ble_eq_true rfl) dX5_undo_29 rfl ?_
    refine x_aload_n 0 g dX5_undo_32 rfl rfl ?_
    refine x_geti g dX5_undo_33 gXX5 5 20 rfl (by decide) rfl lf_X5_33 q_1 ?_
    cases h
  · have h := ite_f c_2 h
    cases h
    exact x_throwW "there is nothing to undo" g e (by decide +kernel) xnm_ok cl_X5_266 ci_IllegalStateException (by decide +kernel) xat_X5_270 dX5_undo_7 dX5_undo_10 dX5_undo_11 dX5_undo_14 dX5_undo_17 (by decide) (by decide) (Nat.le_of_ble_eq_true rfl) rfl rfl
noncomputable def f_X5_save (G : gG) (a0 : Nat) (S : gS) : Option (Int32 × gS) := gd (gis G 2 a0) <| gb (gP S 6 a0) fun (b_2 : Nat) => gb (gP S 5 a0) fun (b_4 : Nat) => gd (gis G 0 b_2) <| gb (f_X1_copyFrom G b_2 b_4 S) fun (S_8 : gS) => glt (sI S_8 21 a0 1) fun (S_9 : gS) => gb (gP S_9 5 a0) fun (b_11 : Nat) => gd (gis G 0 b_11) <| some (gI S_9 0 b_11, S_9)
set_option maxRecDepth 100000 in
set_option maxHeartbeats 4000000 in
theorem k_X5_save {ad : Nat → Nat} {G : gG} {a0 : Nat} {S S1 : gS} {T : gT} {r : Int32} (h : f_X5_save G a0 S = some (r, S1)) : Ct ad yX5_save (Cond.code yX5_save cX5_save 1 (some .int) :: gTb) 4 0 0 [.ref a0] G S T (some (.int r)) G S1 T := by
  refine Ct.ofB rfl (Nat.le_of_ble_eq_true rfl) rfl (fun K g e hK => ?_)
  obtain ⟨rfl, -⟩ := hK
  show Xj K [] G 0 [some (.ref a0)] [] S T 0 0
  unfold f_X5_save at h
  refine x_aload_n 0 g dX5_save_0 rfl rfl ?_
  obtain ⟨q_1, h⟩ := gd_e h
  obtain ⟨b_2, e_3, h⟩ := gb_e h
  refine x_getr g dX5_save_1 gXX5 1 6 rfl (by decide) rfl lf_X5_16 q_1 e_3 ?_
  refine x_aload_n 0 g dX5_save_4 rfl rfl ?_
  obtain ⟨b_4, e_5, h⟩ := gb_e h
  refine x_getr g dX5_save_5 gXX5 0 5 rfl (by decide) rfl lf_X5_12 q_1 e_5 ?_
  obtain ⟨q_6, h⟩ := gd_e h
  obtain ⟨S_8, q_7, h⟩ := gb_e h
  refine x_cV [] g (k_X1_copyFrom q_7) ca_X1_copyFrom in_X1_copyFrom se_X1_copyFrom lm_X5_302 gXX1 q_6 (Nat.le_of_ble_eq_true rfl) rfl rfl (Nat.le_of_ble_eq_true rfl) dX5_save_8 rfl ?_
  refine x_aload_n 0 g dX5_save_11 rfl rfl ?_
  refine x_iconst (v := 1) g dX5_save_12 (by decide) ?_
  refine x_puti g dX5_save_13 gXX5 6 21 rfl (by decide) rfl rfl lf_X5_37 rfl rfl q_1 ?_
  refine x_nS (fun S_9 e_10 => ?_)
  have h := glt_e e_10 h
  refine x_aload_n 0 g dX5_save_16 rfl rfl ?_
  obtain ⟨b_11, e_12, h⟩ := gb_e h
  refine x_getr g dX5_save_17 gXX5 0 5 rfl (by decide) rfl lf_X5_12 q_1 e_12 ?_
  obtain ⟨q_13, h⟩ := gd_e h
  refine x_geti g dX5_save_20 gXX1 1 0 rfl (by decide) rfl lf_X5_78 q_13 ?_
  cases h
  exact x_iretS g e dX5_save_23 rfl rfl
noncomputable def f_X5_restore (G : gG) (a0 : Nat) (S : gS) : Option ((String ⊕ Int32) × gS) := gd (gis G 2 a0) <| if (gI S 21 a0) = 0 then (some (.inl "java/lang/IllegalStateException", S)) else (gb (gP S 5 a0) fun (b_3 : Nat) => gb (gP S 6 a0) fun (b_5 : Nat) => gd (gis G 0 b_3) <| gb (f_X1_copyFrom G b_3 b_5 S) fun (S_9 : gS) => glt (sI S_9 20 a0 0) fun (S_10 : gS) => gb (gP S_10 5 a0) fun (b_12 : Nat) => gd (gis G 0 b_12) <| some (.inr (gI S_10 0 b_12), S_10))
set_option maxRecDepth 100000 in
set_option maxHeartbeats 4000000 in
theorem k_X5_restore {ad : Nat → Nat} {G : gG} {a0 : Nat} {S S1 : gS} {T : gT} {r : Int32} (h : f_X5_restore G a0 S = some (.inr r, S1)) : Ct ad yX5_restore (Cond.code yX5_restore cX5_restore 1 (some .int) :: gTb) 4 0 0 [.ref a0] G S T (some (.int r)) G S1 T := by
  refine Ct.ofB rfl (Nat.le_of_ble_eq_true rfl) rfl (fun K g e hK => ?_)
  obtain ⟨rfl, -⟩ := hK
  show Xj K [] G 0 [some (.ref a0)] [] S T 0 0
  unfold f_X5_restore at h
  refine x_aload_n 0 g dX5_restore_0 rfl rfl ?_
  obtain ⟨q_1, h⟩ := gd_e h
  refine x_geti g dX5_restore_1 gXX5 6 21 rfl (by decide) rfl lf_X5_37 q_1 ?_
  refine x_if_ne 18 g dX5_restore_4 (by decide) (fun c_2 => ?_) (fun c_2 => ?_)
  · have h := ite_f c_2 h
    refine x_aload_n 0 g dX5_restore_18 rfl rfl ?_
    obtain ⟨b_3, e_4, h⟩ := gb_e h
    refine x_getr g dX5_restore_19 gXX5 0 5 rfl (by decide) rfl lf_X5_12 q_1 e_4 ?_
    refine x_aload_n 0 g dX5_restore_22 rfl rfl ?_
    obtain ⟨b_5, e_6, h⟩ := gb_e h
    refine x_getr g dX5_restore_23 gXX5 1 6 rfl (by decide) rfl lf_X5_16 q_1 e_6 ?_
    obtain ⟨q_7, h⟩ := gd_e h
    obtain ⟨S_9, q_8, h⟩ := gb_e h
    refine x_cV [] g (k_X1_copyFrom q_8) ca_X1_copyFrom in_X1_copyFrom se_X1_copyFrom lm_X5_302 gXX1 q_7 (Nat.le_of_ble_eq_true rfl) rfl rfl (Nat.le_of_ble_eq_true rfl) dX5_restore_26 rfl ?_
    refine x_aload_n 0 g dX5_restore_29 rfl rfl ?_
    refine x_iconst (v := 0) g dX5_restore_30 (by decide) ?_
    refine x_puti g dX5_restore_31 gXX5 5 20 rfl (by decide) rfl rfl lf_X5_33 rfl rfl q_1 ?_
    refine x_nS (fun S_10 e_11 => ?_)
    have h := glt_e e_11 h
    refine x_aload_n 0 g dX5_restore_34 rfl rfl ?_
    obtain ⟨b_12, e_13, h⟩ := gb_e h
    refine x_getr g dX5_restore_35 gXX5 0 5 rfl (by decide) rfl lf_X5_12 q_1 e_13 ?_
    obtain ⟨q_14, h⟩ := gd_e h
    refine x_geti g dX5_restore_38 gXX1 1 0 rfl (by decide) rfl lf_X5_78 q_14 ?_
    cases h
    exact x_iretS g e dX5_restore_41 rfl rfl
  · have h := ite_t c_2 h
    cases h
set_option maxRecDepth 100000 in
set_option maxHeartbeats 4000000 in
theorem t_X5_restore {ad : Nat → Nat} {G : gG} {a0 : Nat} {S S1 : gS} {T : gT} {E : String} (h : f_X5_restore G a0 S = some (.inl E, S1)) : Cx ad yX5_restore (Cond.code yX5_restore cX5_restore 1 (some .int) :: gTb) 6 [.ref a0] G S T E S1 T := by
  refine Cx.ofB rfl (Nat.le_of_ble_eq_true rfl) rfl (fun K g e hK => ?_)
  obtain ⟨rfl, -⟩ := hK
  show Xj K [] G 0 [some (.ref a0)] [] S T 1 6
  unfold f_X5_restore at h
  refine x_aload_n 0 g dX5_restore_0 rfl rfl ?_
  obtain ⟨q_1, h⟩ := gd_e h
  refine x_geti g dX5_restore_1 gXX5 6 21 rfl (by decide) rfl lf_X5_37 q_1 ?_
  refine x_if_ne 18 g dX5_restore_4 (by decide) (fun c_2 => ?_) (fun c_2 => ?_)
  · have h := ite_f c_2 h
    refine x_aload_n 0 g dX5_restore_18 rfl rfl ?_
    obtain ⟨b_3, e_4, h⟩ := gb_e h
    refine x_getr g dX5_restore_19 gXX5 0 5 rfl (by decide) rfl lf_X5_12 q_1 e_4 ?_
    refine x_aload_n 0 g dX5_restore_22 rfl rfl ?_
    obtain ⟨b_5, e_6, h⟩ := gb_e h
    refine x_getr g dX5_restore_23 gXX5 1 6 rfl (by decide) rfl lf_X5_16 q_1 e_6 ?_
    obtain ⟨q_7, h⟩ := gd_e h
    obtain ⟨S_9, q_8, h⟩ := gb_e h
    refine x_cV [] g (k_X1_copyFrom q_8) ca_X1_copyFrom in_X1_copyFrom se_X1_copyFrom lm_X5_302 gXX1 q_7 (Nat.le_of_ble_eq_true rfl) rfl rfl (Nat.le_of_ble_eq_true rfl) dX5_restore_26 rfl ?_
    refine x_aload_n 0 g dX5_restore_29 rfl rfl ?_
    refine x_iconst (v := 0) g dX5_restore_30 (by decide) ?_
    refine x_puti g dX5_restore_31 gXX5 5 20 rfl (by decide) rfl rfl lf_X5_33 rfl rfl q_1 ?_
    refine x_nS (fun S_10 e_11 => ?_)
    have h := glt_e e_11 h
    refine x_aload_n 0 g dX5_restore_34 rfl rfl ?_
    obtain ⟨b_12, e_13, h⟩ := gb_e h
    refine x_getr g dX5_restore_35 gXX5 0 5 rfl (by decide) rfl lf_X5_12 q_1 e_13 ?_
    obtain ⟨q_14, h⟩ := gd_e h
    refine x_geti g dX5_restore_38 gXX1 1 0 rfl (by decide) rfl lf_X5_78 q_14 ?_
    cases h
  · have h := ite_t c_2 h
    cases h
    exact x_throwW "there is no snapshot" g e (by decide +kernel) xnm_ok cl_X5_266 ci_IllegalStateException (by decide +kernel) xat_X5_270 dX5_restore_7 dX5_restore_10 dX5_restore_11 dX5_restore_14 dX5_restore_17 (by decide) (by decide) (Nat.le_of_ble_eq_true rfl) rfl rfl
