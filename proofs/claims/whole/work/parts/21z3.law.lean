/-! the law's wrappers (laid by wip/whole/mkwrap.py) -/
theorem x_cVb {K : gKx} {PX : va_W} {G : gG} {pc b kd ci idx n : Nat} {lv : List (Option Value)} {st rest As : List Value} {S S' : gS} {T T' : gT} {c0 s0 : Nat} {own : String} {cc : ByteArray} {d d' mc ms maxL : Nat} {ret : Option FieldType} {bytes : ByteArray} {y : MethodName} {v : Option Value} {fl : List (Nat ⊕ Nat)} {TC : u_T} {NC : Nat} {ty0 : Nat → FieldType} (st2 : List Value) (g : Gd K own cc d)
    (hC : Ct (ky K).2 y (Cond.code y bytes maxL ret :: gTb) d' mc ms (.ref b :: As) G S T v G S' T') (hca : gCa y bytes maxL ret n) (hin : Cond.instanceMethod y ∈ lw_tbl) (hse : Cond.selects y.cls y y ∈ lw_tbl) (hlk : Cond.methodLink own idx y ∈ lw_tbl)
    (cl : gCls kd ci fl y.cls TC NC ty0) (hb : gis G kd b) (hd : d' + 1 ≤ d) (hc : mc ≤ c0) (hs : ms ≤ s0) (hn : As.length = n) (hst : st = As.reverse ++ .ref b :: rest) (hW : (rest.map fun v => v.category).sum ≤ 8) (hdg : decode cc pc = .ok (.invokevirtual idx, 3)) (h2 : v.toList ++ rest = st2)
    (k : Xj K PX G (pc + 3) lv st2 S' T' (c0 - mc) (s0 - ms)) : Xj K PX G pc lv st S T c0 s0 :=
  x_callV g hC hca hin hse hlk ⟨hb.1, rfl⟩ (by rw [hb.2]; exact cl.1) cl.2.1 hd hc hs hn hst hW hdg h2 k
theorem vp_01 {G : gG} {a : Nat} (h : gn G a = 1) : vp_in (0 : Int32) (gn G a) := by rw [h]; exact vp_in_nI (n := 0) (by decide) (by decide)
set_option maxRecDepth 100000 in
theorem k_L_addUmbrella {ad : Nat → Nat} {G : gG} {a0 : Nat} {a1 : Int32} {ao : Nat} {S S1 : gS} {T : gT} {r : Int32} (h : f_X5_addUmbrella G a0 a1 S = some (.inr r, S1)) (hx : gis G 2 a0) (ho : gis G 10 ao) (hn : gn G ao = 1) : Ct ad yL_addUmbrella (Cond.codeWith yL_addUmbrella cL_addUmbrella 4 (some .int) hh_L_addUmbrella :: gTb) 12 0 0 [.ref a0, .int a1, .ref ao] G S T (some (.int 0)) G (sr S1 ao 0 r) T := by
  refine Ct.ofH rfl (Nat.le_of_ble_eq_true rfl) rfl ca_L_addUmbrella.1 (fun K g e hK => ?_)
  obtain ⟨rfl, -, -⟩ := hK
  show Xj K [] G 0 [some (.ref a0), some (.int a1), some (.ref ao), none] [] S T 0 0
  refine x_aload_n 2 g dL_addUmbrella_0 rfl rfl ?_
  refine x_iconst g dL_addUmbrella_1 rfl ?_
  refine x_aload_n 0 g dL_addUmbrella_2 rfl rfl ?_
  refine x_iload_n 1 g dL_addUmbrella_3 rfl rfl ?_
  refine x_cVb [.int r, .int 0, .ref ao] g (k_X5_addUmbrella h) ca_X5_addUmbrella in_X5_addUmbrella se_X5_addUmbrella lm_L_7 gXX5 hx (Nat.le_of_ble_eq_true rfl) (Nat.zero_le _) (Nat.zero_le _) rfl rfl (Nat.le_of_ble_eq_true rfl) dL_addUmbrella_4 rfl ?_
  refine x_i2l g dL_addUmbrella_7 rfl ?_
  refine x_last g dL_addUmbrella_8 ho (vp_01 hn) ?_
  refine x_goto 18 g dL_addUmbrella_9 rfl ?_
  refine x_iconst g dL_addUmbrella_18 rfl ?_
  exact x_iret g e dL_addUmbrella_19
set_option maxRecDepth 100000 in
theorem t_L_addUmbrella_1 {ad : Nat → Nat} {G : gG} {a0 : Nat} {a1 : Int32} {ao : Nat} {S S1 : gS} {T : gT} (h : f_X5_addUmbrella G a0 a1 S = some (.inl "java/lang/IllegalArgumentException", S1)) (hx : gis G 2 a0) : Ct ad yL_addUmbrella (Cond.codeWith yL_addUmbrella cL_addUmbrella 4 (some .int) hh_L_addUmbrella :: gTb) 12 1 6 [.ref a0, .int a1, .ref ao] G S T (some (.int 1)) G S1 T := by
  refine Ct.ofH rfl (Nat.le_of_ble_eq_true rfl) rfl ca_L_addUmbrella.1 (fun K g e hK => ?_)
  obtain ⟨rfl, -, ht⟩ := hK
  show Xj K [] G 0 [some (.ref a0), some (.int a1), some (.ref ao), none] [] S T 1 6
  refine x_aload_n 2 g dL_addUmbrella_0 rfl rfl ?_
  refine x_iconst g dL_addUmbrella_1 rfl ?_
  refine x_aload_n 0 g dL_addUmbrella_2 rfl rfl ?_
  refine x_iload_n 1 g dL_addUmbrella_3 rfl rfl ?_
  refine x_catV [] (0, 9, 12, 13) [(0, 9, 15, 15)] g (t_X5_addUmbrella h) ca_X5_addUmbrella in_X5_addUmbrella se_X5_addUmbrella lm_L_7 gXX5 hx (Nat.le_of_ble_eq_true rfl) (Nat.le_refl _) (Nat.le_refl _) rfl rfl (Nat.le_of_ble_eq_true rfl) dL_addUmbrella_4 ht rfl (fun z hz => by cases hz) ⟨by decide, by decide⟩ (by decide) cl_L_13 (by decide) (fun q => ?_)
  refine x_astore_n 3 g dL_addUmbrella_12 rfl (Nat.le_of_ble_eq_true rfl) rfl ?_
  refine x_iconst g dL_addUmbrella_13 rfl ?_
  exact x_iret g e dL_addUmbrella_14
set_option maxRecDepth 100000 in
theorem t_L_addUmbrella_2 {ad : Nat → Nat} {G : gG} {a0 : Nat} {a1 : Int32} {ao : Nat} {S S1 : gS} {T : gT} (h : f_X5_addUmbrella G a0 a1 S = some (.inl "java/lang/IllegalStateException", S1)) (hx : gis G 2 a0) : Ct ad yL_addUmbrella (Cond.codeWith yL_addUmbrella cL_addUmbrella 4 (some .int) hh_L_addUmbrella :: gTb) 12 1 6 [.ref a0, .int a1, .ref ao] G S T (some (.int 2)) G S1 T := by
  refine Ct.ofH rfl (Nat.le_of_ble_eq_true rfl) rfl ca_L_addUmbrella.1 (fun K g e hK => ?_)
  obtain ⟨rfl, -, ht⟩ := hK
  show Xj K [] G 0 [some (.ref a0), some (.int a1), some (.ref ao), none] [] S T 1 6
  refine x_aload_n 2 g dL_addUmbrella_0 rfl rfl ?_
  refine x_iconst g dL_addUmbrella_1 rfl ?_
  refine x_aload_n 0 g dL_addUmbrella_2 rfl rfl ?_
  refine x_iload_n 1 g dL_addUmbrella_3 rfl rfl ?_
  refine x_catV [(0, 9, 12, 13)] (0, 9, 15, 15) [] g (t_X5_addUmbrella h) ca_X5_addUmbrella in_X5_addUmbrella se_X5_addUmbrella lm_L_7 gXX5 hx (Nat.le_of_ble_eq_true rfl) (Nat.le_refl _) (Nat.le_refl _) rfl rfl (Nat.le_of_ble_eq_true rfl) dL_addUmbrella_4 ht rfl (fun z hz => by rw [List.mem_singleton.mp hz]; exact ⟨by decide, _, cl_L_13, by decide⟩) ⟨by decide, by decide⟩ (by decide) cl_L_15 (by decide) (fun q => ?_)
  refine x_astore_n 3 g dL_addUmbrella_15 rfl (Nat.le_of_ble_eq_true rfl) rfl ?_
  refine x_iconst g dL_addUmbrella_16 rfl ?_
  exact x_iret g e dL_addUmbrella_17
set_option maxRecDepth 100000 in
theorem k_L_endTerm {ad : Nat → Nat} {G : gG} {a0 : Nat}  {ao : Nat} {S S1 : gS} {T : gT} {r : Int32} (h : f_X5_endTerm G a0 S = some (.inr r, S1)) (hx : gis G 2 a0) (ho : gis G 10 ao) (hn : gn G ao = 1) : Ct ad yL_endTerm (Cond.codeWith yL_endTerm cL_endTerm 3 (some .int) hh_L_endTerm :: gTb) 12 0 0 [.ref a0, .ref ao] G S T (some (.int 0)) G (sr S1 ao 0 r) T := by
  refine Ct.ofH rfl (Nat.le_of_ble_eq_true rfl) rfl ca_L_endTerm.1 (fun K g e hK => ?_)
  obtain ⟨rfl, -, -⟩ := hK
  show Xj K [] G 0 [some (.ref a0), some (.ref ao), none] [] S T 0 0
  refine x_aload_n 1 g dL_endTerm_0 rfl rfl ?_
  refine x_iconst g dL_endTerm_1 rfl ?_
  refine x_aload_n 0 g dL_endTerm_2 rfl rfl ?_
  refine x_cVb [.int r, .int 0, .ref ao] g (k_X5_endTerm h) ca_X5_endTerm in_X5_endTerm se_X5_endTerm lm_L_39 gXX5 hx (Nat.le_of_ble_eq_true rfl) (Nat.zero_le _) (Nat.zero_le _) rfl rfl (Nat.le_of_ble_eq_true rfl) dL_endTerm_3 rfl ?_
  refine x_i2l g dL_endTerm_6 rfl ?_
  refine x_last g dL_endTerm_7 ho (vp_01 hn) ?_
  refine x_goto 14 g dL_endTerm_8 rfl ?_
  refine x_iconst g dL_endTerm_14 rfl ?_
  exact x_iret g e dL_endTerm_15
set_option maxRecDepth 100000 in
theorem t_L_endTerm_1 {ad : Nat → Nat} {G : gG} {a0 : Nat}  {ao : Nat} {S S1 : gS} {T : gT} (h : f_X5_endTerm G a0 S = some (.inl "java/lang/IllegalStateException", S1)) (hx : gis G 2 a0) : Ct ad yL_endTerm (Cond.codeWith yL_endTerm cL_endTerm 3 (some .int) hh_L_endTerm :: gTb) 12 1 6 [.ref a0, .ref ao] G S T (some (.int 1)) G S1 T := by
  refine Ct.ofH rfl (Nat.le_of_ble_eq_true rfl) rfl ca_L_endTerm.1 (fun K g e hK => ?_)
  obtain ⟨rfl, -, ht⟩ := hK
  show Xj K [] G 0 [some (.ref a0), some (.ref ao), none] [] S T 1 6
  refine x_aload_n 1 g dL_endTerm_0 rfl rfl ?_
  refine x_iconst g dL_endTerm_1 rfl ?_
  refine x_aload_n 0 g dL_endTerm_2 rfl rfl ?_
  refine x_catV [] (0, 8, 11, 15) [] g (t_X5_endTerm h) ca_X5_endTerm in_X5_endTerm se_X5_endTerm lm_L_39 gXX5 hx (Nat.le_of_ble_eq_true rfl) (Nat.le_refl _) (Nat.le_refl _) rfl rfl (Nat.le_of_ble_eq_true rfl) dL_endTerm_3 ht rfl (fun z hz => by cases hz) ⟨by decide, by decide⟩ (by decide) cl_L_15 (by decide) (fun q => ?_)
  refine x_astore_n 2 g dL_endTerm_11 rfl (Nat.le_of_ble_eq_true rfl) rfl ?_
  refine x_iconst g dL_endTerm_12 rfl ?_
  exact x_iret g e dL_endTerm_13
set_option maxRecDepth 100000 in
theorem k_L_errorPosition {ad : Nat → Nat} {G : gG} {a0 : Nat}  {ao : Nat} {S : gS} {T : gT} {r : Int32} (h : f_X5_errorPosition G a0 S = some (.inr r)) (hx : gis G 2 a0) (ho : gis G 10 ao) (hn : gn G ao = 1) : Ct ad yL_errorPosition (Cond.codeWith yL_errorPosition cL_errorPosition 3 (some .int) hh_L_errorPosition :: gTb) 12 0 0 [.ref a0, .ref ao] G S T (some (.int 0)) G (sr S ao 0 r) T := by
  refine Ct.ofH rfl (Nat.le_of_ble_eq_true rfl) rfl ca_L_errorPosition.1 (fun K g e hK => ?_)
  obtain ⟨rfl, -, -⟩ := hK
  show Xj K [] G 0 [some (.ref a0), some (.ref ao), none] [] S T 0 0
  refine x_aload_n 1 g dL_errorPosition_0 rfl rfl ?_
  refine x_iconst g dL_errorPosition_1 rfl ?_
  refine x_aload_n 0 g dL_errorPosition_2 rfl rfl ?_
  refine x_cVb [.int r, .int 0, .ref ao] g (k_X5_errorPosition h) ca_X5_errorPosition in_X5_errorPosition se_X5_errorPosition lm_L_153 gXX5 hx (Nat.le_of_ble_eq_true rfl) (Nat.zero_le _) (Nat.zero_le _) rfl rfl (Nat.le_of_ble_eq_true rfl) dL_errorPosition_3 rfl ?_
  refine x_i2l g dL_errorPosition_6 rfl ?_
  refine x_last g dL_errorPosition_7 ho (vp_01 hn) ?_
  refine x_goto 14 g dL_errorPosition_8 rfl ?_
  refine x_iconst g dL_errorPosition_14 rfl ?_
  exact x_iret g e dL_errorPosition_15
set_option maxRecDepth 100000 in
theorem t_L_errorPosition_1 {ad : Nat → Nat} {G : gG} {a0 : Nat}  {ao : Nat} {S : gS} {T : gT} (h : f_X5_errorPosition G a0 S = some (.inl "java/util/NoSuchElementException")) (hx : gis G 2 a0) : Ct ad yL_errorPosition (Cond.codeWith yL_errorPosition cL_errorPosition 3 (some .int) hh_L_errorPosition :: gTb) 12 1 6 [.ref a0, .ref ao] G S T (some (.int 1)) G S T := by
  refine Ct.ofH rfl (Nat.le_of_ble_eq_true rfl) rfl ca_L_errorPosition.1 (fun K g e hK => ?_)
  obtain ⟨rfl, -, ht⟩ := hK
  show Xj K [] G 0 [some (.ref a0), some (.ref ao), none] [] S T 1 6
  refine x_aload_n 1 g dL_errorPosition_0 rfl rfl ?_
  refine x_iconst g dL_errorPosition_1 rfl ?_
  refine x_aload_n 0 g dL_errorPosition_2 rfl rfl ?_
  refine x_catV [] (0, 8, 11, 58) [] g (t_X5_errorPosition h) ca_X5_errorPosition in_X5_errorPosition se_X5_errorPosition lm_L_153 gXX5 hx (Nat.le_of_ble_eq_true rfl) (Nat.le_refl _) (Nat.le_refl _) rfl rfl (Nat.le_of_ble_eq_true rfl) dL_errorPosition_3 ht rfl (fun z hz => by cases hz) ⟨by decide, by decide⟩ (by decide) cl_L_58 (by decide) (fun q => ?_)
  refine x_astore_n 2 g dL_errorPosition_11 rfl (Nat.le_of_ble_eq_true rfl) rfl ?_
  refine x_iconst g dL_errorPosition_12 rfl ?_
  exact x_iret g e dL_errorPosition_13
set_option maxRecDepth 100000 in
theorem k_L_examine {ad : Nat → Nat} {G : gG} {a0 : Nat} {a1 : Int32} {a2 : Int32} {ao : Nat} {S S1 : gS} {T : gT} {r : Int32} (h : f_X5_examine G a0 a1 a2 S = some (.inr r, S1)) (hx : gis G 2 a0) (ho : gis G 10 ao) (hn : gn G ao = 1) : Ct ad yL_examine (Cond.codeWith yL_examine cL_examine 5 (some .int) hh_L_examine :: gTb) 12 0 0 [.ref a0, .int a1, .int a2, .ref ao] G S T (some (.int 0)) G (sr S1 ao 0 r) T := by
  refine Ct.ofH rfl (Nat.le_of_ble_eq_true rfl) rfl ca_L_examine.1 (fun K g e hK => ?_)
  obtain ⟨rfl, -, -⟩ := hK
  show Xj K [] G 0 [some (.ref a0), some (.int a1), some (.int a2), some (.ref ao), none] [] S T 0 0
  refine x_aload_n 3 g dL_examine_0 rfl rfl ?_
  refine x_iconst g dL_examine_1 rfl ?_
  refine x_aload_n 0 g dL_examine_2 rfl rfl ?_
  refine x_iload_n 1 g dL_examine_3 rfl rfl ?_
  refine x_iload_n 2 g dL_examine_4 rfl rfl ?_
  refine x_cVb [.int r, .int 0, .ref ao] g (k_X5_examine h) ca_X5_examine in_X5_examine se_X5_examine lm_L_36 gXX5 hx (Nat.le_of_ble_eq_true rfl) (Nat.zero_le _) (Nat.zero_le _) rfl rfl (Nat.le_of_ble_eq_true rfl) dL_examine_5 rfl ?_
  refine x_i2l g dL_examine_8 rfl ?_
  refine x_last g dL_examine_9 ho (vp_01 hn) ?_
  refine x_goto 21 g dL_examine_10 rfl ?_
  refine x_iconst g dL_examine_21 rfl ?_
  exact x_iret g e dL_examine_22
set_option maxRecDepth 100000 in
theorem t_L_examine_1 {ad : Nat → Nat} {G : gG} {a0 : Nat} {a1 : Int32} {a2 : Int32} {ao : Nat} {S S1 : gS} {T : gT} (h : f_X5_examine G a0 a1 a2 S = some (.inl "java/lang/IndexOutOfBoundsException", S1)) (hx : gis G 2 a0) : Ct ad yL_examine (Cond.codeWith yL_examine cL_examine 5 (some .int) hh_L_examine :: gTb) 12 1 6 [.ref a0, .int a1, .int a2, .ref ao] G S T (some (.int 1)) G S1 T := by
  refine Ct.ofH rfl (Nat.le_of_ble_eq_true rfl) rfl ca_L_examine.1 (fun K g e hK => ?_)
  obtain ⟨rfl, -, ht⟩ := hK
  show Xj K [] G 0 [some (.ref a0), some (.int a1), some (.int a2), some (.ref ao), none] [] S T 1 6
  refine x_aload_n 3 g dL_examine_0 rfl rfl ?_
  refine x_iconst g dL_examine_1 rfl ?_
  refine x_aload_n 0 g dL_examine_2 rfl rfl ?_
  refine x_iload_n 1 g dL_examine_3 rfl rfl ?_
  refine x_iload_n 2 g dL_examine_4 rfl rfl ?_
  refine x_catV [] (0, 10, 13, 21) [(0, 10, 17, 13)] g (t_X5_examine h) ca_X5_examine in_X5_examine se_X5_examine lm_L_36 gXX5 hx (Nat.le_of_ble_eq_true rfl) (Nat.le_refl _) (Nat.le_refl _) rfl rfl (Nat.le_of_ble_eq_true rfl) dL_examine_5 ht rfl (fun z hz => by cases hz) ⟨by decide, by decide⟩ (by decide) cl_L_21 (by decide) (fun q => ?_)
  refine x_astore g dL_examine_13 (Nat.le_of_ble_eq_true rfl) rfl ?_
  refine x_iconst g dL_examine_15 rfl ?_
  exact x_iret g e dL_examine_16
set_option maxRecDepth 100000 in
theorem t_L_examine_2 {ad : Nat → Nat} {G : gG} {a0 : Nat} {a1 : Int32} {a2 : Int32} {ao : Nat} {S S1 : gS} {T : gT} (h : f_X5_examine G a0 a1 a2 S = some (.inl "java/lang/IllegalArgumentException", S1)) (hx : gis G 2 a0) : Ct ad yL_examine (Cond.codeWith yL_examine cL_examine 5 (some .int) hh_L_examine :: gTb) 12 1 6 [.ref a0, .int a1, .int a2, .ref ao] G S T (some (.int 2)) G S1 T := by
  refine Ct.ofH rfl (Nat.le_of_ble_eq_true rfl) rfl ca_L_examine.1 (fun K g e hK => ?_)
  obtain ⟨rfl, -, ht⟩ := hK
  show Xj K [] G 0 [some (.ref a0), some (.int a1), some (.int a2), some (.ref ao), none] [] S T 1 6
  refine x_aload_n 3 g dL_examine_0 rfl rfl ?_
  refine x_iconst g dL_examine_1 rfl ?_
  refine x_aload_n 0 g dL_examine_2 rfl rfl ?_
  refine x_iload_n 1 g dL_examine_3 rfl rfl ?_
  refine x_iload_n 2 g dL_examine_4 rfl rfl ?_
  refine x_catV [(0, 10, 13, 21)] (0, 10, 17, 13) [] g (t_X5_examine h) ca_X5_examine in_X5_examine se_X5_examine lm_L_36 gXX5 hx (Nat.le_of_ble_eq_true rfl) (Nat.le_refl _) (Nat.le_refl _) rfl rfl (Nat.le_of_ble_eq_true rfl) dL_examine_5 ht rfl (fun z hz => by rw [List.mem_singleton.mp hz]; exact ⟨by decide, _, cl_L_21, by decide⟩) ⟨by decide, by decide⟩ (by decide) cl_L_13 (by decide) (fun q => ?_)
  refine x_astore g dL_examine_17 (Nat.le_of_ble_eq_true rfl) rfl ?_
  refine x_iconst g dL_examine_19 rfl ?_
  exact x_iret g e dL_examine_20
set_option maxRecDepth 100000 in
theorem k_L_exploresNext {ad : Nat → Nat} {G : gG} {a0 : Nat} {a1 : Int32} {ao : Nat} {S : gS} {T : gT} {r : Bool} (h : f_X5_exploresNext G a0 a1 S = some (.inr r)) (hx : gis G 2 a0) (ho : gis G 10 ao) (hn : gn G ao = 1) : Ct ad yL_exploresNext (Cond.codeWith yL_exploresNext cL_exploresNext 4 (some .int) hh_L_exploresNext :: gTb) 12 0 0 [.ref a0, .int a1, .ref ao] G S T (some (.int 0)) G (sr S ao 0 (gz r)) T := by
  refine Ct.ofH rfl (Nat.le_of_ble_eq_true rfl) rfl ca_L_exploresNext.1 (fun K g e hK => ?_)
  obtain ⟨rfl, -, -⟩ := hK
  show Xj K [] G 0 [some (.ref a0), some (.int a1), some (.ref ao), none] [] S T 0 0
  refine x_aload_n 2 g dL_exploresNext_0 rfl rfl ?_
  refine x_iconst g dL_exploresNext_1 rfl ?_
  refine x_aload_n 0 g dL_exploresNext_2 rfl rfl ?_
  refine x_iload_n 1 g dL_exploresNext_3 rfl rfl ?_
  refine x_cVb [.int (gz r), .int 0, .ref ao] g (k_X5_exploresNext h) ca_X5_exploresNext in_X5_exploresNext se_X5_exploresNext lm_L_78 gXX5 hx (Nat.le_of_ble_eq_true rfl) (Nat.zero_le _) (Nat.zero_le _) rfl rfl (Nat.le_of_ble_eq_true rfl) dL_exploresNext_4 rfl ?_
  cases r with
  | false =>
    refine x_if_eq 14 g dL_exploresNext_7 rfl (fun _ => ?_) (fun z => absurd rfl z)
    refine x_lconst (v := (0 : Int32).toInt64) g dL_exploresNext_14 (by decide) ?_
    refine x_last (v := 0) g dL_exploresNext_15 ho (vp_01 hn) ?_
    refine x_goto 22 g dL_exploresNext_16 rfl ?_
    refine x_iconst g dL_exploresNext_22 rfl ?_
    exact x_iret g e dL_exploresNext_23
  | true =>
    refine x_if_eq 14 g dL_exploresNext_7 rfl (fun z => absurd z (by decide)) (fun _ => ?_)
    refine x_lconst (v := (1 : Int32).toInt64) g dL_exploresNext_10 (by decide) ?_
    refine x_goto 15 g dL_exploresNext_11 rfl ?_
    refine x_last (v := 1) g dL_exploresNext_15 ho (vp_01 hn) ?_
    refine x_goto 22 g dL_exploresNext_16 rfl ?_
    refine x_iconst g dL_exploresNext_22 rfl ?_
    exact x_iret g e dL_exploresNext_23
set_option maxRecDepth 100000 in
theorem t_L_exploresNext_1 {ad : Nat → Nat} {G : gG} {a0 : Nat} {a1 : Int32} {ao : Nat} {S : gS} {T : gT} (h : f_X5_exploresNext G a0 a1 S = some (.inl "java/lang/IndexOutOfBoundsException")) (hx : gis G 2 a0) : Ct ad yL_exploresNext (Cond.codeWith yL_exploresNext cL_exploresNext 4 (some .int) hh_L_exploresNext :: gTb) 12 1 6 [.ref a0, .int a1, .ref ao] G S T (some (.int 1)) G S T := by
  refine Ct.ofH rfl (Nat.le_of_ble_eq_true rfl) rfl ca_L_exploresNext.1 (fun K g e hK => ?_)
  obtain ⟨rfl, -, ht⟩ := hK
  show Xj K [] G 0 [some (.ref a0), some (.int a1), some (.ref ao), none] [] S T 1 6
  refine x_aload_n 2 g dL_exploresNext_0 rfl rfl ?_
  refine x_iconst g dL_exploresNext_1 rfl ?_
  refine x_aload_n 0 g dL_exploresNext_2 rfl rfl ?_
  refine x_iload_n 1 g dL_exploresNext_3 rfl rfl ?_
  refine x_catV [] (0, 16, 19, 21) [] g (t_X5_exploresNext h) ca_X5_exploresNext in_X5_exploresNext se_X5_exploresNext lm_L_78 gXX5 hx (Nat.le_of_ble_eq_true rfl) (Nat.le_refl _) (Nat.le_refl _) rfl rfl (Nat.le_of_ble_eq_true rfl) dL_exploresNext_4 ht rfl (fun z hz => by cases hz) ⟨by decide, by decide⟩ (by decide) cl_L_21 (by decide) (fun q => ?_)
  refine x_astore_n 3 g dL_exploresNext_19 rfl (Nat.le_of_ble_eq_true rfl) rfl ?_
  refine x_iconst g dL_exploresNext_20 rfl ?_
  exact x_iret g e dL_exploresNext_21
set_option maxRecDepth 100000 in
theorem k_L_failedCommand {ad : Nat → Nat} {G : gG} {a0 : Nat}  {ao : Nat} {S : gS} {T : gT} {r : Int32} (h : f_X5_failedCommand G a0 S = some (.inr r)) (hx : gis G 2 a0) (ho : gis G 10 ao) (hn : gn G ao = 1) : Ct ad yL_failedCommand (Cond.codeWith yL_failedCommand cL_failedCommand 3 (some .int) hh_L_failedCommand :: gTb) 12 0 0 [.ref a0, .ref ao] G S T (some (.int 0)) G (sr S ao 0 r) T := by
  refine Ct.ofH rfl (Nat.le_of_ble_eq_true rfl) rfl ca_L_failedCommand.1 (fun K g e hK => ?_)
  obtain ⟨rfl, -, -⟩ := hK
  show Xj K [] G 0 [some (.ref a0), some (.ref ao), none] [] S T 0 0
  refine x_aload_n 1 g dL_failedCommand_0 rfl rfl ?_
  refine x_iconst g dL_failedCommand_1 rfl ?_
  refine x_aload_n 0 g dL_failedCommand_2 rfl rfl ?_
  refine x_cVb [.int r, .int 0, .ref ao] g (k_X5_failedCommand h) ca_X5_failedCommand in_X5_failedCommand se_X5_failedCommand lm_L_156 gXX5 hx (Nat.le_of_ble_eq_true rfl) (Nat.zero_le _) (Nat.zero_le _) rfl rfl (Nat.le_of_ble_eq_true rfl) dL_failedCommand_3 rfl ?_
  refine x_i2l g dL_failedCommand_6 rfl ?_
  refine x_last g dL_failedCommand_7 ho (vp_01 hn) ?_
  refine x_goto 14 g dL_failedCommand_8 rfl ?_
  refine x_iconst g dL_failedCommand_14 rfl ?_
  exact x_iret g e dL_failedCommand_15
set_option maxRecDepth 100000 in
theorem t_L_failedCommand_1 {ad : Nat → Nat} {G : gG} {a0 : Nat}  {ao : Nat} {S : gS} {T : gT} (h : f_X5_failedCommand G a0 S = some (.inl "java/util/NoSuchElementException")) (hx : gis G 2 a0) : Ct ad yL_failedCommand (Cond.codeWith yL_failedCommand cL_failedCommand 3 (some .int) hh_L_failedCommand :: gTb) 12 1 6 [.ref a0, .ref ao] G S T (some (.int 1)) G S T := by
  refine Ct.ofH rfl (Nat.le_of_ble_eq_true rfl) rfl ca_L_failedCommand.1 (fun K g e hK => ?_)
  obtain ⟨rfl, -, ht⟩ := hK
  show Xj K [] G 0 [some (.ref a0), some (.ref ao), none] [] S T 1 6
  refine x_aload_n 1 g dL_failedCommand_0 rfl rfl ?_
  refine x_iconst g dL_failedCommand_1 rfl ?_
  refine x_aload_n 0 g dL_failedCommand_2 rfl rfl ?_
  refine x_catV [] (0, 8, 11, 58) [] g (t_X5_failedCommand h) ca_X5_failedCommand in_X5_failedCommand se_X5_failedCommand lm_L_156 gXX5 hx (Nat.le_of_ble_eq_true rfl) (Nat.le_refl _) (Nat.le_refl _) rfl rfl (Nat.le_of_ble_eq_true rfl) dL_failedCommand_3 ht rfl (fun z hz => by cases hz) ⟨by decide, by decide⟩ (by decide) cl_L_58 (by decide) (fun q => ?_)
  refine x_astore_n 2 g dL_failedCommand_11 rfl (Nat.le_of_ble_eq_true rfl) rfl ?_
  refine x_iconst g dL_failedCommand_12 rfl ?_
  exact x_iret g e dL_failedCommand_13
set_option maxRecDepth 100000 in
theorem k_L_forgetRain {ad : Nat → Nat} {G : gG} {a0 : Nat} {a1 : Int32} {a2 : Int32} {ao : Nat} {S S1 : gS} {T : gT} {r : Int32} (h : f_X5_forgetRain G a0 a1 a2 S = some (.inr r, S1)) (hx : gis G 2 a0) (ho : gis G 10 ao) (hn : gn G ao = 1) : Ct ad yL_forgetRain (Cond.codeWith yL_forgetRain cL_forgetRain 5 (some .int) hh_L_forgetRain :: gTb) 12 0 0 [.ref a0, .int a1, .int a2, .ref ao] G S T (some (.int 0)) G (sr S1 ao 0 r) T := by
  refine Ct.ofH rfl (Nat.le_of_ble_eq_true rfl) rfl ca_L_forgetRain.1 (fun K g e hK => ?_)
  obtain ⟨rfl, -, -⟩ := hK
  show Xj K [] G 0 [some (.ref a0), some (.int a1), some (.int a2), some (.ref ao), none] [] S T 0 0
  refine x_aload_n 3 g dL_forgetRain_0 rfl rfl ?_
  refine x_iconst g dL_forgetRain_1 rfl ?_
  refine x_aload_n 0 g dL_forgetRain_2 rfl rfl ?_
  refine x_iload_n 1 g dL_forgetRain_3 rfl rfl ?_
  refine x_iload_n 2 g dL_forgetRain_4 rfl rfl ?_
  refine x_cVb [.int r, .int 0, .ref ao] g (k_X5_forgetRain h) ca_X5_forgetRain in_X5_forgetRain se_X5_forgetRain lm_L_33 gXX5 hx (Nat.le_of_ble_eq_true rfl) (Nat.zero_le _) (Nat.zero_le _) rfl rfl (Nat.le_of_ble_eq_true rfl) dL_forgetRain_5 rfl ?_
  refine x_i2l g dL_forgetRain_8 rfl ?_
  refine x_last g dL_forgetRain_9 ho (vp_01 hn) ?_
  refine x_goto 21 g dL_forgetRain_10 rfl ?_
  refine x_iconst g dL_forgetRain_21 rfl ?_
  exact x_iret g e dL_forgetRain_22
set_option maxRecDepth 100000 in
theorem t_L_forgetRain_1 {ad : Nat → Nat} {G : gG} {a0 : Nat} {a1 : Int32} {a2 : Int32} {ao : Nat} {S S1 : gS} {T : gT} (h : f_X5_forgetRain G a0 a1 a2 S = some (.inl "java/lang/IndexOutOfBoundsException", S1)) (hx : gis G 2 a0) : Ct ad yL_forgetRain (Cond.codeWith yL_forgetRain cL_forgetRain 5 (some .int) hh_L_forgetRain :: gTb) 12 1 6 [.ref a0, .int a1, .int a2, .ref ao] G S T (some (.int 1)) G S1 T := by
  refine Ct.ofH rfl (Nat.le_of_ble_eq_true rfl) rfl ca_L_forgetRain.1 (fun K g e hK => ?_)
  obtain ⟨rfl, -, ht⟩ := hK
  show Xj K [] G 0 [some (.ref a0), some (.int a1), some (.int a2), some (.ref ao), none] [] S T 1 6
  refine x_aload_n 3 g dL_forgetRain_0 rfl rfl ?_
  refine x_iconst g dL_forgetRain_1 rfl ?_
  refine x_aload_n 0 g dL_forgetRain_2 rfl rfl ?_
  refine x_iload_n 1 g dL_forgetRain_3 rfl rfl ?_
  refine x_iload_n 2 g dL_forgetRain_4 rfl rfl ?_
  refine x_catV [] (0, 10, 13, 21) [(0, 10, 17, 13)] g (t_X5_forgetRain h) ca_X5_forgetRain in_X5_forgetRain se_X5_forgetRain lm_L_33 gXX5 hx (Nat.le_of_ble_eq_true rfl) (Nat.le_refl _) (Nat.le_refl _) rfl rfl (Nat.le_of_ble_eq_true rfl) dL_forgetRain_5 ht rfl (fun z hz => by cases hz) ⟨by decide, by decide⟩ (by decide) cl_L_21 (by decide) (fun q => ?_)
  refine x_astore g dL_forgetRain_13 (Nat.le_of_ble_eq_true rfl) rfl ?_
  refine x_iconst g dL_forgetRain_15 rfl ?_
  exact x_iret g e dL_forgetRain_16
set_option maxRecDepth 100000 in
theorem t_L_forgetRain_2 {ad : Nat → Nat} {G : gG} {a0 : Nat} {a1 : Int32} {a2 : Int32} {ao : Nat} {S S1 : gS} {T : gT} (h : f_X5_forgetRain G a0 a1 a2 S = some (.inl "java/lang/IllegalArgumentException", S1)) (hx : gis G 2 a0) : Ct ad yL_forgetRain (Cond.codeWith yL_forgetRain cL_forgetRain 5 (some .int) hh_L_forgetRain :: gTb) 12 1 6 [.ref a0, .int a1, .int a2, .ref ao] G S T (some (.int 2)) G S1 T := by
  refine Ct.ofH rfl (Nat.le_of_ble_eq_true rfl) rfl ca_L_forgetRain.1 (fun K g e hK => ?_)
  obtain ⟨rfl, -, ht⟩ := hK
  show Xj K [] G 0 [some (.ref a0), some (.int a1), some (.int a2), some (.ref ao), none] [] S T 1 6
  refine x_aload_n 3 g dL_forgetRain_0 rfl rfl ?_
  refine x_iconst g dL_forgetRain_1 rfl ?_
  refine x_aload_n 0 g dL_forgetRain_2 rfl rfl ?_
  refine x_iload_n 1 g dL_forgetRain_3 rfl rfl ?_
  refine x_iload_n 2 g dL_forgetRain_4 rfl rfl ?_
  refine x_catV [(0, 10, 13, 21)] (0, 10, 17, 13) [] g (t_X5_forgetRain h) ca_X5_forgetRain in_X5_forgetRain se_X5_forgetRain lm_L_33 gXX5 hx (Nat.le_of_ble_eq_true rfl) (Nat.le_refl _) (Nat.le_refl _) rfl rfl (Nat.le_of_ble_eq_true rfl) dL_forgetRain_5 ht rfl (fun z hz => by rw [List.mem_singleton.mp hz]; exact ⟨by decide, _, cl_L_21, by decide⟩) ⟨by decide, by decide⟩ (by decide) cl_L_13 (by decide) (fun q => ?_)
  refine x_astore g dL_forgetRain_17 (Nat.le_of_ble_eq_true rfl) rfl ?_
  refine x_iconst g dL_forgetRain_19 rfl ?_
  exact x_iret g e dL_forgetRain_20
set_option maxRecDepth 100000 in
theorem k_L_hasExam {ad : Nat → Nat} {G : gG} {a0 : Nat} {a1 : Int32} {a2 : Int32} {ao : Nat} {S : gS} {T : gT} {r : Bool} (h : f_X5_hasExam G a0 a1 a2 S = some (.inr r)) (hx : gis G 2 a0) (ho : gis G 10 ao) (hn : gn G ao = 1) : Ct ad yL_hasExam (Cond.codeWith yL_hasExam cL_hasExam 5 (some .int) hh_L_hasExam :: gTb) 12 0 0 [.ref a0, .int a1, .int a2, .ref ao] G S T (some (.int 0)) G (sr S ao 0 (gz r)) T := by
  refine Ct.ofH rfl (Nat.le_of_ble_eq_true rfl) rfl ca_L_hasExam.1 (fun K g e hK => ?_)
  obtain ⟨rfl, -, -⟩ := hK
  show Xj K [] G 0 [some (.ref a0), some (.int a1), some (.int a2), some (.ref ao), none] [] S T 0 0
  refine x_aload_n 3 g dL_hasExam_0 rfl rfl ?_
  refine x_iconst g dL_hasExam_1 rfl ?_
  refine x_aload_n 0 g dL_hasExam_2 rfl rfl ?_
  refine x_iload_n 1 g dL_hasExam_3 rfl rfl ?_
  refine x_iload_n 2 g dL_hasExam_4 rfl rfl ?_
  refine x_cVb [.int (gz r), .int 0, .ref ao] g (k_X5_hasExam h) ca_X5_hasExam in_X5_hasExam se_X5_hasExam lm_L_108 gXX5 hx (Nat.le_of_ble_eq_true rfl) (Nat.zero_le _) (Nat.zero_le _) rfl rfl (Nat.le_of_ble_eq_true rfl) dL_hasExam_5 rfl ?_
  cases r with
  | false =>
    refine x_if_eq 15 g dL_hasExam_8 rfl (fun _ => ?_) (fun z => absurd rfl z)
    refine x_lconst (v := (0 : Int32).toInt64) g dL_hasExam_15 (by decide) ?_
    refine x_last (v := 0) g dL_hasExam_16 ho (vp_01 hn) ?_
    refine x_goto 28 g dL_hasExam_17 rfl ?_
    refine x_iconst g dL_hasExam_28 rfl ?_
    exact x_iret g e dL_hasExam_29
  | true =>
    refine x_if_eq 15 g dL_hasExam_8 rfl (fun z => absurd z (by decide)) (fun _ => ?_)
    refine x_lconst (v := (1 : Int32).toInt64) g dL_hasExam_11 (by decide) ?_
    refine x_goto 16 g dL_hasExam_12 rfl ?_
    refine x_last (v := 1) g dL_hasExam_16 ho (vp_01 hn) ?_
    refine x_goto 28 g dL_hasExam_17 rfl ?_
    refine x_iconst g dL_hasExam_28 rfl ?_
    exact x_iret g e dL_hasExam_29
set_option maxRecDepth 100000 in
theorem t_L_hasExam_1 {ad : Nat → Nat} {G : gG} {a0 : Nat} {a1 : Int32} {a2 : Int32} {ao : Nat} {S : gS} {T : gT} (h : f_X5_hasExam G a0 a1 a2 S = some (.inl "java/lang/IndexOutOfBoundsException")) (hx : gis G 2 a0) : Ct ad yL_hasExam (Cond.codeWith yL_hasExam cL_hasExam 5 (some .int) hh_L_hasExam :: gTb) 12 1 6 [.ref a0, .int a1, .int a2, .ref ao] G S T (some (.int 1)) G S T := by
  refine Ct.ofH rfl (Nat.le_of_ble_eq_true rfl) rfl ca_L_hasExam.1 (fun K g e hK => ?_)
  obtain ⟨rfl, -, ht⟩ := hK
  show Xj K [] G 0 [some (.ref a0), some (.int a1), some (.int a2), some (.ref ao), none] [] S T 1 6
  refine x_aload_n 3 g dL_hasExam_0 rfl rfl ?_
  refine x_iconst g dL_hasExam_1 rfl ?_
  refine x_aload_n 0 g dL_hasExam_2 rfl rfl ?_
  refine x_iload_n 1 g dL_hasExam_3 rfl rfl ?_
  refine x_iload_n 2 g dL_hasExam_4 rfl rfl ?_
  refine x_catV [] (0, 17, 20, 21) [(0, 17, 24, 13)] g (t_X5_hasExam h) ca_X5_hasExam in_X5_hasExam se_X5_hasExam lm_L_108 gXX5 hx (Nat.le_of_ble_eq_true rfl) (Nat.le_refl _) (Nat.le_refl _) rfl rfl (Nat.le_of_ble_eq_true rfl) dL_hasExam_5 ht rfl (fun z hz => by cases hz) ⟨by decide, by decide⟩ (by decide) cl_L_21 (by decide) (fun q => ?_)
  refine x_astore g dL_hasExam_20 (Nat.le_of_ble_eq_true rfl) rfl ?_
  refine x_iconst g dL_hasExam_22 rfl ?_
  exact x_iret g e dL_hasExam_23
set_option maxRecDepth 100000 in
theorem t_L_hasExam_2 {ad : Nat → Nat} {G : gG} {a0 : Nat} {a1 : Int32} {a2 : Int32} {ao : Nat} {S : gS} {T : gT} (h : f_X5_hasExam G a0 a1 a2 S = some (.inl "java/lang/IllegalArgumentException")) (hx : gis G 2 a0) : Ct ad yL_hasExam (Cond.codeWith yL_hasExam cL_hasExam 5 (some .int) hh_L_hasExam :: gTb) 12 1 6 [.ref a0, .int a1, .int a2, .ref ao] G S T (some (.int 2)) G S T := by
  refine Ct.ofH rfl (Nat.le_of_ble_eq_true rfl) rfl ca_L_hasExam.1 (fun K g e hK => ?_)
  obtain ⟨rfl, -, ht⟩ := hK
  show Xj K [] G 0 [some (.ref a0), some (.int a1), some (.int a2), some (.ref ao), none] [] S T 1 6
  refine x_aload_n 3 g dL_hasExam_0 rfl rfl ?_
  refine x_iconst g dL_hasExam_1 rfl ?_
  refine x_aload_n 0 g dL_hasExam_2 rfl rfl ?_
  refine x_iload_n 1 g dL_hasExam_3 rfl rfl ?_
  refine x_iload_n 2 g dL_hasExam_4 rfl rfl ?_
  refine x_catV [(0, 17, 20, 21)] (0, 17, 24, 13) [] g (t_X5_hasExam h) ca_X5_hasExam in_X5_hasExam se_X5_hasExam lm_L_108 gXX5 hx (Nat.le_of_ble_eq_true rfl) (Nat.le_refl _) (Nat.le_refl _) rfl rfl (Nat.le_of_ble_eq_true rfl) dL_hasExam_5 ht rfl (fun z hz => by rw [List.mem_singleton.mp hz]; exact ⟨by decide, _, cl_L_21, by decide⟩) ⟨by decide, by decide⟩ (by decide) cl_L_13 (by decide) (fun q => ?_)
  refine x_astore g dL_hasExam_24 (Nat.le_of_ble_eq_true rfl) rfl ?_
  refine x_iconst g dL_hasExam_26 rfl ?_
  exact x_iret g e dL_hasExam_27
set_option maxRecDepth 100000 in
theorem k_L_isGraduate {ad : Nat → Nat} {G : gG} {a0 : Nat} {a1 : Int32} {ao : Nat} {S : gS} {T : gT} {r : Bool} (h : f_X5_isGraduate G a0 a1 S = some (.inr r)) (hx : gis G 2 a0) (ho : gis G 10 ao) (hn : gn G ao = 1) : Ct ad yL_isGraduate (Cond.codeWith yL_isGraduate cL_isGraduate 4 (some .int) hh_L_isGraduate :: gTb) 12 0 0 [.ref a0, .int a1, .ref ao] G S T (some (.int 0)) G (sr S ao 0 (gz r)) T := by
  refine Ct.ofH rfl (Nat.le_of_ble_eq_true rfl) rfl ca_L_isGraduate.1 (fun K g e hK => ?_)
  obtain ⟨rfl, -, -⟩ := hK
  show Xj K [] G 0 [some (.ref a0), some (.int a1), some (.ref ao), none] [] S T 0 0
  refine x_aload_n 2 g dL_isGraduate_0 rfl rfl ?_
  refine x_iconst g dL_isGraduate_1 rfl ?_
  refine x_aload_n 0 g dL_isGraduate_2 rfl rfl ?_
  refine x_iload_n 1 g dL_isGraduate_3 rfl rfl ?_
  refine x_cVb [.int (gz r), .int 0, .ref ao] g (k_X5_isGraduate h) ca_X5_isGraduate in_X5_isGraduate se_X5_isGraduate lm_L_111 gXX5 hx (Nat.le_of_ble_eq_true rfl) (Nat.zero_le _) (Nat.zero_le _) rfl rfl (Nat.le_of_ble_eq_true rfl) dL_isGraduate_4 rfl ?_
  cases r with
  | false =>
    refine x_if_eq 14 g dL_isGraduate_7 rfl (fun _ => ?_) (fun z => absurd rfl z)
    refine x_lconst (v := (0 : Int32).toInt64) g dL_isGraduate_14 (by decide) ?_
    refine x_last (v := 0) g dL_isGraduate_15 ho (vp_01 hn) ?_
    refine x_goto 22 g dL_isGraduate_16 rfl ?_
    refine x_iconst g dL_isGraduate_22 rfl ?_
    exact x_iret g e dL_isGraduate_23
  | true =>
    refine x_if_eq 14 g dL_isGraduate_7 rfl (fun z => absurd z (by decide)) (fun _ => ?_)
    refine x_lconst (v := (1 : Int32).toInt64) g dL_isGraduate_10 (by decide) ?_
    refine x_goto 15 g dL_isGraduate_11 rfl ?_
    refine x_last (v := 1) g dL_isGraduate_15 ho (vp_01 hn) ?_
    refine x_goto 22 g dL_isGraduate_16 rfl ?_
    refine x_iconst g dL_isGraduate_22 rfl ?_
    exact x_iret g e dL_isGraduate_23
set_option maxRecDepth 100000 in
theorem t_L_isGraduate_1 {ad : Nat → Nat} {G : gG} {a0 : Nat} {a1 : Int32} {ao : Nat} {S : gS} {T : gT} (h : f_X5_isGraduate G a0 a1 S = some (.inl "java/lang/IndexOutOfBoundsException")) (hx : gis G 2 a0) : Ct ad yL_isGraduate (Cond.codeWith yL_isGraduate cL_isGraduate 4 (some .int) hh_L_isGraduate :: gTb) 12 1 6 [.ref a0, .int a1, .ref ao] G S T (some (.int 1)) G S T := by
  refine Ct.ofH rfl (Nat.le_of_ble_eq_true rfl) rfl ca_L_isGraduate.1 (fun K g e hK => ?_)
  obtain ⟨rfl, -, ht⟩ := hK
  show Xj K [] G 0 [some (.ref a0), some (.int a1), some (.ref ao), none] [] S T 1 6
  refine x_aload_n 2 g dL_isGraduate_0 rfl rfl ?_
  refine x_iconst g dL_isGraduate_1 rfl ?_
  refine x_aload_n 0 g dL_isGraduate_2 rfl rfl ?_
  refine x_iload_n 1 g dL_isGraduate_3 rfl rfl ?_
  refine x_catV [] (0, 16, 19, 21) [] g (t_X5_isGraduate h) ca_X5_isGraduate in_X5_isGraduate se_X5_isGraduate lm_L_111 gXX5 hx (Nat.le_of_ble_eq_true rfl) (Nat.le_refl _) (Nat.le_refl _) rfl rfl (Nat.le_of_ble_eq_true rfl) dL_isGraduate_4 ht rfl (fun z hz => by cases hz) ⟨by decide, by decide⟩ (by decide) cl_L_21 (by decide) (fun q => ?_)
  refine x_astore_n 3 g dL_isGraduate_19 rfl (Nat.le_of_ble_eq_true rfl) rfl ?_
  refine x_iconst g dL_isGraduate_20 rfl ?_
  exact x_iret g e dL_isGraduate_21
set_option maxRecDepth 100000 in
theorem k_L_knownSituations {ad : Nat → Nat} {G : gG} {a0 : Nat} {a1 : Int32} {ao : Nat} {S : gS} {T : gT} {r : Int32} (h : f_X5_knownSituations G a0 a1 S = some (.inr r)) (hx : gis G 2 a0) (ho : gis G 10 ao) (hn : gn G ao = 1) : Ct ad yL_knownSituations (Cond.codeWith yL_knownSituations cL_knownSituations 4 (some .int) hh_L_knownSituations :: gTb) 12 0 0 [.ref a0, .int a1, .ref ao] G S T (some (.int 0)) G (sr S ao 0 r) T := by
  refine Ct.ofH rfl (Nat.le_of_ble_eq_true rfl) rfl ca_L_knownSituations.1 (fun K g e hK => ?_)
  obtain ⟨rfl, -, -⟩ := hK
  show Xj K [] G 0 [some (.ref a0), some (.int a1), some (.ref ao), none] [] S T 0 0
  refine x_aload_n 2 g dL_knownSituations_0 rfl rfl ?_
  refine x_iconst g dL_knownSituations_1 rfl ?_
  refine x_aload_n 0 g dL_knownSituations_2 rfl rfl ?_
  refine x_iload_n 1 g dL_knownSituations_3 rfl rfl ?_
  refine x_cVb [.int r, .int 0, .ref ao] g (k_X5_knownSituations h) ca_X5_knownSituations in_X5_knownSituations se_X5_knownSituations lm_L_99 gXX5 hx (Nat.le_of_ble_eq_true rfl) (Nat.zero_le _) (Nat.zero_le _) rfl rfl (Nat.le_of_ble_eq_true rfl) dL_knownSituations_4 rfl ?_
  refine x_i2l g dL_knownSituations_7 rfl ?_
  refine x_last g dL_knownSituations_8 ho (vp_01 hn) ?_
  refine x_goto 15 g dL_knownSituations_9 rfl ?_
  refine x_iconst g dL_knownSituations_15 rfl ?_
  exact x_iret g e dL_knownSituations_16
set_option maxRecDepth 100000 in
theorem t_L_knownSituations_1 {ad : Nat → Nat} {G : gG} {a0 : Nat} {a1 : Int32} {ao : Nat} {S : gS} {T : gT} (h : f_X5_knownSituations G a0 a1 S = some (.inl "java/lang/IndexOutOfBoundsException")) (hx : gis G 2 a0) : Ct ad yL_knownSituations (Cond.codeWith yL_knownSituations cL_knownSituations 4 (some .int) hh_L_knownSituations :: gTb) 12 1 6 [.ref a0, .int a1, .ref ao] G S T (some (.int 1)) G S T := by
  refine Ct.ofH rfl (Nat.le_of_ble_eq_true rfl) rfl ca_L_knownSituations.1 (fun K g e hK => ?_)
  obtain ⟨rfl, -, ht⟩ := hK
  show Xj K [] G 0 [some (.ref a0), some (.int a1), some (.ref ao), none] [] S T 1 6
  refine x_aload_n 2 g dL_knownSituations_0 rfl rfl ?_
  refine x_iconst g dL_knownSituations_1 rfl ?_
  refine x_aload_n 0 g dL_knownSituations_2 rfl rfl ?_
  refine x_iload_n 1 g dL_knownSituations_3 rfl rfl ?_
  refine x_catV [] (0, 9, 12, 21) [] g (t_X5_knownSituations h) ca_X5_knownSituations in_X5_knownSituations se_X5_knownSituations lm_L_99 gXX5 hx (Nat.le_of_ble_eq_true rfl) (Nat.le_refl _) (Nat.le_refl _) rfl rfl (Nat.le_of_ble_eq_true rfl) dL_knownSituations_4 ht rfl (fun z hz => by cases hz) ⟨by decide, by decide⟩ (by decide) cl_L_21 (by decide) (fun q => ?_)
  refine x_astore_n 3 g dL_knownSituations_12 rfl (Nat.le_of_ble_eq_true rfl) rfl ?_
  refine x_iconst g dL_knownSituations_13 rfl ?_
  exact x_iret g e dL_knownSituations_14
set_option maxRecDepth 100000 in
theorem k_L_meanReward {ad : Nat → Nat} {G : gG} {a0 : Nat} {a1 : Int32} {a2 : Int32} {a3 : Int32} {a4 : Bool} {ao : Nat} {S : gS} {T : gT} {r : UInt64} (h : f_X5_meanReward G a0 a1 a2 a3 a4 S = some (.inr r)) (hx : gis G 2 a0) (ho : gis G 11 ao) (hn : gn G ao = 1) : Ct ad yL_meanReward (Cond.codeWith yL_meanReward cL_meanReward 7 (some .int) hh_L_meanReward :: gTb) 12 0 0 [.ref a0, .int a1, .int a2, .int a3, .int (gz a4), .ref ao] G S T (some (.int 0)) G (gsd S ao r) T := by
  refine Ct.ofH rfl (Nat.le_of_ble_eq_true rfl) rfl ca_L_meanReward.1 (fun K g e hK => ?_)
  obtain ⟨rfl, -, -⟩ := hK
  show Xj K [] G 0 [some (.ref a0), some (.int a1), some (.int a2), some (.int a3), some (.int (gz a4)), some (.ref ao), none] [] S T 0 0
  refine x_aload g dL_meanReward_0 rfl ?_
  refine x_iconst g dL_meanReward_2 rfl ?_
  refine x_aload_n 0 g dL_meanReward_3 rfl rfl ?_
  refine x_iload_n 1 g dL_meanReward_4 rfl rfl ?_
  refine x_iload_n 2 g dL_meanReward_5 rfl rfl ?_
  refine x_iload_n 3 g dL_meanReward_6 rfl rfl ?_
  refine x_iload g dL_meanReward_7 rfl ?_
  refine x_cVb [.double r, .int 0, .ref ao] g (k_X5_meanReward h) ca_X5_meanReward in_X5_meanReward se_X5_meanReward lm_L_92 gXX5 hx (Nat.le_of_ble_eq_true rfl) (Nat.zero_le _) (Nat.zero_le _) rfl rfl (Nat.le_of_ble_eq_true rfl) dL_meanReward_9 rfl ?_
  refine x_dast g dL_meanReward_12 ho (vp_01 hn) ?_
  refine x_goto 28 g dL_meanReward_13 rfl ?_
  refine x_iconst g dL_meanReward_28 rfl ?_
  exact x_iret g e dL_meanReward_29
set_option maxRecDepth 100000 in
theorem t_L_meanReward_1 {ad : Nat → Nat} {G : gG} {a0 : Nat} {a1 : Int32} {a2 : Int32} {a3 : Int32} {a4 : Bool} {ao : Nat} {S : gS} {T : gT} (h : f_X5_meanReward G a0 a1 a2 a3 a4 S = some (.inl "java/lang/IndexOutOfBoundsException")) (hx : gis G 2 a0) : Ct ad yL_meanReward (Cond.codeWith yL_meanReward cL_meanReward 7 (some .int) hh_L_meanReward :: gTb) 12 1 6 [.ref a0, .int a1, .int a2, .int a3, .int (gz a4), .ref ao] G S T (some (.int 1)) G S T := by
  refine Ct.ofH rfl (Nat.le_of_ble_eq_true rfl) rfl ca_L_meanReward.1 (fun K g e hK => ?_)
  obtain ⟨rfl, -, ht⟩ := hK
  show Xj K [] G 0 [some (.ref a0), some (.int a1), some (.int a2), some (.int a3), some (.int (gz a4)), some (.ref ao), none] [] S T 1 6
  refine x_aload g dL_meanReward_0 rfl ?_
  refine x_iconst g dL_meanReward_2 rfl ?_
  refine x_aload_n 0 g dL_meanReward_3 rfl rfl ?_
  refine x_iload_n 1 g dL_meanReward_4 rfl rfl ?_
  refine x_iload_n 2 g dL_meanReward_5 rfl rfl ?_
  refine x_iload_n 3 g dL_meanReward_6 rfl rfl ?_
  refine x_iload g dL_meanReward_7 rfl ?_
  refine x_catV [] (0, 13, 16, 21) [(0, 13, 20, 13), (0, 13, 24, 58)] g (t_X5_meanReward h) ca_X5_meanReward in_X5_meanReward se_X5_meanReward lm_L_92 gXX5 hx (Nat.le_of_ble_eq_true rfl) (Nat.le_refl _) (Nat.le_refl _) rfl rfl (Nat.le_of_ble_eq_true rfl) dL_meanReward_9 ht rfl (fun z hz => by cases hz) ⟨by decide, by decide⟩ (by decide) cl_L_21 (by decide) (fun q => ?_)
  refine x_astore g dL_meanReward_16 (Nat.le_of_ble_eq_true rfl) rfl ?_
  refine x_iconst g dL_meanReward_18 rfl ?_
  exact x_iret g e dL_meanReward_19
set_option maxRecDepth 100000 in
theorem t_L_meanReward_2 {ad : Nat → Nat} {G : gG} {a0 : Nat} {a1 : Int32} {a2 : Int32} {a3 : Int32} {a4 : Bool} {ao : Nat} {S : gS} {T : gT} (h : f_X5_meanReward G a0 a1 a2 a3 a4 S = some (.inl "java/lang/IllegalArgumentException")) (hx : gis G 2 a0) : Ct ad yL_meanReward (Cond.codeWith yL_meanReward cL_meanReward 7 (some .int) hh_L_meanReward :: gTb) 12 1 6 [.ref a0, .int a1, .int a2, .int a3, .int (gz a4), .ref ao] G S T (some (.int 2)) G S T := by
  refine Ct.ofH rfl (Nat.le_of_ble_eq_true rfl) rfl ca_L_meanReward.1 (fun K g e hK => ?_)
  obtain ⟨rfl, -, ht⟩ := hK
  show Xj K [] G 0 [some (.ref a0), some (.int a1), some (.int a2), some (.int a3), some (.int (gz a4)), some (.ref ao), none] [] S T 1 6
  refine x_aload g dL_meanReward_0 rfl ?_
  refine x_iconst g dL_meanReward_2 rfl ?_
  refine x_aload_n 0 g dL_meanReward_3 rfl rfl ?_
  refine x_iload_n 1 g dL_meanReward_4 rfl rfl ?_
  refine x_iload_n 2 g dL_meanReward_5 rfl rfl ?_
  refine x_iload_n 3 g dL_meanReward_6 rfl rfl ?_
  refine x_iload g dL_meanReward_7 rfl ?_
  refine x_catV [(0, 13, 16, 21)] (0, 13, 20, 13) [(0, 13, 24, 58)] g (t_X5_meanReward h) ca_X5_meanReward in_X5_meanReward se_X5_meanReward lm_L_92 gXX5 hx (Nat.le_of_ble_eq_true rfl) (Nat.le_refl _) (Nat.le_refl _) rfl rfl (Nat.le_of_ble_eq_true rfl) dL_meanReward_9 ht rfl (fun z hz => by rw [List.mem_singleton.mp hz]; exact ⟨by decide, _, cl_L_21, by decide⟩) ⟨by decide, by decide⟩ (by decide) cl_L_13 (by decide) (fun q => ?_)
  refine x_astore g dL_meanReward_20 (Nat.le_of_ble_eq_true rfl) rfl ?_
  refine x_iconst g dL_meanReward_22 rfl ?_
  exact x_iret g e dL_meanReward_23
set_option maxRecDepth 100000 in
theorem t_L_meanReward_3 {ad : Nat → Nat} {G : gG} {a0 : Nat} {a1 : Int32} {a2 : Int32} {a3 : Int32} {a4 : Bool} {ao : Nat} {S : gS} {T : gT} (h : f_X5_meanReward G a0 a1 a2 a3 a4 S = some (.inl "java/util/NoSuchElementException")) (hx : gis G 2 a0) : Ct ad yL_meanReward (Cond.codeWith yL_meanReward cL_meanReward 7 (some .int) hh_L_meanReward :: gTb) 12 1 6 [.ref a0, .int a1, .int a2, .int a3, .int (gz a4), .ref ao] G S T (some (.int 3)) G S T := by
  refine Ct.ofH rfl (Nat.le_of_ble_eq_true rfl) rfl ca_L_meanReward.1 (fun K g e hK => ?_)
  obtain ⟨rfl, -, ht⟩ := hK
  show Xj K [] G 0 [some (.ref a0), some (.int a1), some (.int a2), some (.int a3), some (.int (gz a4)), some (.ref ao), none] [] S T 1 6
  refine x_aload g dL_meanReward_0 rfl ?_
  refine x_iconst g dL_meanReward_2 rfl ?_
  refine x_aload_n 0 g dL_meanReward_3 rfl rfl ?_
  refine x_iload_n 1 g dL_meanReward_4 rfl rfl ?_
  refine x_iload_n 2 g dL_meanReward_5 rfl rfl ?_
  refine x_iload_n 3 g dL_meanReward_6 rfl rfl ?_
  refine x_iload g dL_meanReward_7 rfl ?_
  refine x_catV [(0, 13, 16, 21), (0, 13, 20, 13)] (0, 13, 24, 58) [] g (t_X5_meanReward h) ca_X5_meanReward in_X5_meanReward se_X5_meanReward lm_L_92 gXX5 hx (Nat.le_of_ble_eq_true rfl) (Nat.le_refl _) (Nat.le_refl _) rfl rfl (Nat.le_of_ble_eq_true rfl) dL_meanReward_9 ht rfl (fun z hz => by
    rcases List.mem_cons.mp hz with q | q
    · rw [q]; exact ⟨by decide, _, cl_L_21, by decide⟩
    · rw [List.mem_singleton.mp q]; exact ⟨by decide, _, cl_L_13, by decide⟩) ⟨by decide, by decide⟩ (by decide) cl_L_58 (by decide) (fun q => ?_)
  refine x_astore g dL_meanReward_24 (Nat.le_of_ble_eq_true rfl) rfl ?_
  refine x_iconst g dL_meanReward_26 rfl ?_
  exact x_iret g e dL_meanReward_27
set_option maxRecDepth 100000 in
theorem k_L_meanSchoolReward {ad : Nat → Nat} {G : gG} {a0 : Nat}  {ao : Nat} {S : gS} {T : gT} {r : UInt64} (h : f_X5_meanSchoolReward G a0 S = some (.inr r)) (hx : gis G 2 a0) (ho : gis G 11 ao) (hn : gn G ao = 1) : Ct ad yL_meanSchoolReward (Cond.codeWith yL_meanSchoolReward cL_meanSchoolReward 3 (some .int) hh_L_meanSchoolReward :: gTb) 12 0 0 [.ref a0, .ref ao] G S T (some (.int 0)) G (gsd S ao r) T := by
  refine Ct.ofH rfl (Nat.le_of_ble_eq_true rfl) rfl ca_L_meanSchoolReward.1 (fun K g e hK => ?_)
  obtain ⟨rfl, -, -⟩ := hK
  show Xj K [] G 0 [some (.ref a0), some (.ref ao), none] [] S T 0 0
  refine x_aload_n 1 g dL_meanSchoolReward_0 rfl rfl ?_
  refine x_iconst g dL_meanSchoolReward_1 rfl ?_
  refine x_aload_n 0 g dL_meanSchoolReward_2 rfl rfl ?_
  refine x_cVb [.double r, .int 0, .ref ao] g (k_X5_meanSchoolReward h) ca_X5_meanSchoolReward in_X5_meanSchoolReward se_X5_meanSchoolReward lm_L_126 gXX5 hx (Nat.le_of_ble_eq_true rfl) (Nat.zero_le _) (Nat.zero_le _) rfl rfl (Nat.le_of_ble_eq_true rfl) dL_meanSchoolReward_3 rfl ?_
  refine x_dast g dL_meanSchoolReward_6 ho (vp_01 hn) ?_
  refine x_goto 13 g dL_meanSchoolReward_7 rfl ?_
  refine x_iconst g dL_meanSchoolReward_13 rfl ?_
  exact x_iret g e dL_meanSchoolReward_14
set_option maxRecDepth 100000 in
theorem t_L_meanSchoolReward_1 {ad : Nat → Nat} {G : gG} {a0 : Nat}  {ao : Nat} {S : gS} {T : gT} (h : f_X5_meanSchoolReward G a0 S = some (.inl "java/lang/ArithmeticException")) (hx : gis G 2 a0) : Ct ad yL_meanSchoolReward (Cond.codeWith yL_meanSchoolReward cL_meanSchoolReward 3 (some .int) hh_L_meanSchoolReward :: gTb) 12 1 6 [.ref a0, .ref ao] G S T (some (.int 1)) G S T := by
  refine Ct.ofH rfl (Nat.le_of_ble_eq_true rfl) rfl ca_L_meanSchoolReward.1 (fun K g e hK => ?_)
  obtain ⟨rfl, -, ht⟩ := hK
  show Xj K [] G 0 [some (.ref a0), some (.ref ao), none] [] S T 1 6
  refine x_aload_n 1 g dL_meanSchoolReward_0 rfl rfl ?_
  refine x_iconst g dL_meanSchoolReward_1 rfl ?_
  refine x_aload_n 0 g dL_meanSchoolReward_2 rfl rfl ?_
  refine x_catV [] (0, 7, 10, 130) [] g (t_X5_meanSchoolReward h) ca_X5_meanSchoolReward in_X5_meanSchoolReward se_X5_meanSchoolReward lm_L_126 gXX5 hx (Nat.le_of_ble_eq_true rfl) (Nat.le_refl _) (Nat.le_refl _) rfl rfl (Nat.le_of_ble_eq_true rfl) dL_meanSchoolReward_3 ht rfl (fun z hz => by cases hz) ⟨by decide, by decide⟩ (by decide) cl_L_130 (by decide) (fun q => ?_)
  refine x_astore_n 2 g dL_meanSchoolReward_10 rfl (Nat.le_of_ble_eq_true rfl) rfl ?_
  refine x_iconst g dL_meanSchoolReward_11 rfl ?_
  exact x_iret g e dL_meanSchoolReward_12
set_option maxRecDepth 100000 in
theorem k_L_memory {ad : Nat → Nat} {G : gG} {a0 : Nat} {a1 : Int32} {ao : Nat} {S : gS} {T : gT} {r : Int32} (h : f_X5_memory G a0 a1 S = some (.inr r)) (hx : gis G 2 a0) (ho : gis G 10 ao) (hn : gn G ao = 1) : Ct ad yL_memory (Cond.codeWith yL_memory cL_memory 4 (some .int) hh_L_memory :: gTb) 12 0 0 [.ref a0, .int a1, .ref ao] G S T (some (.int 0)) G (sr S ao 0 r) T := by
  refine Ct.ofH rfl (Nat.le_of_ble_eq_true rfl) rfl ca_L_memory.1 (fun K g e hK => ?_)
  obtain ⟨rfl, -, -⟩ := hK
  show Xj K [] G 0 [some (.ref a0), some (.int a1), some (.ref ao), none] [] S T 0 0
  refine x_aload_n 2 g dL_memory_0 rfl rfl ?_
  refine x_iconst g dL_memory_1 rfl ?_
  refine x_aload_n 0 g dL_memory_2 rfl rfl ?_
  refine x_iload_n 1 g dL_memory_3 rfl rfl ?_
  refine x_cVb [.int r, .int 0, .ref ao] g (k_X5_memory h) ca_X5_memory in_X5_memory se_X5_memory lm_L_43 gXX5 hx (Nat.le_of_ble_eq_true rfl) (Nat.zero_le _) (Nat.zero_le _) rfl rfl (Nat.le_of_ble_eq_true rfl) dL_memory_4 rfl ?_
  refine x_i2l g dL_memory_7 rfl ?_
  refine x_last g dL_memory_8 ho (vp_01 hn) ?_
  refine x_goto 15 g dL_memory_9 rfl ?_
  refine x_iconst g dL_memory_15 rfl ?_
  exact x_iret g e dL_memory_16
set_option maxRecDepth 100000 in
theorem t_L_memory_1 {ad : Nat → Nat} {G : gG} {a0 : Nat} {a1 : Int32} {ao : Nat} {S : gS} {T : gT} (h : f_X5_memory G a0 a1 S = some (.inl "java/lang/IndexOutOfBoundsException")) (hx : gis G 2 a0) : Ct ad yL_memory (Cond.codeWith yL_memory cL_memory 4 (some .int) hh_L_memory :: gTb) 12 1 6 [.ref a0, .int a1, .ref ao] G S T (some (.int 1)) G S T := by
  refine Ct.ofH rfl (Nat.le_of_ble_eq_true rfl) rfl ca_L_memory.1 (fun K g e hK => ?_)
  obtain ⟨rfl, -, ht⟩ := hK
  show Xj K [] G 0 [some (.ref a0), some (.int a1), some (.ref ao), none] [] S T 1 6
  refine x_aload_n 2 g dL_memory_0 rfl rfl ?_
  refine x_iconst g dL_memory_1 rfl ?_
  refine x_aload_n 0 g dL_memory_2 rfl rfl ?_
  refine x_iload_n 1 g dL_memory_3 rfl rfl ?_
  refine x_catV [] (0, 9, 12, 21) [] g (t_X5_memory h) ca_X5_memory in_X5_memory se_X5_memory lm_L_43 gXX5 hx (Nat.le_of_ble_eq_true rfl) (Nat.le_refl _) (Nat.le_refl _) rfl rfl (Nat.le_of_ble_eq_true rfl) dL_memory_4 ht rfl (fun z hz => by cases hz) ⟨by decide, by decide⟩ (by decide) cl_L_21 (by decide) (fun q => ?_)
  refine x_astore_n 3 g dL_memory_12 rfl (Nat.le_of_ble_eq_true rfl) rfl ?_
  refine x_iconst g dL_memory_13 rfl ?_
  exact x_iret g e dL_memory_14
set_option maxRecDepth 100000 in
theorem k_L_openShare {ad : Nat → Nat} {G : gG} {a0 : Nat}  {ao : Nat} {S : gS} {T : gT} {r : UInt32} (h : f_X5_openShare G a0 S = some (.inr r)) (hx : gis G 2 a0) (ho : gis G 11 ao) (hn : gn G ao = 1) (hf : vf_n64 (FP.f2d r)) : Ct ad yL_openShare (Cond.codeWith yL_openShare cL_openShare 3 (some .int) hh_L_openShare :: gTb) 12 0 0 [.ref a0, .ref ao] G S T (some (.int 0)) G (gsd S ao (FP.f2d r)) T := by
  refine Ct.ofH rfl (Nat.le_of_ble_eq_true rfl) rfl ca_L_openShare.1 (fun K g e hK => ?_)
  obtain ⟨rfl, -, -⟩ := hK
  show Xj K [] G 0 [some (.ref a0), some (.ref ao), none] [] S T 0 0
  refine x_aload_n 1 g dL_openShare_0 rfl rfl ?_
  refine x_iconst g dL_openShare_1 rfl ?_
  refine x_aload_n 0 g dL_openShare_2 rfl rfl ?_
  refine x_cVb [.float r, .int 0, .ref ao] g (k_X5_openShare h) ca_X5_openShare in_X5_openShare se_X5_openShare lm_L_132 gXX5 hx (Nat.le_of_ble_eq_true rfl) (Nat.zero_le _) (Nat.zero_le _) rfl rfl (Nat.le_of_ble_eq_true rfl) dL_openShare_3 rfl ?_
  refine x_f2d g dL_openShare_6 hf ?_
  refine x_dast g dL_openShare_7 ho (vp_01 hn) ?_
  refine x_goto 14 g dL_openShare_8 rfl ?_
  refine x_iconst g dL_openShare_14 rfl ?_
  exact x_iret g e dL_openShare_15
set_option maxRecDepth 100000 in
theorem t_L_openShare_1 {ad : Nat → Nat} {G : gG} {a0 : Nat}  {ao : Nat} {S : gS} {T : gT} (h : f_X5_openShare G a0 S = some (.inl "java/lang/ArithmeticException")) (hx : gis G 2 a0) : Ct ad yL_openShare (Cond.codeWith yL_openShare cL_openShare 3 (some .int) hh_L_openShare :: gTb) 12 1 6 [.ref a0, .ref ao] G S T (some (.int 1)) G S T := by
  refine Ct.ofH rfl (Nat.le_of_ble_eq_true rfl) rfl ca_L_openShare.1 (fun K g e hK => ?_)
  obtain ⟨rfl, -, ht⟩ := hK
  show Xj K [] G 0 [some (.ref a0), some (.ref ao), none] [] S T 1 6
  refine x_aload_n 1 g dL_openShare_0 rfl rfl ?_
  refine x_iconst g dL_openShare_1 rfl ?_
  refine x_aload_n 0 g dL_openShare_2 rfl rfl ?_
  refine x_catV [] (0, 8, 11, 130) [] g (t_X5_openShare h) ca_X5_openShare in_X5_openShare se_X5_openShare lm_L_132 gXX5 hx (Nat.le_of_ble_eq_true rfl) (Nat.le_refl _) (Nat.le_refl _) rfl rfl (Nat.le_of_ble_eq_true rfl) dL_openShare_3 ht rfl (fun z hz => by cases hz) ⟨by decide, by decide⟩ (by decide) cl_L_130 (by decide) (fun q => ?_)
  refine x_astore_n 2 g dL_openShare_11 rfl (Nat.le_of_ble_eq_true rfl) rfl ?_
  refine x_iconst g dL_openShare_12 rfl ?_
  exact x_iret g e dL_openShare_13
set_option maxRecDepth 100000 in
theorem k_L_outputAt {ad : Nat → Nat} {G : gG} {a0 : Nat} {a1 : Int32} {ao : Nat} {S : gS} {T : gT} {r : Int32} (h : f_X5_outputAt G a0 a1 S T = some (.inr r)) (hx : gis G 2 a0) (ho : gis G 10 ao) (hn : gn G ao = 1) : Ct ad yL_outputAt (Cond.codeWith yL_outputAt cL_outputAt 4 (some .int) hh_L_outputAt :: gTb) 12 0 0 [.ref a0, .int a1, .ref ao] G S T (some (.int 0)) G (sr S ao 0 r) T := by
  refine Ct.ofH rfl (Nat.le_of_ble_eq_true rfl) rfl ca_L_outputAt.1 (fun K g e hK => ?_)
  obtain ⟨rfl, -, -⟩ := hK
  show Xj K [] G 0 [some (.ref a0), some (.int a1), some (.ref ao), none] [] S T 0 0
  refine x_aload_n 2 g dL_outputAt_0 rfl rfl ?_
  refine x_iconst g dL_outputAt_1 rfl ?_
  refine x_aload_n 0 g dL_outputAt_2 rfl rfl ?_
  refine x_iload_n 1 g dL_outputAt_3 rfl rfl ?_
  refine x_cVb [.int r, .int 0, .ref ao] g (k_X5_outputAt h) ca_X5_outputAt in_X5_outputAt se_X5_outputAt lm_L_142 gXX5 hx (Nat.le_of_ble_eq_true rfl) (Nat.zero_le _) (Nat.zero_le _) rfl rfl (Nat.le_of_ble_eq_true rfl) dL_outputAt_4 rfl ?_
  refine x_i2l g dL_outputAt_7 rfl ?_
  refine x_last g dL_outputAt_8 ho (vp_01 hn) ?_
  refine x_goto 15 g dL_outputAt_9 rfl ?_
  refine x_iconst g dL_outputAt_15 rfl ?_
  exact x_iret g e dL_outputAt_16
set_option maxRecDepth 100000 in
theorem t_L_outputAt_1 {ad : Nat → Nat} {G : gG} {a0 : Nat} {a1 : Int32} {ao : Nat} {S : gS} {T : gT} (h : f_X5_outputAt G a0 a1 S T = some (.inl "java/lang/IndexOutOfBoundsException")) (hx : gis G 2 a0) : Ct ad yL_outputAt (Cond.codeWith yL_outputAt cL_outputAt 4 (some .int) hh_L_outputAt :: gTb) 12 1 6 [.ref a0, .int a1, .ref ao] G S T (some (.int 1)) G S T := by
  refine Ct.ofH rfl (Nat.le_of_ble_eq_true rfl) rfl ca_L_outputAt.1 (fun K g e hK => ?_)
  obtain ⟨rfl, -, ht⟩ := hK
  show Xj K [] G 0 [some (.ref a0), some (.int a1), some (.ref ao), none] [] S T 1 6
  refine x_aload_n 2 g dL_outputAt_0 rfl rfl ?_
  refine x_iconst g dL_outputAt_1 rfl ?_
  refine x_aload_n 0 g dL_outputAt_2 rfl rfl ?_
  refine x_iload_n 1 g dL_outputAt_3 rfl rfl ?_
  refine x_catV [] (0, 9, 12, 21) [] g (t_X5_outputAt h) ca_X5_outputAt in_X5_outputAt se_X5_outputAt lm_L_142 gXX5 hx (Nat.le_of_ble_eq_true rfl) (Nat.le_refl _) (Nat.le_refl _) rfl rfl (Nat.le_of_ble_eq_true rfl) dL_outputAt_4 ht rfl (fun z hz => by cases hz) ⟨by decide, by decide⟩ (by decide) cl_L_21 (by decide) (fun q => ?_)
  refine x_astore_n 3 g dL_outputAt_12 rfl (Nat.le_of_ble_eq_true rfl) rfl ?_
  refine x_iconst g dL_outputAt_13 rfl ?_
  exact x_iret g e dL_outputAt_14
set_option maxRecDepth 100000 in
theorem k_L_period {ad : Nat → Nat} {G : gG} {a0 : Nat} {a1 : Int32} {ao : Nat} {S : gS} {T : gT} {r : Int32} (h : f_X5_period G a0 a1 S = some (.inr r)) (hx : gis G 2 a0) (ho : gis G 10 ao) (hn : gn G ao = 1) : Ct ad yL_period (Cond.codeWith yL_period cL_period 4 (some .int) hh_L_period :: gTb) 12 0 0 [.ref a0, .int a1, .ref ao] G S T (some (.int 0)) G (sr S ao 0 r) T := by
  refine Ct.ofH rfl (Nat.le_of_ble_eq_true rfl) rfl ca_L_period.1 (fun K g e hK => ?_)
  obtain ⟨rfl, -, -⟩ := hK
  show Xj K [] G 0 [some (.ref a0), some (.int a1), some (.ref ao), none] [] S T 0 0
  refine x_aload_n 2 g dL_period_0 rfl rfl ?_
  refine x_iconst g dL_period_1 rfl ?_
  refine x_aload_n 0 g dL_period_2 rfl rfl ?_
  refine x_iload_n 1 g dL_period_3 rfl rfl ?_
  refine x_cVb [.int r, .int 0, .ref ao] g (k_X5_period h) ca_X5_period in_X5_period se_X5_period lm_L_46 gXX5 hx (Nat.le_of_ble_eq_true rfl) (Nat.zero_le _) (Nat.zero_le _) rfl rfl (Nat.le_of_ble_eq_true rfl) dL_period_4 rfl ?_
  refine x_i2l g dL_period_7 rfl ?_
  refine x_last g dL_period_8 ho (vp_01 hn) ?_
  refine x_goto 15 g dL_period_9 rfl ?_
  refine x_iconst g dL_period_15 rfl ?_
  exact x_iret g e dL_period_16
set_option maxRecDepth 100000 in
theorem t_L_period_1 {ad : Nat → Nat} {G : gG} {a0 : Nat} {a1 : Int32} {ao : Nat} {S : gS} {T : gT} (h : f_X5_period G a0 a1 S = some (.inl "java/lang/IndexOutOfBoundsException")) (hx : gis G 2 a0) : Ct ad yL_period (Cond.codeWith yL_period cL_period 4 (some .int) hh_L_period :: gTb) 12 1 6 [.ref a0, .int a1, .ref ao] G S T (some (.int 1)) G S T := by
  refine Ct.ofH rfl (Nat.le_of_ble_eq_true rfl) rfl ca_L_period.1 (fun K g e hK => ?_)
  obtain ⟨rfl, -, ht⟩ := hK
  show Xj K [] G 0 [some (.ref a0), some (.int a1), some (.ref ao), none] [] S T 1 6
  refine x_aload_n 2 g dL_period_0 rfl rfl ?_
  refine x_iconst g dL_period_1 rfl ?_
  refine x_aload_n 0 g dL_period_2 rfl rfl ?_
  refine x_iload_n 1 g dL_period_3 rfl rfl ?_
  refine x_catV [] (0, 9, 12, 21) [] g (t_X5_period h) ca_X5_period in_X5_period se_X5_period lm_L_46 gXX5 hx (Nat.le_of_ble_eq_true rfl) (Nat.le_refl _) (Nat.le_refl _) rfl rfl (Nat.le_of_ble_eq_true rfl) dL_period_4 ht rfl (fun z hz => by cases hz) ⟨by decide, by decide⟩ (by decide) cl_L_21 (by decide) (fun q => ?_)
  refine x_astore_n 3 g dL_period_12 rfl (Nat.le_of_ble_eq_true rfl) rfl ?_
  refine x_iconst g dL_period_13 rfl ?_
  exact x_iret g e dL_period_14
set_option maxRecDepth 100000 in
theorem k_L_rememberedTrials {ad : Nat → Nat} {G : gG} {a0 : Nat} {a1 : Int32} {ao : Nat} {S : gS} {T : gT} {r : Int32} (h : f_X5_rememberedTrials G a0 a1 S = some (.inr r)) (hx : gis G 2 a0) (ho : gis G 10 ao) (hn : gn G ao = 1) : Ct ad yL_rememberedTrials (Cond.codeWith yL_rememberedTrials cL_rememberedTrials 4 (some .int) hh_L_rememberedTrials :: gTb) 12 0 0 [.ref a0, .int a1, .ref ao] G S T (some (.int 0)) G (sr S ao 0 r) T := by
  refine Ct.ofH rfl (Nat.le_of_ble_eq_true rfl) rfl ca_L_rememberedTrials.1 (fun K g e hK => ?_)
  obtain ⟨rfl, -, -⟩ := hK
  show Xj K [] G 0 [some (.ref a0), some (.int a1), some (.ref ao), none] [] S T 0 0
  refine x_aload_n 2 g dL_rememberedTrials_0 rfl rfl ?_
  refine x_iconst g dL_rememberedTrials_1 rfl ?_
  refine x_aload_n 0 g dL_rememberedTrials_2 rfl rfl ?_
  refine x_iload_n 1 g dL_rememberedTrials_3 rfl rfl ?_
  refine x_cVb [.int r, .int 0, .ref ao] g (k_X5_rememberedTrials h) ca_X5_rememberedTrials in_X5_rememberedTrials se_X5_rememberedTrials lm_L_52 gXX5 hx (Nat.le_of_ble_eq_true rfl) (Nat.zero_le _) (Nat.zero_le _) rfl rfl (Nat.le_of_ble_eq_true rfl) dL_rememberedTrials_4 rfl ?_
  refine x_i2l g dL_rememberedTrials_7 rfl ?_
  refine x_last g dL_rememberedTrials_8 ho (vp_01 hn) ?_
  refine x_goto 15 g dL_rememberedTrials_9 rfl ?_
  refine x_iconst g dL_rememberedTrials_15 rfl ?_
  exact x_iret g e dL_rememberedTrials_16
set_option maxRecDepth 100000 in
theorem t_L_rememberedTrials_1 {ad : Nat → Nat} {G : gG} {a0 : Nat} {a1 : Int32} {ao : Nat} {S : gS} {T : gT} (h : f_X5_rememberedTrials G a0 a1 S = some (.inl "java/lang/IndexOutOfBoundsException")) (hx : gis G 2 a0) : Ct ad yL_rememberedTrials (Cond.codeWith yL_rememberedTrials cL_rememberedTrials 4 (some .int) hh_L_rememberedTrials :: gTb) 12 1 6 [.ref a0, .int a1, .ref ao] G S T (some (.int 1)) G S T := by
  refine Ct.ofH rfl (Nat.le_of_ble_eq_true rfl) rfl ca_L_rememberedTrials.1 (fun K g e hK => ?_)
  obtain ⟨rfl, -, ht⟩ := hK
  show Xj K [] G 0 [some (.ref a0), some (.int a1), some (.ref ao), none] [] S T 1 6
  refine x_aload_n 2 g dL_rememberedTrials_0 rfl rfl ?_
  refine x_iconst g dL_rememberedTrials_1 rfl ?_
  refine x_aload_n 0 g dL_rememberedTrials_2 rfl rfl ?_
  refine x_iload_n 1 g dL_rememberedTrials_3 rfl rfl ?_
  refine x_catV [] (0, 9, 12, 21) [] g (t_X5_rememberedTrials h) ca_X5_rememberedTrials in_X5_rememberedTrials se_X5_rememberedTrials lm_L_52 gXX5 hx (Nat.le_of_ble_eq_true rfl) (Nat.le_refl _) (Nat.le_refl _) rfl rfl (Nat.le_of_ble_eq_true rfl) dL_rememberedTrials_4 ht rfl (fun z hz => by cases hz) ⟨by decide, by decide⟩ (by decide) cl_L_21 (by decide) (fun q => ?_)
  refine x_astore_n 3 g dL_rememberedTrials_12 rfl (Nat.le_of_ble_eq_true rfl) rfl ?_
  refine x_iconst g dL_rememberedTrials_13 rfl ?_
  exact x_iret g e dL_rememberedTrials_14
set_option maxRecDepth 100000 in
theorem k_L_renderHabits {ad : Nat → Nat} {G : gG} {a0 : Nat} {a1 : Int32} {ao : Nat} {S S1 : gS} {T T1 : gT} {r : Int32} (h : f_X5_renderHabits G a0 a1 S T = some (.inr r, S1, T1)) (hx : gis G 2 a0) (ho : gis G 10 ao) (hn : gn G ao = 1) : Ct ad yL_renderHabits (Cond.codeWith yL_renderHabits cL_renderHabits 4 (some .int) hh_L_renderHabits :: gTb) 12 (gpc T) (gps T) [.ref a0, .int a1, .ref ao] G S T (some (.int 0)) G (sr S1 ao 0 r) T1 := by
  refine Ct.ofH rfl (Nat.le_of_ble_eq_true rfl) rfl ca_L_renderHabits.1 (fun K g e hK => ?_)
  obtain ⟨rfl, -, -⟩ := hK
  show Xj K [] G 0 [some (.ref a0), some (.int a1), some (.ref ao), none] [] S T (gpc T) (gps T)
  refine x_aload_n 2 g dL_renderHabits_0 rfl rfl ?_
  refine x_iconst g dL_renderHabits_1 rfl ?_
  refine x_aload_n 0 g dL_renderHabits_2 rfl rfl ?_
  refine x_iload_n 1 g dL_renderHabits_3 rfl rfl ?_
  refine x_cVb [.int r, .int 0, .ref ao] g (k_X5_renderHabits h) ca_X5_renderHabits in_X5_renderHabits se_X5_renderHabits lm_L_136 gXX5 hx (Nat.le_of_ble_eq_true rfl) (Nat.le_refl _) (Nat.le_refl _) rfl rfl (Nat.le_of_ble_eq_true rfl) dL_renderHabits_4 rfl ?_
  refine x_i2l g dL_renderHabits_7 rfl ?_
  refine x_last g dL_renderHabits_8 ho (vp_01 hn) ?_
  refine x_goto 15 g dL_renderHabits_9 rfl ?_
  refine x_iconst g dL_renderHabits_15 rfl ?_
  exact x_iret g e dL_renderHabits_16
set_option maxRecDepth 100000 in
theorem t_L_renderHabits_1 {ad : Nat → Nat} {G : gG} {a0 : Nat} {a1 : Int32} {ao : Nat} {S S1 : gS} {T T1 : gT} (h : f_X5_renderHabits G a0 a1 S T = some (.inl "java/lang/IndexOutOfBoundsException", S1, T1)) (hx : gis G 2 a0) : Ct ad yL_renderHabits (Cond.codeWith yL_renderHabits cL_renderHabits 4 (some .int) hh_L_renderHabits :: gTb) 12 1 6 [.ref a0, .int a1, .ref ao] G S T (some (.int 1)) G S1 T1 := by
  refine Ct.ofH rfl (Nat.le_of_ble_eq_true rfl) rfl ca_L_renderHabits.1 (fun K g e hK => ?_)
  obtain ⟨rfl, -, ht⟩ := hK
  show Xj K [] G 0 [some (.ref a0), some (.int a1), some (.ref ao), none] [] S T 1 6
  refine x_aload_n 2 g dL_renderHabits_0 rfl rfl ?_
  refine x_iconst g dL_renderHabits_1 rfl ?_
  refine x_aload_n 0 g dL_renderHabits_2 rfl rfl ?_
  refine x_iload_n 1 g dL_renderHabits_3 rfl rfl ?_
  refine x_catV [] (0, 9, 12, 21) [] g (t_X5_renderHabits h) ca_X5_renderHabits in_X5_renderHabits se_X5_renderHabits lm_L_136 gXX5 hx (Nat.le_of_ble_eq_true rfl) (Nat.le_refl _) (Nat.le_refl _) rfl rfl (Nat.le_of_ble_eq_true rfl) dL_renderHabits_4 ht rfl (fun z hz => by cases hz) ⟨by decide, by decide⟩ (by decide) cl_L_21 (by decide) (fun q => ?_)
  refine x_astore_n 3 g dL_renderHabits_12 rfl (Nat.le_of_ble_eq_true rfl) rfl ?_
  refine x_iconst g dL_renderHabits_13 rfl ?_
  exact x_iret g e dL_renderHabits_14
set_option maxRecDepth 100000 in
theorem k_L_renderUmbrella {ad : Nat → Nat} {G : gG} {a0 : Nat} {a1 : Int32} {ao : Nat} {S S1 : gS} {T T1 : gT} {r : Int32} (h : f_X5_renderUmbrella G a0 a1 S T = some (.inr r, S1, T1)) (hx : gis G 2 a0) (ho : gis G 10 ao) (hn : gn G ao = 1) : Ct ad yL_renderUmbrella (Cond.codeWith yL_renderUmbrella cL_renderUmbrella 4 (some .int) hh_L_renderUmbrella :: gTb) 12 (gpc T) (gps T) [.ref a0, .int a1, .ref ao] G S T (some (.int 0)) G (sr S1 ao 0 r) T1 := by
  refine Ct.ofH rfl (Nat.le_of_ble_eq_true rfl) rfl ca_L_renderUmbrella.1 (fun K g e hK => ?_)
  obtain ⟨rfl, -, -⟩ := hK
  show Xj K [] G 0 [some (.ref a0), some (.int a1), some (.ref ao), none] [] S T (gpc T) (gps T)
  refine x_aload_n 2 g dL_renderUmbrella_0 rfl rfl ?_
  refine x_iconst g dL_renderUmbrella_1 rfl ?_
  refine x_aload_n 0 g dL_renderUmbrella_2 rfl rfl ?_
  refine x_iload_n 1 g dL_renderUmbrella_3 rfl rfl ?_
  refine x_cVb [.int r, .int 0, .ref ao] g (k_X5_renderUmbrella h) ca_X5_renderUmbrella in_X5_renderUmbrella se_X5_renderUmbrella lm_L_139 gXX5 hx (Nat.le_of_ble_eq_true rfl) (Nat.le_refl _) (Nat.le_refl _) rfl rfl (Nat.le_of_ble_eq_true rfl) dL_renderUmbrella_4 rfl ?_
  refine x_i2l g dL_renderUmbrella_7 rfl ?_
  refine x_last g dL_renderUmbrella_8 ho (vp_01 hn) ?_
  refine x_goto 15 g dL_renderUmbrella_9 rfl ?_
  refine x_iconst g dL_renderUmbrella_15 rfl ?_
  exact x_iret g e dL_renderUmbrella_16
set_option maxRecDepth 100000 in
theorem t_L_renderUmbrella_1 {ad : Nat → Nat} {G : gG} {a0 : Nat} {a1 : Int32} {ao : Nat} {S S1 : gS} {T T1 : gT} (h : f_X5_renderUmbrella G a0 a1 S T = some (.inl "java/lang/IndexOutOfBoundsException", S1, T1)) (hx : gis G 2 a0) : Ct ad yL_renderUmbrella (Cond.codeWith yL_renderUmbrella cL_renderUmbrella 4 (some .int) hh_L_renderUmbrella :: gTb) 12 1 6 [.ref a0, .int a1, .ref ao] G S T (some (.int 1)) G S1 T1 := by
  refine Ct.ofH rfl (Nat.le_of_ble_eq_true rfl) rfl ca_L_renderUmbrella.1 (fun K g e hK => ?_)
  obtain ⟨rfl, -, ht⟩ := hK
  show Xj K [] G 0 [some (.ref a0), some (.int a1), some (.ref ao), none] [] S T 1 6
  refine x_aload_n 2 g dL_renderUmbrella_0 rfl rfl ?_
  refine x_iconst g dL_renderUmbrella_1 rfl ?_
  refine x_aload_n 0 g dL_renderUmbrella_2 rfl rfl ?_
  refine x_iload_n 1 g dL_renderUmbrella_3 rfl rfl ?_
  refine x_catV [] (0, 9, 12, 21) [] g (t_X5_renderUmbrella h) ca_X5_renderUmbrella in_X5_renderUmbrella se_X5_renderUmbrella lm_L_139 gXX5 hx (Nat.le_of_ble_eq_true rfl) (Nat.le_refl _) (Nat.le_refl _) rfl rfl (Nat.le_of_ble_eq_true rfl) dL_renderUmbrella_4 ht rfl (fun z hz => by cases hz) ⟨by decide, by decide⟩ (by decide) cl_L_21 (by decide) (fun q => ?_)
  refine x_astore_n 3 g dL_renderUmbrella_12 rfl (Nat.le_of_ble_eq_true rfl) rfl ?_
  refine x_iconst g dL_renderUmbrella_13 rfl ?_
  exact x_iret g e dL_renderUmbrella_14
set_option maxRecDepth 100000 in
theorem k_L_restore {ad : Nat → Nat} {G : gG} {a0 : Nat}  {ao : Nat} {S S1 : gS} {T : gT} {r : Int32} (h : f_X5_restore G a0 S = some (.inr r, S1)) (hx : gis G 2 a0) (ho : gis G 10 ao) (hn : gn G ao = 1) : Ct ad yL_restore (Cond.codeWith yL_restore cL_restore 3 (some .int) hh_L_restore :: gTb) 12 0 0 [.ref a0, .ref ao] G S T (some (.int 0)) G (sr S1 ao 0 r) T := by
  refine Ct.ofH rfl (Nat.le_of_ble_eq_true rfl) rfl ca_L_restore.1 (fun K g e hK => ?_)
  obtain ⟨rfl, -, -⟩ := hK
  show Xj K [] G 0 [some (.ref a0), some (.ref ao), none] [] S T 0 0
  refine x_aload_n 1 g dL_restore_0 rfl rfl ?_
  refine x_iconst g dL_restore_1 rfl ?_
  refine x_aload_n 0 g dL_restore_2 rfl rfl ?_
  refine x_cVb [.int r, .int 0, .ref ao] g (k_X5_restore h) ca_X5_restore in_X5_restore se_X5_restore lm_L_162 gXX5 hx (Nat.le_of_ble_eq_true rfl) (Nat.zero_le _) (Nat.zero_le _) rfl rfl (Nat.le_of_ble_eq_true rfl) dL_restore_3 rfl ?_
  refine x_i2l g dL_restore_6 rfl ?_
  refine x_last g dL_restore_7 ho (vp_01 hn) ?_
  refine x_goto 14 g dL_restore_8 rfl ?_
  refine x_iconst g dL_restore_14 rfl ?_
  exact x_iret g e dL_restore_15
set_option maxRecDepth 100000 in
theorem t_L_restore_1 {ad : Nat → Nat} {G : gG} {a0 : Nat}  {ao : Nat} {S S1 : gS} {T : gT} (h : f_X5_restore G a0 S = some (.inl "java/lang/IllegalStateException", S1)) (hx : gis G 2 a0) : Ct ad yL_restore (Cond.codeWith yL_restore cL_restore 3 (some .int) hh_L_restore :: gTb) 12 1 6 [.ref a0, .ref ao] G S T (some (.int 1)) G S1 T := by
  refine Ct.ofH rfl (Nat.le_of_ble_eq_true rfl) rfl ca_L_restore.1 (fun K g e hK => ?_)
  obtain ⟨rfl, -, ht⟩ := hK
  show Xj K [] G 0 [some (.ref a0), some (.ref ao), none] [] S T 1 6
  refine x_aload_n 1 g dL_restore_0 rfl rfl ?_
  refine x_iconst g dL_restore_1 rfl ?_
  refine x_aload_n 0 g dL_restore_2 rfl rfl ?_
  refine x_catV [] (0, 8, 11, 15) [] g (t_X5_restore h) ca_X5_restore in_X5_restore se_X5_restore lm_L_162 gXX5 hx (Nat.le_of_ble_eq_true rfl) (Nat.le_refl _) (Nat.le_refl _) rfl rfl (Nat.le_of_ble_eq_true rfl) dL_restore_3 ht rfl (fun z hz => by cases hz) ⟨by decide, by decide⟩ (by decide) cl_L_15 (by decide) (fun q => ?_)
  refine x_astore_n 2 g dL_restore_11 rfl (Nat.le_of_ble_eq_true rfl) rfl ?_
  refine x_iconst g dL_restore_12 rfl ?_
  exact x_iret g e dL_restore_13
set_option maxRecDepth 100000 in
theorem k_L_reward {ad : Nat → Nat} {G : gG} {a0 : Nat} {a1 : Int32} {a2 : Int32} {a3 : Bool} {ao : Nat} {S : gS} {T : gT} {r : Int32} (h : f_X5_reward G a0 a1 a2 a3 S = some (.inr r)) (hx : gis G 2 a0) (ho : gis G 10 ao) (hn : gn G ao = 1) : Ct ad yL_reward (Cond.codeWith yL_reward cL_reward 6 (some .int) hh_L_reward :: gTb) 12 0 0 [.ref a0, .int a1, .int a2, .int (gz a3), .ref ao] G S T (some (.int 0)) G (sr S ao 0 r) T := by
  refine Ct.ofH rfl (Nat.le_of_ble_eq_true rfl) rfl ca_L_reward.1 (fun K g e hK => ?_)
  obtain ⟨rfl, -, -⟩ := hK
  show Xj K [] G 0 [some (.ref a0), some (.int a1), some (.int a2), some (.int (gz a3)), some (.ref ao), none] [] S T 0 0
  refine x_aload g dL_reward_0 rfl ?_
  refine x_iconst g dL_reward_2 rfl ?_
  refine x_aload_n 0 g dL_reward_3 rfl rfl ?_
  refine x_iload_n 1 g dL_reward_4 rfl rfl ?_
  refine x_iload_n 2 g dL_reward_5 rfl rfl ?_
  refine x_iload_n 3 g dL_reward_6 rfl rfl ?_
  refine x_cVb [.int r, .int 0, .ref ao] g (k_X5_reward h) ca_X5_reward in_X5_reward se_X5_reward lm_L_67 gXX5 hx (Nat.le_of_ble_eq_true rfl) (Nat.zero_le _) (Nat.zero_le _) rfl rfl (Nat.le_of_ble_eq_true rfl) dL_reward_7 rfl ?_
  refine x_i2l g dL_reward_10 rfl ?_
  refine x_last g dL_reward_11 ho (vp_01 hn) ?_
  refine x_goto 19 g dL_reward_12 rfl ?_
  refine x_iconst g dL_reward_19 rfl ?_
  exact x_iret g e dL_reward_20
set_option maxRecDepth 100000 in
theorem t_L_reward_1 {ad : Nat → Nat} {G : gG} {a0 : Nat} {a1 : Int32} {a2 : Int32} {a3 : Bool} {ao : Nat} {S : gS} {T : gT} (h : f_X5_reward G a0 a1 a2 a3 S = some (.inl "java/lang/IllegalArgumentException")) (hx : gis G 2 a0) : Ct ad yL_reward (Cond.codeWith yL_reward cL_reward 6 (some .int) hh_L_reward :: gTb) 12 1 6 [.ref a0, .int a1, .int a2, .int (gz a3), .ref ao] G S T (some (.int 1)) G S T := by
  refine Ct.ofH rfl (Nat.le_of_ble_eq_true rfl) rfl ca_L_reward.1 (fun K g e hK => ?_)
  obtain ⟨rfl, -, ht⟩ := hK
  show Xj K [] G 0 [some (.ref a0), some (.int a1), some (.int a2), some (.int (gz a3)), some (.ref ao), none] [] S T 1 6
  refine x_aload g dL_reward_0 rfl ?_
  refine x_iconst g dL_reward_2 rfl ?_
  refine x_aload_n 0 g dL_reward_3 rfl rfl ?_
  refine x_iload_n 1 g dL_reward_4 rfl rfl ?_
  refine x_iload_n 2 g dL_reward_5 rfl rfl ?_
  refine x_iload_n 3 g dL_reward_6 rfl rfl ?_
  refine x_catV [] (0, 12, 15, 13) [] g (t_X5_reward h) ca_X5_reward in_X5_reward se_X5_reward lm_L_67 gXX5 hx (Nat.le_of_ble_eq_true rfl) (Nat.le_refl _) (Nat.le_refl _) rfl rfl (Nat.le_of_ble_eq_true rfl) dL_reward_7 ht rfl (fun z hz => by cases hz) ⟨by decide, by decide⟩ (by decide) cl_L_13 (by decide) (fun q => ?_)
  refine x_astore g dL_reward_15 (Nat.le_of_ble_eq_true rfl) rfl ?_
  refine x_iconst g dL_reward_17 rfl ?_
  exact x_iret g e dL_reward_18
set_option maxRecDepth 100000 in
theorem k_L_rewardSum {ad : Nat → Nat} {G : gG} {a0 : Nat} {a1 : Int32} {a2 : Int32} {a3 : Int32} {a4 : Bool} {ao : Nat} {S : gS} {T : gT} {r : Int32} (h : f_X5_rewardSum G a0 a1 a2 a3 a4 S = some (.inr r)) (hx : gis G 2 a0) (ho : gis G 10 ao) (hn : gn G ao = 1) : Ct ad yL_rewardSum (Cond.codeWith yL_rewardSum cL_rewardSum 7 (some .int) hh_L_rewardSum :: gTb) 12 0 0 [.ref a0, .int a1, .int a2, .int a3, .int (gz a4), .ref ao] G S T (some (.int 0)) G (sr S ao 0 r) T := by
  refine Ct.ofH rfl (Nat.le_of_ble_eq_true rfl) rfl ca_L_rewardSum.1 (fun K g e hK => ?_)
  obtain ⟨rfl, -, -⟩ := hK
  show Xj K [] G 0 [some (.ref a0), some (.int a1), some (.int a2), some (.int a3), some (.int (gz a4)), some (.ref ao), none] [] S T 0 0
  refine x_aload g dL_rewardSum_0 rfl ?_
  refine x_iconst g dL_rewardSum_2 rfl ?_
  refine x_aload_n 0 g dL_rewardSum_3 rfl rfl ?_
  refine x_iload_n 1 g dL_rewardSum_4 rfl rfl ?_
  refine x_iload_n 2 g dL_rewardSum_5 rfl rfl ?_
  refine x_iload_n 3 g dL_rewardSum_6 rfl rfl ?_
  refine x_iload g dL_rewardSum_7 rfl ?_
  refine x_cVb [.int r, .int 0, .ref ao] g (k_X5_rewardSum h) ca_X5_rewardSum in_X5_rewardSum se_X5_rewardSum lm_L_86 gXX5 hx (Nat.le_of_ble_eq_true rfl) (Nat.zero_le _) (Nat.zero_le _) rfl rfl (Nat.le_of_ble_eq_true rfl) dL_rewardSum_9 rfl ?_
  refine x_i2l g dL_rewardSum_12 rfl ?_
  refine x_last g dL_rewardSum_13 ho (vp_01 hn) ?_
  refine x_goto 25 g dL_rewardSum_14 rfl ?_
  refine x_iconst g dL_rewardSum_25 rfl ?_
  exact x_iret g e dL_rewardSum_26
set_option maxRecDepth 100000 in
theorem t_L_rewardSum_1 {ad : Nat → Nat} {G : gG} {a0 : Nat} {a1 : Int32} {a2 : Int32} {a3 : Int32} {a4 : Bool} {ao : Nat} {S : gS} {T : gT} (h : f_X5_rewardSum G a0 a1 a2 a3 a4 S = some (.inl "java/lang/IndexOutOfBoundsException")) (hx : gis G 2 a0) : Ct ad yL_rewardSum (Cond.codeWith yL_rewardSum cL_rewardSum 7 (some .int) hh_L_rewardSum :: gTb) 12 1 6 [.ref a0, .int a1, .int a2, .int a3, .int (gz a4), .ref ao] G S T (some (.int 1)) G S T := by
  refine Ct.ofH rfl (Nat.le_of_ble_eq_true rfl) rfl ca_L_rewardSum.1 (fun K g e hK => ?_)
  obtain ⟨rfl, -, ht⟩ := hK
  show Xj K [] G 0 [some (.ref a0), some (.int a1), some (.int a2), some (.int a3), some (.int (gz a4)), some (.ref ao), none] [] S T 1 6
  refine x_aload g dL_rewardSum_0 rfl ?_
  refine x_iconst g dL_rewardSum_2 rfl ?_
  refine x_aload_n 0 g dL_rewardSum_3 rfl rfl ?_
  refine x_iload_n 1 g dL_rewardSum_4 rfl rfl ?_
  refine x_iload_n 2 g dL_rewardSum_5 rfl rfl ?_
  refine x_iload_n 3 g dL_rewardSum_6 rfl rfl ?_
  refine x_iload g dL_rewardSum_7 rfl ?_
  refine x_catV [] (0, 14, 17, 21) [(0, 14, 21, 13)] g (t_X5_rewardSum h) ca_X5_rewardSum in_X5_rewardSum se_X5_rewardSum lm_L_86 gXX5 hx (Nat.le_of_ble_eq_true rfl) (Nat.le_refl _) (Nat.le_refl _) rfl rfl (Nat.le_of_ble_eq_true rfl) dL_rewardSum_9 ht rfl (fun z hz => by cases hz) ⟨by decide, by decide⟩ (by decide) cl_L_21 (by decide) (fun q => ?_)
  refine x_astore g dL_rewardSum_17 (Nat.le_of_ble_eq_true rfl) rfl ?_
  refine x_iconst g dL_rewardSum_19 rfl ?_
  exact x_iret g e dL_rewardSum_20
set_option maxRecDepth 100000 in
theorem t_L_rewardSum_2 {ad : Nat → Nat} {G : gG} {a0 : Nat} {a1 : Int32} {a2 : Int32} {a3 : Int32} {a4 : Bool} {ao : Nat} {S : gS} {T : gT} (h : f_X5_rewardSum G a0 a1 a2 a3 a4 S = some (.inl "java/lang/IllegalArgumentException")) (hx : gis G 2 a0) : Ct ad yL_rewardSum (Cond.codeWith yL_rewardSum cL_rewardSum 7 (some .int) hh_L_rewardSum :: gTb) 12 1 6 [.ref a0, .int a1, .int a2, .int a3, .int (gz a4), .ref ao] G S T (some (.int 2)) G S T := by
  refine Ct.ofH rfl (Nat.le_of_ble_eq_true rfl) rfl ca_L_rewardSum.1 (fun K g e hK => ?_)
  obtain ⟨rfl, -, ht⟩ := hK
  show Xj K [] G 0 [some (.ref a0), some (.int a1), some (.int a2), some (.int a3), some (.int (gz a4)), some (.ref ao), none] [] S T 1 6
  refine x_aload g dL_rewardSum_0 rfl ?_
  refine x_iconst g dL_rewardSum_2 rfl ?_
  refine x_aload_n 0 g dL_rewardSum_3 rfl rfl ?_
  refine x_iload_n 1 g dL_rewardSum_4 rfl rfl ?_
  refine x_iload_n 2 g dL_rewardSum_5 rfl rfl ?_
  refine x_iload_n 3 g dL_rewardSum_6 rfl rfl ?_
  refine x_iload g dL_rewardSum_7 rfl ?_
  refine x_catV [(0, 14, 17, 21)] (0, 14, 21, 13) [] g (t_X5_rewardSum h) ca_X5_rewardSum in_X5_rewardSum se_X5_rewardSum lm_L_86 gXX5 hx (Nat.le_of_ble_eq_true rfl) (Nat.le_refl _) (Nat.le_refl _) rfl rfl (Nat.le_of_ble_eq_true rfl) dL_rewardSum_9 ht rfl (fun z hz => by rw [List.mem_singleton.mp hz]; exact ⟨by decide, _, cl_L_21, by decide⟩) ⟨by decide, by decide⟩ (by decide) cl_L_13 (by decide) (fun q => ?_)
  refine x_astore g dL_rewardSum_21 (Nat.le_of_ble_eq_true rfl) rfl ?_
  refine x_iconst g dL_rewardSum_23 rfl ?_
  exact x_iret g e dL_rewardSum_24
set_option maxRecDepth 100000 in
theorem k_L_rewardSumByTrials {ad : Nat → Nat} {G : gG} {a0 : Nat} {a1 : Int32} {a2 : Int32} {a3 : Int32} {a4 : Bool} {ao : Nat} {S : gS} {T : gT} {r : Int32} (h : f_X5_rewardSumByTrials G a0 a1 a2 a3 a4 S = some (.inr r)) (hx : gis G 2 a0) (ho : gis G 10 ao) (hn : gn G ao = 1) : Ct ad yL_rewardSumByTrials (Cond.codeWith yL_rewardSumByTrials cL_rewardSumByTrials 7 (some .int) hh_L_rewardSumByTrials :: gTb) 12 0 0 [.ref a0, .int a1, .int a2, .int a3, .int (gz a4), .ref ao] G S T (some (.int 0)) G (sr S ao 0 r) T := by
  refine Ct.ofH rfl (Nat.le_of_ble_eq_true rfl) rfl ca_L_rewardSumByTrials.1 (fun K g e hK => ?_)
  obtain ⟨rfl, -, -⟩ := hK
  show Xj K [] G 0 [some (.ref a0), some (.int a1), some (.int a2), some (.int a3), some (.int (gz a4)), some (.ref ao), none] [] S T 0 0
  refine x_aload g dL_rewardSumByTrials_0 rfl ?_
  refine x_iconst g dL_rewardSumByTrials_2 rfl ?_
  refine x_aload_n 0 g dL_rewardSumByTrials_3 rfl rfl ?_
  refine x_iload_n 1 g dL_rewardSumByTrials_4 rfl rfl ?_
  refine x_iload_n 2 g dL_rewardSumByTrials_5 rfl rfl ?_
  refine x_iload_n 3 g dL_rewardSumByTrials_6 rfl rfl ?_
  refine x_iload g dL_rewardSumByTrials_7 rfl ?_
  refine x_cVb [.int r, .int 0, .ref ao] g (k_X5_rewardSumByTrials h) ca_X5_rewardSumByTrials in_X5_rewardSumByTrials se_X5_rewardSumByTrials lm_L_89 gXX5 hx (Nat.le_of_ble_eq_true rfl) (Nat.zero_le _) (Nat.zero_le _) rfl rfl (Nat.le_of_ble_eq_true rfl) dL_rewardSumByTrials_9 rfl ?_
  refine x_i2l g dL_rewardSumByTrials_12 rfl ?_
  refine x_last g dL_rewardSumByTrials_13 ho (vp_01 hn) ?_
  refine x_goto 25 g dL_rewardSumByTrials_14 rfl ?_
  refine x_iconst g dL_rewardSumByTrials_25 rfl ?_
  exact x_iret g e dL_rewardSumByTrials_26
set_option maxRecDepth 100000 in
theorem t_L_rewardSumByTrials_1 {ad : Nat → Nat} {G : gG} {a0 : Nat} {a1 : Int32} {a2 : Int32} {a3 : Int32} {a4 : Bool} {ao : Nat} {S : gS} {T : gT} (h : f_X5_rewardSumByTrials G a0 a1 a2 a3 a4 S = some (.inl "java/lang/IndexOutOfBoundsException")) (hx : gis G 2 a0) : Ct ad yL_rewardSumByTrials (Cond.codeWith yL_rewardSumByTrials cL_rewardSumByTrials 7 (some .int) hh_L_rewardSumByTrials :: gTb) 12 1 6 [.ref a0, .int a1, .int a2, .int a3, .int (gz a4), .ref ao] G S T (some (.int 1)) G S T := by
  refine Ct.ofH rfl (Nat.le_of_ble_eq_true rfl) rfl ca_L_rewardSumByTrials.1 (fun K g e hK => ?_)
  obtain ⟨rfl, -, ht⟩ := hK
  show Xj K [] G 0 [some (.ref a0), some (.int a1), some (.int a2), some (.int a3), some (.int (gz a4)), some (.ref ao), none] [] S T 1 6
  refine x_aload g dL_rewardSumByTrials_0 rfl ?_
  refine x_iconst g dL_rewardSumByTrials_2 rfl ?_
  refine x_aload_n 0 g dL_rewardSumByTrials_3 rfl rfl ?_
  refine x_iload_n 1 g dL_rewardSumByTrials_4 rfl rfl ?_
  refine x_iload_n 2 g dL_rewardSumByTrials_5 rfl rfl ?_
  refine x_iload_n 3 g dL_rewardSumByTrials_6 rfl rfl ?_
  refine x_iload g dL_rewardSumByTrials_7 rfl ?_
  refine x_catV [] (0, 14, 17, 21) [(0, 14, 21, 13)] g (t_X5_rewardSumByTrials h) ca_X5_rewardSumByTrials in_X5_rewardSumByTrials se_X5_rewardSumByTrials lm_L_89 gXX5 hx (Nat.le_of_ble_eq_true rfl) (Nat.le_refl _) (Nat.le_refl _) rfl rfl (Nat.le_of_ble_eq_true rfl) dL_rewardSumByTrials_9 ht rfl (fun z hz => by cases hz) ⟨by decide, by decide⟩ (by decide) cl_L_21 (by decide) (fun q => ?_)
  refine x_astore g dL_rewardSumByTrials_17 (Nat.le_of_ble_eq_true rfl) rfl ?_
  refine x_iconst g dL_rewardSumByTrials_19 rfl ?_
  exact x_iret g e dL_rewardSumByTrials_20
set_option maxRecDepth 100000 in
theorem t_L_rewardSumByTrials_2 {ad : Nat → Nat} {G : gG} {a0 : Nat} {a1 : Int32} {a2 : Int32} {a3 : Int32} {a4 : Bool} {ao : Nat} {S : gS} {T : gT} (h : f_X5_rewardSumByTrials G a0 a1 a2 a3 a4 S = some (.inl "java/lang/IllegalArgumentException")) (hx : gis G 2 a0) : Ct ad yL_rewardSumByTrials (Cond.codeWith yL_rewardSumByTrials cL_rewardSumByTrials 7 (some .int) hh_L_rewardSumByTrials :: gTb) 12 1 6 [.ref a0, .int a1, .int a2, .int a3, .int (gz a4), .ref ao] G S T (some (.int 2)) G S T := by
  refine Ct.ofH rfl (Nat.le_of_ble_eq_true rfl) rfl ca_L_rewardSumByTrials.1 (fun K g e hK => ?_)
  obtain ⟨rfl, -, ht⟩ := hK
  show Xj K [] G 0 [some (.ref a0), some (.int a1), some (.int a2), some (.int a3), some (.int (gz a4)), some (.ref ao), none] [] S T 1 6
  refine x_aload g dL_rewardSumByTrials_0 rfl ?_
  refine x_iconst g dL_rewardSumByTrials_2 rfl ?_
  refine x_aload_n 0 g dL_rewardSumByTrials_3 rfl rfl ?_
  refine x_iload_n 1 g dL_rewardSumByTrials_4 rfl rfl ?_
  refine x_iload_n 2 g dL_rewardSumByTrials_5 rfl rfl ?_
  refine x_iload_n 3 g dL_rewardSumByTrials_6 rfl rfl ?_
  refine x_iload g dL_rewardSumByTrials_7 rfl ?_
  refine x_catV [(0, 14, 17, 21)] (0, 14, 21, 13) [] g (t_X5_rewardSumByTrials h) ca_X5_rewardSumByTrials in_X5_rewardSumByTrials se_X5_rewardSumByTrials lm_L_89 gXX5 hx (Nat.le_of_ble_eq_true rfl) (Nat.le_refl _) (Nat.le_refl _) rfl rfl (Nat.le_of_ble_eq_true rfl) dL_rewardSumByTrials_9 ht rfl (fun z hz => by rw [List.mem_singleton.mp hz]; exact ⟨by decide, _, cl_L_21, by decide⟩) ⟨by decide, by decide⟩ (by decide) cl_L_13 (by decide) (fun q => ?_)
  refine x_astore g dL_rewardSumByTrials_21 (Nat.le_of_ble_eq_true rfl) rfl ?_
  refine x_iconst g dL_rewardSumByTrials_23 rfl ?_
  exact x_iret g e dL_rewardSumByTrials_24
set_option maxRecDepth 100000 in
theorem k_L_rightHabits {ad : Nat → Nat} {G : gG} {a0 : Nat} {a1 : Int32} {ao : Nat} {S : gS} {T : gT} {r : Int32} (h : f_X5_rightHabits G a0 a1 S = some (.inr r)) (hx : gis G 2 a0) (ho : gis G 10 ao) (hn : gn G ao = 1) : Ct ad yL_rightHabits (Cond.codeWith yL_rightHabits cL_rightHabits 4 (some .int) hh_L_rightHabits :: gTb) 12 0 0 [.ref a0, .int a1, .ref ao] G S T (some (.int 0)) G (sr S ao 0 r) T := by
  refine Ct.ofH rfl (Nat.le_of_ble_eq_true rfl) rfl ca_L_rightHabits.1 (fun K g e hK => ?_)
  obtain ⟨rfl, -, -⟩ := hK
  show Xj K [] G 0 [some (.ref a0), some (.int a1), some (.ref ao), none] [] S T 0 0
  refine x_aload_n 2 g dL_rightHabits_0 rfl rfl ?_
  refine x_iconst g dL_rightHabits_1 rfl ?_
  refine x_aload_n 0 g dL_rightHabits_2 rfl rfl ?_
  refine x_iload_n 1 g dL_rightHabits_3 rfl rfl ?_
  refine x_cVb [.int r, .int 0, .ref ao] g (k_X5_rightHabits h) ca_X5_rightHabits in_X5_rightHabits se_X5_rightHabits lm_L_96 gXX5 hx (Nat.le_of_ble_eq_true rfl) (Nat.zero_le _) (Nat.zero_le _) rfl rfl (Nat.le_of_ble_eq_true rfl) dL_rightHabits_4 rfl ?_
  refine x_i2l g dL_rightHabits_7 rfl ?_
  refine x_last g dL_rightHabits_8 ho (vp_01 hn) ?_
  refine x_goto 15 g dL_rightHabits_9 rfl ?_
  refine x_iconst g dL_rightHabits_15 rfl ?_
  exact x_iret g e dL_rightHabits_16
set_option maxRecDepth 100000 in
theorem t_L_rightHabits_1 {ad : Nat → Nat} {G : gG} {a0 : Nat} {a1 : Int32} {ao : Nat} {S : gS} {T : gT} (h : f_X5_rightHabits G a0 a1 S = some (.inl "java/lang/IndexOutOfBoundsException")) (hx : gis G 2 a0) : Ct ad yL_rightHabits (Cond.codeWith yL_rightHabits cL_rightHabits 4 (some .int) hh_L_rightHabits :: gTb) 12 1 6 [.ref a0, .int a1, .ref ao] G S T (some (.int 1)) G S T := by
  refine Ct.ofH rfl (Nat.le_of_ble_eq_true rfl) rfl ca_L_rightHabits.1 (fun K g e hK => ?_)
  obtain ⟨rfl, -, ht⟩ := hK
  show Xj K [] G 0 [some (.ref a0), some (.int a1), some (.ref ao), none] [] S T 1 6
  refine x_aload_n 2 g dL_rightHabits_0 rfl rfl ?_
  refine x_iconst g dL_rightHabits_1 rfl ?_
  refine x_aload_n 0 g dL_rightHabits_2 rfl rfl ?_
  refine x_iload_n 1 g dL_rightHabits_3 rfl rfl ?_
  refine x_catV [] (0, 9, 12, 21) [] g (t_X5_rightHabits h) ca_X5_rightHabits in_X5_rightHabits se_X5_rightHabits lm_L_96 gXX5 hx (Nat.le_of_ble_eq_true rfl) (Nat.le_refl _) (Nat.le_refl _) rfl rfl (Nat.le_of_ble_eq_true rfl) dL_rightHabits_4 ht rfl (fun z hz => by cases hz) ⟨by decide, by decide⟩ (by decide) cl_L_21 (by decide) (fun q => ?_)
  refine x_astore_n 3 g dL_rightHabits_12 rfl (Nat.le_of_ble_eq_true rfl) rfl ?_
  refine x_iconst g dL_rightHabits_13 rfl ?_
  exact x_iret g e dL_rightHabits_14
set_option maxRecDepth 100000 in
theorem k_L_runScript {ad : Nat → Nat} {G : gG} {a0 : Nat}  {ao : Nat} {S S1 : gS} {T T1 : gT} {r : Int32} (h : f_X5_runScript G a0 S T = some (.inr r, S1, T1)) (hx : gis G 2 a0) (ho : gis G 10 ao) (hn : gn G ao = 1) : Ct ad yL_runScript (Cond.codeWith yL_runScript cL_runScript 3 (some .int) hh_L_runScript :: gTb) 12 (gpc T) (gps T) [.ref a0, .ref ao] G S T (some (.int 0)) G (sr S1 ao 0 r) T1 := by
  refine Ct.ofH rfl (Nat.le_of_ble_eq_true rfl) rfl ca_L_runScript.1 (fun K g e hK => ?_)
  obtain ⟨rfl, -, -⟩ := hK
  show Xj K [] G 0 [some (.ref a0), some (.ref ao), none] [] S T (gpc T) (gps T)
  refine x_aload_n 1 g dL_runScript_0 rfl rfl ?_
  refine x_iconst g dL_runScript_1 rfl ?_
  refine x_aload_n 0 g dL_runScript_2 rfl rfl ?_
  refine x_cVb [.int r, .int 0, .ref ao] g (k_X5_runScript h) ca_X5_runScript in_X5_runScript se_X5_runScript lm_L_150 gXX5 hx (Nat.le_of_ble_eq_true rfl) (Nat.le_refl _) (Nat.le_refl _) rfl rfl (Nat.le_of_ble_eq_true rfl) dL_runScript_3 rfl ?_
  refine x_i2l g dL_runScript_6 rfl ?_
  refine x_last g dL_runScript_7 ho (vp_01 hn) ?_
  refine x_goto 17 g dL_runScript_8 rfl ?_
  refine x_iconst g dL_runScript_17 rfl ?_
  exact x_iret g e dL_runScript_18
set_option maxRecDepth 100000 in
theorem t_L_runScript_1 {ad : Nat → Nat} {G : gG} {a0 : Nat}  {ao : Nat} {S S1 : gS} {T T1 : gT} (h : f_X5_runScript G a0 S T = some (.inl "java/lang/IllegalArgumentException", S1, T1)) (hx : gis G 2 a0) : Ct ad yL_runScript (Cond.codeWith yL_runScript cL_runScript 3 (some .int) hh_L_runScript :: gTb) 12 1 6 [.ref a0, .ref ao] G S T (some (.int 1)) G S1 T1 := by
  refine Ct.ofH rfl (Nat.le_of_ble_eq_true rfl) rfl ca_L_runScript.1 (fun K g e hK => ?_)
  obtain ⟨rfl, -, ht⟩ := hK
  show Xj K [] G 0 [some (.ref a0), some (.ref ao), none] [] S T 1 6
  refine x_aload_n 1 g dL_runScript_0 rfl rfl ?_
  refine x_iconst g dL_runScript_1 rfl ?_
  refine x_aload_n 0 g dL_runScript_2 rfl rfl ?_
  refine x_catV [] (0, 8, 11, 13) [(0, 8, 14, 15)] g (t_X5_runScript h) ca_X5_runScript in_X5_runScript se_X5_runScript lm_L_150 gXX5 hx (Nat.le_of_ble_eq_true rfl) (Nat.le_refl _) (Nat.le_refl _) rfl rfl (Nat.le_of_ble_eq_true rfl) dL_runScript_3 ht rfl (fun z hz => by cases hz) ⟨by decide, by decide⟩ (by decide) cl_L_13 (by decide) (fun q => ?_)
  refine x_astore_n 2 g dL_runScript_11 rfl (Nat.le_of_ble_eq_true rfl) rfl ?_
  refine x_iconst g dL_runScript_12 rfl ?_
  exact x_iret g e dL_runScript_13
set_option maxRecDepth 100000 in
theorem t_L_runScript_2 {ad : Nat → Nat} {G : gG} {a0 : Nat}  {ao : Nat} {S S1 : gS} {T T1 : gT} (h : f_X5_runScript G a0 S T = some (.inl "java/lang/IllegalStateException", S1, T1)) (hx : gis G 2 a0) : Ct ad yL_runScript (Cond.codeWith yL_runScript cL_runScript 3 (some .int) hh_L_runScript :: gTb) 12 1 6 [.ref a0, .ref ao] G S T (some (.int 2)) G S1 T1 := by
  refine Ct.ofH rfl (Nat.le_of_ble_eq_true rfl) rfl ca_L_runScript.1 (fun K g e hK => ?_)
  obtain ⟨rfl, -, ht⟩ := hK
  show Xj K [] G 0 [some (.ref a0), some (.ref ao), none] [] S T 1 6
  refine x_aload_n 1 g dL_runScript_0 rfl rfl ?_
  refine x_iconst g dL_runScript_1 rfl ?_
  refine x_aload_n 0 g dL_runScript_2 rfl rfl ?_
  refine x_catV [(0, 8, 11, 13)] (0, 8, 14, 15) [] g (t_X5_runScript h) ca_X5_runScript in_X5_runScript se_X5_runScript lm_L_150 gXX5 hx (Nat.le_of_ble_eq_true rfl) (Nat.le_refl _) (Nat.le_refl _) rfl rfl (Nat.le_of_ble_eq_true rfl) dL_runScript_3 ht rfl (fun z hz => by rw [List.mem_singleton.mp hz]; exact ⟨by decide, _, cl_L_13, by decide⟩) ⟨by decide, by decide⟩ (by decide) cl_L_15 (by decide) (fun q => ?_)
  refine x_astore_n 2 g dL_runScript_14 rfl (Nat.le_of_ble_eq_true rfl) rfl ?_
  refine x_iconst g dL_runScript_15 rfl ?_
  exact x_iret g e dL_runScript_16
set_option maxRecDepth 100000 in
theorem k_L_setGalePenalty {ad : Nat → Nat} {G : gG} {a0 : Nat} {a1 : Int32} {ao : Nat} {S S1 : gS} {T : gT} {r : Int32} (h : f_X5_setGalePenalty G a0 a1 S = some (.inr r, S1)) (hx : gis G 2 a0) (ho : gis G 10 ao) (hn : gn G ao = 1) : Ct ad yL_setGalePenalty (Cond.codeWith yL_setGalePenalty cL_setGalePenalty 4 (some .int) hh_L_setGalePenalty :: gTb) 12 0 0 [.ref a0, .int a1, .ref ao] G S T (some (.int 0)) G (sr S1 ao 0 r) T := by
  refine Ct.ofH rfl (Nat.le_of_ble_eq_true rfl) rfl ca_L_setGalePenalty.1 (fun K g e hK => ?_)
  obtain ⟨rfl, -, -⟩ := hK
  show Xj K [] G 0 [some (.ref a0), some (.int a1), some (.ref ao), none] [] S T 0 0
  refine x_aload_n 2 g dL_setGalePenalty_0 rfl rfl ?_
  refine x_iconst g dL_setGalePenalty_1 rfl ?_
  refine x_aload_n 0 g dL_setGalePenalty_2 rfl rfl ?_
  refine x_iload_n 1 g dL_setGalePenalty_3 rfl rfl ?_
  refine x_cVb [.int r, .int 0, .ref ao] g (k_X5_setGalePenalty h) ca_X5_setGalePenalty in_X5_setGalePenalty se_X5_setGalePenalty lm_L_30 gXX5 hx (Nat.le_of_ble_eq_true rfl) (Nat.zero_le _) (Nat.zero_le _) rfl rfl (Nat.le_of_ble_eq_true rfl) dL_setGalePenalty_4 rfl ?_
  refine x_i2l g dL_setGalePenalty_7 rfl ?_
  refine x_last g dL_setGalePenalty_8 ho (vp_01 hn) ?_
  refine x_goto 15 g dL_setGalePenalty_9 rfl ?_
  refine x_iconst g dL_setGalePenalty_15 rfl ?_
  exact x_iret g e dL_setGalePenalty_16
set_option maxRecDepth 100000 in
theorem t_L_setGalePenalty_1 {ad : Nat → Nat} {G : gG} {a0 : Nat} {a1 : Int32} {ao : Nat} {S S1 : gS} {T : gT} (h : f_X5_setGalePenalty G a0 a1 S = some (.inl "java/lang/IllegalArgumentException", S1)) (hx : gis G 2 a0) : Ct ad yL_setGalePenalty (Cond.codeWith yL_setGalePenalty cL_setGalePenalty 4 (some .int) hh_L_setGalePenalty :: gTb) 12 1 6 [.ref a0, .int a1, .ref ao] G S T (some (.int 1)) G S1 T := by
  refine Ct.ofH rfl (Nat.le_of_ble_eq_true rfl) rfl ca_L_setGalePenalty.1 (fun K g e hK => ?_)
  obtain ⟨rfl, -, ht⟩ := hK
  show Xj K [] G 0 [some (.ref a0), some (.int a1), some (.ref ao), none] [] S T 1 6
  refine x_aload_n 2 g dL_setGalePenalty_0 rfl rfl ?_
  refine x_iconst g dL_setGalePenalty_1 rfl ?_
  refine x_aload_n 0 g dL_setGalePenalty_2 rfl rfl ?_
  refine x_iload_n 1 g dL_setGalePenalty_3 rfl rfl ?_
  refine x_catV [] (0, 9, 12, 13) [] g (t_X5_setGalePenalty h) ca_X5_setGalePenalty in_X5_setGalePenalty se_X5_setGalePenalty lm_L_30 gXX5 hx (Nat.le_of_ble_eq_true rfl) (Nat.le_refl _) (Nat.le_refl _) rfl rfl (Nat.le_of_ble_eq_true rfl) dL_setGalePenalty_4 ht rfl (fun z hz => by cases hz) ⟨by decide, by decide⟩ (by decide) cl_L_13 (by decide) (fun q => ?_)
  refine x_astore_n 3 g dL_setGalePenalty_12 rfl (Nat.le_of_ble_eq_true rfl) rfl ?_
  refine x_iconst g dL_setGalePenalty_13 rfl ?_
  exact x_iret g e dL_setGalePenalty_14
set_option maxRecDepth 100000 in
theorem k_L_setPeriod {ad : Nat → Nat} {G : gG} {a0 : Nat} {a1 : Int32} {a2 : Int32} {ao : Nat} {S S1 : gS} {T : gT} {r : Int32} (h : f_X5_setPeriod G a0 a1 a2 S = some (.inr r, S1)) (hx : gis G 2 a0) (ho : gis G 10 ao) (hn : gn G ao = 1) : Ct ad yL_setPeriod (Cond.codeWith yL_setPeriod cL_setPeriod 5 (some .int) hh_L_setPeriod :: gTb) 12 0 0 [.ref a0, .int a1, .int a2, .ref ao] G S T (some (.int 0)) G (sr S1 ao 0 r) T := by
  refine Ct.ofH rfl (Nat.le_of_ble_eq_true rfl) rfl ca_L_setPeriod.1 (fun K g e hK => ?_)
  obtain ⟨rfl, -, -⟩ := hK
  show Xj K [] G 0 [some (.ref a0), some (.int a1), some (.int a2), some (.ref ao), none] [] S T 0 0
  refine x_aload_n 3 g dL_setPeriod_0 rfl rfl ?_
  refine x_iconst g dL_setPeriod_1 rfl ?_
  refine x_aload_n 0 g dL_setPeriod_2 rfl rfl ?_
  refine x_iload_n 1 g dL_setPeriod_3 rfl rfl ?_
  refine x_iload_n 2 g dL_setPeriod_4 rfl rfl ?_
  refine x_cVb [.int r, .int 0, .ref ao] g (k_X5_setPeriod h) ca_X5_setPeriod in_X5_setPeriod se_X5_setPeriod lm_L_23 gXX5 hx (Nat.le_of_ble_eq_true rfl) (Nat.zero_le _) (Nat.zero_le _) rfl rfl (Nat.le_of_ble_eq_true rfl) dL_setPeriod_5 rfl ?_
  refine x_i2l g dL_setPeriod_8 rfl ?_
  refine x_last g dL_setPeriod_9 ho (vp_01 hn) ?_
  refine x_goto 21 g dL_setPeriod_10 rfl ?_
  refine x_iconst g dL_setPeriod_21 rfl ?_
  exact x_iret g e dL_setPeriod_22
set_option maxRecDepth 100000 in
theorem t_L_setPeriod_1 {ad : Nat → Nat} {G : gG} {a0 : Nat} {a1 : Int32} {a2 : Int32} {ao : Nat} {S S1 : gS} {T : gT} (h : f_X5_setPeriod G a0 a1 a2 S = some (.inl "java/lang/IndexOutOfBoundsException", S1)) (hx : gis G 2 a0) : Ct ad yL_setPeriod (Cond.codeWith yL_setPeriod cL_setPeriod 5 (some .int) hh_L_setPeriod :: gTb) 12 1 6 [.ref a0, .int a1, .int a2, .ref ao] G S T (some (.int 1)) G S1 T := by
  refine Ct.ofH rfl (Nat.le_of_ble_eq_true rfl) rfl ca_L_setPeriod.1 (fun K g e hK => ?_)
  obtain ⟨rfl, -, ht⟩ := hK
  show Xj K [] G 0 [some (.ref a0), some (.int a1), some (.int a2), some (.ref ao), none] [] S T 1 6
  refine x_aload_n 3 g dL_setPeriod_0 rfl rfl ?_
  refine x_iconst g dL_setPeriod_1 rfl ?_
  refine x_aload_n 0 g dL_setPeriod_2 rfl rfl ?_
  refine x_iload_n 1 g dL_setPeriod_3 rfl rfl ?_
  refine x_iload_n 2 g dL_setPeriod_4 rfl rfl ?_
  refine x_catV [] (0, 10, 13, 21) [(0, 10, 17, 13)] g (t_X5_setPeriod h) ca_X5_setPeriod in_X5_setPeriod se_X5_setPeriod lm_L_23 gXX5 hx (Nat.le_of_ble_eq_true rfl) (Nat.le_refl _) (Nat.le_refl _) rfl rfl (Nat.le_of_ble_eq_true rfl) dL_setPeriod_5 ht rfl (fun z hz => by cases hz) ⟨by decide, by decide⟩ (by decide) cl_L_21 (by decide) (fun q => ?_)
  refine x_astore g dL_setPeriod_13 (Nat.le_of_ble_eq_true rfl) rfl ?_
  refine x_iconst g dL_setPeriod_15 rfl ?_
  exact x_iret g e dL_setPeriod_16
set_option maxRecDepth 100000 in
theorem t_L_setPeriod_2 {ad : Nat → Nat} {G : gG} {a0 : Nat} {a1 : Int32} {a2 : Int32} {ao : Nat} {S S1 : gS} {T : gT} (h : f_X5_setPeriod G a0 a1 a2 S = some (.inl "java/lang/IllegalArgumentException", S1)) (hx : gis G 2 a0) : Ct ad yL_setPeriod (Cond.codeWith yL_setPeriod cL_setPeriod 5 (some .int) hh_L_setPeriod :: gTb) 12 1 6 [.ref a0, .int a1, .int a2, .ref ao] G S T (some (.int 2)) G S1 T := by
  refine Ct.ofH rfl (Nat.le_of_ble_eq_true rfl) rfl ca_L_setPeriod.1 (fun K g e hK => ?_)
  obtain ⟨rfl, -, ht⟩ := hK
  show Xj K [] G 0 [some (.ref a0), some (.int a1), some (.int a2), some (.ref ao), none] [] S T 1 6
  refine x_aload_n 3 g dL_setPeriod_0 rfl rfl ?_
  refine x_iconst g dL_setPeriod_1 rfl ?_
  refine x_aload_n 0 g dL_setPeriod_2 rfl rfl ?_
  refine x_iload_n 1 g dL_setPeriod_3 rfl rfl ?_
  refine x_iload_n 2 g dL_setPeriod_4 rfl rfl ?_
  refine x_catV [(0, 10, 13, 21)] (0, 10, 17, 13) [] g (t_X5_setPeriod h) ca_X5_setPeriod in_X5_setPeriod se_X5_setPeriod lm_L_23 gXX5 hx (Nat.le_of_ble_eq_true rfl) (Nat.le_refl _) (Nat.le_refl _) rfl rfl (Nat.le_of_ble_eq_true rfl) dL_setPeriod_5 ht rfl (fun z hz => by rw [List.mem_singleton.mp hz]; exact ⟨by decide, _, cl_L_21, by decide⟩) ⟨by decide, by decide⟩ (by decide) cl_L_13 (by decide) (fun q => ?_)
  refine x_astore g dL_setPeriod_17 (Nat.le_of_ble_eq_true rfl) rfl ?_
  refine x_iconst g dL_setPeriod_19 rfl ?_
  exact x_iret g e dL_setPeriod_20
set_option maxRecDepth 100000 in
theorem k_L_setWetPenalty {ad : Nat → Nat} {G : gG} {a0 : Nat} {a1 : Int32} {ao : Nat} {S S1 : gS} {T : gT} {r : Int32} (h : f_X5_setWetPenalty G a0 a1 S = some (.inr r, S1)) (hx : gis G 2 a0) (ho : gis G 10 ao) (hn : gn G ao = 1) : Ct ad yL_setWetPenalty (Cond.codeWith yL_setWetPenalty cL_setWetPenalty 4 (some .int) hh_L_setWetPenalty :: gTb) 12 0 0 [.ref a0, .int a1, .ref ao] G S T (some (.int 0)) G (sr S1 ao 0 r) T := by
  refine Ct.ofH rfl (Nat.le_of_ble_eq_true rfl) rfl ca_L_setWetPenalty.1 (fun K g e hK => ?_)
  obtain ⟨rfl, -, -⟩ := hK
  show Xj K [] G 0 [some (.ref a0), some (.int a1), some (.ref ao), none] [] S T 0 0
  refine x_aload_n 2 g dL_setWetPenalty_0 rfl rfl ?_
  refine x_iconst g dL_setWetPenalty_1 rfl ?_
  refine x_aload_n 0 g dL_setWetPenalty_2 rfl rfl ?_
  refine x_iload_n 1 g dL_setWetPenalty_3 rfl rfl ?_
  refine x_cVb [.int r, .int 0, .ref ao] g (k_X5_setWetPenalty h) ca_X5_setWetPenalty in_X5_setWetPenalty se_X5_setWetPenalty lm_L_27 gXX5 hx (Nat.le_of_ble_eq_true rfl) (Nat.zero_le _) (Nat.zero_le _) rfl rfl (Nat.le_of_ble_eq_true rfl) dL_setWetPenalty_4 rfl ?_
  refine x_i2l g dL_setWetPenalty_7 rfl ?_
  refine x_last g dL_setWetPenalty_8 ho (vp_01 hn) ?_
  refine x_goto 15 g dL_setWetPenalty_9 rfl ?_
  refine x_iconst g dL_setWetPenalty_15 rfl ?_
  exact x_iret g e dL_setWetPenalty_16
set_option maxRecDepth 100000 in
theorem t_L_setWetPenalty_1 {ad : Nat → Nat} {G : gG} {a0 : Nat} {a1 : Int32} {ao : Nat} {S S1 : gS} {T : gT} (h : f_X5_setWetPenalty G a0 a1 S = some (.inl "java/lang/IllegalArgumentException", S1)) (hx : gis G 2 a0) : Ct ad yL_setWetPenalty (Cond.codeWith yL_setWetPenalty cL_setWetPenalty 4 (some .int) hh_L_setWetPenalty :: gTb) 12 1 6 [.ref a0, .int a1, .ref ao] G S T (some (.int 1)) G S1 T := by
  refine Ct.ofH rfl (Nat.le_of_ble_eq_true rfl) rfl ca_L_setWetPenalty.1 (fun K g e hK => ?_)
  obtain ⟨rfl, -, ht⟩ := hK
  show Xj K [] G 0 [some (.ref a0), some (.int a1), some (.ref ao), none] [] S T 1 6
  refine x_aload_n 2 g dL_setWetPenalty_0 rfl rfl ?_
  refine x_iconst g dL_setWetPenalty_1 rfl ?_
  refine x_aload_n 0 g dL_setWetPenalty_2 rfl rfl ?_
  refine x_iload_n 1 g dL_setWetPenalty_3 rfl rfl ?_
  refine x_catV [] (0, 9, 12, 13) [] g (t_X5_setWetPenalty h) ca_X5_setWetPenalty in_X5_setWetPenalty se_X5_setWetPenalty lm_L_27 gXX5 hx (Nat.le_of_ble_eq_true rfl) (Nat.le_refl _) (Nat.le_refl _) rfl rfl (Nat.le_of_ble_eq_true rfl) dL_setWetPenalty_4 ht rfl (fun z hz => by cases hz) ⟨by decide, by decide⟩ (by decide) cl_L_13 (by decide) (fun q => ?_)
  refine x_astore_n 3 g dL_setWetPenalty_12 rfl (Nat.le_of_ble_eq_true rfl) rfl ?_
  refine x_iconst g dL_setWetPenalty_13 rfl ?_
  exact x_iret g e dL_setWetPenalty_14
set_option maxRecDepth 100000 in
theorem k_L_shouldOpen {ad : Nat → Nat} {G : gG} {a0 : Nat} {a1 : Int32} {a2 : Int32} {ao : Nat} {S : gS} {T : gT} {r : Bool} (h : f_X5_shouldOpen G a0 a1 a2 S = some (.inr r)) (hx : gis G 2 a0) (ho : gis G 10 ao) (hn : gn G ao = 1) : Ct ad yL_shouldOpen (Cond.codeWith yL_shouldOpen cL_shouldOpen 5 (some .int) hh_L_shouldOpen :: gTb) 12 0 0 [.ref a0, .int a1, .int a2, .ref ao] G S T (some (.int 0)) G (sr S ao 0 (gz r)) T := by
  refine Ct.ofH rfl (Nat.le_of_ble_eq_true rfl) rfl ca_L_shouldOpen.1 (fun K g e hK => ?_)
  obtain ⟨rfl, -, -⟩ := hK
  show Xj K [] G 0 [some (.ref a0), some (.int a1), some (.int a2), some (.ref ao), none] [] S T 0 0
  refine x_aload_n 3 g dL_shouldOpen_0 rfl rfl ?_
  refine x_iconst g dL_shouldOpen_1 rfl ?_
  refine x_aload_n 0 g dL_shouldOpen_2 rfl rfl ?_
  refine x_iload_n 1 g dL_shouldOpen_3 rfl rfl ?_
  refine x_iload_n 2 g dL_shouldOpen_4 rfl rfl ?_
  refine x_cVb [.int (gz r), .int 0, .ref ao] g (k_X5_shouldOpen h) ca_X5_shouldOpen in_X5_shouldOpen se_X5_shouldOpen lm_L_71 gXX5 hx (Nat.le_of_ble_eq_true rfl) (Nat.zero_le _) (Nat.zero_le _) rfl rfl (Nat.le_of_ble_eq_true rfl) dL_shouldOpen_5 rfl ?_
  cases r with
  | false =>
    refine x_if_eq 15 g dL_shouldOpen_8 rfl (fun _ => ?_) (fun z => absurd rfl z)
    refine x_lconst (v := (0 : Int32).toInt64) g dL_shouldOpen_15 (by decide) ?_
    refine x_last (v := 0) g dL_shouldOpen_16 ho (vp_01 hn) ?_
    refine x_goto 24 g dL_shouldOpen_17 rfl ?_
    refine x_iconst g dL_shouldOpen_24 rfl ?_
    exact x_iret g e dL_shouldOpen_25
  | true =>
    refine x_if_eq 15 g dL_shouldOpen_8 rfl (fun z => absurd z (by decide)) (fun _ => ?_)
    refine x_lconst (v := (1 : Int32).toInt64) g dL_shouldOpen_11 (by decide) ?_
    refine x_goto 16 g dL_shouldOpen_12 rfl ?_
    refine x_last (v := 1) g dL_shouldOpen_16 ho (vp_01 hn) ?_
    refine x_goto 24 g dL_shouldOpen_17 rfl ?_
    refine x_iconst g dL_shouldOpen_24 rfl ?_
    exact x_iret g e dL_shouldOpen_25
set_option maxRecDepth 100000 in
theorem t_L_shouldOpen_1 {ad : Nat → Nat} {G : gG} {a0 : Nat} {a1 : Int32} {a2 : Int32} {ao : Nat} {S : gS} {T : gT} (h : f_X5_shouldOpen G a0 a1 a2 S = some (.inl "java/lang/IllegalArgumentException")) (hx : gis G 2 a0) : Ct ad yL_shouldOpen (Cond.codeWith yL_shouldOpen cL_shouldOpen 5 (some .int) hh_L_shouldOpen :: gTb) 12 1 6 [.ref a0, .int a1, .int a2, .ref ao] G S T (some (.int 1)) G S T := by
  refine Ct.ofH rfl (Nat.le_of_ble_eq_true rfl) rfl ca_L_shouldOpen.1 (fun K g e hK => ?_)
  obtain ⟨rfl, -, ht⟩ := hK
  show Xj K [] G 0 [some (.ref a0), some (.int a1), some (.int a2), some (.ref ao), none] [] S T 1 6
  refine x_aload_n 3 g dL_shouldOpen_0 rfl rfl ?_
  refine x_iconst g dL_shouldOpen_1 rfl ?_
  refine x_aload_n 0 g dL_shouldOpen_2 rfl rfl ?_
  refine x_iload_n 1 g dL_shouldOpen_3 rfl rfl ?_
  refine x_iload_n 2 g dL_shouldOpen_4 rfl rfl ?_
  refine x_catV [] (0, 17, 20, 13) [] g (t_X5_shouldOpen h) ca_X5_shouldOpen in_X5_shouldOpen se_X5_shouldOpen lm_L_71 gXX5 hx (Nat.le_of_ble_eq_true rfl) (Nat.le_refl _) (Nat.le_refl _) rfl rfl (Nat.le_of_ble_eq_true rfl) dL_shouldOpen_5 ht rfl (fun z hz => by cases hz) ⟨by decide, by decide⟩ (by decide) cl_L_13 (by decide) (fun q => ?_)
  refine x_astore g dL_shouldOpen_20 (Nat.le_of_ble_eq_true rfl) rfl ?_
  refine x_iconst g dL_shouldOpen_22 rfl ?_
  exact x_iret g e dL_shouldOpen_23
set_option maxRecDepth 100000 in
theorem k_L_situationRain {ad : Nat → Nat} {G : gG} {a0 : Nat} {a1 : Int32} {a2 : Int32} {ao : Nat} {S : gS} {T : gT} {r : Int32} (h : f_X5_situationRain G a0 a1 a2 S = some (.inr r)) (hx : gis G 2 a0) (ho : gis G 10 ao) (hn : gn G ao = 1) : Ct ad yL_situationRain (Cond.codeWith yL_situationRain cL_situationRain 5 (some .int) hh_L_situationRain :: gTb) 12 0 0 [.ref a0, .int a1, .int a2, .ref ao] G S T (some (.int 0)) G (sr S ao 0 r) T := by
  refine Ct.ofH rfl (Nat.le_of_ble_eq_true rfl) rfl ca_L_situationRain.1 (fun K g e hK => ?_)
  obtain ⟨rfl, -, -⟩ := hK
  show Xj K [] G 0 [some (.ref a0), some (.int a1), some (.int a2), some (.ref ao), none] [] S T 0 0
  refine x_aload_n 3 g dL_situationRain_0 rfl rfl ?_
  refine x_iconst g dL_situationRain_1 rfl ?_
  refine x_aload_n 0 g dL_situationRain_2 rfl rfl ?_
  refine x_iload_n 1 g dL_situationRain_3 rfl rfl ?_
  refine x_iload_n 2 g dL_situationRain_4 rfl rfl ?_
  refine x_cVb [.int r, .int 0, .ref ao] g (k_X5_situationRain h) ca_X5_situationRain in_X5_situationRain se_X5_situationRain lm_L_102 gXX5 hx (Nat.le_of_ble_eq_true rfl) (Nat.zero_le _) (Nat.zero_le _) rfl rfl (Nat.le_of_ble_eq_true rfl) dL_situationRain_5 rfl ?_
  refine x_i2l g dL_situationRain_8 rfl ?_
  refine x_last g dL_situationRain_9 ho (vp_01 hn) ?_
  refine x_goto 21 g dL_situationRain_10 rfl ?_
  refine x_iconst g dL_situationRain_21 rfl ?_
  exact x_iret g e dL_situationRain_22
set_option maxRecDepth 100000 in
theorem t_L_situationRain_1 {ad : Nat → Nat} {G : gG} {a0 : Nat} {a1 : Int32} {a2 : Int32} {ao : Nat} {S : gS} {T : gT} (h : f_X5_situationRain G a0 a1 a2 S = some (.inl "java/lang/IndexOutOfBoundsException")) (hx : gis G 2 a0) : Ct ad yL_situationRain (Cond.codeWith yL_situationRain cL_situationRain 5 (some .int) hh_L_situationRain :: gTb) 12 1 6 [.ref a0, .int a1, .int a2, .ref ao] G S T (some (.int 1)) G S T := by
  refine Ct.ofH rfl (Nat.le_of_ble_eq_true rfl) rfl ca_L_situationRain.1 (fun K g e hK => ?_)
  obtain ⟨rfl, -, ht⟩ := hK
  show Xj K [] G 0 [some (.ref a0), some (.int a1), some (.int a2), some (.ref ao), none] [] S T 1 6
  refine x_aload_n 3 g dL_situationRain_0 rfl rfl ?_
  refine x_iconst g dL_situationRain_1 rfl ?_
  refine x_aload_n 0 g dL_situationRain_2 rfl rfl ?_
  refine x_iload_n 1 g dL_situationRain_3 rfl rfl ?_
  refine x_iload_n 2 g dL_situationRain_4 rfl rfl ?_
  refine x_catV [] (0, 10, 13, 21) [(0, 10, 17, 58)] g (t_X5_situationRain h) ca_X5_situationRain in_X5_situationRain se_X5_situationRain lm_L_102 gXX5 hx (Nat.le_of_ble_eq_true rfl) (Nat.le_refl _) (Nat.le_refl _) rfl rfl (Nat.le_of_ble_eq_true rfl) dL_situationRain_5 ht rfl (fun z hz => by cases hz) ⟨by decide, by decide⟩ (by decide) cl_L_21 (by decide) (fun q => ?_)
  refine x_astore g dL_situationRain_13 (Nat.le_of_ble_eq_true rfl) rfl ?_
  refine x_iconst g dL_situationRain_15 rfl ?_
  exact x_iret g e dL_situationRain_16
set_option maxRecDepth 100000 in
theorem t_L_situationRain_2 {ad : Nat → Nat} {G : gG} {a0 : Nat} {a1 : Int32} {a2 : Int32} {ao : Nat} {S : gS} {T : gT} (h : f_X5_situationRain G a0 a1 a2 S = some (.inl "java/util/NoSuchElementException")) (hx : gis G 2 a0) : Ct ad yL_situationRain (Cond.codeWith yL_situationRain cL_situationRain 5 (some .int) hh_L_situationRain :: gTb) 12 1 6 [.ref a0, .int a1, .int a2, .ref ao] G S T (some (.int 2)) G S T := by
  refine Ct.ofH rfl (Nat.le_of_ble_eq_true rfl) rfl ca_L_situationRain.1 (fun K g e hK => ?_)
  obtain ⟨rfl, -, ht⟩ := hK
  show Xj K [] G 0 [some (.ref a0), some (.int a1), some (.int a2), some (.ref ao), none] [] S T 1 6
  refine x_aload_n 3 g dL_situationRain_0 rfl rfl ?_
  refine x_iconst g dL_situationRain_1 rfl ?_
  refine x_aload_n 0 g dL_situationRain_2 rfl rfl ?_
  refine x_iload_n 1 g dL_situationRain_3 rfl rfl ?_
  refine x_iload_n 2 g dL_situationRain_4 rfl rfl ?_
  refine x_catV [(0, 10, 13, 21)] (0, 10, 17, 58) [] g (t_X5_situationRain h) ca_X5_situationRain in_X5_situationRain se_X5_situationRain lm_L_102 gXX5 hx (Nat.le_of_ble_eq_true rfl) (Nat.le_refl _) (Nat.le_refl _) rfl rfl (Nat.le_of_ble_eq_true rfl) dL_situationRain_5 ht rfl (fun z hz => by rw [List.mem_singleton.mp hz]; exact ⟨by decide, _, cl_L_21, by decide⟩) ⟨by decide, by decide⟩ (by decide) cl_L_58 (by decide) (fun q => ?_)
  refine x_astore g dL_situationRain_17 (Nat.le_of_ble_eq_true rfl) rfl ?_
  refine x_iconst g dL_situationRain_19 rfl ?_
  exact x_iret g e dL_situationRain_20
set_option maxRecDepth 100000 in
theorem k_L_situationWind {ad : Nat → Nat} {G : gG} {a0 : Nat} {a1 : Int32} {a2 : Int32} {ao : Nat} {S : gS} {T : gT} {r : Int32} (h : f_X5_situationWind G a0 a1 a2 S = some (.inr r)) (hx : gis G 2 a0) (ho : gis G 10 ao) (hn : gn G ao = 1) : Ct ad yL_situationWind (Cond.codeWith yL_situationWind cL_situationWind 5 (some .int) hh_L_situationWind :: gTb) 12 0 0 [.ref a0, .int a1, .int a2, .ref ao] G S T (some (.int 0)) G (sr S ao 0 r) T := by
  refine Ct.ofH rfl (Nat.le_of_ble_eq_true rfl) rfl ca_L_situationWind.1 (fun K g e hK => ?_)
  obtain ⟨rfl, -, -⟩ := hK
  show Xj K [] G 0 [some (.ref a0), some (.int a1), some (.int a2), some (.ref ao), none] [] S T 0 0
  refine x_aload_n 3 g dL_situationWind_0 rfl rfl ?_
  refine x_iconst g dL_situationWind_1 rfl ?_
  refine x_aload_n 0 g dL_situationWind_2 rfl rfl ?_
  refine x_iload_n 1 g dL_situationWind_3 rfl rfl ?_
  refine x_iload_n 2 g dL_situationWind_4 rfl rfl ?_
  refine x_cVb [.int r, .int 0, .ref ao] g (k_X5_situationWind h) ca_X5_situationWind in_X5_situationWind se_X5_situationWind lm_L_105 gXX5 hx (Nat.le_of_ble_eq_true rfl) (Nat.zero_le _) (Nat.zero_le _) rfl rfl (Nat.le_of_ble_eq_true rfl) dL_situationWind_5 rfl ?_
  refine x_i2l g dL_situationWind_8 rfl ?_
  refine x_last g dL_situationWind_9 ho (vp_01 hn) ?_
  refine x_goto 21 g dL_situationWind_10 rfl ?_
  refine x_iconst g dL_situationWind_21 rfl ?_
  exact x_iret g e dL_situationWind_22
set_option maxRecDepth 100000 in
theorem t_L_situationWind_1 {ad : Nat → Nat} {G : gG} {a0 : Nat} {a1 : Int32} {a2 : Int32} {ao : Nat} {S : gS} {T : gT} (h : f_X5_situationWind G a0 a1 a2 S = some (.inl "java/lang/IndexOutOfBoundsException")) (hx : gis G 2 a0) : Ct ad yL_situationWind (Cond.codeWith yL_situationWind cL_situationWind 5 (some .int) hh_L_situationWind :: gTb) 12 1 6 [.ref a0, .int a1, .int a2, .ref ao] G S T (some (.int 1)) G S T := by
  refine Ct.ofH rfl (Nat.le_of_ble_eq_true rfl) rfl ca_L_situationWind.1 (fun K g e hK => ?_)
  obtain ⟨rfl, -, ht⟩ := hK
  show Xj K [] G 0 [some (.ref a0), some (.int a1), some (.int a2), some (.ref ao), none] [] S T 1 6
  refine x_aload_n 3 g dL_situationWind_0 rfl rfl ?_
  refine x_iconst g dL_situationWind_1 rfl ?_
  refine x_aload_n 0 g dL_situationWind_2 rfl rfl ?_
  refine x_iload_n 1 g dL_situationWind_3 rfl rfl ?_
  refine x_iload_n 2 g dL_situationWind_4 rfl rfl ?_
  refine x_catV [] (0, 10, 13, 21) [(0, 10, 17, 58)] g (t_X5_situationWind h) ca_X5_situationWind in_X5_situationWind se_X5_situationWind lm_L_105 gXX5 hx (Nat.le_of_ble_eq_true rfl) (Nat.le_refl _) (Nat.le_refl _) rfl rfl (Nat.le_of_ble_eq_true rfl) dL_situationWind_5 ht rfl (fun z hz => by cases hz) ⟨by decide, by decide⟩ (by decide) cl_L_21 (by decide) (fun q => ?_)
  refine x_astore g dL_situationWind_13 (Nat.le_of_ble_eq_true rfl) rfl ?_
  refine x_iconst g dL_situationWind_15 rfl ?_
  exact x_iret g e dL_situationWind_16
set_option maxRecDepth 100000 in
theorem t_L_situationWind_2 {ad : Nat → Nat} {G : gG} {a0 : Nat} {a1 : Int32} {a2 : Int32} {ao : Nat} {S : gS} {T : gT} (h : f_X5_situationWind G a0 a1 a2 S = some (.inl "java/util/NoSuchElementException")) (hx : gis G 2 a0) : Ct ad yL_situationWind (Cond.codeWith yL_situationWind cL_situationWind 5 (some .int) hh_L_situationWind :: gTb) 12 1 6 [.ref a0, .int a1, .int a2, .ref ao] G S T (some (.int 2)) G S T := by
  refine Ct.ofH rfl (Nat.le_of_ble_eq_true rfl) rfl ca_L_situationWind.1 (fun K g e hK => ?_)
  obtain ⟨rfl, -, ht⟩ := hK
  show Xj K [] G 0 [some (.ref a0), some (.int a1), some (.int a2), some (.ref ao), none] [] S T 1 6
  refine x_aload_n 3 g dL_situationWind_0 rfl rfl ?_
  refine x_iconst g dL_situationWind_1 rfl ?_
  refine x_aload_n 0 g dL_situationWind_2 rfl rfl ?_
  refine x_iload_n 1 g dL_situationWind_3 rfl rfl ?_
  refine x_iload_n 2 g dL_situationWind_4 rfl rfl ?_
  refine x_catV [(0, 10, 13, 21)] (0, 10, 17, 58) [] g (t_X5_situationWind h) ca_X5_situationWind in_X5_situationWind se_X5_situationWind lm_L_105 gXX5 hx (Nat.le_of_ble_eq_true rfl) (Nat.le_refl _) (Nat.le_refl _) rfl rfl (Nat.le_of_ble_eq_true rfl) dL_situationWind_5 ht rfl (fun z hz => by rw [List.mem_singleton.mp hz]; exact ⟨by decide, _, cl_L_21, by decide⟩) ⟨by decide, by decide⟩ (by decide) cl_L_58 (by decide) (fun q => ?_)
  refine x_astore g dL_situationWind_17 (Nat.le_of_ble_eq_true rfl) rfl ?_
  refine x_iconst g dL_situationWind_19 rfl ?_
  exact x_iret g e dL_situationWind_20
set_option maxRecDepth 100000 in
theorem k_L_stars {ad : Nat → Nat} {G : gG} {a0 : Nat} {a1 : Int32} {ao : Nat} {S : gS} {T : gT} {r : Int32} (h : f_X5_stars G a0 a1 S = some (.inr r)) (hx : gis G 2 a0) (ho : gis G 10 ao) (hn : gn G ao = 1) : Ct ad yL_stars (Cond.codeWith yL_stars cL_stars 4 (some .int) hh_L_stars :: gTb) 12 0 0 [.ref a0, .int a1, .ref ao] G S T (some (.int 0)) G (sr S ao 0 r) T := by
  refine Ct.ofH rfl (Nat.le_of_ble_eq_true rfl) rfl ca_L_stars.1 (fun K g e hK => ?_)
  obtain ⟨rfl, -, -⟩ := hK
  show Xj K [] G 0 [some (.ref a0), some (.int a1), some (.ref ao), none] [] S T 0 0
  refine x_aload_n 2 g dL_stars_0 rfl rfl ?_
  refine x_iconst g dL_stars_1 rfl ?_
  refine x_aload_n 0 g dL_stars_2 rfl rfl ?_
  refine x_iload_n 1 g dL_stars_3 rfl rfl ?_
  refine x_cVb [.int r, .int 0, .ref ao] g (k_X5_stars h) ca_X5_stars in_X5_stars se_X5_stars lm_L_120 gXX5 hx (Nat.le_of_ble_eq_true rfl) (Nat.zero_le _) (Nat.zero_le _) rfl rfl (Nat.le_of_ble_eq_true rfl) dL_stars_4 rfl ?_
  refine x_i2l g dL_stars_7 rfl ?_
  refine x_last g dL_stars_8 ho (vp_01 hn) ?_
  refine x_goto 15 g dL_stars_9 rfl ?_
  refine x_iconst g dL_stars_15 rfl ?_
  exact x_iret g e dL_stars_16
set_option maxRecDepth 100000 in
theorem t_L_stars_1 {ad : Nat → Nat} {G : gG} {a0 : Nat} {a1 : Int32} {ao : Nat} {S : gS} {T : gT} (h : f_X5_stars G a0 a1 S = some (.inl "java/lang/IndexOutOfBoundsException")) (hx : gis G 2 a0) : Ct ad yL_stars (Cond.codeWith yL_stars cL_stars 4 (some .int) hh_L_stars :: gTb) 12 1 6 [.ref a0, .int a1, .ref ao] G S T (some (.int 1)) G S T := by
  refine Ct.ofH rfl (Nat.le_of_ble_eq_true rfl) rfl ca_L_stars.1 (fun K g e hK => ?_)
  obtain ⟨rfl, -, ht⟩ := hK
  show Xj K [] G 0 [some (.ref a0), some (.int a1), some (.ref ao), none] [] S T 1 6
  refine x_aload_n 2 g dL_stars_0 rfl rfl ?_
  refine x_iconst g dL_stars_1 rfl ?_
  refine x_aload_n 0 g dL_stars_2 rfl rfl ?_
  refine x_iload_n 1 g dL_stars_3 rfl rfl ?_
  refine x_catV [] (0, 9, 12, 21) [] g (t_X5_stars h) ca_X5_stars in_X5_stars se_X5_stars lm_L_120 gXX5 hx (Nat.le_of_ble_eq_true rfl) (Nat.le_refl _) (Nat.le_refl _) rfl rfl (Nat.le_of_ble_eq_true rfl) dL_stars_4 ht rfl (fun z hz => by cases hz) ⟨by decide, by decide⟩ (by decide) cl_L_21 (by decide) (fun q => ?_)
  refine x_astore_n 3 g dL_stars_12 rfl (Nat.le_of_ble_eq_true rfl) rfl ?_
  refine x_iconst g dL_stars_13 rfl ?_
  exact x_iret g e dL_stars_14
set_option maxRecDepth 100000 in
theorem k_L_termReward {ad : Nat → Nat} {G : gG} {a0 : Nat} {a1 : Int32} {ao : Nat} {S : gS} {T : gT} {r : Int32} (h : f_X5_termReward G a0 a1 S = some (.inr r)) (hx : gis G 2 a0) (ho : gis G 10 ao) (hn : gn G ao = 1) : Ct ad yL_termReward (Cond.codeWith yL_termReward cL_termReward 4 (some .int) hh_L_termReward :: gTb) 12 0 0 [.ref a0, .int a1, .ref ao] G S T (some (.int 0)) G (sr S ao 0 r) T := by
  refine Ct.ofH rfl (Nat.le_of_ble_eq_true rfl) rfl ca_L_termReward.1 (fun K g e hK => ?_)
  obtain ⟨rfl, -, -⟩ := hK
  show Xj K [] G 0 [some (.ref a0), some (.int a1), some (.ref ao), none] [] S T 0 0
  refine x_aload_n 2 g dL_termReward_0 rfl rfl ?_
  refine x_iconst g dL_termReward_1 rfl ?_
  refine x_aload_n 0 g dL_termReward_2 rfl rfl ?_
  refine x_iload_n 1 g dL_termReward_3 rfl rfl ?_
  refine x_cVb [.int r, .int 0, .ref ao] g (k_X5_termReward h) ca_X5_termReward in_X5_termReward se_X5_termReward lm_L_117 gXX5 hx (Nat.le_of_ble_eq_true rfl) (Nat.zero_le _) (Nat.zero_le _) rfl rfl (Nat.le_of_ble_eq_true rfl) dL_termReward_4 rfl ?_
  refine x_i2l g dL_termReward_7 rfl ?_
  refine x_last g dL_termReward_8 ho (vp_01 hn) ?_
  refine x_goto 15 g dL_termReward_9 rfl ?_
  refine x_iconst g dL_termReward_15 rfl ?_
  exact x_iret g e dL_termReward_16
set_option maxRecDepth 100000 in
theorem t_L_termReward_1 {ad : Nat → Nat} {G : gG} {a0 : Nat} {a1 : Int32} {ao : Nat} {S : gS} {T : gT} (h : f_X5_termReward G a0 a1 S = some (.inl "java/lang/IndexOutOfBoundsException")) (hx : gis G 2 a0) : Ct ad yL_termReward (Cond.codeWith yL_termReward cL_termReward 4 (some .int) hh_L_termReward :: gTb) 12 1 6 [.ref a0, .int a1, .ref ao] G S T (some (.int 1)) G S T := by
  refine Ct.ofH rfl (Nat.le_of_ble_eq_true rfl) rfl ca_L_termReward.1 (fun K g e hK => ?_)
  obtain ⟨rfl, -, ht⟩ := hK
  show Xj K [] G 0 [some (.ref a0), some (.int a1), some (.ref ao), none] [] S T 1 6
  refine x_aload_n 2 g dL_termReward_0 rfl rfl ?_
  refine x_iconst g dL_termReward_1 rfl ?_
  refine x_aload_n 0 g dL_termReward_2 rfl rfl ?_
  refine x_iload_n 1 g dL_termReward_3 rfl rfl ?_
  refine x_catV [] (0, 9, 12, 21) [] g (t_X5_termReward h) ca_X5_termReward in_X5_termReward se_X5_termReward lm_L_117 gXX5 hx (Nat.le_of_ble_eq_true rfl) (Nat.le_refl _) (Nat.le_refl _) rfl rfl (Nat.le_of_ble_eq_true rfl) dL_termReward_4 ht rfl (fun z hz => by cases hz) ⟨by decide, by decide⟩ (by decide) cl_L_21 (by decide) (fun q => ?_)
  refine x_astore_n 3 g dL_termReward_12 rfl (Nat.le_of_ble_eq_true rfl) rfl ?_
  refine x_iconst g dL_termReward_13 rfl ?_
  exact x_iret g e dL_termReward_14
set_option maxRecDepth 100000 in
theorem k_L_timesTried {ad : Nat → Nat} {G : gG} {a0 : Nat} {a1 : Int32} {a2 : Int32} {a3 : Int32} {a4 : Bool} {ao : Nat} {S : gS} {T : gT} {r : Int32} (h : f_X5_timesTried G a0 a1 a2 a3 a4 S = some (.inr r)) (hx : gis G 2 a0) (ho : gis G 10 ao) (hn : gn G ao = 1) : Ct ad yL_timesTried (Cond.codeWith yL_timesTried cL_timesTried 7 (some .int) hh_L_timesTried :: gTb) 12 0 0 [.ref a0, .int a1, .int a2, .int a3, .int (gz a4), .ref ao] G S T (some (.int 0)) G (sr S ao 0 r) T := by
  refine Ct.ofH rfl (Nat.le_of_ble_eq_true rfl) rfl ca_L_timesTried.1 (fun K g e hK => ?_)
  obtain ⟨rfl, -, -⟩ := hK
  show Xj K [] G 0 [some (.ref a0), some (.int a1), some (.int a2), some (.int a3), some (.int (gz a4)), some (.ref ao), none] [] S T 0 0
  refine x_aload g dL_timesTried_0 rfl ?_
  refine x_iconst g dL_timesTried_2 rfl ?_
  refine x_aload_n 0 g dL_timesTried_3 rfl rfl ?_
  refine x_iload_n 1 g dL_timesTried_4 rfl rfl ?_
  refine x_iload_n 2 g dL_timesTried_5 rfl rfl ?_
  refine x_iload_n 3 g dL_timesTried_6 rfl rfl ?_
  refine x_iload g dL_timesTried_7 rfl ?_
  refine x_cVb [.int r, .int 0, .ref ao] g (k_X5_timesTried h) ca_X5_timesTried in_X5_timesTried se_X5_timesTried lm_L_82 gXX5 hx (Nat.le_of_ble_eq_true rfl) (Nat.zero_le _) (Nat.zero_le _) rfl rfl (Nat.le_of_ble_eq_true rfl) dL_timesTried_9 rfl ?_
  refine x_i2l g dL_timesTried_12 rfl ?_
  refine x_last g dL_timesTried_13 ho (vp_01 hn) ?_
  refine x_goto 25 g dL_timesTried_14 rfl ?_
  refine x_iconst g dL_timesTried_25 rfl ?_
  exact x_iret g e dL_timesTried_26
set_option maxRecDepth 100000 in
theorem t_L_timesTried_1 {ad : Nat → Nat} {G : gG} {a0 : Nat} {a1 : Int32} {a2 : Int32} {a3 : Int32} {a4 : Bool} {ao : Nat} {S : gS} {T : gT} (h : f_X5_timesTried G a0 a1 a2 a3 a4 S = some (.inl "java/lang/IndexOutOfBoundsException")) (hx : gis G 2 a0) : Ct ad yL_timesTried (Cond.codeWith yL_timesTried cL_timesTried 7 (some .int) hh_L_timesTried :: gTb) 12 1 6 [.ref a0, .int a1, .int a2, .int a3, .int (gz a4), .ref ao] G S T (some (.int 1)) G S T := by
  refine Ct.ofH rfl (Nat.le_of_ble_eq_true rfl) rfl ca_L_timesTried.1 (fun K g e hK => ?_)
  obtain ⟨rfl, -, ht⟩ := hK
  show Xj K [] G 0 [some (.ref a0), some (.int a1), some (.int a2), some (.int a3), some (.int (gz a4)), some (.ref ao), none] [] S T 1 6
  refine x_aload g dL_timesTried_0 rfl ?_
  refine x_iconst g dL_timesTried_2 rfl ?_
  refine x_aload_n 0 g dL_timesTried_3 rfl rfl ?_
  refine x_iload_n 1 g dL_timesTried_4 rfl rfl ?_
  refine x_iload_n 2 g dL_timesTried_5 rfl rfl ?_
  refine x_iload_n 3 g dL_timesTried_6 rfl rfl ?_
  refine x_iload g dL_timesTried_7 rfl ?_
  refine x_catV [] (0, 14, 17, 21) [(0, 14, 21, 13)] g (t_X5_timesTried h) ca_X5_timesTried in_X5_timesTried se_X5_timesTried lm_L_82 gXX5 hx (Nat.le_of_ble_eq_true rfl) (Nat.le_refl _) (Nat.le_refl _) rfl rfl (Nat.le_of_ble_eq_true rfl) dL_timesTried_9 ht rfl (fun z hz => by cases hz) ⟨by decide, by decide⟩ (by decide) cl_L_21 (by decide) (fun q => ?_)
  refine x_astore g dL_timesTried_17 (Nat.le_of_ble_eq_true rfl) rfl ?_
  refine x_iconst g dL_timesTried_19 rfl ?_
  exact x_iret g e dL_timesTried_20
set_option maxRecDepth 100000 in
theorem t_L_timesTried_2 {ad : Nat → Nat} {G : gG} {a0 : Nat} {a1 : Int32} {a2 : Int32} {a3 : Int32} {a4 : Bool} {ao : Nat} {S : gS} {T : gT} (h : f_X5_timesTried G a0 a1 a2 a3 a4 S = some (.inl "java/lang/IllegalArgumentException")) (hx : gis G 2 a0) : Ct ad yL_timesTried (Cond.codeWith yL_timesTried cL_timesTried 7 (some .int) hh_L_timesTried :: gTb) 12 1 6 [.ref a0, .int a1, .int a2, .int a3, .int (gz a4), .ref ao] G S T (some (.int 2)) G S T := by
  refine Ct.ofH rfl (Nat.le_of_ble_eq_true rfl) rfl ca_L_timesTried.1 (fun K g e hK => ?_)
  obtain ⟨rfl, -, ht⟩ := hK
  show Xj K [] G 0 [some (.ref a0), some (.int a1), some (.int a2), some (.int a3), some (.int (gz a4)), some (.ref ao), none] [] S T 1 6
  refine x_aload g dL_timesTried_0 rfl ?_
  refine x_iconst g dL_timesTried_2 rfl ?_
  refine x_aload_n 0 g dL_timesTried_3 rfl rfl ?_
  refine x_iload_n 1 g dL_timesTried_4 rfl rfl ?_
  refine x_iload_n 2 g dL_timesTried_5 rfl rfl ?_
  refine x_iload_n 3 g dL_timesTried_6 rfl rfl ?_
  refine x_iload g dL_timesTried_7 rfl ?_
  refine x_catV [(0, 14, 17, 21)] (0, 14, 21, 13) [] g (t_X5_timesTried h) ca_X5_timesTried in_X5_timesTried se_X5_timesTried lm_L_82 gXX5 hx (Nat.le_of_ble_eq_true rfl) (Nat.le_refl _) (Nat.le_refl _) rfl rfl (Nat.le_of_ble_eq_true rfl) dL_timesTried_9 ht rfl (fun z hz => by rw [List.mem_singleton.mp hz]; exact ⟨by decide, _, cl_L_21, by decide⟩) ⟨by decide, by decide⟩ (by decide) cl_L_13 (by decide) (fun q => ?_)
  refine x_astore g dL_timesTried_21 (Nat.le_of_ble_eq_true rfl) rfl ?_
  refine x_iconst g dL_timesTried_23 rfl ?_
  exact x_iret g e dL_timesTried_24
set_option maxRecDepth 100000 in
theorem k_L_totalReward {ad : Nat → Nat} {G : gG} {a0 : Nat} {a1 : Int32} {ao : Nat} {S : gS} {T : gT} {r : Int32} (h : f_X5_totalReward G a0 a1 S = some (.inr r)) (hx : gis G 2 a0) (ho : gis G 10 ao) (hn : gn G ao = 1) : Ct ad yL_totalReward (Cond.codeWith yL_totalReward cL_totalReward 4 (some .int) hh_L_totalReward :: gTb) 12 0 0 [.ref a0, .int a1, .ref ao] G S T (some (.int 0)) G (sr S ao 0 r) T := by
  refine Ct.ofH rfl (Nat.le_of_ble_eq_true rfl) rfl ca_L_totalReward.1 (fun K g e hK => ?_)
  obtain ⟨rfl, -, -⟩ := hK
  show Xj K [] G 0 [some (.ref a0), some (.int a1), some (.ref ao), none] [] S T 0 0
  refine x_aload_n 2 g dL_totalReward_0 rfl rfl ?_
  refine x_iconst g dL_totalReward_1 rfl ?_
  refine x_aload_n 0 g dL_totalReward_2 rfl rfl ?_
  refine x_iload_n 1 g dL_totalReward_3 rfl rfl ?_
  refine x_cVb [.int r, .int 0, .ref ao] g (k_X5_totalReward h) ca_X5_totalReward in_X5_totalReward se_X5_totalReward lm_L_114 gXX5 hx (Nat.le_of_ble_eq_true rfl) (Nat.zero_le _) (Nat.zero_le _) rfl rfl (Nat.le_of_ble_eq_true rfl) dL_totalReward_4 rfl ?_
  refine x_i2l g dL_totalReward_7 rfl ?_
  refine x_last g dL_totalReward_8 ho (vp_01 hn) ?_
  refine x_goto 15 g dL_totalReward_9 rfl ?_
  refine x_iconst g dL_totalReward_15 rfl ?_
  exact x_iret g e dL_totalReward_16
set_option maxRecDepth 100000 in
theorem t_L_totalReward_1 {ad : Nat → Nat} {G : gG} {a0 : Nat} {a1 : Int32} {ao : Nat} {S : gS} {T : gT} (h : f_X5_totalReward G a0 a1 S = some (.inl "java/lang/IndexOutOfBoundsException")) (hx : gis G 2 a0) : Ct ad yL_totalReward (Cond.codeWith yL_totalReward cL_totalReward 4 (some .int) hh_L_totalReward :: gTb) 12 1 6 [.ref a0, .int a1, .ref ao] G S T (some (.int 1)) G S T := by
  refine Ct.ofH rfl (Nat.le_of_ble_eq_true rfl) rfl ca_L_totalReward.1 (fun K g e hK => ?_)
  obtain ⟨rfl, -, ht⟩ := hK
  show Xj K [] G 0 [some (.ref a0), some (.int a1), some (.ref ao), none] [] S T 1 6
  refine x_aload_n 2 g dL_totalReward_0 rfl rfl ?_
  refine x_iconst g dL_totalReward_1 rfl ?_
  refine x_aload_n 0 g dL_totalReward_2 rfl rfl ?_
  refine x_iload_n 1 g dL_totalReward_3 rfl rfl ?_
  refine x_catV [] (0, 9, 12, 21) [] g (t_X5_totalReward h) ca_X5_totalReward in_X5_totalReward se_X5_totalReward lm_L_114 gXX5 hx (Nat.le_of_ble_eq_true rfl) (Nat.le_refl _) (Nat.le_refl _) rfl rfl (Nat.le_of_ble_eq_true rfl) dL_totalReward_4 ht rfl (fun z hz => by cases hz) ⟨by decide, by decide⟩ (by decide) cl_L_21 (by decide) (fun q => ?_)
  refine x_astore_n 3 g dL_totalReward_12 rfl (Nat.le_of_ble_eq_true rfl) rfl ?_
  refine x_iconst g dL_totalReward_13 rfl ?_
  exact x_iret g e dL_totalReward_14
set_option maxRecDepth 100000 in
theorem k_L_train {ad : Nat → Nat} {G : gG} {a0 : Nat} {a1 : Int32} {a2 : Int32} {a3 : Int32} {a4 : Int32} {ao : Nat} {S S1 : gS} {T : gT} {r : Int32} (h : f_X5_train G a0 a1 a2 a3 a4 S = some (.inr r, S1)) (hx : gis G 2 a0) (ho : gis G 10 ao) (hn : gn G ao = 1) : Ct ad yL_train (Cond.codeWith yL_train cL_train 7 (some .int) hh_L_train :: gTb) 12 0 0 [.ref a0, .int a1, .int a2, .int a3, .int a4, .ref ao] G S T (some (.int 0)) G (sr S1 ao 0 r) T := by
  refine Ct.ofH rfl (Nat.le_of_ble_eq_true rfl) rfl ca_L_train.1 (fun K g e hK => ?_)
  obtain ⟨rfl, -, -⟩ := hK
  show Xj K [] G 0 [some (.ref a0), some (.int a1), some (.int a2), some (.int a3), some (.int a4), some (.ref ao), none] [] S T 0 0
  refine x_aload g dL_train_0 rfl ?_
  refine x_iconst g dL_train_2 rfl ?_
  refine x_aload_n 0 g dL_train_3 rfl rfl ?_
  refine x_iload_n 1 g dL_train_4 rfl rfl ?_
  refine x_iload_n 2 g dL_train_5 rfl rfl ?_
  refine x_iload_n 3 g dL_train_6 rfl rfl ?_
  refine x_iload g dL_train_7 rfl ?_
  refine x_cVb [.int r, .int 0, .ref ao] g (k_X5_train h) ca_X5_train in_X5_train se_X5_train lm_L_17 gXX5 hx (Nat.le_of_ble_eq_true rfl) (Nat.zero_le _) (Nat.zero_le _) rfl rfl (Nat.le_of_ble_eq_true rfl) dL_train_9 rfl ?_
  refine x_i2l g dL_train_12 rfl ?_
  refine x_last g dL_train_13 ho (vp_01 hn) ?_
  refine x_goto 25 g dL_train_14 rfl ?_
  refine x_iconst g dL_train_25 rfl ?_
  exact x_iret g e dL_train_26
set_option maxRecDepth 100000 in
theorem t_L_train_1 {ad : Nat → Nat} {G : gG} {a0 : Nat} {a1 : Int32} {a2 : Int32} {a3 : Int32} {a4 : Int32} {ao : Nat} {S S1 : gS} {T : gT} (h : f_X5_train G a0 a1 a2 a3 a4 S = some (.inl "java/lang/IndexOutOfBoundsException", S1)) (hx : gis G 2 a0) : Ct ad yL_train (Cond.codeWith yL_train cL_train 7 (some .int) hh_L_train :: gTb) 12 1 6 [.ref a0, .int a1, .int a2, .int a3, .int a4, .ref ao] G S T (some (.int 1)) G S1 T := by
  refine Ct.ofH rfl (Nat.le_of_ble_eq_true rfl) rfl ca_L_train.1 (fun K g e hK => ?_)
  obtain ⟨rfl, -, ht⟩ := hK
  show Xj K [] G 0 [some (.ref a0), some (.int a1), some (.int a2), some (.int a3), some (.int a4), some (.ref ao), none] [] S T 1 6
  refine x_aload g dL_train_0 rfl ?_
  refine x_iconst g dL_train_2 rfl ?_
  refine x_aload_n 0 g dL_train_3 rfl rfl ?_
  refine x_iload_n 1 g dL_train_4 rfl rfl ?_
  refine x_iload_n 2 g dL_train_5 rfl rfl ?_
  refine x_iload_n 3 g dL_train_6 rfl rfl ?_
  refine x_iload g dL_train_7 rfl ?_
  refine x_catV [] (0, 14, 17, 21) [(0, 14, 21, 13)] g (t_X5_train h) ca_X5_train in_X5_train se_X5_train lm_L_17 gXX5 hx (Nat.le_of_ble_eq_true rfl) (Nat.le_refl _) (Nat.le_refl _) rfl rfl (Nat.le_of_ble_eq_true rfl) dL_train_9 ht rfl (fun z hz => by cases hz) ⟨by decide, by decide⟩ (by decide) cl_L_21 (by decide) (fun q => ?_)
  refine x_astore g dL_train_17 (Nat.le_of_ble_eq_true rfl) rfl ?_
  refine x_iconst g dL_train_19 rfl ?_
  exact x_iret g e dL_train_20
set_option maxRecDepth 100000 in
theorem t_L_train_2 {ad : Nat → Nat} {G : gG} {a0 : Nat} {a1 : Int32} {a2 : Int32} {a3 : Int32} {a4 : Int32} {ao : Nat} {S S1 : gS} {T : gT} (h : f_X5_train G a0 a1 a2 a3 a4 S = some (.inl "java/lang/IllegalArgumentException", S1)) (hx : gis G 2 a0) : Ct ad yL_train (Cond.codeWith yL_train cL_train 7 (some .int) hh_L_train :: gTb) 12 1 6 [.ref a0, .int a1, .int a2, .int a3, .int a4, .ref ao] G S T (some (.int 2)) G S1 T := by
  refine Ct.ofH rfl (Nat.le_of_ble_eq_true rfl) rfl ca_L_train.1 (fun K g e hK => ?_)
  obtain ⟨rfl, -, ht⟩ := hK
  show Xj K [] G 0 [some (.ref a0), some (.int a1), some (.int a2), some (.int a3), some (.int a4), some (.ref ao), none] [] S T 1 6
  refine x_aload g dL_train_0 rfl ?_
  refine x_iconst g dL_train_2 rfl ?_
  refine x_aload_n 0 g dL_train_3 rfl rfl ?_
  refine x_iload_n 1 g dL_train_4 rfl rfl ?_
  refine x_iload_n 2 g dL_train_5 rfl rfl ?_
  refine x_iload_n 3 g dL_train_6 rfl rfl ?_
  refine x_iload g dL_train_7 rfl ?_
  refine x_catV [(0, 14, 17, 21)] (0, 14, 21, 13) [] g (t_X5_train h) ca_X5_train in_X5_train se_X5_train lm_L_17 gXX5 hx (Nat.le_of_ble_eq_true rfl) (Nat.le_refl _) (Nat.le_refl _) rfl rfl (Nat.le_of_ble_eq_true rfl) dL_train_9 ht rfl (fun z hz => by rw [List.mem_singleton.mp hz]; exact ⟨by decide, _, cl_L_21, by decide⟩) ⟨by decide, by decide⟩ (by decide) cl_L_13 (by decide) (fun q => ?_)
  refine x_astore g dL_train_21 (Nat.le_of_ble_eq_true rfl) rfl ?_
  refine x_iconst g dL_train_23 rfl ?_
  exact x_iret g e dL_train_24
set_option maxRecDepth 100000 in
theorem k_L_trialOpened {ad : Nat → Nat} {G : gG} {a0 : Nat} {a1 : Int32} {a2 : Int32} {ao : Nat} {S : gS} {T : gT} {r : Bool} (h : f_X5_trialOpened G a0 a1 a2 S = some (.inr r)) (hx : gis G 2 a0) (ho : gis G 10 ao) (hn : gn G ao = 1) : Ct ad yL_trialOpened (Cond.codeWith yL_trialOpened cL_trialOpened 5 (some .int) hh_L_trialOpened :: gTb) 12 0 0 [.ref a0, .int a1, .int a2, .ref ao] G S T (some (.int 0)) G (sr S ao 0 (gz r)) T := by
  refine Ct.ofH rfl (Nat.le_of_ble_eq_true rfl) rfl ca_L_trialOpened.1 (fun K g e hK => ?_)
  obtain ⟨rfl, -, -⟩ := hK
  show Xj K [] G 0 [some (.ref a0), some (.int a1), some (.int a2), some (.ref ao), none] [] S T 0 0
  refine x_aload_n 3 g dL_trialOpened_0 rfl rfl ?_
  refine x_iconst g dL_trialOpened_1 rfl ?_
  refine x_aload_n 0 g dL_trialOpened_2 rfl rfl ?_
  refine x_iload_n 1 g dL_trialOpened_3 rfl rfl ?_
  refine x_iload_n 2 g dL_trialOpened_4 rfl rfl ?_
  refine x_cVb [.int (gz r), .int 0, .ref ao] g (k_X5_trialOpened h) ca_X5_trialOpened in_X5_trialOpened se_X5_trialOpened lm_L_60 gXX5 hx (Nat.le_of_ble_eq_true rfl) (Nat.zero_le _) (Nat.zero_le _) rfl rfl (Nat.le_of_ble_eq_true rfl) dL_trialOpened_5 rfl ?_
  cases r with
  | false =>
    refine x_if_eq 15 g dL_trialOpened_8 rfl (fun _ => ?_) (fun z => absurd rfl z)
    refine x_lconst (v := (0 : Int32).toInt64) g dL_trialOpened_15 (by decide) ?_
    refine x_last (v := 0) g dL_trialOpened_16 ho (vp_01 hn) ?_
    refine x_goto 28 g dL_trialOpened_17 rfl ?_
    refine x_iconst g dL_trialOpened_28 rfl ?_
    exact x_iret g e dL_trialOpened_29
  | true =>
    refine x_if_eq 15 g dL_trialOpened_8 rfl (fun z => absurd z (by decide)) (fun _ => ?_)
    refine x_lconst (v := (1 : Int32).toInt64) g dL_trialOpened_11 (by decide) ?_
    refine x_goto 16 g dL_trialOpened_12 rfl ?_
    refine x_last (v := 1) g dL_trialOpened_16 ho (vp_01 hn) ?_
    refine x_goto 28 g dL_trialOpened_17 rfl ?_
    refine x_iconst g dL_trialOpened_28 rfl ?_
    exact x_iret g e dL_trialOpened_29
set_option maxRecDepth 100000 in
theorem t_L_trialOpened_1 {ad : Nat → Nat} {G : gG} {a0 : Nat} {a1 : Int32} {a2 : Int32} {ao : Nat} {S : gS} {T : gT} (h : f_X5_trialOpened G a0 a1 a2 S = some (.inl "java/lang/IndexOutOfBoundsException")) (hx : gis G 2 a0) : Ct ad yL_trialOpened (Cond.codeWith yL_trialOpened cL_trialOpened 5 (some .int) hh_L_trialOpened :: gTb) 12 1 6 [.ref a0, .int a1, .int a2, .ref ao] G S T (some (.int 1)) G S T := by
  refine Ct.ofH rfl (Nat.le_of_ble_eq_true rfl) rfl ca_L_trialOpened.1 (fun K g e hK => ?_)
  obtain ⟨rfl, -, ht⟩ := hK
  show Xj K [] G 0 [some (.ref a0), some (.int a1), some (.int a2), some (.ref ao), none] [] S T 1 6
  refine x_aload_n 3 g dL_trialOpened_0 rfl rfl ?_
  refine x_iconst g dL_trialOpened_1 rfl ?_
  refine x_aload_n 0 g dL_trialOpened_2 rfl rfl ?_
  refine x_iload_n 1 g dL_trialOpened_3 rfl rfl ?_
  refine x_iload_n 2 g dL_trialOpened_4 rfl rfl ?_
  refine x_catV [] (0, 17, 20, 21) [(0, 17, 24, 58)] g (t_X5_trialOpened h) ca_X5_trialOpened in_X5_trialOpened se_X5_trialOpened lm_L_60 gXX5 hx (Nat.le_of_ble_eq_true rfl) (Nat.le_refl _) (Nat.le_refl _) rfl rfl (Nat.le_of_ble_eq_true rfl) dL_trialOpened_5 ht rfl (fun z hz => by cases hz) ⟨by decide, by decide⟩ (by decide) cl_L_21 (by decide) (fun q => ?_)
  refine x_astore g dL_trialOpened_20 (Nat.le_of_ble_eq_true rfl) rfl ?_
  refine x_iconst g dL_trialOpened_22 rfl ?_
  exact x_iret g e dL_trialOpened_23
set_option maxRecDepth 100000 in
theorem t_L_trialOpened_2 {ad : Nat → Nat} {G : gG} {a0 : Nat} {a1 : Int32} {a2 : Int32} {ao : Nat} {S : gS} {T : gT} (h : f_X5_trialOpened G a0 a1 a2 S = some (.inl "java/util/NoSuchElementException")) (hx : gis G 2 a0) : Ct ad yL_trialOpened (Cond.codeWith yL_trialOpened cL_trialOpened 5 (some .int) hh_L_trialOpened :: gTb) 12 1 6 [.ref a0, .int a1, .int a2, .ref ao] G S T (some (.int 2)) G S T := by
  refine Ct.ofH rfl (Nat.le_of_ble_eq_true rfl) rfl ca_L_trialOpened.1 (fun K g e hK => ?_)
  obtain ⟨rfl, -, ht⟩ := hK
  show Xj K [] G 0 [some (.ref a0), some (.int a1), some (.int a2), some (.ref ao), none] [] S T 1 6
  refine x_aload_n 3 g dL_trialOpened_0 rfl rfl ?_
  refine x_iconst g dL_trialOpened_1 rfl ?_
  refine x_aload_n 0 g dL_trialOpened_2 rfl rfl ?_
  refine x_iload_n 1 g dL_trialOpened_3 rfl rfl ?_
  refine x_iload_n 2 g dL_trialOpened_4 rfl rfl ?_
  refine x_catV [(0, 17, 20, 21)] (0, 17, 24, 58) [] g (t_X5_trialOpened h) ca_X5_trialOpened in_X5_trialOpened se_X5_trialOpened lm_L_60 gXX5 hx (Nat.le_of_ble_eq_true rfl) (Nat.le_refl _) (Nat.le_refl _) rfl rfl (Nat.le_of_ble_eq_true rfl) dL_trialOpened_5 ht rfl (fun z hz => by rw [List.mem_singleton.mp hz]; exact ⟨by decide, _, cl_L_21, by decide⟩) ⟨by decide, by decide⟩ (by decide) cl_L_58 (by decide) (fun q => ?_)
  refine x_astore g dL_trialOpened_24 (Nat.le_of_ble_eq_true rfl) rfl ?_
  refine x_iconst g dL_trialOpened_26 rfl ?_
  exact x_iret g e dL_trialOpened_27
set_option maxRecDepth 100000 in
theorem k_L_trialRain {ad : Nat → Nat} {G : gG} {a0 : Nat} {a1 : Int32} {a2 : Int32} {ao : Nat} {S : gS} {T : gT} {r : Int32} (h : f_X5_trialRain G a0 a1 a2 S = some (.inr r)) (hx : gis G 2 a0) (ho : gis G 10 ao) (hn : gn G ao = 1) : Ct ad yL_trialRain (Cond.codeWith yL_trialRain cL_trialRain 5 (some .int) hh_L_trialRain :: gTb) 12 0 0 [.ref a0, .int a1, .int a2, .ref ao] G S T (some (.int 0)) G (sr S ao 0 r) T := by
  refine Ct.ofH rfl (Nat.le_of_ble_eq_true rfl) rfl ca_L_trialRain.1 (fun K g e hK => ?_)
  obtain ⟨rfl, -, -⟩ := hK
  show Xj K [] G 0 [some (.ref a0), some (.int a1), some (.int a2), some (.ref ao), none] [] S T 0 0
  refine x_aload_n 3 g dL_trialRain_0 rfl rfl ?_
  refine x_iconst g dL_trialRain_1 rfl ?_
  refine x_aload_n 0 g dL_trialRain_2 rfl rfl ?_
  refine x_iload_n 1 g dL_trialRain_3 rfl rfl ?_
  refine x_iload_n 2 g dL_trialRain_4 rfl rfl ?_
  refine x_cVb [.int r, .int 0, .ref ao] g (k_X5_trialRain h) ca_X5_trialRain in_X5_trialRain se_X5_trialRain lm_L_55 gXX5 hx (Nat.le_of_ble_eq_true rfl) (Nat.zero_le _) (Nat.zero_le _) rfl rfl (Nat.le_of_ble_eq_true rfl) dL_trialRain_5 rfl ?_
  refine x_i2l g dL_trialRain_8 rfl ?_
  refine x_last g dL_trialRain_9 ho (vp_01 hn) ?_
  refine x_goto 21 g dL_trialRain_10 rfl ?_
  refine x_iconst g dL_trialRain_21 rfl ?_
  exact x_iret g e dL_trialRain_22
set_option maxRecDepth 100000 in
theorem t_L_trialRain_1 {ad : Nat → Nat} {G : gG} {a0 : Nat} {a1 : Int32} {a2 : Int32} {ao : Nat} {S : gS} {T : gT} (h : f_X5_trialRain G a0 a1 a2 S = some (.inl "java/lang/IndexOutOfBoundsException")) (hx : gis G 2 a0) : Ct ad yL_trialRain (Cond.codeWith yL_trialRain cL_trialRain 5 (some .int) hh_L_trialRain :: gTb) 12 1 6 [.ref a0, .int a1, .int a2, .ref ao] G S T (some (.int 1)) G S T := by
  refine Ct.ofH rfl (Nat.le_of_ble_eq_true rfl) rfl ca_L_trialRain.1 (fun K g e hK => ?_)
  obtain ⟨rfl, -, ht⟩ := hK
  show Xj K [] G 0 [some (.ref a0), some (.int a1), some (.int a2), some (.ref ao), none] [] S T 1 6
  refine x_aload_n 3 g dL_trialRain_0 rfl rfl ?_
  refine x_iconst g dL_trialRain_1 rfl ?_
  refine x_aload_n 0 g dL_trialRain_2 rfl rfl ?_
  refine x_iload_n 1 g dL_trialRain_3 rfl rfl ?_
  refine x_iload_n 2 g dL_trialRain_4 rfl rfl ?_
  refine x_catV [] (0, 10, 13, 21) [(0, 10, 17, 58)] g (t_X5_trialRain h) ca_X5_trialRain in_X5_trialRain se_X5_trialRain lm_L_55 gXX5 hx (Nat.le_of_ble_eq_true rfl) (Nat.le_refl _) (Nat.le_refl _) rfl rfl (Nat.le_of_ble_eq_true rfl) dL_trialRain_5 ht rfl (fun z hz => by cases hz) ⟨by decide, by decide⟩ (by decide) cl_L_21 (by decide) (fun q => ?_)
  refine x_astore g dL_trialRain_13 (Nat.le_of_ble_eq_true rfl) rfl ?_
  refine x_iconst g dL_trialRain_15 rfl ?_
  exact x_iret g e dL_trialRain_16
set_option maxRecDepth 100000 in
theorem t_L_trialRain_2 {ad : Nat → Nat} {G : gG} {a0 : Nat} {a1 : Int32} {a2 : Int32} {ao : Nat} {S : gS} {T : gT} (h : f_X5_trialRain G a0 a1 a2 S = some (.inl "java/util/NoSuchElementException")) (hx : gis G 2 a0) : Ct ad yL_trialRain (Cond.codeWith yL_trialRain cL_trialRain 5 (some .int) hh_L_trialRain :: gTb) 12 1 6 [.ref a0, .int a1, .int a2, .ref ao] G S T (some (.int 2)) G S T := by
  refine Ct.ofH rfl (Nat.le_of_ble_eq_true rfl) rfl ca_L_trialRain.1 (fun K g e hK => ?_)
  obtain ⟨rfl, -, ht⟩ := hK
  show Xj K [] G 0 [some (.ref a0), some (.int a1), some (.int a2), some (.ref ao), none] [] S T 1 6
  refine x_aload_n 3 g dL_trialRain_0 rfl rfl ?_
  refine x_iconst g dL_trialRain_1 rfl ?_
  refine x_aload_n 0 g dL_trialRain_2 rfl rfl ?_
  refine x_iload_n 1 g dL_trialRain_3 rfl rfl ?_
  refine x_iload_n 2 g dL_trialRain_4 rfl rfl ?_
  refine x_catV [(0, 10, 13, 21)] (0, 10, 17, 58) [] g (t_X5_trialRain h) ca_X5_trialRain in_X5_trialRain se_X5_trialRain lm_L_55 gXX5 hx (Nat.le_of_ble_eq_true rfl) (Nat.le_refl _) (Nat.le_refl _) rfl rfl (Nat.le_of_ble_eq_true rfl) dL_trialRain_5 ht rfl (fun z hz => by rw [List.mem_singleton.mp hz]; exact ⟨by decide, _, cl_L_21, by decide⟩) ⟨by decide, by decide⟩ (by decide) cl_L_58 (by decide) (fun q => ?_)
  refine x_astore g dL_trialRain_17 (Nat.le_of_ble_eq_true rfl) rfl ?_
  refine x_iconst g dL_trialRain_19 rfl ?_
  exact x_iret g e dL_trialRain_20
set_option maxRecDepth 100000 in
theorem k_L_trialReward {ad : Nat → Nat} {G : gG} {a0 : Nat} {a1 : Int32} {a2 : Int32} {ao : Nat} {S : gS} {T : gT} {r : Int32} (h : f_X5_trialReward G a0 a1 a2 S = some (.inr r)) (hx : gis G 2 a0) (ho : gis G 10 ao) (hn : gn G ao = 1) : Ct ad yL_trialReward (Cond.codeWith yL_trialReward cL_trialReward 5 (some .int) hh_L_trialReward :: gTb) 12 0 0 [.ref a0, .int a1, .int a2, .ref ao] G S T (some (.int 0)) G (sr S ao 0 r) T := by
  refine Ct.ofH rfl (Nat.le_of_ble_eq_true rfl) rfl ca_L_trialReward.1 (fun K g e hK => ?_)
  obtain ⟨rfl, -, -⟩ := hK
  show Xj K [] G 0 [some (.ref a0), some (.int a1), some (.int a2), some (.ref ao), none] [] S T 0 0
  refine x_aload_n 3 g dL_trialReward_0 rfl rfl ?_
  refine x_iconst g dL_trialReward_1 rfl ?_
  refine x_aload_n 0 g dL_trialReward_2 rfl rfl ?_
  refine x_iload_n 1 g dL_trialReward_3 rfl rfl ?_
  refine x_iload_n 2 g dL_trialReward_4 rfl rfl ?_
  refine x_cVb [.int r, .int 0, .ref ao] g (k_X5_trialReward h) ca_X5_trialReward in_X5_trialReward se_X5_trialReward lm_L_64 gXX5 hx (Nat.le_of_ble_eq_true rfl) (Nat.zero_le _) (Nat.zero_le _) rfl rfl (Nat.le_of_ble_eq_true rfl) dL_trialReward_5 rfl ?_
  refine x_i2l g dL_trialReward_8 rfl ?_
  refine x_last g dL_trialReward_9 ho (vp_01 hn) ?_
  refine x_goto 21 g dL_trialReward_10 rfl ?_
  refine x_iconst g dL_trialReward_21 rfl ?_
  exact x_iret g e dL_trialReward_22
set_option maxRecDepth 100000 in
theorem t_L_trialReward_1 {ad : Nat → Nat} {G : gG} {a0 : Nat} {a1 : Int32} {a2 : Int32} {ao : Nat} {S : gS} {T : gT} (h : f_X5_trialReward G a0 a1 a2 S = some (.inl "java/lang/IndexOutOfBoundsException")) (hx : gis G 2 a0) : Ct ad yL_trialReward (Cond.codeWith yL_trialReward cL_trialReward 5 (some .int) hh_L_trialReward :: gTb) 12 1 6 [.ref a0, .int a1, .int a2, .ref ao] G S T (some (.int 1)) G S T := by
  refine Ct.ofH rfl (Nat.le_of_ble_eq_true rfl) rfl ca_L_trialReward.1 (fun K g e hK => ?_)
  obtain ⟨rfl, -, ht⟩ := hK
  show Xj K [] G 0 [some (.ref a0), some (.int a1), some (.int a2), some (.ref ao), none] [] S T 1 6
  refine x_aload_n 3 g dL_trialReward_0 rfl rfl ?_
  refine x_iconst g dL_trialReward_1 rfl ?_
  refine x_aload_n 0 g dL_trialReward_2 rfl rfl ?_
  refine x_iload_n 1 g dL_trialReward_3 rfl rfl ?_
  refine x_iload_n 2 g dL_trialReward_4 rfl rfl ?_
  refine x_catV [] (0, 10, 13, 21) [(0, 10, 17, 58)] g (t_X5_trialReward h) ca_X5_trialReward in_X5_trialReward se_X5_trialReward lm_L_64 gXX5 hx (Nat.le_of_ble_eq_true rfl) (Nat.le_refl _) (Nat.le_refl _) rfl rfl (Nat.le_of_ble_eq_true rfl) dL_trialReward_5 ht rfl (fun z hz => by cases hz) ⟨by decide, by decide⟩ (by decide) cl_L_21 (by decide) (fun q => ?_)
  refine x_astore g dL_trialReward_13 (Nat.le_of_ble_eq_true rfl) rfl ?_
  refine x_iconst g dL_trialReward_15 rfl ?_
  exact x_iret g e dL_trialReward_16
set_option maxRecDepth 100000 in
theorem t_L_trialReward_2 {ad : Nat → Nat} {G : gG} {a0 : Nat} {a1 : Int32} {a2 : Int32} {ao : Nat} {S : gS} {T : gT} (h : f_X5_trialReward G a0 a1 a2 S = some (.inl "java/util/NoSuchElementException")) (hx : gis G 2 a0) : Ct ad yL_trialReward (Cond.codeWith yL_trialReward cL_trialReward 5 (some .int) hh_L_trialReward :: gTb) 12 1 6 [.ref a0, .int a1, .int a2, .ref ao] G S T (some (.int 2)) G S T := by
  refine Ct.ofH rfl (Nat.le_of_ble_eq_true rfl) rfl ca_L_trialReward.1 (fun K g e hK => ?_)
  obtain ⟨rfl, -, ht⟩ := hK
  show Xj K [] G 0 [some (.ref a0), some (.int a1), some (.int a2), some (.ref ao), none] [] S T 1 6
  refine x_aload_n 3 g dL_trialReward_0 rfl rfl ?_
  refine x_iconst g dL_trialReward_1 rfl ?_
  refine x_aload_n 0 g dL_trialReward_2 rfl rfl ?_
  refine x_iload_n 1 g dL_trialReward_3 rfl rfl ?_
  refine x_iload_n 2 g dL_trialReward_4 rfl rfl ?_
  refine x_catV [(0, 10, 13, 21)] (0, 10, 17, 58) [] g (t_X5_trialReward h) ca_X5_trialReward in_X5_trialReward se_X5_trialReward lm_L_64 gXX5 hx (Nat.le_of_ble_eq_true rfl) (Nat.le_refl _) (Nat.le_refl _) rfl rfl (Nat.le_of_ble_eq_true rfl) dL_trialReward_5 ht rfl (fun z hz => by rw [List.mem_singleton.mp hz]; exact ⟨by decide, _, cl_L_21, by decide⟩) ⟨by decide, by decide⟩ (by decide) cl_L_58 (by decide) (fun q => ?_)
  refine x_astore g dL_trialReward_17 (Nat.le_of_ble_eq_true rfl) rfl ?_
  refine x_iconst g dL_trialReward_19 rfl ?_
  exact x_iret g e dL_trialReward_20
set_option maxRecDepth 100000 in
theorem k_L_trials {ad : Nat → Nat} {G : gG} {a0 : Nat} {a1 : Int32} {ao : Nat} {S : gS} {T : gT} {r : Int32} (h : f_X5_trials G a0 a1 S = some (.inr r)) (hx : gis G 2 a0) (ho : gis G 10 ao) (hn : gn G ao = 1) : Ct ad yL_trials (Cond.codeWith yL_trials cL_trials 4 (some .int) hh_L_trials :: gTb) 12 0 0 [.ref a0, .int a1, .ref ao] G S T (some (.int 0)) G (sr S ao 0 r) T := by
  refine Ct.ofH rfl (Nat.le_of_ble_eq_true rfl) rfl ca_L_trials.1 (fun K g e hK => ?_)
  obtain ⟨rfl, -, -⟩ := hK
  show Xj K [] G 0 [some (.ref a0), some (.int a1), some (.ref ao), none] [] S T 0 0
  refine x_aload_n 2 g dL_trials_0 rfl rfl ?_
  refine x_iconst g dL_trials_1 rfl ?_
  refine x_aload_n 0 g dL_trials_2 rfl rfl ?_
  refine x_iload_n 1 g dL_trials_3 rfl rfl ?_
  refine x_cVb [.int r, .int 0, .ref ao] g (k_X5_trials h) ca_X5_trials in_X5_trials se_X5_trials lm_L_49 gXX5 hx (Nat.le_of_ble_eq_true rfl) (Nat.zero_le _) (Nat.zero_le _) rfl rfl (Nat.le_of_ble_eq_true rfl) dL_trials_4 rfl ?_
  refine x_i2l g dL_trials_7 rfl ?_
  refine x_last g dL_trials_8 ho (vp_01 hn) ?_
  refine x_goto 15 g dL_trials_9 rfl ?_
  refine x_iconst g dL_trials_15 rfl ?_
  exact x_iret g e dL_trials_16
set_option maxRecDepth 100000 in
theorem t_L_trials_1 {ad : Nat → Nat} {G : gG} {a0 : Nat} {a1 : Int32} {ao : Nat} {S : gS} {T : gT} (h : f_X5_trials G a0 a1 S = some (.inl "java/lang/IndexOutOfBoundsException")) (hx : gis G 2 a0) : Ct ad yL_trials (Cond.codeWith yL_trials cL_trials 4 (some .int) hh_L_trials :: gTb) 12 1 6 [.ref a0, .int a1, .ref ao] G S T (some (.int 1)) G S T := by
  refine Ct.ofH rfl (Nat.le_of_ble_eq_true rfl) rfl ca_L_trials.1 (fun K g e hK => ?_)
  obtain ⟨rfl, -, ht⟩ := hK
  show Xj K [] G 0 [some (.ref a0), some (.int a1), some (.ref ao), none] [] S T 1 6
  refine x_aload_n 2 g dL_trials_0 rfl rfl ?_
  refine x_iconst g dL_trials_1 rfl ?_
  refine x_aload_n 0 g dL_trials_2 rfl rfl ?_
  refine x_iload_n 1 g dL_trials_3 rfl rfl ?_
  refine x_catV [] (0, 9, 12, 21) [] g (t_X5_trials h) ca_X5_trials in_X5_trials se_X5_trials lm_L_49 gXX5 hx (Nat.le_of_ble_eq_true rfl) (Nat.le_refl _) (Nat.le_refl _) rfl rfl (Nat.le_of_ble_eq_true rfl) dL_trials_4 ht rfl (fun z hz => by cases hz) ⟨by decide, by decide⟩ (by decide) cl_L_21 (by decide) (fun q => ?_)
  refine x_astore_n 3 g dL_trials_12 rfl (Nat.le_of_ble_eq_true rfl) rfl ?_
  refine x_iconst g dL_trials_13 rfl ?_
  exact x_iret g e dL_trials_14
set_option maxRecDepth 100000 in
theorem k_L_type {ad : Nat → Nat} {G : gG} {a0 : Nat} {a1 : Int32} {ao : Nat} {S S1 : gS} {T T1 : gT} {r : Int32} (h : f_X5_type G a0 a1 S T = some (.inr r, S1, T1)) (hx : gis G 2 a0) (ho : gis G 10 ao) (hn : gn G ao = 1) : Ct ad yL_type (Cond.codeWith yL_type cL_type 4 (some .int) hh_L_type :: gTb) 12 (gpc T) (gps T) [.ref a0, .int a1, .ref ao] G S T (some (.int 0)) G (sr S1 ao 0 r) T1 := by
  refine Ct.ofH rfl (Nat.le_of_ble_eq_true rfl) rfl ca_L_type.1 (fun K g e hK => ?_)
  obtain ⟨rfl, -, -⟩ := hK
  show Xj K [] G 0 [some (.ref a0), some (.int a1), some (.ref ao), none] [] S T (gpc T) (gps T)
  refine x_aload_n 2 g dL_type_0 rfl rfl ?_
  refine x_iconst g dL_type_1 rfl ?_
  refine x_aload_n 0 g dL_type_2 rfl rfl ?_
  refine x_iload_n 1 g dL_type_3 rfl rfl ?_
  refine x_cVb [.int r, .int 0, .ref ao] g (k_X5_type h) ca_X5_type in_X5_type se_X5_type lm_L_146 gXX5 hx (Nat.le_of_ble_eq_true rfl) (Nat.le_refl _) (Nat.le_refl _) rfl rfl (Nat.le_of_ble_eq_true rfl) dL_type_4 rfl ?_
  refine x_i2l g dL_type_7 rfl ?_
  refine x_last g dL_type_8 ho (vp_01 hn) ?_
  refine x_goto 18 g dL_type_9 rfl ?_
  refine x_iconst g dL_type_18 rfl ?_
  exact x_iret g e dL_type_19
set_option maxRecDepth 100000 in
theorem t_L_type_1 {ad : Nat → Nat} {G : gG} {a0 : Nat} {a1 : Int32} {ao : Nat} {S S1 : gS} {T T1 : gT} (h : f_X5_type G a0 a1 S T = some (.inl "java/lang/IllegalArgumentException", S1, T1)) (hx : gis G 2 a0) : Ct ad yL_type (Cond.codeWith yL_type cL_type 4 (some .int) hh_L_type :: gTb) 12 1 6 [.ref a0, .int a1, .ref ao] G S T (some (.int 1)) G S1 T1 := by
  refine Ct.ofH rfl (Nat.le_of_ble_eq_true rfl) rfl ca_L_type.1 (fun K g e hK => ?_)
  obtain ⟨rfl, -, ht⟩ := hK
  show Xj K [] G 0 [some (.ref a0), some (.int a1), some (.ref ao), none] [] S T 1 6
  refine x_aload_n 2 g dL_type_0 rfl rfl ?_
  refine x_iconst g dL_type_1 rfl ?_
  refine x_aload_n 0 g dL_type_2 rfl rfl ?_
  refine x_iload_n 1 g dL_type_3 rfl rfl ?_
  refine x_catV [] (0, 9, 12, 13) [(0, 9, 15, 15)] g (t_X5_type h) ca_X5_type in_X5_type se_X5_type lm_L_146 gXX5 hx (Nat.le_of_ble_eq_true rfl) (Nat.le_refl _) (Nat.le_refl _) rfl rfl (Nat.le_of_ble_eq_true rfl) dL_type_4 ht rfl (fun z hz => by cases hz) ⟨by decide, by decide⟩ (by decide) cl_L_13 (by decide) (fun q => ?_)
  refine x_astore_n 3 g dL_type_12 rfl (Nat.le_of_ble_eq_true rfl) rfl ?_
  refine x_iconst g dL_type_13 rfl ?_
  exact x_iret g e dL_type_14
set_option maxRecDepth 100000 in
theorem t_L_type_2 {ad : Nat → Nat} {G : gG} {a0 : Nat} {a1 : Int32} {ao : Nat} {S S1 : gS} {T T1 : gT} (h : f_X5_type G a0 a1 S T = some (.inl "java/lang/IllegalStateException", S1, T1)) (hx : gis G 2 a0) : Ct ad yL_type (Cond.codeWith yL_type cL_type 4 (some .int) hh_L_type :: gTb) 12 1 6 [.ref a0, .int a1, .ref ao] G S T (some (.int 2)) G S1 T1 := by
  refine Ct.ofH rfl (Nat.le_of_ble_eq_true rfl) rfl ca_L_type.1 (fun K g e hK => ?_)
  obtain ⟨rfl, -, ht⟩ := hK
  show Xj K [] G 0 [some (.ref a0), some (.int a1), some (.ref ao), none] [] S T 1 6
  refine x_aload_n 2 g dL_type_0 rfl rfl ?_
  refine x_iconst g dL_type_1 rfl ?_
  refine x_aload_n 0 g dL_type_2 rfl rfl ?_
  refine x_iload_n 1 g dL_type_3 rfl rfl ?_
  refine x_catV [(0, 9, 12, 13)] (0, 9, 15, 15) [] g (t_X5_type h) ca_X5_type in_X5_type se_X5_type lm_L_146 gXX5 hx (Nat.le_of_ble_eq_true rfl) (Nat.le_refl _) (Nat.le_refl _) rfl rfl (Nat.le_of_ble_eq_true rfl) dL_type_4 ht rfl (fun z hz => by rw [List.mem_singleton.mp hz]; exact ⟨by decide, _, cl_L_13, by decide⟩) ⟨by decide, by decide⟩ (by decide) cl_L_15 (by decide) (fun q => ?_)
  refine x_astore_n 3 g dL_type_15 rfl (Nat.le_of_ble_eq_true rfl) rfl ?_
  refine x_iconst g dL_type_16 rfl ?_
  exact x_iret g e dL_type_17
set_option maxRecDepth 100000 in
theorem k_L_umbrellaByStars {ad : Nat → Nat} {G : gG} {a0 : Nat} {a1 : Int32} {ao : Nat} {S : gS} {T : gT} {r : Int32} (h : f_X5_umbrellaByStars G a0 a1 S = some (.inr r)) (hx : gis G 2 a0) (ho : gis G 10 ao) (hn : gn G ao = 1) : Ct ad yL_umbrellaByStars (Cond.codeWith yL_umbrellaByStars cL_umbrellaByStars 4 (some .int) hh_L_umbrellaByStars :: gTb) 12 0 0 [.ref a0, .int a1, .ref ao] G S T (some (.int 0)) G (sr S ao 0 r) T := by
  refine Ct.ofH rfl (Nat.le_of_ble_eq_true rfl) rfl ca_L_umbrellaByStars.1 (fun K g e hK => ?_)
  obtain ⟨rfl, -, -⟩ := hK
  show Xj K [] G 0 [some (.ref a0), some (.int a1), some (.ref ao), none] [] S T 0 0
  refine x_aload_n 2 g dL_umbrellaByStars_0 rfl rfl ?_
  refine x_iconst g dL_umbrellaByStars_1 rfl ?_
  refine x_aload_n 0 g dL_umbrellaByStars_2 rfl rfl ?_
  refine x_iload_n 1 g dL_umbrellaByStars_3 rfl rfl ?_
  refine x_cVb [.int r, .int 0, .ref ao] g (k_X5_umbrellaByStars h) ca_X5_umbrellaByStars in_X5_umbrellaByStars se_X5_umbrellaByStars lm_L_123 gXX5 hx (Nat.le_of_ble_eq_true rfl) (Nat.zero_le _) (Nat.zero_le _) rfl rfl (Nat.le_of_ble_eq_true rfl) dL_umbrellaByStars_4 rfl ?_
  refine x_i2l g dL_umbrellaByStars_7 rfl ?_
  refine x_last g dL_umbrellaByStars_8 ho (vp_01 hn) ?_
  refine x_goto 15 g dL_umbrellaByStars_9 rfl ?_
  refine x_iconst g dL_umbrellaByStars_15 rfl ?_
  exact x_iret g e dL_umbrellaByStars_16
set_option maxRecDepth 100000 in
theorem t_L_umbrellaByStars_1 {ad : Nat → Nat} {G : gG} {a0 : Nat} {a1 : Int32} {ao : Nat} {S : gS} {T : gT} (h : f_X5_umbrellaByStars G a0 a1 S = some (.inl "java/util/NoSuchElementException")) (hx : gis G 2 a0) : Ct ad yL_umbrellaByStars (Cond.codeWith yL_umbrellaByStars cL_umbrellaByStars 4 (some .int) hh_L_umbrellaByStars :: gTb) 12 1 6 [.ref a0, .int a1, .ref ao] G S T (some (.int 1)) G S T := by
  refine Ct.ofH rfl (Nat.le_of_ble_eq_true rfl) rfl ca_L_umbrellaByStars.1 (fun K g e hK => ?_)
  obtain ⟨rfl, -, ht⟩ := hK
  show Xj K [] G 0 [some (.ref a0), some (.int a1), some (.ref ao), none] [] S T 1 6
  refine x_aload_n 2 g dL_umbrellaByStars_0 rfl rfl ?_
  refine x_iconst g dL_umbrellaByStars_1 rfl ?_
  refine x_aload_n 0 g dL_umbrellaByStars_2 rfl rfl ?_
  refine x_iload_n 1 g dL_umbrellaByStars_3 rfl rfl ?_
  refine x_catV [] (0, 9, 12, 58) [] g (t_X5_umbrellaByStars h) ca_X5_umbrellaByStars in_X5_umbrellaByStars se_X5_umbrellaByStars lm_L_123 gXX5 hx (Nat.le_of_ble_eq_true rfl) (Nat.le_refl _) (Nat.le_refl _) rfl rfl (Nat.le_of_ble_eq_true rfl) dL_umbrellaByStars_4 ht rfl (fun z hz => by cases hz) ⟨by decide, by decide⟩ (by decide) cl_L_58 (by decide) (fun q => ?_)
  refine x_astore_n 3 g dL_umbrellaByStars_12 rfl (Nat.le_of_ble_eq_true rfl) rfl ?_
  refine x_iconst g dL_umbrellaByStars_13 rfl ?_
  exact x_iret g e dL_umbrellaByStars_14
set_option maxRecDepth 100000 in
theorem k_L_undo {ad : Nat → Nat} {G : gG} {a0 : Nat}  {ao : Nat} {S S1 : gS} {T : gT} {r : Int32} (h : f_X5_undo G a0 S = some (.inr r, S1)) (hx : gis G 2 a0) (ho : gis G 10 ao) (hn : gn G ao = 1) : Ct ad yL_undo (Cond.codeWith yL_undo cL_undo 3 (some .int) hh_L_undo :: gTb) 12 0 0 [.ref a0, .ref ao] G S T (some (.int 0)) G (sr S1 ao 0 r) T := by
  refine Ct.ofH rfl (Nat.le_of_ble_eq_true rfl) rfl ca_L_undo.1 (fun K g e hK => ?_)
  obtain ⟨rfl, -, -⟩ := hK
  show Xj K [] G 0 [some (.ref a0), some (.ref ao), none] [] S T 0 0
  refine x_aload_n 1 g dL_undo_0 rfl rfl ?_
  refine x_iconst g dL_undo_1 rfl ?_
  refine x_aload_n 0 g dL_undo_2 rfl rfl ?_
  refine x_cVb [.int r, .int 0, .ref ao] g (k_X5_undo h) ca_X5_undo in_X5_undo se_X5_undo lm_L_159 gXX5 hx (Nat.le_of_ble_eq_true rfl) (Nat.zero_le _) (Nat.zero_le _) rfl rfl (Nat.le_of_ble_eq_true rfl) dL_undo_3 rfl ?_
  refine x_i2l g dL_undo_6 rfl ?_
  refine x_last g dL_undo_7 ho (vp_01 hn) ?_
  refine x_goto 14 g dL_undo_8 rfl ?_
  refine x_iconst g dL_undo_14 rfl ?_
  exact x_iret g e dL_undo_15
set_option maxRecDepth 100000 in
theorem t_L_undo_1 {ad : Nat → Nat} {G : gG} {a0 : Nat}  {ao : Nat} {S S1 : gS} {T : gT} (h : f_X5_undo G a0 S = some (.inl "java/lang/IllegalStateException", S1)) (hx : gis G 2 a0) : Ct ad yL_undo (Cond.codeWith yL_undo cL_undo 3 (some .int) hh_L_undo :: gTb) 12 1 6 [.ref a0, .ref ao] G S T (some (.int 1)) G S1 T := by
  refine Ct.ofH rfl (Nat.le_of_ble_eq_true rfl) rfl ca_L_undo.1 (fun K g e hK => ?_)
  obtain ⟨rfl, -, ht⟩ := hK
  show Xj K [] G 0 [some (.ref a0), some (.ref ao), none] [] S T 1 6
  refine x_aload_n 1 g dL_undo_0 rfl rfl ?_
  refine x_iconst g dL_undo_1 rfl ?_
  refine x_aload_n 0 g dL_undo_2 rfl rfl ?_
  refine x_catV [] (0, 8, 11, 15) [] g (t_X5_undo h) ca_X5_undo in_X5_undo se_X5_undo lm_L_159 gXX5 hx (Nat.le_of_ble_eq_true rfl) (Nat.le_refl _) (Nat.le_refl _) rfl rfl (Nat.le_of_ble_eq_true rfl) dL_undo_3 ht rfl (fun z hz => by cases hz) ⟨by decide, by decide⟩ (by decide) cl_L_15 (by decide) (fun q => ?_)
  refine x_astore_n 2 g dL_undo_11 rfl (Nat.le_of_ble_eq_true rfl) rfl ?_
  refine x_iconst g dL_undo_12 rfl ?_
  exact x_iret g e dL_undo_13
set_option maxRecDepth 100000 in
theorem k_L_wouldOpen {ad : Nat → Nat} {G : gG} {a0 : Nat} {a1 : Int32} {a2 : Int32} {a3 : Int32} {ao : Nat} {S : gS} {T : gT} {r : Bool} (h : f_X5_wouldOpen G a0 a1 a2 a3 S = some (.inr r)) (hx : gis G 2 a0) (ho : gis G 10 ao) (hn : gn G ao = 1) : Ct ad yL_wouldOpen (Cond.codeWith yL_wouldOpen cL_wouldOpen 6 (some .int) hh_L_wouldOpen :: gTb) 12 0 0 [.ref a0, .int a1, .int a2, .int a3, .ref ao] G S T (some (.int 0)) G (sr S ao 0 (gz r)) T := by
  refine Ct.ofH rfl (Nat.le_of_ble_eq_true rfl) rfl ca_L_wouldOpen.1 (fun K g e hK => ?_)
  obtain ⟨rfl, -, -⟩ := hK
  show Xj K [] G 0 [some (.ref a0), some (.int a1), some (.int a2), some (.int a3), some (.ref ao), none] [] S T 0 0
  refine x_aload g dL_wouldOpen_0 rfl ?_
  refine x_iconst g dL_wouldOpen_2 rfl ?_
  refine x_aload_n 0 g dL_wouldOpen_3 rfl rfl ?_
  refine x_iload_n 1 g dL_wouldOpen_4 rfl rfl ?_
  refine x_iload_n 2 g dL_wouldOpen_5 rfl rfl ?_
  refine x_iload_n 3 g dL_wouldOpen_6 rfl rfl ?_
  refine x_cVb [.int (gz r), .int 0, .ref ao] g (k_X5_wouldOpen h) ca_X5_wouldOpen in_X5_wouldOpen se_X5_wouldOpen lm_L_74 gXX5 hx (Nat.le_of_ble_eq_true rfl) (Nat.zero_le _) (Nat.zero_le _) rfl rfl (Nat.le_of_ble_eq_true rfl) dL_wouldOpen_7 rfl ?_
  cases r with
  | false =>
    refine x_if_eq 17 g dL_wouldOpen_10 rfl (fun _ => ?_) (fun z => absurd rfl z)
    refine x_lconst (v := (0 : Int32).toInt64) g dL_wouldOpen_17 (by decide) ?_
    refine x_last (v := 0) g dL_wouldOpen_18 ho (vp_01 hn) ?_
    refine x_goto 30 g dL_wouldOpen_19 rfl ?_
    refine x_iconst g dL_wouldOpen_30 rfl ?_
    exact x_iret g e dL_wouldOpen_31
  | true =>
    refine x_if_eq 17 g dL_wouldOpen_10 rfl (fun z => absurd z (by decide)) (fun _ => ?_)
    refine x_lconst (v := (1 : Int32).toInt64) g dL_wouldOpen_13 (by decide) ?_
    refine x_goto 18 g dL_wouldOpen_14 rfl ?_
    refine x_last (v := 1) g dL_wouldOpen_18 ho (vp_01 hn) ?_
    refine x_goto 30 g dL_wouldOpen_19 rfl ?_
    refine x_iconst g dL_wouldOpen_30 rfl ?_
    exact x_iret g e dL_wouldOpen_31
set_option maxRecDepth 100000 in
theorem t_L_wouldOpen_1 {ad : Nat → Nat} {G : gG} {a0 : Nat} {a1 : Int32} {a2 : Int32} {a3 : Int32} {ao : Nat} {S : gS} {T : gT} (h : f_X5_wouldOpen G a0 a1 a2 a3 S = some (.inl "java/lang/IndexOutOfBoundsException")) (hx : gis G 2 a0) : Ct ad yL_wouldOpen (Cond.codeWith yL_wouldOpen cL_wouldOpen 6 (some .int) hh_L_wouldOpen :: gTb) 12 1 6 [.ref a0, .int a1, .int a2, .int a3, .ref ao] G S T (some (.int 1)) G S T := by
  refine Ct.ofH rfl (Nat.le_of_ble_eq_true rfl) rfl ca_L_wouldOpen.1 (fun K g e hK => ?_)
  obtain ⟨rfl, -, ht⟩ := hK
  show Xj K [] G 0 [some (.ref a0), some (.int a1), some (.int a2), some (.int a3), some (.ref ao), none] [] S T 1 6
  refine x_aload g dL_wouldOpen_0 rfl ?_
  refine x_iconst g dL_wouldOpen_2 rfl ?_
  refine x_aload_n 0 g dL_wouldOpen_3 rfl rfl ?_
  refine x_iload_n 1 g dL_wouldOpen_4 rfl rfl ?_
  refine x_iload_n 2 g dL_wouldOpen_5 rfl rfl ?_
  refine x_iload_n 3 g dL_wouldOpen_6 rfl rfl ?_
  refine x_catV [] (0, 19, 22, 21) [(0, 19, 26, 13)] g (t_X5_wouldOpen h) ca_X5_wouldOpen in_X5_wouldOpen se_X5_wouldOpen lm_L_74 gXX5 hx (Nat.le_of_ble_eq_true rfl) (Nat.le_refl _) (Nat.le_refl _) rfl rfl (Nat.le_of_ble_eq_true rfl) dL_wouldOpen_7 ht rfl (fun z hz => by cases hz) ⟨by decide, by decide⟩ (by decide) cl_L_21 (by decide) (fun q => ?_)
  refine x_astore g dL_wouldOpen_22 (Nat.le_of_ble_eq_true rfl) rfl ?_
  refine x_iconst g dL_wouldOpen_24 rfl ?_
  exact x_iret g e dL_wouldOpen_25
set_option maxRecDepth 100000 in
theorem t_L_wouldOpen_2 {ad : Nat → Nat} {G : gG} {a0 : Nat} {a1 : Int32} {a2 : Int32} {a3 : Int32} {ao : Nat} {S : gS} {T : gT} (h : f_X5_wouldOpen G a0 a1 a2 a3 S = some (.inl "java/lang/IllegalArgumentException")) (hx : gis G 2 a0) : Ct ad yL_wouldOpen (Cond.codeWith yL_wouldOpen cL_wouldOpen 6 (some .int) hh_L_wouldOpen :: gTb) 12 1 6 [.ref a0, .int a1, .int a2, .int a3, .ref ao] G S T (some (.int 2)) G S T := by
  refine Ct.ofH rfl (Nat.le_of_ble_eq_true rfl) rfl ca_L_wouldOpen.1 (fun K g e hK => ?_)
  obtain ⟨rfl, -, ht⟩ := hK
  show Xj K [] G 0 [some (.ref a0), some (.int a1), some (.int a2), some (.int a3), some (.ref ao), none] [] S T 1 6
  refine x_aload g dL_wouldOpen_0 rfl ?_
  refine x_iconst g dL_wouldOpen_2 rfl ?_
  refine x_aload_n 0 g dL_wouldOpen_3 rfl rfl ?_
  refine x_iload_n 1 g dL_wouldOpen_4 rfl rfl ?_
  refine x_iload_n 2 g dL_wouldOpen_5 rfl rfl ?_
  refine x_iload_n 3 g dL_wouldOpen_6 rfl rfl ?_
  refine x_catV [(0, 19, 22, 21)] (0, 19, 26, 13) [] g (t_X5_wouldOpen h) ca_X5_wouldOpen in_X5_wouldOpen se_X5_wouldOpen lm_L_74 gXX5 hx (Nat.le_of_ble_eq_true rfl) (Nat.le_refl _) (Nat.le_refl _) rfl rfl (Nat.le_of_ble_eq_true rfl) dL_wouldOpen_7 ht rfl (fun z hz => by rw [List.mem_singleton.mp hz]; exact ⟨by decide, _, cl_L_21, by decide⟩) ⟨by decide, by decide⟩ (by decide) cl_L_13 (by decide) (fun q => ?_)
  refine x_astore g dL_wouldOpen_26 (Nat.le_of_ble_eq_true rfl) rfl ?_
  refine x_iconst g dL_wouldOpen_28 rfl ?_
  exact x_iret g e dL_wouldOpen_29
