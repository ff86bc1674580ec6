/-! the class: trials forgotten, sums, counts, copies -/
section CV
variable {G : gG} {S : gS} {x : gUA} {U : mU} {N : Nat}
-- trials of one rain forgotten
def mKeep (L : List (Nat × Nat)) (rn : Nat) : List (Nat × Nat) := L.filter (fun t => !(t.1 / 8 == rn))
def mForget (U : mU) (rn : Nat) : mU := (upd U.1 3 (nI (mKeep U.2 rn).length), mKeep U.2 rn)
theorem mKeep_nil (rn : Nat) : mKeep [] rn = [] := rfl
theorem mKeep_cons (t : Nat × Nat) (L : List (Nat × Nat)) (rn : Nat) : mKeep (t :: L) rn = if t.1 / 8 = rn then mKeep L rn else t :: mKeep L rn := by
  unfold mKeep
  by_cases c : t.1 / 8 = rn
  · rw [if_pos c, List.filter_cons_of_neg (by simp [c])]
  · rw [if_neg c, List.filter_cons_of_pos (by simp [c])]
theorem mKeep_le (L : List (Nat × Nat)) (rn : Nat) : (mKeep L rn).length ≤ L.length := List.length_filter_le _ _
theorem c_rain {t : Nat × Nat} (ht : t.1 < 32) : f_X5_rainOfCase (nI t.1) = some (nI (t.1 / 8)) := by
  unfold f_X5_rainOfCase f_X5_rainOfSituation
  rw [gb_S, show (2 : Int32) = nI 2 from rfl, show (4 : Int32) = nI 4 from rfl, nI_div (by omega) (by decide), nI_div (by omega) (by decide)]
  congr 2
  omega
theorem c_forget_L {rn : Nat} (hr : rn < 4) : ∀ (n : Nat) (P Q : List (Nat × Nat)) (k : Nat) (S : gS), uOk G S x → P.length ≤ k → k + Q.length ≤ 20 → Q.length < n → (∀ t ∈ Q, t.1 < 32) →
    gI S 13 x.1 = nI (k + Q.length) → (∀ j t, P[j]? = some t → gr S (x.2 0) j = nI t.1 ∧ gr S (x.2 1) j = trw t) → (∀ j t, Q[j]? = some t → gr S (x.2 0) (k + j) = nI t.1 ∧ gr S (x.2 1) (k + j) = trw t) →
    (∀ c, c < 32 → gr S (x.2 2) c = nI (ct (P ++ Q) c) ∧ gr S (x.2 3) c = sm (P ++ Q) c) →
    wp (f_X4_forgetTrialsIn_L4 G x.1 (nI rn) n (nI P.length) (nI k) S) (fun y => y.1 = nI (k + Q.length - (P ++ mKeep Q rn).length) ∧ gFr (uFp x) S y.2 ∧ (∀ f, gI y.2 f x.1 = if f = 13 then nI (P ++ mKeep Q rn).length else gI S f x.1) ∧
      (∀ j t, (P ++ mKeep Q rn)[j]? = some t → gr y.2 (x.2 0) j = nI t.1 ∧ gr y.2 (x.2 1) j = trw t) ∧ ∀ c, c < 32 → gr y.2 (x.2 2) c = nI (ct (P ++ mKeep Q rn) c) ∧ gr y.2 (x.2 3) c = sm (P ++ mKeep Q rn) c) := by
  intro n
  induction n with
  | zero => intro P Q k S _ _ _ hn; omega
  | succ n ih =>
    intro P Q k S h hPk hk hn hQ h13 hP hQr hc
    rw [f_X4_forgetTrialsIn_L4]
    refine wp_gd h.1.1 ?_
    rw [h13]
    cases Q with
    | nil =>
      refine wp_t (nI_le (by simp) (by simp at hk ⊢; omega)) ?_
      refine wp_glt (fun y ey => wp_glt (fun S1 e1 => wp_ret ?_))
      rw [mKeep_nil, List.append_nil]
      rw [List.append_nil] at hc
      have hf := (gFr.rfl' (S := S)).I' e1 (uFp_0 x)
      subst e1
      refine ⟨?_, hf, fun f => ?_, hP, hc⟩
      · rw [ey, nI_sub (by simp; omega)]
      · show gI (sI S 13 x.1 (nI P.length)) f x.1 = _
        rw [gI_sI]
        by_cases q : f = 13
        · rw [if_pos ⟨q, rfl⟩, if_pos q]
        · rw [if_neg (fun z => q z.1), if_neg q]
    | cons t Q =>
      have hkl : k + Q.length + 1 ≤ 20 := by rw [List.length_cons] at hk; omega
      have hl : k + (t :: Q).length = k + 1 + Q.length := by rw [List.length_cons]; omega
      have ht := hQ t List.mem_cons_self
      have h0 := hQr 0 t rfl
      rw [Nat.add_zero] at h0
      refine wp_f (nI_ge (by rw [List.length_cons]; omega) (by rw [List.length_cons]; omega)) ?_
      refine wp_gb h.p0.1 (wp_gb (c_val h.p0.2.1 h.p0.2.2 (by omega) (by decide)) ?_)
      refine wp_gb h.p1.1 (wp_gb (c_val h.p1.2.1 h.p1.2.2 (by omega) (by decide)) ?_)
      rw [h0.1, h0.2]
      refine wp_gb (c_rain ht) ?_
      rw [mKeep_cons]
      by_cases c : t.1 / 8 = rn
      · rw [if_pos c]
        refine wp_t (congrArg nI c) ?_
        refine wp_gb (c_count h rfl ht) ?_
        refine wp_glt (fun z e => ?_)
        rw [nI_1] at e
        subst e
        have f2 : gFr (uFp x) S (sr (sr S (x.2 2) t.1 (gr S (x.2 2) t.1 + -1)) (x.2 3) t.1 (gr S (x.2 3) t.1 + -trw t)) := (gFr.rfl'.r (uFp_r x (by decide))).r (uFp_r x (by decide))
        have z0 : ∀ j, gr (sr (sr S (x.2 2) t.1 (gr S (x.2 2) t.1 + -1)) (x.2 3) t.1 (gr S (x.2 3) t.1 + -trw t)) (x.2 0) j = gr S (x.2 0) j := fun j => by
          rw [gr_sr_ne (h.2 0 3 (by decide) (by decide) (by decide)), gr_sr_ne (h.2 0 2 (by decide) (by decide) (by decide))]
        have z1 : ∀ j, gr (sr (sr S (x.2 2) t.1 (gr S (x.2 2) t.1 + -1)) (x.2 3) t.1 (gr S (x.2 3) t.1 + -trw t)) (x.2 1) j = gr S (x.2 1) j := fun j => by
          rw [gr_sr_ne (h.2 1 3 (by decide) (by decide) (by decide)), gr_sr_ne (h.2 1 2 (by decide) (by decide) (by decide))]
        rw [hl]
        refine wp_mono (ih P Q (k + 1) _ (h.fr f2) (by omega) (by omega) (by rw [List.length_cons] at hn; omega) (fun t' h' => hQ t' (List.mem_cons_of_mem _ h')) (by rw [← hl]; exact h13) (fun j t' hj => by rw [z0, z1]; exact hP j t' hj) (fun j t' hj => by
          rw [z0, z1, show k + 1 + j = k + (j + 1) by omega]; exact hQr (j + 1) t' hj) (fun c' hc' => ?_)) (fun y hy => ⟨hy.1, f2.trans hy.2.1, hy.2.2⟩)
        have hc2 := hc c' hc'
        rw [ct_app, sm_app, ct_cons, sm_cons] at hc2
        rw [gr_sr_ne (h.2 2 3 (by decide) (by decide) (by decide)), gr_sr_at, gr_sr_at, gr_sr_ne (h.2 3 2 (by decide) (by decide) (by decide)), ct_app, sm_app]
        by_cases q : c' = t.1
        · subst q
          rw [if_pos rfl, if_pos rfl] at hc2
          rw [if_pos rfl, if_pos rfl, hc2.1, hc2.2, show ct P t.1 + (1 + ct Q t.1) = ct P t.1 + ct Q t.1 + 1 by omega, nI_dec]
          refine ⟨rfl, ?_⟩
          rw [Int32.add_comm (trw t), ← Int32.add_assoc, Int32.add_neg_eq_sub, Int32.add_sub_cancel]
        · rw [if_neg (fun z => q z.symm), if_neg (fun z => q z.symm), Nat.zero_add, Int32.zero_add] at hc2
          rw [if_neg q, if_neg q]
          exact hc2
      · rw [if_neg c]
        refine wp_f (fun q => c ((nI_eq (by omega) (by omega)).mp q)) ?_
        refine wp_gb h.p0.1 (wp_gb (c_put h.p0.2.1 h.p0.2.2 (by omega) (by decide)) ?_)
        obtain ⟨S1, e1⟩ : ∃ S1, S1 = sr S (x.2 0) P.length (nI t.1) := ⟨_, rfl⟩
        rw [← e1]
        have f1 := (gFr.rfl' (S := S)).r' e1 (uFp_r x (show 0 < 4 by decide))
        have o1 := h.fr f1
        refine wp_gb o1.p1.1 (wp_gb (c_put o1.p1.2.1 o1.p1.2.2 (by omega) (by decide)) ?_)
        obtain ⟨S2, e2⟩ : ∃ S2, S2 = sr S1 (x.2 1) P.length (trw t) := ⟨_, rfl⟩
        rw [← e2]
        have f2 := f1.r' e2 (uFp_r x (show 1 < 4 by decide))
        refine wp_glt (fun z e => ?_)
        rw [nI_1] at e
        subst e
        refine wp_glt (fun z e => ?_)
        rw [nI_1] at e
        subst e
        have z0 : ∀ j, gr S2 (x.2 0) j = if j = P.length then nI t.1 else gr S (x.2 0) j := fun j => by
          rw [e2, gr_sr_ne (h.2 0 1 (by decide) (by decide) (by decide)), e1, gr_sr_at]
        have z1 : ∀ j, gr S2 (x.2 1) j = if j = P.length then trw t else gr S (x.2 1) j := fun j => by
          rw [e2, gr_sr_at, e1, gr_sr_ne (h.2 1 0 (by decide) (by decide) (by decide))]
        have z2 : ∀ j, gr S2 (x.2 2) j = gr S (x.2 2) j := fun j => by
          rw [e2, gr_sr_ne (h.2 2 1 (by decide) (by decide) (by decide)), e1, gr_sr_ne (h.2 2 0 (by decide) (by decide) (by decide))]
        have z3 : ∀ j, gr S2 (x.2 3) j = gr S (x.2 3) j := fun j => by
          rw [e2, gr_sr_ne (h.2 3 1 (by decide) (by decide) (by decide)), e1, gr_sr_ne (h.2 3 0 (by decide) (by decide) (by decide))]
        have zI : ∀ f, gI S2 f x.1 = gI S f x.1 := fun f => by rw [e2, e1]; rfl
        have hPt : P.length + 1 = (P ++ [t]).length := by simp
        rw [hl, hPt, show P ++ t :: mKeep Q rn = (P ++ [t]) ++ mKeep Q rn by simp]
        refine wp_mono (ih (P ++ [t]) Q (k + 1) S2 (h.fr f2) (by rw [← hPt]; omega) (by omega) (by rw [List.length_cons] at hn; omega) (fun t' h' => hQ t' (List.mem_cons_of_mem _ h')) (by rw [← hl, zI]; exact h13) (fun j t' hj => ?_) (fun j t' hj => ?_) (fun c' hc' => ?_)) (fun y hy => ⟨hy.1, f2.trans hy.2.1, fun f => by rw [hy.2.2.1 f, zI], hy.2.2.2⟩)
        · rw [z0, z1]
          rcases mU_get hj with ⟨g1, g2⟩ | ⟨i, g1, g2⟩
          · rw [if_neg (by omega), if_neg (by omega)]
            exact hP j t' g1
          · cases i with
            | zero =>
              cases g2
              have g1 : j = P.length := g1
              rw [if_pos g1, if_pos g1]
              exact ⟨rfl, rfl⟩
            | succ i => cases g2
        · rw [z0, z1, if_neg (by omega), if_neg (by omega), show k + 1 + j = k + (j + 1) by omega]
          exact hQr (j + 1) t' hj
        · rw [z2, z3, show (P ++ [t]) ++ Q = P ++ t :: Q by simp]
          exact hc c' hc'
theorem c_forget (h : uOk G S x) (hR : uR S x U) (hU : uW N U) {rn : Nat} {a : Int32} (ha : a = nI rn) (hr : rn < 4) : wp (f_X4_forgetTrialsIn G x.1 a S) (fun y => y.1 = nI (U.2.length - (mKeep U.2 rn).length) ∧ uR y.2 x (mForget U rn) ∧ gFr (uFp x) S y.2) := by
  subst ha
  have h20 := hU.cap
  have h13 : gI S 13 x.1 = nI U.2.length := (hR.1 3 (by decide)).trans hU.2.2.1
  refine wp_mono (c_forget_L hr gN [] U.2 0 S h (Nat.zero_le _) (by omega) (by rw [gN_e]; omega) (fun t ht => (hU.2.2.2.1 t ht).1) (by rw [Nat.zero_add]; exact h13) (fun j t hj => by cases hj) (fun j t hj => by rw [Nat.zero_add]; exact hR.2.1 j t hj) (fun c hc => hR.2.2 c hc)) ?_
  rintro y ⟨y1, y2, y3, y4, y5⟩
  rw [Nat.zero_add, List.nil_append] at y1
  refine ⟨y1, ⟨fun f hf => ?_, y4, y5⟩, y2⟩
  rw [y3 (10 + f)]
  show _ = upd U.1 3 (nI (mKeep U.2 rn).length) f
  by_cases q : f = 3
  · rw [if_pos (by omega), q, upd_at, List.nil_append]
  · rw [if_neg (by omega), upd_ne q]
    exact hR.1 f hf
-- sums over the trials
theorem c_addup_L (h : uOk G S x) (hR : uR S x U) (hU : uW N U) {c : Nat} (hc : c < 32) : ∀ (n k : Nat) (v : Int32), k ≤ U.2.length → U.2.length - k < n → f_X4_addUpTrials_L4 G x.1 (nI c) S n v (nI k) = some (v + sm (U.2.drop k) c) := by
  have h20 := hU.cap
  have h13 : gI S 13 x.1 = nI U.2.length := (hR.1 3 (by decide)).trans hU.2.2.1
  intro n
  induction n with
  | zero => intro k v _ hn; omega
  | succ n ih =>
    intro k v hk hn
    rw [f_X4_addUpTrials_L4, gd_i h.1.1, h13]
    by_cases q : U.2.length ≤ k
    · rw [if_pos (nI_le q (by omega)), List.drop_eq_nil_of_le q, sm_nil, Int32.add_zero]
    · obtain ⟨t, ht⟩ : ∃ t, U.2[k]? = some t := ⟨_, List.getElem?_eq_getElem (by omega)⟩
      have htl := hU.2.2.2.1 t (List.mem_of_getElem? ht)
      have hv := hR.2.1 k t ht
      rw [if_neg (nI_ge (by omega) (by omega)), h.p0.1, gb_S, c_val h.p0.2.1 h.p0.2.2 (by omega) (by decide), gb_S, hv.1, drop_at ht, sm_cons]
      by_cases q2 : t.1 = c
      · rw [if_pos (congrArg nI q2), if_pos q2, h.p1.1, gb_S, c_val h.p1.2.1 h.p1.2.2 (by omega) (by decide), gb_S, hv.2, glt_S, glt_S, nI_1, ih (k + 1) _ (by omega) (by omega), Int32.add_assoc]
      · rw [if_neg (fun z => q2 ((nI_eq (by omega) (by omega)).mp z)), if_neg q2, glt_S, nI_1, ih (k + 1) _ (by omega) (by omega), Int32.zero_add]
theorem c_addup (h : uOk G S x) (hR : uR S x U) (hU : uW N U) {c : Nat} {a : Int32} (ha : a = nI c) (hc : c < 32) : f_X4_addUpTrials G x.1 a S = some (sm U.2 c) := by
  subst ha
  have h20 := hU.cap
  have := c_addup_L h hR hU hc gN 0 0 (Nat.zero_le _) (by rw [gN_e]; omega)
  rw [Int32.zero_add, List.drop_zero] at this
  exact this
theorem c_sums_L (h : uOk G S x) (hR : uR S x U) (hU : uW N U) : ∀ (n k : Nat), k ≤ 32 → 32 - k < n → f_X4_sumsAgree_L2 G x.1 S n (nI k) = some true := by
  intro n
  induction n with
  | zero => intro k _ hn; omega
  | succ n ih =>
    intro k hk hn
    rw [f_X4_sumsAgree_L2, show (32 : Int32) = nI 32 from rfl]
    by_cases q : 32 ≤ k
    · rw [if_pos (nI_le q (by omega))]
    · rw [if_neg (nI_ge (by omega) (by decide)), gd_i h.1.1, h.p3.1, gb_S, c_val h.p3.2.1 h.p3.2.2 (by omega) (by decide), gb_S, c_addup h hR hU rfl (by omega), gb_S, (hR.2.2 k (by omega)).2, if_pos rfl, glt_S, nI_1, ih (k + 1) (by omega) (by omega)]
theorem c_sums (h : uOk G S x) (hR : uR S x U) (hU : uW N U) : f_X4_sumsAgree G x.1 S = some true := c_sums_L h hR hU gN 0 (by omega) (by rw [gN_e]; omega)
theorem c_times (h : uOk G S x) (hR : uR S x U) {s : Nat} {a : Int32} (ha : a = nI s) (hs : s < 16) : f_X4_timesIn G x.1 a S = some (nI (ct U.2 (2 * s + 1) + ct U.2 (2 * s))) := by
  subst ha
  have e1 := hR.2.2 (2 * s + 1) (by omega)
  have e0 := hR.2.2 (2 * s) (by omega)
  unfold f_X4_timesIn
  rw [c_case, c_case, gd_i h.1.1, h.p2.1, gb_S, gb_S, show 2 * s + Bool.toNat true = 2 * s + 1 from rfl, show 2 * s + Bool.toNat false = 2 * s from rfl, c_val h.p2.2.1 h.p2.2.2 (by omega) (by decide), gb_S, gb_S, gb_S, c_val h.p2.2.1 h.p2.2.2 (by omega) (by decide), gb_S, e1.1, e0.1, nI_add]
end CV
