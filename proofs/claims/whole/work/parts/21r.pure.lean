/-! the reference writes its line -/
theorem nar128 : ∀ c, c < 128 → vp_nar .char (((nI c).toUInt32 % 65536).toInt32) = nI c := by decide +kernel
theorem nar127 : ∀ c, c < 128 → vp_nar .char (nI c) = nI c := by decide +kernel
theorem narc {c : Nat} (h : c < 128) : narrow .char (.int (nI c)) = .int (nI c) := by
  have e : narrow .char (.int (nI c)) = .int (vp_nar .char (nI c)) := rfl
  rw [e, nar127 c h]
def qW (S : gS) (m : Nat) (r : Nat → Nat) (l : List Nat) (S' : gS) : Prop := gFr [m, r 4] S S' ∧ (∀ f, f ≠ 34 → gI S' f m = gI S f m) ∧ gI S' 34 m = nI l.length ∧ ∀ k c, l[k]? = some c → gr S' (r 4) k = nI c
theorem app1 {l : List Nat} {c k x : Nat} (h : (l ++ [c])[k]? = some x) : l[k]? = some x ∨ k = l.length ∧ x = c := by
  by_cases q : k < l.length
  · rw [List.getElem?_append_left q] at h
    exact Or.inl h
  · rw [List.getElem?_append_right (by omega)] at h
    have hk := (List.getElem?_eq_some_iff.mp h).1
    have e : k - l.length = 0 := by
      have : k - l.length < 1 := hk
      omega
    rw [e] at h
    cases h
    exact Or.inr ⟨by omega, rfl⟩
section DF
variable {G : gG} {S S' : gS} {m : Nat} {r : Nat → Nat} {l : List Nat}
theorem q_writes (h : mSh G S m r) (hq : qW S m r l S') (hl : l.length < 60) {c : Nat} {a : Int32} (ha : a = nI c) (hc : c < 128) : wp (f_X6_writes G m a S') (qW S m r (l ++ [c])) := by
  subst ha
  obtain ⟨q1, q2, q3, q4⟩ := hq
  have h' := h.fr q1
  obtain ⟨s1, s2, s3⟩ := h'.2.1 4 (by decide)
  have s1 : gP S' 14 m = some (r 4) := s1
  have s2 : gis G 6 (r 4) := s2
  have s3 : gn G (r 4) = 60 := s3
  unfold f_X6_writes
  refine wp_gd h'.1 (wp_gb s1 (wp_gd s2 (wp_gd ?_ (wp_glt (fun S1 e1 => wp_glt (fun S2 e2 => wp_ret ?_))))))
  · rw [q3, s3]
    exact vp_nI hl (by decide)
  · rw [q3, nI_clamp (by omega), nar128 c hc] at e1
    have e4 : gI S1 34 m = nI l.length := by rw [e1]; exact q3
    refine ⟨(q1.r' e1 (by simp)).I' e2 (by simp), fun f hf => ?_, ?_, fun k x hk => ?_⟩
    · rw [e2, gI_sI, if_neg (fun q => hf q.1), e1]
      exact q2 f hf
    · rw [e2, gI_sI, if_pos ⟨rfl, rfl⟩, e4, nI_1, List.length_append]
      rfl
    · rw [e2, gr_sI, e1, gr_sr_at]
      rcases app1 hk with q | ⟨rfl, rfl⟩
      · rw [if_neg (fun z => by have := (List.getElem?_eq_some_iff.mp q).1; omega)]
        exact q4 k x q
      · rw [if_pos rfl]
/-- the digits of v from the j-th on -/
def dl (v : Nat) : Nat → List Nat
  | 0 => [48 + v / 10 ^ 0 % 10]
  | j + 1 => (48 + v / 10 ^ (j + 1) % 10) :: dl v j
theorem dl_eq (v : Nat) : ∀ j, (List.range (j + 1)).map (fun i => 48 + v / 10 ^ (j - i) % 10) = dl v j := by
  intro j
  induction j with
  | zero => rfl
  | succ j ih =>
    rw [List.range_succ_eq_map, List.map_cons, List.map_map]
    show (48 + v / 10 ^ (j + 1 - 0) % 10) :: _ = (48 + v / 10 ^ (j + 1) % 10) :: dl v j
    rw [← ih, Nat.sub_zero]
    congr 1
    refine List.map_congr_left (fun i _ => ?_)
    show 48 + v / 10 ^ (j + 1 - (i + 1)) % 10 = _
    rw [show j + 1 - (i + 1) = j - i by omega]
theorem dl_len (v : Nat) : ∀ j, (dl v j).length = j + 1 := by
  intro j
  induction j with
  | zero => rfl
  | succ j ih => exact congrArg (· + 1) ih
theorem dl_lt (v : Nat) : ∀ j, ∀ c ∈ dl v j, c < 128 := by
  intro j
  induction j with
  | zero =>
    intro c hc
    rw [List.mem_singleton.mp hc]
    have := Nat.mod_lt (v / 10 ^ 0) (show 0 < 10 by decide)
    omega
  | succ j ih =>
    intro c hc
    rcases List.mem_cons.mp hc with q | q
    · rw [q]
      have := Nat.mod_lt (v / 10 ^ (j + 1)) (show 0 < 10 by decide)
      omega
    · exact ih c q
theorem gdec_dl (v : Nat) : gdec v = dl v (sb_dg v - 1) := by
  have h := (sb_dg_in v).1
  rw [← dl_eq]
  unfold gdec
  rw [show sb_dg v - 1 + 1 = sb_dg v by omega]
  rfl
theorem gdec_lt (v : Nat) : ∀ c ∈ gdec v, c < 128 := by
  rw [gdec_dl]
  exact dl_lt v _
theorem dg_up {v : Nat} (hv : v < 2 ^ 31) {j : Nat} (hj : j < 10) : v / 10 ^ j ≤ 9 ↔ sb_dg v ≤ j + 1 := by
  have hj' : j = 0 ∨ j = 1 ∨ j = 2 ∨ j = 3 ∨ j = 4 ∨ j = 5 ∨ j = 6 ∨ j = 7 ∨ j = 8 ∨ j = 9 := by omega
  unfold sb_dg
  rcases hj' with rfl | rfl | rfl | rfl | rfl | rfl | rfl | rfl | rfl | rfl <;> (repeat' split) <;> simp only [Nat.reducePow] <;> omega
theorem p10 {j : Nat} (hj : j < 10) : 10 ^ j < 2 ^ 31 := by
  have := Nat.pow_le_pow_right (show 0 < 10 by decide) (show j ≤ 9 by omega)
  exact Nat.lt_of_le_of_lt this (by decide)
theorem q_digits (h : mSh G S m r) {v : Nat} (hv : v < 2 ^ 31) {x2 : Int32} {kO : Int32 → gS → Option gS} : ∀ (j n : Nat) (l : List Nat) (S' : gS), qW S m r l S' → j < 10 → j + 1 < n → l.length + j < 60 → wp (f_X6_writesNumber_L20 G m (nI v) kO n x2 (nI (10 ^ j)) S') (qW S m r (l ++ dl v j)) := by
  intro j
  induction j with
  | zero =>
    intro n l S' hq hj hn hl
    obtain ⟨n, rfl⟩ : ∃ k, n = k + 1 + 1 := ⟨n - 2, by omega⟩
    have e := p10 hj
    rw [f_X6_writesNumber_L20]
    refine wp_f (by decide) (wp_gd (by decide) (wp_gd h.1 ?_))
    refine wp_gbw (q_writes h hq (by omega) (c := 48 + v / 10 ^ 0 % 10) ?_ ?_) (fun S1 q1 => wp_glt (fun x e1 => ?_))
    · rw [nI_div hv e]
      rw [show (10 : Int32) = nI 10 from rfl, nI_rem (by have := Nat.div_le_self v (10 ^ 0); omega) (by decide), show (48 : Int32) = nI 48 from rfl, nI_add]
    · have := Nat.mod_lt (v / 10 ^ 0) (show 0 < 10 by decide)
      omega
    · rw [f_X6_writesNumber_L20]
      refine wp_t (by rw [e1]; decide) (wp_ret q1)
  | succ j ih =>
    intro n l S' hq hj hn hl
    obtain ⟨n, rfl⟩ : ∃ k, n = k + 1 := ⟨n - 1, by omega⟩
    have e := p10 hj
    have e0 : 0 < 10 ^ (j + 1) := Nat.pow_pos (by decide)
    rw [f_X6_writesNumber_L20]
    refine wp_f (nI_nle e0 e) (wp_gd (nI_ne0 e0 e) (wp_gd h.1 ?_))
    refine wp_gbw (q_writes h hq (by omega) (c := 48 + v / 10 ^ (j + 1) % 10) ?_ ?_) (fun S1 q1 => wp_glt (fun x e1 => ?_))
    · rw [nI_div hv e]
      rw [show (10 : Int32) = nI 10 from rfl, nI_rem (by have := Nat.div_le_self v (10 ^ (j + 1)); omega) (by decide), show (48 : Int32) = nI 48 from rfl, nI_add]
    · have := Nat.mod_lt (v / 10 ^ (j + 1)) (show 0 < 10 by decide)
      omega
    · have ex : x = nI (10 ^ j) := by
        rw [e1, show (10 : Int32) = nI 10 from rfl, nI_div e (by decide), Nat.pow_succ, Nat.mul_div_cancel _ (by decide)]
      rw [ex]
      have := ih n (l ++ [48 + v / 10 ^ (j + 1) % 10]) S1 q1 (by omega) (by omega) (by rw [List.length_append]; show l.length + 1 + j < 60; omega)
      rw [List.append_assoc] at this
      exact this
theorem q_unit (h : mSh G S m r) {v : Nat} (hv : v < 2 ^ 31) {l : List Nat} {S' : gS} (hq : qW S m r l S') (hl : l.length + 10 ≤ 60) : ∀ (n j : Nat), j < sb_dg v → sb_dg v - j < n → wp (f_X6_writesNumber_L2 G m (nI v) n (nI (10 ^ j)) S') (qW S m r (l ++ gdec v)) := by
  have hd := sb_dg_in v
  intro n
  induction n with
  | zero => intro j hj hn; omega
  | succ n ih =>
    intro j hj hn
    have e := p10 (j := j) (by omega)
    have e0 : 0 < 10 ^ j := Nat.pow_pos (by decide)
    have e9 := Nat.div_le_self v (10 ^ j)
    rw [f_X6_writesNumber_L2]
    refine wp_gd (nI_ne0 e0 e) ?_
    by_cases q : v / 10 ^ j ≤ 9
    · have hj2 := (dg_up hv (by omega)).mp q
      refine wp_t (by rw [nI_div hv e]; exact nI_le q (by decide)) ?_
      have ej : sb_dg v - 1 = j := by omega
      rw [gdec_dl, ej]
      exact q_digits h hv j gN l S' hq (by omega) (by rw [gN_e]; omega) (by omega)
    · have hj2 : ¬ sb_dg v ≤ j + 1 := fun z => q ((dg_up hv (by omega)).mpr z)
      refine wp_f (by rw [nI_div hv e]; exact (show ¬ nI (v / 10 ^ j) ≤ nI 9 from nI_ge (by omega) (by omega))) (wp_glt (fun x e1 => ?_))
      have ex : x = nI (10 ^ (j + 1)) := by rw [e1, show (10 : Int32) = nI 10 from rfl, nI_mul, Nat.pow_succ]
      rw [ex]
      exact ih (j + 1) (by omega) (by omega)
theorem q_number (h : mSh G S m r) {v : Nat} {a : Int32} (ha : a = nI v) (hv : v < 2 ^ 31) {l : List Nat} {S' : gS} (hq : qW S m r l S') (hl : l.length + 10 ≤ 60) : wp (f_X6_writesNumber G m a S') (qW S m r (l ++ gdec v)) := by
  subst ha
  have := sb_dg_in v
  exact q_unit h hv hq hl gN 0 (by omega) (by rw [gN_e]; omega)
end DF
