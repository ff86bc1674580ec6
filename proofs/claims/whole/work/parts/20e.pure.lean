/-! the reference: cells of its row, trials, habits -/
def mSh (G : gG) (S : gS) (m : Nat) (r : Nat → Nat) : Prop := gis G 3 m ∧ (∀ j, j < 7 → gP S (10 + j) m = some (r j) ∧ gis G (g6k j) (r j) ∧ gn G (r j) = g6n j) ∧ ∀ i j, i < 7 → j < 7 → i ≠ j → r i ≠ r j
theorem mSh.row {G : gG} {S : gS} {m a : Nat} {r : Nat → Nat} {f : Nat → Int32} (h : mSh G S m r) : mSh G (srow S a f) m r := h
theorem mSh.I {G : gG} {S : gS} {m a f : Nat} {r : Nat → Nat} {v : Int32} (h : mSh G S m r) : mSh G (sI S f a v) m r := h
theorem mSh.w {G : gG} {S : gS} {m : Nat} {r : Nat → Nat} (h : mSh G S m r) : gP S 10 m = some (r 0) ∧ gis G 7 (r 0) ∧ gn G (r 0) = 176 := h.2.1 0 (by decide)
theorem mSh.fr {G : gG} {S S' : gS} {m : Nat} {r : Nat → Nat} {X : List Nat} (h : mSh G S m r) (e : gFr X S S') : mSh G S' m r := ⟨h.1, fun j hj => ⟨(e.2.1 _ _).trans (h.2.1 j hj).1, (h.2.1 j hj).2⟩, h.2.2⟩
-- trials' codes
theorem cq_lt {c : Nat} (h : c < 32) : cq c < 32 := by unfold cq; omega
theorem cq_sp {c : Nat} (h : c < 32) : c / 8 < 4 ∧ c / 2 % 4 < 4 ∧ c % 2 < 2 ∧ c = 8 * (c / 8) + 2 * (c / 2 % 4) + c % 2 := by omega
theorem tcd_lt {t : Nat × Nat} (h : t.1 < 32 ∧ t.2 < 128) : cq t.1 + 32 * t.2 < 4096 := by have := cq_lt h.1; omega
theorem tcd_m32 {t : Nat × Nat} (h : t.1 < 32 ∧ t.2 < 128) : tcd t - tcd t / 32 * 32 = nI (cq t.1) := by
  have h1 := cq_lt h.1
  have h2 := tcd_lt h
  unfold tcd
  rw [show (32 : Int32) = nI 32 from rfl, nI_rem (by omega) (by decide)]
  congr 1
  omega
theorem tcd_d32 {t : Nat × Nat} (h : t.1 < 32 ∧ t.2 < 128) : tcd t / 32 - 64 = trw t := by
  have h1 := cq_lt h.1
  have h2 := tcd_lt h
  unfold tcd trw
  rw [show (32 : Int32) = nI 32 from rfl, nI_div (by omega) (by decide)]
  congr 2
  omega
theorem tcd_m4 {t : Nat × Nat} (h : t.1 < 32 ∧ t.2 < 128) : tcd t - tcd t / 4 * 4 = nI (t.1 / 8) := by
  have h2 := tcd_lt h
  unfold tcd
  rw [show (4 : Int32) = nI 4 from rfl, nI_rem (by omega) (by decide)]
  congr 1
  obtain ⟨g1, g2, g3, g4⟩ := cq_sp h.1
  unfold cq
  generalize t.1 / 8 = p at *
  generalize t.1 / 2 % 4 = q at *
  generalize t.1 % 2 = o at *
  omega
theorem tcd_op {t : Nat × Nat} (h : t.1 < 32 ∧ t.2 < 128) : tcd t / 16 - tcd t / 16 / 2 * 2 = nI (t.1 % 2) := by
  have h2 := tcd_lt h
  unfold tcd
  rw [show (16 : Int32) = nI 16 from rfl, nI_div (by omega) (by decide), show (2 : Int32) = nI 2 from rfl, nI_rem (by omega) (by decide)]
  congr 1
  obtain ⟨g1, g2, g3, g4⟩ := cq_sp h.1
  unfold cq
  generalize t.1 / 8 = p at *
  generalize t.1 / 2 % 4 = q at *
  generalize t.1 % 2 = o at *
  have e : (p + 4 * q + 16 * o + 32 * t.2) / 16 = o + 2 * t.2 := by omega
  rw [e]
  omega
theorem cq_eq {c rn wd op : Nat} (h : c < 32) (hr : rn < 4) (hw : wd < 4) (ho : op < 2) : cq c = rn + 4 * wd + 16 * op ↔ c = 2 * (4 * rn + wd) + op := by
  have key : ∀ c, c < 32 → ∀ rn, rn < 4 → ∀ wd, wd < 4 → ∀ op, op < 2 → (cq c = rn + 4 * wd + 16 * op ↔ c = 2 * (4 * rn + wd) + op) := by decide +kernel
  exact key c h rn hr wd hw op ho
section QW
variable {G : gG} {S : gS} {m : Nat} {r : Nat → Nat}
theorem q_ix {u k : Nat} {a b : Int32} (ha : a = nI u) (hb : b = nI k) : (8 + (28 * a)) + b = nI (8 + 28 * u + k) := by
  subst ha hb
  rw [show (28 : Int32) = nI 28 from rfl, show (8 : Int32) = nI 8 from rfl, nI_mul, nI_add, nI_add]
theorem q_of (h : mSh G S m r) {u k : Nat} {a b : Int32} (ha : a = nI u) (hb : b = nI k) (hi : 8 + 28 * u + k < 176) : f_X6_of G m a b S = some (gr S (r 0) (8 + 28 * u + k)) := by
  obtain ⟨h1, h2, h3⟩ := h.w
  have v : vp_in (nI (8 + 28 * u + k)) 176 := vp_nI hi (by decide)
  unfold f_X6_of
  rw [gd_i h.1, h1, gb_S, gd_i h2, h3, q_ix ha hb, gd_i v, nI_clamp (by omega)]
theorem q_puts (h : mSh G S m r) {u k : Nat} {a b : Int32} (v : Int32) (ha : a = nI u) (hb : b = nI k) (hi : 8 + 28 * u + k < 176) : f_X6_puts G m a b v S = some (srow S (r 0) (upd (gr S (r 0)) (8 + 28 * u + k) v)) := by
  obtain ⟨h1, h2, h3⟩ := h.w
  have w : vp_in (nI (8 + 28 * u + k)) 176 := vp_nI hi (by decide)
  unfold f_X6_puts
  rw [gd_i h.1, h1, gb_S, gd_i h2, h3, q_ix ha hb, gd_i w, nI_clamp (by omega), glt_S, sr_at]
theorem q_adds (h : mSh G S m r) {u k : Nat} {a b : Int32} (v : Int32) (ha : a = nI u) (hb : b = nI k) (hi : 8 + 28 * u + k < 176) : f_X6_adds G m a b v S = some (srow S (r 0) (upd (gr S (r 0)) (8 + 28 * u + k) (gr S (r 0) (8 + 28 * u + k) + v))) := by
  obtain ⟨h1, h2, h3⟩ := h.w
  have w : vp_in (nI (8 + 28 * u + k)) 176 := vp_nI hi (by decide)
  unfold f_X6_adds
  rw [gd_i h.1, h1, gb_S, gd_i h2, h3, q_ix ha hb, gd_i w, gd_i w, nI_clamp (by omega), glt_S, sr_at]
theorem q_isB (a lo hi : Int32) : f_X6_isBetween a lo hi = some (decide (lo ≤ a ∧ a ≤ hi)) := by
  unfold f_X6_isBetween
  by_cases c : a < lo
  · rw [if_pos c, decide_eq_false (fun q => Int32.not_lt.mpr q.1 c)]
  · rw [if_neg c]
    by_cases c2 : hi < a
    · rw [if_pos c2, decide_eq_false (fun q => Int32.not_lt.mpr q.2 c2)]
    · rw [if_neg c2, decide_eq_true ⟨Int32.not_lt.mp c, Int32.not_lt.mp c2⟩]
theorem nI_pred_lt {n : Nat} (hn : n ≤ 6) : nI n - 1 < nI n := by
  have h : ∀ k : Nat, k < 7 → nI k - 1 < nI k := by decide +kernel
  exact h n (by omega)
theorem b_in {n j : Nat} (hn : n ≤ 1000) (hj : j < n) : (0 : Int32) ≤ nI j ∧ nI j ≤ nI n - 1 := by
  refine ⟨nI_pos' (by omega), ?_⟩
  rw [show (1 : Int32) = nI 1 from rfl, nI_sub (by omega)]
  exact nI_le (by omega) (by omega)
theorem b_out {n : Nat} {x : Int32} (hn : n ≤ 1000) (hx : x < 0 ∨ nI n ≤ x) : ¬ ((0 : Int32) ≤ x ∧ x ≤ nI n - 1) := by
  rintro ⟨h1, h2⟩
  rcases hx with h | h
  · exact Int32.not_lt.mpr h1 h
  · cases n with
    | zero =>
      have : (0 : Int32) ≤ nI 0 - 1 := Int32.le_trans h1 h2
      exact absurd this (by decide)
    | succ n =>
      rw [show (1 : Int32) = nI 1 from rfl, nI_sub (by omega), Nat.add_sub_cancel] at h2
      have := Int32.le_trans h h2
      rw [nI_leI (by omega) (by omega)] at this
      omega
theorem q_isU (h : mSh G S m r) (x : Int32) : f_X6_isUmbrella G m x S = some (decide (0 ≤ x ∧ x ≤ gr S (r 0) 0 - 1)) := by
  obtain ⟨h1, h2, h3⟩ := h.w
  have w : vp_in (0 : Int32) 176 := vp_nI (n := 0) (by decide) (by decide)
  unfold f_X6_isUmbrella
  rw [gd_i h.1, h1, gb_S, gd_i h2, h3, gd_i w, q_isB, gb_S]
  rfl
-- habits
variable {u : Nat} {U : mU} {N : Nat}
theorem uW.cap {N : Nat} {U : mU} (h : uW N U) : U.2.length ≤ 20 := by
  obtain ⟨cap, -, -, h3, h4⟩ := h.1
  omega
theorem q_len (hR : rowU (gr S (r 0)) u U) (hU : uW N U) : gr S (r 0) (8 + 28 * u + 3) = nI U.2.length := (hR.1 3 (by decide)).trans hU.2.2.1
theorem q_tri (hR : rowU (gr S (r 0)) u U) {k : Nat} {t : Nat × Nat} (hk : U.2[k]? = some t) : gr S (r 0) (8 + 28 * u + (8 + k)) = tcd t := by
  rw [show 8 + 28 * u + (8 + k) = 16 + 28 * u + k by omega]
  exact hR.2 k t hk
theorem drop_at {L : List (Nat × Nat)} {k : Nat} {t : Nat × Nat} (h : L[k]? = some t) : L.drop k = t :: L.drop (k + 1) := by
  obtain ⟨h1, h2⟩ := List.getElem?_eq_some_iff.mp h
  rw [List.drop_eq_getElem_cons h1, h2]
theorem q_tried_L (h : mSh G S m r) {rn wd op : Nat} (hu : u < 6) (hr : rn < 4) (hw : wd < 4) (ho : op < 2) (hR : rowU (gr S (r 0)) u U) (hU : uW N U) : ∀ (n k : Nat) (x : Int32), k ≤ U.2.length → U.2.length - k < n → f_X6_triedTimes_L6 G m (nI u) (nI rn) (nI wd) (nI op) S n x (nI k) = some (x + nI (ct (U.2.drop k) (2 * (4 * rn + wd) + op))) := by
  have h20 := hU.cap
  intro n
  induction n with
  | zero => intro k x _ hn; omega
  | succ n ih =>
    intro k x hk hn
    rw [f_X6_triedTimes_L6, gd_i h.1, q_of h (u := u) (k := 3) (b := 3) rfl rfl (by omega), gb_S, q_len hR hU]
    by_cases c : U.2.length ≤ k
    · rw [if_pos (nI_le c (by omega)), List.drop_eq_nil_of_le c, ct_nil, nI_0, Int32.add_zero]
    · rw [if_neg (nI_ge (by omega) (by omega))]
      obtain ⟨t, ht⟩ : ∃ t, U.2[k]? = some t := ⟨_, List.getElem?_eq_getElem (by omega)⟩
      have htl := hU.2.2.2.1 t (List.mem_of_getElem? ht)
      rw [q_of h (u := u) (k := 8 + k) (b := 8 + nI k) rfl (nI_add 8 k) (by omega), gb_S, q_tri hR ht, tcd_m32 htl, show (4 : Int32) = nI 4 from rfl, show (16 : Int32) = nI 16 from rfl, nI_mul, nI_mul, nI_add, nI_add, drop_at ht, ct_cons]
      have hq := cq_lt htl.1
      by_cases c2 : t.1 = 2 * (4 * rn + wd) + op
      · rw [if_pos (congrArg nI ((cq_eq htl.1 hr hw ho).mpr c2)), if_pos c2, glt_S, glt_S, nI_1, ih (k + 1) (x + 1) (by omega) (by omega), Int32.add_assoc, ← nI_add 1]
        rfl
      · rw [if_neg (fun q => c2 ((cq_eq htl.1 hr hw ho).mp ((nI_eq (by omega) (by omega)).mp q))), if_neg c2, glt_S, glt_S, nI_1, ih (k + 1) (x + 0) (by omega) (by omega), Int32.add_zero, Nat.zero_add]
theorem q_tried (h : mSh G S m r) {rn wd op : Nat} {a b c d : Int32} (ha : a = nI u) (hb : b = nI rn) (hc : c = nI wd) (hd : d = nI op) (hu : u < 6) (hr : rn < 4) (hw : wd < 4) (ho : op < 2) (hR : rowU (gr S (r 0)) u U) (hU : uW N U) : f_X6_triedTimes G m a b c d S = some (nI (ct U.2 (2 * (4 * rn + wd) + op))) := by
  have h20 := hU.cap
  subst ha hb hc hd
  have := q_tried_L h hu hr hw ho hR hU gN 0 0 (Nat.zero_le _) (by rw [gN_e]; omega)
  rw [Int32.zero_add, List.drop_zero] at this
  exact this
theorem q_sum_L (h : mSh G S m r) {rn wd op : Nat} (hu : u < 6) (hr : rn < 4) (hw : wd < 4) (ho : op < 2) (hR : rowU (gr S (r 0)) u U) (hU : uW N U) : ∀ (n k : Nat) (x : Int32), k ≤ U.2.length → U.2.length - k < n → f_X6_sumOf_L6 G m (nI u) (nI rn) (nI wd) (nI op) S n x (nI k) = some (x + sm (U.2.drop k) (2 * (4 * rn + wd) + op)) := by
  have h20 := hU.cap
  intro n
  induction n with
  | zero => intro k x _ hn; omega
  | succ n ih =>
    intro k x hk hn
    rw [f_X6_sumOf_L6, gd_i h.1, q_of h (u := u) (k := 3) (b := 3) rfl rfl (by omega), gb_S, q_len hR hU]
    by_cases c : U.2.length ≤ k
    · rw [if_pos (nI_le c (by omega)), List.drop_eq_nil_of_le c, sm_nil, Int32.add_zero]
    · rw [if_neg (nI_ge (by omega) (by omega))]
      obtain ⟨t, ht⟩ : ∃ t, U.2[k]? = some t := ⟨_, List.getElem?_eq_getElem (by omega)⟩
      have htl := hU.2.2.2.1 t (List.mem_of_getElem? ht)
      have hq := cq_lt htl.1
      rw [q_of h (u := u) (k := 8 + k) (b := 8 + nI k) rfl (nI_add 8 k) (by omega), gb_S, q_tri hR ht, gb_S, tcd_m32 htl, show (4 : Int32) = nI 4 from rfl, show (16 : Int32) = nI 16 from rfl, nI_mul, nI_mul, nI_add, nI_add, drop_at ht, sm_cons]
      by_cases c2 : t.1 = 2 * (4 * rn + wd) + op
      · rw [if_pos (congrArg nI ((cq_eq htl.1 hr hw ho).mpr c2)), if_pos c2]
        unfold f_X6_rewardOf
        rw [gb_S, tcd_d32 htl, glt_S, glt_S, nI_1, ih (k + 1) _ (by omega) (by omega), Int32.add_assoc]
      · rw [if_neg (fun q => c2 ((cq_eq htl.1 hr hw ho).mp ((nI_eq (by omega) (by omega)).mp q))), if_neg c2, glt_S, nI_1, ih (k + 1) _ (by omega) (by omega), Int32.zero_add]
theorem q_sum (h : mSh G S m r) {rn wd op : Nat} {a b c d : Int32} (ha : a = nI u) (hb : b = nI rn) (hc : c = nI wd) (hd : d = nI op) (hu : u < 6) (hr : rn < 4) (hw : wd < 4) (ho : op < 2) (hR : rowU (gr S (r 0)) u U) (hU : uW N U) : f_X6_sumOf G m a b c d S = some (sm U.2 (2 * (4 * rn + wd) + op)) := by
  have h20 := hU.cap
  subst ha hb hc hd
  have := q_sum_L h hu hr hw ho hR hU gN 0 0 (Nat.zero_le _) (by rw [gN_e]; omega)
  rw [Int32.zero_add, List.drop_zero] at this
  exact this
/-- the habit in a situation -/
def mHab (L : List (Nat × Nat)) (s : Nat) : Bool := if ct L (2 * s + 1) = 0 then false else if ct L (2 * s) = 0 then true else decide (sm L (2 * s) * nI (ct L (2 * s + 1)) < sm L (2 * s + 1) * nI (ct L (2 * s)))
theorem nI_0iff {n : Nat} (h : n < 2 ^ 31) : nI n = 0 ↔ n = 0 := by
  rw [show (0 : Int32) = nI 0 from rfl, nI_eq h (by decide)]
theorem q_habit (h : mSh G S m r) {rn wd : Nat} {a b c : Int32} (ha : a = nI u) (hb : b = nI rn) (hc : c = nI wd) (hu : u < 6) (hr : rn < 4) (hw : wd < 4) (hR : rowU (gr S (r 0)) u U) (hU : uW N U) : f_X6_habit G m a b c S = some (gz (mHab U.2 (4 * rn + wd))) := by
  have h20 := hU.cap
  have l1 := ct_le U.2 (2 * (4 * rn + wd) + 1)
  have l0 := ct_le U.2 (2 * (4 * rn + wd))
  unfold f_X6_habit
  rw [gd_i h.1, q_tried h (op := 1) (d := 1) ha hb hc rfl hu hr hw (by decide) hR hU, q_tried h (op := 0) (d := 0) ha hb hc rfl hu hr hw (by decide) hR hU, gb_S, gb_S, q_sum h (op := 1) (d := 1) ha hb hc rfl hu hr hw (by decide) hR hU, q_sum h (op := 0) (d := 0) ha hb hc rfl hu hr hw (by decide) hR hU, gb_S, gb_S]
  simp only [Nat.add_zero]
  unfold mHab
  by_cases c1 : ct U.2 (2 * (4 * rn + wd) + 1) = 0
  · rw [if_pos ((nI_0iff (by omega)).mpr c1), if_pos c1]; rfl
  · rw [if_neg (fun q => c1 ((nI_0iff (by omega)).mp q)), if_neg c1]
    by_cases c2 : ct U.2 (2 * (4 * rn + wd)) = 0
    · rw [if_pos ((nI_0iff (by omega)).mpr c2), if_pos c2]; rfl
    · rw [if_neg (fun q => c2 ((nI_0iff (by omega)).mp q)), if_neg c2]
      by_cases c3 : sm U.2 (2 * (4 * rn + wd) + 1) * nI (ct U.2 (2 * (4 * rn + wd))) ≤ sm U.2 (2 * (4 * rn + wd)) * nI (ct U.2 (2 * (4 * rn + wd) + 1))
      · rw [if_pos c3, decide_eq_false (Int32.not_lt.mpr c3)]; rfl
      · rw [if_neg c3, decide_eq_true (Int32.not_le.mp c3)]; rfl
/-- the reward of a trial -/
def mRew (n : Nat → Int32) (rn wd : Nat) (o : Bool) : Int32 := if o = true then 4 * nI rn - n 2 * nI wd else -(n 1) * nI rn
def mPay (n : Nat → Int32) (rn wd : Nat) : Bool := decide (mRew n rn wd false < mRew n rn wd true)
theorem q_rew (h : mSh G S m r) {M : mB} {rn wd : Nat} {a b c : Int32} {o : Bool} (ha : a = nI rn) (hb : b = nI wd) (hc : c = gz o) (hR : rowR (gr S (r 0)) M) : f_X6_rewardNow G m a b c S = some (mRew M.1 rn wd o) := by
  obtain ⟨h1, h2, h3⟩ := h.w
  have w1 : vp_in (1 : Int32) 176 := vp_nI (n := 1) (by decide) (by decide)
  have w2 : vp_in (2 : Int32) 176 := vp_nI (n := 2) (by decide) (by decide)
  subst ha hb hc
  unfold f_X6_rewardNow mRew
  rw [← hR.1 1 (by decide), ← hR.1 2 (by decide)]
  cases o with
  | true =>
    rw [if_pos (show gz true = 1 from rfl), if_pos rfl, gd_i h.1, h1, gb_S, gd_i h2, h3, gd_i w2]
    rfl
  | false =>
    rw [if_neg (by decide), if_neg (by decide), gd_i h.1, h1, gb_S, gd_i h2, h3, gd_i w1]
    rfl
theorem q_pay (h : mSh G S m r) {M : mB} {rn wd : Nat} {a b : Int32} (ha : a = nI rn) (hb : b = nI wd) (hR : rowR (gr S (r 0)) M) : f_X6_isRightToOpen G m a b S = some (mPay M.1 rn wd) := by
  unfold f_X6_isRightToOpen mPay
  rw [gd_i h.1, q_rew h (o := true) (c := 1) ha hb rfl hR, q_rew h (o := false) (c := 0) ha hb rfl hR, gb_S, gb_S]
  by_cases c : mRew M.1 rn wd true ≤ mRew M.1 rn wd false
  · rw [if_pos c, decide_eq_false (Int32.not_lt.mpr c)]
  · rw [if_neg c, decide_eq_true (Int32.not_le.mp c)]
theorem q_right (h : mSh G S m r) {M : mB} {rn wd : Nat} {a b c : Int32} (ha : a = nI u) (hb : b = nI rn) (hc : c = nI wd) (hu : u < 6) (hr : rn < 4) (hw : wd < 4) (hRR : rowR (gr S (r 0)) M) (hR : rowU (gr S (r 0)) u U) (hU : uW N U) : f_X6_isRight G m a b c S = some (mHab U.2 (4 * rn + wd) == mPay M.1 rn wd) := by
  unfold f_X6_isRight
  rw [gd_i h.1, q_habit h ha hb hc hu hr hw hR hU, gb_S, q_pay h hb hc hRR, gb_S, gb_S]
  cases mHab U.2 (4 * rn + wd) <;> cases mPay M.1 rn wd <;> rfl
/-- does it explore next -/
def mExp (z : Nat → Int32) : Bool := decide (0 < z 1 ∧ (z 2 + 1) - (z 2 + 1) / z 1 * z 1 = 0)
theorem q_exp (h : mSh G S m r) {a : Int32} (ha : a = nI u) (hu : u < 6) (hR : rowU (gr S (r 0)) u U) : f_X6_explores G m a S = some (mExp U.1) := by
  unfold f_X6_explores mExp
  rw [gd_i h.1, q_of h (k := 1) (b := 1) ha rfl (by omega), q_of h (k := 2) (b := 2) ha rfl (by omega), gb_S, gb_S, gb_S, hR.1 1 (by decide), hR.1 2 (by decide)]
  by_cases c : U.1 1 ≤ 0
  · rw [if_pos c, decide_eq_false (fun q => Int32.not_lt.mpr c q.1)]
  · have c' := Int32.not_le.mp c
    rw [if_neg c, gd_i (fun q => by rw [q] at c'; exact Int32.lt_irrefl c')]
    by_cases c2 : (U.1 2 + 1) - (U.1 2 + 1) / U.1 1 * U.1 1 = 0
    · rw [if_pos c2, decide_eq_true ⟨c', c2⟩]
    · rw [if_neg c2, decide_eq_false (fun q => c2 q.2)]
end QW
