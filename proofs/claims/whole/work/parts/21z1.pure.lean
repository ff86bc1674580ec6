/-! scripts: the reference runs -/
section DN
variable {G : gG} {S0 S' S : gS} {m p : Nat} {r : Nat → Nat} {tx : List Nat} {s : Int32} {w : Nat → Int32} {T : gT} {A : aW} {N : Nat} {M : mB}
theorem qP.ml {l : List Nat} {y : Bool × gS} (h : mC S0 m r l p y) : ∃ w' s', qP S0 m r (p + mN l) s' w' y.2 ∧ (y.1 = true ↔ mOk l = true) ∧ (y.1 = true → s' = sortOf (kf l) ∧ mΦ (kf l) (dg (l.take (mN l))) w') := by
  obtain ⟨w', s', h1, h2, h3⟩ := h
  exact ⟨w', s', h1, h2.trans (decide_eq_true_iff).symm, h3⟩
theorem q_all_L (h : qT G S0 m r tx) : ∀ (f n p : Nat) (s : Int32) (w : Nat → Int32) (S' : gS), qP S0 m r p s w S' → p ≤ tx.length → tx.length - p < f → f < n → wp (f_X6_readsAll_L7 G m n 1 S') (fun y => ∃ p' s' w', qP S0 m r p' s' w' y.2 ∧ ((mErr f (tx.drop p) = none → y.1 = true) ∧ ∀ e, mErr f (tx.drop p) = some e → y.1 = false ∧ p' = p + e)) := by
  have h60 := h.2.2.2.1
  intro f
  induction f with
  | zero => intro n p s w S' _ _ hf; omega
  | succ f ih =>
    intro n p s w S' hq hp hf hn
    obtain ⟨n, rfl⟩ : ∃ k, n = k + 1 + 1 := ⟨n - 2, by omega⟩
    have hm := mN_len (tx.drop p)
    rw [List.length_drop] at hm
    rw [f_X6_readsAll_L7]
    refine wp_f (by decide) (wp_gd h.1.1 (wp_gb2w (s_cmd h hq hp) ?_))
    intro b S1 hy
    obtain ⟨w1, s1, q1, q2, -⟩ := qP.ml hy
    have q1 : qP S0 m r (p + mN (tx.drop p)) s1 w1 S1 := q1
    have q2 : b = true ↔ mOk (tx.drop p) = true := q2
    rw [mErr]
    cases b with
    | false =>
      have e : mOk (tx.drop p) = false := by
        cases e : mOk (tx.drop p) with
        | false => rfl
        | true => exact absurd (q2.mpr e) (by decide)
      rw [e, if_neg (show ¬ false = true by decide)]
      refine wp_t rfl (wp_ret ⟨_, s1, w1, q1, fun z => (by cases z), fun e z => ⟨rfl, ?_⟩⟩)
      cases z
      rfl
    | true =>
      rw [q2.mp rfl, if_pos rfl]
      refine wp_f (by decide) (q_reads h q1 (by omega) (c := 59) (by decide) rfl (fun no => ?_) (fun l' S2 e1 e2 e3 q3 => ?_))
      · refine wp_glt (fun x ex => ?_)
        rw [ex, show gz false = 0 from rfl, f_X6_readsAll_L7]
        have e35 : gI S1 35 m = nI tx.length := (q1.2.1 35 (by decide) (by decide)).trans h.2.1
        rw [q1.2.2.1, e35]
        refine wp_t rfl (wp_gd h.1.1 ?_)
        cases e : (tx.drop p).drop (mN (tx.drop p)) with
        | nil =>
          rw [drop_more] at e
          have := List.drop_eq_nil_iff.mp e
          refine wp_t (congrArg nI (by omega)) (wp_ret ⟨_, s1, w1, q1, fun _ => rfl, fun e z => (by cases z)⟩)
        | cons c l' =>
          rw [drop_more] at e
          obtain ⟨d1, -, -⟩ := dr_le e
          have hc : c ≠ 59 := fun z => no l' (by rw [e, z])
          refine wp_f (fun z => by have := (nI_eq (by omega) (by omega)).mp z; omega) (wp_ret ⟨_, s1, w1, q1, fun z => ?_, fun e z => ⟨rfl, ?_⟩⟩)
          · have z : (if c = 59 then (mErr f l').map (· + (mN (tx.drop p) + 1)) else some (mN (tx.drop p))) = none := z
            rw [if_neg hc] at z
            cases z
          · have z : (if c = 59 then (mErr f l').map (· + (mN (tx.drop p) + 1)) else some (mN (tx.drop p))) = some e := z
            rw [if_neg hc] at z
            cases z
            rfl
      · refine wp_glt (fun x ex => ?_)
        rw [ex, show gz true = 1 from rfl]
        have e : (tx.drop p).drop (mN (tx.drop p)) = 59 :: l' := drop_more.trans e1
        rw [e]
        refine wp_mono (ih (n + 1) _ s1 w1 S2 q3 (by omega) (by omega) (by omega)) ?_
        rintro y ⟨p', s', w', g1, g2, g3⟩
        rw [e2] at g2 g3
        refine ⟨p', s', w', g1, fun z => ?_, fun e z => ?_⟩
        · have z : (if 59 = 59 then (mErr f l').map (· + (mN (tx.drop p) + 1)) else some (mN (tx.drop p))) = none := z
          rw [if_pos rfl] at z
          exact g2 (Option.map_eq_none_iff.mp z)
        · have z : (if 59 = 59 then (mErr f l').map (· + (mN (tx.drop p) + 1)) else some (mN (tx.drop p))) = some e := z
          rw [if_pos rfl] at z
          obtain ⟨e', z1, z2⟩ := Option.map_eq_some_iff.mp z
          obtain ⟨g4, g5⟩ := g3 e' z1
          exact ⟨g4, by omega⟩
theorem mΦ_ext {k : Nat} {D : List Nat} {w w' : Nat → Int32} (h : mΦ k D w) (e : ∀ j, j < 4 → w' j = w j) : mΦ k D w' := ⟨fun q => (e 0 (by decide)).trans (h.1 q), fun q => (e 1 (by decide)).trans (h.2.1 q), fun q => ⟨(e 2 (by decide)).trans (h.2.2 q).1, (e 3 (by decide)).trans (h.2.2 q).2⟩⟩
theorem q_notNow (h : mSh G S (am A) (ar A)) (hR : rowR (gr S (ar A 0)) M) (hW : bW N M) {k : Nat} {D : List Nat} (hk : k < 8) (h39 : gI S 39 (am A) = sortOf k) (hw : mΦ k D (gr S (ar A 6))) : ∃ code, f_X6_notNow G (am A) S = some code ∧ (code = 0 ↔ mNot M k (mA k D) (gj D 1) (gj D 2) (mD k D) = 0) := by
  obtain ⟨m1, m2, m3⟩ := h.2.1 6 (by decide)
  have m1 : gP S 16 (am A) = some (ar A 6) := m1
  have m2 : gis G 7 (ar A 6) := m2
  have m3 : gn G (ar A 6) = 4 := m3
  have v0 : vp_in 0 (gn G (ar A 6)) := by rw [m3]; exact vp_nI (n := 0) (by decide) (by decide)
  have v1 : vp_in 1 (gn G (ar A 6)) := by rw [m3]; exact vp_nI (n := 1) (by decide) (by decide)
  have v2 : vp_in 2 (gn G (ar A 6)) := by rw [m3]; exact vp_nI (n := 2) (by decide) (by decide)
  have v3 : vp_in 3 (gn G (ar A 6)) := by rw [m3]; exact vp_nI (n := 3) (by decide) (by decide)
  have hk' : k = 0 ∨ k = 1 ∨ k = 2 ∨ k = 3 ∨ k = 4 ∨ k = 5 ∨ k = 6 ∨ k = 7 := by omega
  obtain ⟨w0, w1, w2⟩ := hw
  unfold f_X6_notNow
  rcases hk' with rfl | rfl | rfl | rfl | rfl | rfl | rfl | rfl
  · rw [show sortOf 0 = 97 from rfl] at h39
    rw [gd_i h.1, m1, gb_S, gd_i m2, gd_i v0, glt_S, gb_S, gd_i m2, gd_i v1, glt_S, h39, if_pos rfl]
    rw [show Int32.toNatClampNeg 0 = 0 from rfl, w0 (by decide), n_add h hR hW, gb_S]
    refine ⟨_, rfl, ?_⟩
    show _ ↔ (if mBtw (mA 0 D) 3 20 = true then (if mc M < 6 then 0 else 3) else 2) = 0
    cases mBtw (mA 0 D) 3 20 with
    | false => rw [if_neg (by decide), if_neg (by decide)]; decide
    | true =>
      by_cases q : mc M < 6
      · rw [if_pos rfl, if_pos rfl, if_pos q, if_pos q]; decide
      · rw [if_pos rfl, if_pos rfl, if_neg q, if_neg q]; decide
  · rw [show sortOf 1 = 116 from rfl] at h39
    rw [gd_i h.1, m1, gb_S, gd_i m2, gd_i v0, glt_S, gb_S, gd_i m2, gd_i v1, glt_S, h39, if_neg (by decide), if_neg (by decide), if_neg (by decide), if_neg (by decide), if_pos rfl]
    rw [gb_S, gd_i m2, gd_i v2, gb_S, gd_i m2, gd_i v3, show Int32.toNatClampNeg 0 = 0 from rfl, w0 (by decide), show Int32.toNatClampNeg 1 = 1 from rfl, w1 (by decide), show Int32.toNatClampNeg 2 = 2 from rfl, show Int32.toNatClampNeg 3 = 3 from rfl, (w2 rfl).1, (w2 rfl).2, n_train h hR, gb_S]
    exact ⟨_, rfl, mFor_nI⟩
  · rw [show sortOf 2 = 112 from rfl] at h39
    rw [gd_i h.1, m1, gb_S, gd_i m2, gd_i v0, glt_S, gb_S, gd_i m2, gd_i v1, glt_S, h39, if_neg (by decide), if_neg (by decide), if_neg (by decide), if_pos rfl]
    rw [show Int32.toNatClampNeg 0 = 0 from rfl, w0 (by decide), show Int32.toNatClampNeg 1 = 1 from rfl, w1 (by decide), n_period h hR, gb_S]
    exact ⟨_, rfl, mFor_nI⟩
  · rw [show sortOf 3 = 119 from rfl] at h39
    rw [gd_i h.1, m1, gb_S, gd_i m2, gd_i v0, glt_S, gb_S, gd_i m2, gd_i v1, glt_S, h39, if_neg (by decide), if_neg (by decide), if_neg (by decide), if_neg (by decide), if_neg (by decide), if_pos rfl]
    rw [show Int32.toNatClampNeg 0 = 0 from rfl, w0 (by decide), n_pen, gb_S]
    exact ⟨_, rfl, pen_iff _⟩
  · rw [show sortOf 4 = 103 from rfl] at h39
    rw [gd_i h.1, m1, gb_S, gd_i m2, gd_i v0, glt_S, gb_S, gd_i m2, gd_i v1, glt_S, h39, if_neg (by decide), if_pos rfl]
    rw [show Int32.toNatClampNeg 0 = 0 from rfl, w0 (by decide), n_pen, gb_S]
    exact ⟨_, rfl, pen_iff _⟩
  · rw [show sortOf 5 = 102 from rfl] at h39
    rw [gd_i h.1, m1, gb_S, gd_i m2, gd_i v0, glt_S, gb_S, gd_i m2, gd_i v1, glt_S, h39, if_neg (by decide), if_neg (by decide), if_neg (by decide), if_neg (by decide), if_neg (by decide), if_neg (by decide)]
    rw [show Int32.toNatClampNeg 0 = 0 from rfl, w0 (by decide), show Int32.toNatClampNeg 1 = 1 from rfl, w1 (by decide), n_one h hR, gb_S]
    exact ⟨_, rfl, mFor_nI⟩
  · rw [show sortOf 6 = 101 from rfl] at h39
    rw [gd_i h.1, m1, gb_S, gd_i m2, gd_i v0, glt_S, gb_S, gd_i m2, gd_i v1, glt_S, h39, if_neg (by decide), if_neg (by decide), if_neg (by decide), if_neg (by decide), if_neg (by decide), if_neg (by decide)]
    rw [show Int32.toNatClampNeg 0 = 0 from rfl, w0 (by decide), show Int32.toNatClampNeg 1 = 1 from rfl, w1 (by decide), n_one h hR, gb_S]
    exact ⟨_, rfl, mFor_nI⟩
  · rw [show sortOf 7 = 109 from rfl] at h39
    rw [gd_i h.1, m1, gb_S, gd_i m2, gd_i v0, glt_S, gb_S, gd_i m2, gd_i v1, glt_S, h39, if_neg (by decide), if_neg (by decide), if_pos rfl]
    rw [n_end h hR hW, gb_S]
    refine ⟨_, rfl, ?_⟩
    show _ ↔ (if 0 < mc M then 0 else 3) = 0
    by_cases q : 0 < mc M
    · rw [if_pos q, if_pos q]; decide
    · rw [if_neg q, if_neg q]; decide
theorem q_doesNow (h : mSh G S (am A) (ar A)) (hR : rowR (gr S (ar A 0)) M) (hW : bW N M) (hN : N + 640 ≤ 2 ^ 30) {k : Nat} {D : List Nat} (hk : k < 8) (h39 : gI S 39 (am A) = sortOf k) (hw : mΦ k D (gr S (ar A 6))) (h0 : mNot M k (mA k D) (gj D 1) (gj D 2) (mD k D) = 0) : wp (f_X6_doesNow G (am A) S) (fun y => ∃ w', y.2 = srow S (ar A 0) w' ∧ rowR w' (mDo M k (mA k D) (gj D 1) (gj D 2) (mD k D)).2) := by
  obtain ⟨m1, m2, m3⟩ := h.2.1 6 (by decide)
  have m1 : gP S 16 (am A) = some (ar A 6) := m1
  have m2 : gis G 7 (ar A 6) := m2
  have m3 : gn G (ar A 6) = 4 := m3
  have v0 : vp_in 0 (gn G (ar A 6)) := by rw [m3]; exact vp_nI (n := 0) (by decide) (by decide)
  have v1 : vp_in 1 (gn G (ar A 6)) := by rw [m3]; exact vp_nI (n := 1) (by decide) (by decide)
  have v2 : vp_in 2 (gn G (ar A 6)) := by rw [m3]; exact vp_nI (n := 2) (by decide) (by decide)
  have v3 : vp_in 3 (gn G (ar A 6)) := by rw [m3]; exact vp_nI (n := 3) (by decide) (by decide)
  have hk' : k = 0 ∨ k = 1 ∨ k = 2 ∨ k = 3 ∨ k = 4 ∨ k = 5 ∨ k = 6 ∨ k = 7 := by omega
  obtain ⟨w0, w1, w2⟩ := hw
  have fin : ∀ {v : Int32} {M' : mB} {F : gS → Option (Int32 × gS)}, wp (F S) (fun y => y.1 = v ∧ ∃ w', y.2 = srow S (ar A 0) w' ∧ rowR w' M') → wp (F S) (fun y => ∃ w', y.2 = srow S (ar A 0) w' ∧ rowR w' M') := fun z => wp_mono z (fun y hy => hy.2)
  unfold f_X6_doesNow
  rcases hk' with rfl | rfl | rfl | rfl | rfl | rfl | rfl | rfl
  · rw [show sortOf 0 = 97 from rfl] at h39
    rw [gd_i h.1, m1, gb_S, gd_i m2, gd_i v0, glt_S, gb_S, gd_i m2, gd_i v1, glt_S, h39, if_pos rfl]
    rw [show Int32.toNatClampNeg 0 = 0 from rfl, w0 (by decide), gb2_id]
    have h0 : (if mBtw (mA 0 D) 3 20 = true then (if mc M < 6 then 0 else 3) else 2) = 0 := h0
    have h5 : mc M < 6 := by
      by_cases q : mc M < 6
      · exact q
      · rw [if_neg q] at h0
        revert h0
        cases mBtw (mA 0 D) 3 20 <;> intro h0 <;> exact absurd h0 (by decide)
    exact fin (F := fun S => f_X6_addsUmbrella G (am A) (mA 0 D) S) (do_row (fun w hw S8 m8 => q_add m8 hw hW h5 (mA 0 D)) S h hR)
  · rw [show sortOf 1 = 116 from rfl] at h39
    rw [gd_i h.1, m1, gb_S, gd_i m2, gd_i v0, glt_S, gb_S, gd_i m2, gd_i v1, glt_S, h39, if_neg (by decide), if_neg (by decide), if_neg (by decide), if_neg (by decide), if_neg (by decide), if_pos rfl]
    rw [gb_S, gd_i m2, gd_i v2, gb_S, gd_i m2, gd_i v3, show Int32.toNatClampNeg 0 = 0 from rfl, w0 (by decide), show Int32.toNatClampNeg 1 = 1 from rfl, w1 (by decide), show Int32.toNatClampNeg 2 = 2 from rfl, show Int32.toNatClampNeg 3 = 3 from rfl, (w2 rfl).1, (w2 rfl).2, gb2_id]
    obtain ⟨q1, q2⟩ := mFor_0 (show mFor M (mA 1 D) (mLev (gj D 1) && mLev (gj D 2) && mBtw (mD 1 D) 1 9) = 0 from h0)
    obtain ⟨u, u1, u2, u3⟩ := mUmb_t hW q1
    have q3 := (Bool.and_eq_true _ _).mp q2
    have q4 := (Bool.and_eq_true _ _).mp q3.1
    obtain ⟨rn, r1, r2, r3⟩ := mLev_t q4.1
    obtain ⟨wd, y1, y2, y3⟩ := mLev_t q4.2
    obtain ⟨t, t1, t2, t3⟩ := mBtw_t (n := 9) (by decide) rfl (mBtw_0 (by decide) q3.2)
    show wp _ (fun (y : Int32 × gS) => ∃ w', y.2 = srow S (ar A 0) w' ∧ rowR w' (mTrs (mA 1 D).toNatClampNeg (gj D 1).toNatClampNeg (gj D 2).toNatClampNeg (mD 1 D).toNatClampNeg 0 M).2)
    rw [u3, r3, y3, t3]
    exact fin (F := fun S => f_X6_trains G (am A) (mA 1 D) (gj D 1) (gj D 2) (mD 1 D) S) (do_row (fun w hw S8 m8 => q_train m8 hw hW hN u2 r2 y2 t2 u1 r1 y1 t1) S h hR)
  · rw [show sortOf 2 = 112 from rfl] at h39
    rw [gd_i h.1, m1, gb_S, gd_i m2, gd_i v0, glt_S, gb_S, gd_i m2, gd_i v1, glt_S, h39, if_neg (by decide), if_neg (by decide), if_neg (by decide), if_neg (by decide), if_pos rfl]
    rw [show Int32.toNatClampNeg 0 = 0 from rfl, w0 (by decide), show Int32.toNatClampNeg 1 = 1 from rfl, w1 (by decide), gb2_id]
    obtain ⟨q1, q2⟩ := mFor_0 (show mFor M (mA 2 D) (mBtw (gj D 1) 0 9) = 0 from h0)
    obtain ⟨u, u1, u2, u3⟩ := mUmb_t hW q1
    show wp _ (fun (y : Int32 × gS) => ∃ w', y.2 = srow S (ar A 0) w' ∧ rowR w' (mSet M (mA 2 D).toNatClampNeg (upd (M.2 (mA 2 D).toNatClampNeg).1 1 (gj D 1), (M.2 (mA 2 D).toNatClampNeg).2)))
    rw [u3]
    exact fin (F := fun S => f_X6_setsPeriod G (am A) (mA 2 D) (gj D 1) S) (do_row (fun w hw S8 m8 => q_period m8 hw hW u1 (gj D 1) u2) S h hR)
  · rw [show sortOf 3 = 119 from rfl] at h39
    rw [gd_i h.1, m1, gb_S, gd_i m2, gd_i v0, glt_S, gb_S, gd_i m2, gd_i v1, glt_S, h39, if_neg (by decide), if_neg (by decide), if_neg (by decide), if_neg (by decide), if_neg (by decide), if_neg (by decide), if_pos rfl]
    rw [show Int32.toNatClampNeg 0 = 0 from rfl, w0 (by decide), gb2_id]
    exact fin (F := fun S => f_X6_sets G (am A) 1 (mA 3 D) S) (do_row (fun w hw S8 m8 => q_sets m8 hw hW (k := 1) (by decide) (by decide) (mA 3 D) rfl) S h hR)
  · rw [show sortOf 4 = 103 from rfl] at h39
    rw [gd_i h.1, m1, gb_S, gd_i m2, gd_i v0, glt_S, gb_S, gd_i m2, gd_i v1, glt_S, h39, if_neg (by decide), if_neg (by decide), if_pos rfl]
    rw [show Int32.toNatClampNeg 0 = 0 from rfl, w0 (by decide), gb2_id]
    exact fin (F := fun S => f_X6_sets G (am A) 2 (mA 4 D) S) (do_row (fun w hw S8 m8 => q_sets m8 hw hW (k := 2) (by decide) (by decide) (mA 4 D) rfl) S h hR)
  · rw [show sortOf 5 = 102 from rfl] at h39
    rw [gd_i h.1, m1, gb_S, gd_i m2, gd_i v0, glt_S, gb_S, gd_i m2, gd_i v1, glt_S, h39, if_neg (by decide), if_pos rfl]
    rw [show Int32.toNatClampNeg 0 = 0 from rfl, w0 (by decide), show Int32.toNatClampNeg 1 = 1 from rfl, w1 (by decide), gb2_id]
    obtain ⟨q1, q2⟩ := mFor_0 (show mFor M (mA 5 D) (mLev (gj D 1)) = 0 from h0)
    obtain ⟨u, u1, u2, u3⟩ := mUmb_t hW q1
    obtain ⟨rn, r1, r2, r3⟩ := mLev_t q2
    show wp _ (fun (y : Int32 × gS) => ∃ w', y.2 = srow S (ar A 0) w' ∧ rowR w' (mSet M (mA 5 D).toNatClampNeg (mForget (M.2 (mA 5 D).toNatClampNeg) (gj D 1).toNatClampNeg)))
    rw [u3, r3]
    exact fin (F := fun S => f_X6_forgets G (am A) (mA 5 D) (gj D 1) S) (do_row (fun w hw S8 m8 => q_forget m8 hw hW u2 r2 u1 r1) S h hR)
  · rw [show sortOf 6 = 101 from rfl] at h39
    rw [gd_i h.1, m1, gb_S, gd_i m2, gd_i v0, glt_S, gb_S, gd_i m2, gd_i v1, glt_S, h39, if_neg (by decide), if_neg (by decide), if_neg (by decide), if_neg (by decide), if_neg (by decide), if_neg (by decide), if_neg (by decide)]
    rw [show Int32.toNatClampNeg 0 = 0 from rfl, w0 (by decide), show Int32.toNatClampNeg 1 = 1 from rfl, w1 (by decide), gb2_id]
    obtain ⟨q1, q2⟩ := mFor_0 (show mFor M (mA 6 D) (mLev (gj D 1)) = 0 from h0)
    obtain ⟨u, u1, u2, u3⟩ := mUmb_t hW q1
    obtain ⟨wd, r1, r2, r3⟩ := mLev_t q2
    show wp _ (fun (y : Int32 × gS) => ∃ w', y.2 = srow S (ar A 0) w' ∧ rowR w' (mExam M (mA 6 D).toNatClampNeg (gj D 1).toNatClampNeg))
    rw [u3, r3]
    exact fin (F := fun S => f_X6_examines G (am A) (mA 6 D) (gj D 1) S) (do_row (fun w hw S8 m8 => q_exam m8 hw hW u2 r2 u1 r1) S h hR)
  · rw [show sortOf 7 = 109 from rfl] at h39
    rw [gd_i h.1, m1, gb_S, gd_i m2, gd_i v0, glt_S, gb_S, gd_i m2, gd_i v1, glt_S, h39, if_neg (by decide), if_neg (by decide), if_neg (by decide), if_pos rfl]
    rw [gb2_id]
    have h0 : (if 0 < mc M then 0 else 3) = 0 := h0
    have hc : 0 < mc M := by
      by_cases q : 0 < mc M
      · exact q
      · rw [if_neg q] at h0; exact absurd h0 (by decide)
    exact fin (F := fun S => f_X6_endsTerm G (am A) S) (do_row (fun w hw S8 m8 => q_term m8 hw hW hc) S h hR)
theorem qT.mv {S1 : gS} (h : qT G S0 m r tx) (hf : gFr [m, r 0, r 6] S0 S1) (h35 : gI S1 35 m = gI S0 35 m) : qT G S1 m r tx := by
  have h1 := mSh.ne h.1 (show 5 < 7 by decide)
  have h2 := h.1.2.2 5 6 (by decide) (by decide) (by decide)
  have h3 := h.1.2.2 5 0 (by decide) (by decide) (by decide)
  refine ⟨h.1.fr hf, h35.trans h.2.1, fun k c hk => ?_, h.2.2.2⟩
  rw [(hf.1 (r 5) (by simp [h1, h2, h3])).2]
  exact h.2.2.1 k c hk
theorem qP.rf (h36 : gI S0 36 m = nI p) : qP S0 m r p (gI S0 39 m) (gr S0 (r 6)) S0 := ⟨gFr.rfl', fun _ _ _ => rfl, h36, rfl, fun _ _ => rfl⟩
theorem qP.fr3 (h : qP S0 m r p s w S') : gFr [m, r 0, r 6] S0 S' := h.1.mono (fun a ha => by
  rcases List.mem_cons.mp ha with z | z
  · rw [z]; simp
  · rw [List.mem_singleton.mp z]; simp)
theorem qP.row0 (h : qP S0 m r p s w S') (hs : mSh G S0 m r) : gr S' (r 0) = gr S0 (r 0) := by
  have h1 := mSh.ne hs (show 0 < 7 by decide)
  have h2 := hs.2.2 0 6 (by decide) (by decide) (by decide)
  exact funext fun i => (h.1.1 (r 0) (by simp [h1, h2])).2 i
/-- a run's outcome -/
def qE (m : Nat) (r : Nat → Nat) (Sb : gS) (R : mB × Nat × Bool) (d : Nat) (y : Bool × gS) : Prop := y.1 = R.2.2 ∧ gI y.2 40 m = nI (d + R.2.1) ∧ (y.1 = true → rowR (gr y.2 (r 0)) R.1) ∧ gFr [m, r 0, r 6] Sb y.2 ∧ ∀ f, f ≠ 36 → f ≠ 39 → f ≠ 40 → gI y.2 f m = gI Sb f m
theorem q_run_L {Sb : gS} : ∀ (f n p d : Nat) (M : mB) (N : Nat) (S : gS), qT G S (am A) (ar A) tx → gI S 36 (am A) = nI p → gI S 40 (am A) = nI d → rowR (gr S (ar A 0)) M → bW N M → N + mK (tx.length - p) ≤ 2 ^ 30 → p ≤ tx.length → tx.length - p < f → f < n → mErr f (tx.drop p) = none →
    gFr [am A, ar A 0, ar A 6] Sb S → (∀ f, f ≠ 36 → f ≠ 39 → f ≠ 40 → gI S f (am A) = gI Sb f (am A)) → wp (f_X6_doesAll_L12 G (am A) n 1 S) (qE (am A) (ar A) Sb (mRun f (tx.drop p) M) d) := by
  intro f
  induction f with
  | zero => intro n p d M N S _ _ _ _ _ _ _ hn; omega
  | succ f ih =>
    intro n p d M N S h i36 i40 hR hW hN hp hf hn he fb ib
    obtain ⟨n, rfl⟩ : ∃ k, n = k + 1 + 1 := ⟨n - 2, by omega⟩
    obtain ⟨e1, e2, e3⟩ := err_step he
    have k0 := mK_ge (tx.length - p)
    have hm := mN_len (tx.drop p)
    rw [List.length_drop] at hm
    rw [f_X6_doesAll_L12]
    refine wp_f (by decide) (wp_gd h.1.1 (wp_gb2w (s_cmd h (qP.rf i36) hp) ?_))
    intro b S1 hy
    obtain ⟨w1, s1, q1, q2, q3⟩ := qP.ml hy
    have q1 : qP S (am A) (ar A) (p + mN (tx.drop p)) s1 w1 S1 := q1
    have q2 : b = true ↔ mOk (tx.drop p) = true := q2
    obtain ⟨q3, q4⟩ := q3 (q2.mpr e1)
    have m1 := h.sh q1
    have r1 : rowR (gr S1 (ar A 0)) M := by rw [q1.row0 h.1]; exact hR
    have hk := kf_lt (tx.drop p)
    have h39 : gI S1 39 (am A) = sortOf (kf (tx.drop p)) := q1.2.2.2.1.trans q3
    have hw : mΦ (kf (tx.drop p)) (dg ((tx.drop p).take (mN (tx.drop p)))) (gr S1 (ar A 6)) := mΦ_ext q4 q1.2.2.2.2
    obtain ⟨code, c1, c2⟩ := q_notNow m1 r1 hW hk h39 hw
    have c2 : code = 0 ↔ mNt M (tx.drop p) = 0 := c2
    have g40 : gI S1 40 (am A) = nI d := (q1.2.1 40 (by decide) (by decide)).trans i40
    have fb1 := fb.trans q1.fr3
    have ib1 : ∀ f, f ≠ 36 → f ≠ 39 → f ≠ 40 → gI S1 f (am A) = gI Sb f (am A) := fun f f1 f2 f3 => (q1.2.1 f f1 f2).trans (ib f f1 f2 f3)
    refine wp_gb c1 ?_
    rw [mRun]
    by_cases q : code = 0
    · have q0 := c2.mp q
      rw [if_pos q0]
      refine wp_t q (wp_gb2w (q_doesNow m1 r1 hW (by omega) hk h39 hw q0) ?_)
      rintro v S2 ⟨w2, e4, r2⟩
      have e4 : S2 = srow S1 (ar A 0) w2 := e4
      have r2 : rowR w2 (mDt M (tx.drop p)) := r2
      have hW2 : bW (N + 640) (mDt M (tx.drop p)) := bW_do hW (by omega) q0
      have g40' : gI S2 40 (am A) = nI d := by rw [e4]; exact g40
      rw [g40', nI_1]
      refine wp_glt (fun S3 e5 => ?_)
      have fb3 : gFr [am A, ar A 0, ar A 6] S1 S3 := ((gFr.rfl').row' e4 (by simp)).I' e5 (by simp)
      have ib3 : ∀ f, f ≠ 40 → gI S3 f (am A) = gI S1 f (am A) := fun f f3 => by rw [e5, gI_sI, if_neg (fun z => f3 z.1), e4]; rfl
      have t3 : qT G S3 (am A) (ar A) tx := h.mv (q1.fr3.trans fb3) ((ib3 35 (by decide)).trans (q1.2.1 35 (by decide) (by decide)))
      have i3 : gI S3 36 (am A) = nI (p + mN (tx.drop p)) := (ib3 36 (by decide)).trans q1.2.2.1
      have j3 : gI S3 40 (am A) = nI (d + 1) := by rw [e5, gI_sI, if_pos ⟨rfl, rfl⟩]
      have r3 : gr S3 (ar A 0) = w2 := by rw [e5, e4]; exact gr_same _ _ _
      refine q_reads t3 (qP.rf i3) (by omega) (c := 59) (by decide) rfl (fun no => ?_) (fun l' S4 a1 a2 a3 q5 => ?_)
      · refine wp_glt (fun x ex => ?_)
        rw [ex, show gz false = 0 from rfl, f_X6_doesAll_L12]
        refine wp_t rfl (wp_ret ?_)
        rcases e3 with e3 | ⟨l', e3, -⟩
        · rw [e3]
          refine ⟨rfl, j3, fun _ => ?_, fb1.trans fb3, fun f f1 f2 f3 => (ib3 f f3).trans (ib1 f f1 f2 f3)⟩
          show rowR (gr S3 (ar A 0)) _
          rw [r3]
          exact r2
        · exact absurd (drop_more.symm.trans e3) (no l')
      · refine wp_glt (fun x ex => ?_)
        rw [ex, show gz true = 1 from rfl]
        have e : (tx.drop p).drop (mN (tx.drop p)) = 59 :: l' := drop_more.trans a1
        rcases e3 with e3 | ⟨l2, e3, e6⟩
        · rw [e] at e3; cases e3
        · rw [e] at e3
          obtain rfl := (List.cons.inj e3).2
          rw [e]
          have k1 := mK_step (show tx.length - (p + mN (tx.drop p) + 1) < tx.length - p by omega)
          have r4 : rowR (gr S4 (ar A 0)) (mDt M (tx.drop p)) := by rw [q5.row0 t3.1, r3]; exact r2
          have t4 : qT G S4 (am A) (ar A) tx := t3.mv q5.fr3 (q5.2.1 35 (by decide) (by decide))
          have j4 : gI S4 40 (am A) = nI (d + 1) := (q5.2.1 40 (by decide) (by decide)).trans j3
          have := ih (n + 1) _ (d + 1) _ (N + 640) S4 t4 q5.2.2.1 j4 r4 hW2 (by omega) (by omega) (by omega) (by omega) (by rw [a2]; exact e6) ((fb1.trans fb3).trans q5.fr3) (fun f f1 f2 f3 => ((q5.2.1 f f1 f2).trans (ib3 f f3)).trans (ib1 f f1 f2 f3))
          rw [a2] at this
          refine wp_mono this ?_
          rintro y ⟨y1, y2, y3, y4⟩
          refine ⟨y1, ?_, y3, y4⟩
          rw [y2]
          exact congrArg nI (by show d + 1 + (mRun f l' (mDt M (tx.drop p))).2.1 = d + ((mRun f l' (mDt M (tx.drop p))).2.1 + 1); omega)
    · rw [if_neg (fun z => q (c2.mpr z))]
      exact wp_f q (wp_ret ⟨rfl, g40, fun z => (by cases z), fb1, ib1⟩)
end DN
