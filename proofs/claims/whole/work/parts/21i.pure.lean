/-! the reference: rows copied, undo, snapshot -/
def mCp (f f' src : Nat → Int32) (dst k : Nat) : Prop := (∀ j, k ≤ j → j < 176 → f' (dst + j) = src j) ∧ ∀ i, i < dst + k ∨ dst + 176 ≤ i → f' i = f i
theorem mCp.fin {f src : Nat → Int32} {dst k : Nat} (h : 176 ≤ k) : mCp f f src dst k := ⟨fun j h1 h2 => by omega, fun _ _ => rfl⟩
theorem mCp.step {f f' src : Nat → Int32} {dst k : Nat} (hk : k < 176) (h : mCp (upd f (dst + k) (src k)) f' src dst (k + 1)) : mCp f f' src dst k := by
  refine ⟨fun j h1 h2 => ?_, fun i hi => ?_⟩
  · by_cases q : j = k
    · subst q
      rw [h.2 _ (by omega), upd_at]
    · exact h.1 j (by omega) h2
  · rw [h.2 i (by omega), upd_ne (by omega)]
theorem rowR.cong {w w' : Nat → Int32} {M : mB} (h : rowR w M) (h6 : mc M ≤ 6) (hl : ∀ i, i < mc M → (M.2 i).2.length ≤ 20) (he : ∀ j, j < 176 → w' j = w j) : rowR w' M :=
  ⟨fun k hk => (he k (by omega)).trans (h.1 k hk), fun i hi => (h.2 i hi).cong (hl i hi) (fun j h1 h2 => he j (by omega))⟩
section QZ
variable {G : gG} {S : gS} {m : Nat} {r : Nat → Nat}
theorem mSh.at (h : mSh G S m r) {j : Nat} (hj : j < 7) : gP S (10 + j) m = some (r j) ∧ gis G (g6k j) (r j) ∧ gn G (r j) = g6n j := h.2.1 j hj
theorem q_copies_L : ∀ (n k : Nat) (S : gS), mSh G S m r → k ≤ 176 → 176 - k < n → wp (f_X6_copies_L2 G m n (nI k) S) (fun y => ∃ f', y = srow S (r 3) f' ∧ mCp (gr S (r 3)) f' (gr S (r 0)) 0 k) := by
  intro n
  induction n with
  | zero => intro k S _ _ hn; omega
  | succ n ih =>
    intro k S h hk hn
    have hd := h.at (j := 3) (by decide)
    have hs := h.at (j := 0) (by decide)
    have hne : r 0 ≠ r 3 := h.2.2 0 3 (by decide) (by decide) (by decide)
    rw [f_X6_copies_L2]
    by_cases c : 176 ≤ k
    · refine wp_t (nI_le (a := 176) c (by omega)) ?_
      exact wp_ret ⟨gr S (r 3), (srow_eta S (r 3)).symm, mCp.fin c⟩
    · refine wp_f (nI_ge (b := 176) (by omega) (by decide)) (wp_gd h.1 (wp_gb hd.1 (wp_gb hs.1 (wp_gd hs.2.1 ?_))))
      refine wp_gd (show vp_in (nI k) (gn G (r 0)) by rw [hs.2.2]; exact vp_nI (show k < 176 by omega) (by decide)) (wp_gd hd.2.1 (wp_gd (show vp_in (nI k) (gn G (r 3)) by rw [hd.2.2]; exact vp_nI (show k < 176 by omega) (by decide)) (wp_glt (fun S1 e1 => wp_glt (fun z ez => ?_)))))
      rw [nI_1] at ez
      subst ez
      rw [nI_clamp (show k < 2 ^ 31 by omega), sr_at] at e1
      have h1 : mSh G S1 m r := by rw [e1]; exact h.row
      refine wp_mono (ih (k + 1) S1 h1 (by omega) (by omega)) ?_
      rintro y ⟨f', q1, q2⟩
      refine ⟨f', ?_, ?_⟩
      · rw [e1] at q1
        rw [q1]
        rw [srow2]
      · rw [e1, gr_same] at q2
        have e3 : gr (srow S (r 3) (upd (gr S (r 3)) k (gr S (r 0) k))) (r 0) = gr S (r 0) := gr_other _ hne
        rw [e3] at q2
        exact mCp.step (by omega) (by rw [Nat.zero_add]; exact q2)
theorem q_goesBack_L : ∀ (n k : Nat) (S : gS), mSh G S m r → k ≤ 176 → 176 - k < n → wp (f_X6_goesBack_L2 G m n (nI k) S) (fun y => ∃ f', y = srow S (r 0) f' ∧ mCp (gr S (r 0)) f' (gr S (r 3)) 0 k) := by
  intro n
  induction n with
  | zero => intro k S _ _ hn; omega
  | succ n ih =>
    intro k S h hk hn
    have hd := h.at (j := 0) (by decide)
    have hs := h.at (j := 3) (by decide)
    have hne : r 3 ≠ r 0 := h.2.2 3 0 (by decide) (by decide) (by decide)
    rw [f_X6_goesBack_L2]
    by_cases c : 176 ≤ k
    · refine wp_t (nI_le (a := 176) c (by omega)) ?_
      exact wp_ret ⟨gr S (r 0), (srow_eta S (r 0)).symm, mCp.fin c⟩
    · refine wp_f (nI_ge (b := 176) (by omega) (by decide)) (wp_gd h.1 (wp_gb hd.1 (wp_gb hs.1 (wp_gd hs.2.1 ?_))))
      refine wp_gd (show vp_in (nI k) (gn G (r 3)) by rw [hs.2.2]; exact vp_nI (show k < 176 by omega) (by decide)) (wp_gd hd.2.1 (wp_gd (show vp_in (nI k) (gn G (r 0)) by rw [hd.2.2]; exact vp_nI (show k < 176 by omega) (by decide)) (wp_glt (fun S1 e1 => wp_glt (fun z ez => ?_)))))
      rw [nI_1] at ez
      subst ez
      rw [nI_clamp (show k < 2 ^ 31 by omega), sr_at] at e1
      have h1 : mSh G S1 m r := by rw [e1]; exact h.row
      refine wp_mono (ih (k + 1) S1 h1 (by omega) (by omega)) ?_
      rintro y ⟨f', q1, q2⟩
      refine ⟨f', ?_, ?_⟩
      · rw [e1] at q1
        rw [q1]
        rw [srow2]
      · rw [e1, gr_same] at q2
        have e3 : gr (srow S (r 0) (upd (gr S (r 0)) k (gr S (r 3) k))) (r 3) = gr S (r 3) := gr_other _ hne
        rw [e3] at q2
        exact mCp.step (by omega) (by rw [Nat.zero_add]; exact q2)
theorem q_keeps_L {to : Nat} (hto : to < 8) : ∀ (n k : Nat) (S : gS), mSh G S m r → k ≤ 176 → 176 - k < n → wp (f_X6_keeps_L47 G m n (nI to) (nI k) S) (fun y => ∃ f', y = sI (srow S (r 1) f') 31 m (gI S 31 m + 1) ∧ mCp (gr S (r 1)) f' (gr S (r 3)) (176 * to) k) := by
  intro n
  induction n with
  | zero => intro k S _ _ hn; omega
  | succ n ih =>
    intro k S h hk hn
    have hd := h.at (j := 1) (by decide)
    have hs := h.at (j := 3) (by decide)
    have hne : r 3 ≠ r 1 := h.2.2 3 1 (by decide) (by decide) (by decide)
    rw [f_X6_keeps_L47]
    by_cases c : 176 ≤ k
    · refine wp_t (nI_le (a := 176) c (by omega)) ?_
      exact wp_gd h.1 (wp_glt (fun S1 e1 => wp_ret ⟨gr S (r 1), by rw [e1, srow_eta], mCp.fin c⟩))
    · refine wp_f (nI_ge (b := 176) (by omega) (by decide)) (wp_gd h.1 (wp_gb hd.1 (wp_gb hs.1 (wp_gd hs.2.1 ?_))))
      rw [show (176 * nI to) + nI k = nI (176 * to + k) by rw [show (176 : Int32) = nI 176 from rfl, nI_mul, nI_add]]
      refine wp_gd (show vp_in (nI k) (gn G (r 3)) by rw [hs.2.2]; exact vp_nI (show k < 176 by omega) (by decide)) (wp_gd hd.2.1 (wp_gd (show vp_in (nI (176 * to + k)) (gn G (r 1)) by rw [hd.2.2]; exact vp_nI (show (176 * to + k) < 1408 by omega) (by decide)) (wp_glt (fun S1 e1 => wp_glt (fun z ez => ?_)))))
      rw [nI_1] at ez
      subst ez
      rw [nI_clamp (show (176 * to + k) < 2 ^ 31 by omega), nI_clamp (show k < 2 ^ 31 by omega), sr_at] at e1
      have h1 : mSh G S1 m r := by rw [e1]; exact h.row
      refine wp_mono (ih (k + 1) S1 h1 (by omega) (by omega)) ?_
      rintro y ⟨f', q1, q2⟩
      refine ⟨f', ?_, ?_⟩
      · rw [e1] at q1
        rw [q1]
        rw [srow2]
        rfl
      · rw [e1, gr_same] at q2
        have e3 : gr (srow S (r 1) (upd (gr S (r 1)) (176 * to + k) (gr S (r 3) k))) (r 3) = gr S (r 3) := gr_other _ hne
        rw [e3] at q2
        exact mCp.step (by omega) q2
theorem q_undo_L {to : Nat} (hto : to < 8) : ∀ (n k : Nat) (S : gS), mSh G S m r → k ≤ 176 → 176 - k < n → wp (f_X6_undo_L43 G m n (nI to) (nI k) S) (fun y => ∃ f', y = (gI S 31 m, srow S (r 0) f') ∧ mCp (gr S (r 0)) f' (fun j => gr S (r 1) (176 * to + j)) 0 k) := by
  intro n
  induction n with
  | zero => intro k S _ _ hn; omega
  | succ n ih =>
    intro k S h hk hn
    have hd := h.at (j := 0) (by decide)
    have hs := h.at (j := 1) (by decide)
    have hne : r 1 ≠ r 0 := h.2.2 1 0 (by decide) (by decide) (by decide)
    rw [f_X6_undo_L43]
    by_cases c : 176 ≤ k
    · refine wp_t (nI_le (a := 176) c (by omega)) ?_
      exact wp_gd h.1 (wp_ret ⟨gr S (r 0), by rw [srow_eta], mCp.fin c⟩)
    · refine wp_f (nI_ge (b := 176) (by omega) (by decide)) (wp_gd h.1 (wp_gb hd.1 (wp_gb hs.1 (wp_gd hs.2.1 ?_))))
      rw [show (176 * nI to) + nI k = nI (176 * to + k) by rw [show (176 : Int32) = nI 176 from rfl, nI_mul, nI_add]]
      refine wp_gd (show vp_in (nI (176 * to + k)) (gn G (r 1)) by rw [hs.2.2]; exact vp_nI (show (176 * to + k) < 1408 by omega) (by decide)) (wp_gd hd.2.1 (wp_gd (show vp_in (nI k) (gn G (r 0)) by rw [hd.2.2]; exact vp_nI (show k < 176 by omega) (by decide)) (wp_glt (fun S1 e1 => wp_glt (fun z ez => ?_)))))
      rw [nI_1] at ez
      subst ez
      rw [nI_clamp (show k < 2 ^ 31 by omega), nI_clamp (show (176 * to + k) < 2 ^ 31 by omega), sr_at] at e1
      have h1 : mSh G S1 m r := by rw [e1]; exact h.row
      refine wp_mono (ih (k + 1) S1 h1 (by omega) (by omega)) ?_
      rintro y ⟨f', q1, q2⟩
      refine ⟨f', ?_, ?_⟩
      · rw [e1] at q1
        rw [q1]
        rw [srow2]
        rfl
      · rw [e1, gr_same] at q2
        have e3 : gr (srow S (r 0) (upd (gr S (r 0)) k (gr S (r 1) (176 * to + k)))) (r 1) = gr S (r 1) := gr_other _ hne
        rw [e3] at q2
        exact mCp.step (by omega) (by rw [Nat.zero_add]; exact q2)
theorem q_save_L : ∀ (n k : Nat) (S : gS), mSh G S m r → k ≤ 176 → 176 - k < n → wp (f_X6_save_L7 G m n (nI k) S) (fun y => ∃ f', y = (gr S (r 0) 0, sI (srow S (r 2) f') 33 m 1) ∧ mCp (gr S (r 2)) f' (gr S (r 0)) 0 k) := by
  intro n
  induction n with
  | zero => intro k S _ _ hn; omega
  | succ n ih =>
    intro k S h hk hn
    have hd := h.at (j := 2) (by decide)
    have hs := h.at (j := 0) (by decide)
    have hne : r 0 ≠ r 2 := h.2.2 0 2 (by decide) (by decide) (by decide)
    rw [f_X6_save_L7]
    by_cases c : 176 ≤ k
    · refine wp_t (nI_le (a := 176) c (by omega)) ?_
      refine wp_gd h.1 (wp_glt (fun S1 e1 => ?_))
      have g : gP S1 10 m = some (r 0) := by rw [e1]; exact hs.1
      refine wp_gb g (wp_gd hs.2.1 (wp_gd (show vp_in (0 : Int32) (gn G (r 0)) by rw [hs.2.2]; exact vp_nI (n := 0) (by decide) (by decide)) (wp_ret ⟨gr S (r 2), ?_, mCp.fin c⟩)))
      rw [e1, srow_eta]
      rfl
    · refine wp_f (nI_ge (b := 176) (by omega) (by decide)) (wp_gd h.1 (wp_gb hd.1 (wp_gb hs.1 (wp_gd hs.2.1 ?_))))
      refine wp_gd (show vp_in (nI k) (gn G (r 0)) by rw [hs.2.2]; exact vp_nI (show k < 176 by omega) (by decide)) (wp_gd hd.2.1 (wp_gd (show vp_in (nI k) (gn G (r 2)) by rw [hd.2.2]; exact vp_nI (show k < 176 by omega) (by decide)) (wp_glt (fun S1 e1 => wp_glt (fun z ez => ?_)))))
      rw [nI_1] at ez
      subst ez
      rw [nI_clamp (show k < 2 ^ 31 by omega), sr_at] at e1
      have h1 : mSh G S1 m r := by rw [e1]; exact h.row
      refine wp_mono (ih (k + 1) S1 h1 (by omega) (by omega)) ?_
      rintro y ⟨f', q1, q2⟩
      refine ⟨f', ?_, ?_⟩
      · rw [e1] at q1
        rw [q1]
        rw [srow2, gr_other _ hne]
      · rw [e1, gr_same] at q2
        have e3 : gr (srow S (r 2) (upd (gr S (r 2)) k (gr S (r 0) k))) (r 0) = gr S (r 0) := gr_other _ hne
        rw [e3] at q2
        exact mCp.step (by omega) (by rw [Nat.zero_add]; exact q2)
theorem q_restore_L : ∀ (n k : Nat) (S : gS), mSh G S m r → k ≤ 176 → 176 - k < n → wp (f_X6_restore_L20 G m n (nI k) S) (fun y => ∃ f', y = (f' 0, sI (sI (srow S (r 0) f') 31 m 0) 32 m 0) ∧ mCp (gr S (r 0)) f' (gr S (r 2)) 0 k) := by
  intro n
  induction n with
  | zero => intro k S _ _ hn; omega
  | succ n ih =>
    intro k S h hk hn
    have hd := h.at (j := 0) (by decide)
    have hs := h.at (j := 2) (by decide)
    have hne : r 2 ≠ r 0 := h.2.2 2 0 (by decide) (by decide) (by decide)
    rw [f_X6_restore_L20]
    by_cases c : 176 ≤ k
    · refine wp_t (nI_le (a := 176) c (by omega)) ?_
      refine wp_gd h.1 (wp_glt (fun S1 e1 => wp_glt (fun S2 e2 => ?_)))
      have g : gP S2 10 m = some (r 0) := by rw [e2, e1]; exact hd.1
      refine wp_gb g (wp_gd hd.2.1 (wp_gd (show vp_in (0 : Int32) (gn G (r 0)) by rw [hd.2.2]; exact vp_nI (n := 0) (by decide) (by decide)) (wp_ret ⟨gr S (r 0), ?_, mCp.fin c⟩)))
      rw [e2, e1, srow_eta]
      rfl
    · refine wp_f (nI_ge (b := 176) (by omega) (by decide)) (wp_gd h.1 (wp_gb hd.1 (wp_gb hs.1 (wp_gd hs.2.1 ?_))))
      refine wp_gd (show vp_in (nI k) (gn G (r 2)) by rw [hs.2.2]; exact vp_nI (show k < 176 by omega) (by decide)) (wp_gd hd.2.1 (wp_gd (show vp_in (nI k) (gn G (r 0)) by rw [hd.2.2]; exact vp_nI (show k < 176 by omega) (by decide)) (wp_glt (fun S1 e1 => wp_glt (fun z ez => ?_)))))
      rw [nI_1] at ez
      subst ez
      rw [nI_clamp (show k < 2 ^ 31 by omega), sr_at] at e1
      have h1 : mSh G S1 m r := by rw [e1]; exact h.row
      refine wp_mono (ih (k + 1) S1 h1 (by omega) (by omega)) ?_
      rintro y ⟨f', q1, q2⟩
      refine ⟨f', ?_, ?_⟩
      · rw [e1] at q1
        rw [q1]
        rw [srow2]
      · rw [e1, gr_same] at q2
        have e3 : gr (srow S (r 0) (upd (gr S (r 0)) k (gr S (r 2) k))) (r 2) = gr S (r 2) := gr_other _ hne
        rw [e3] at q2
        exact mCp.step (by omega) (by rw [Nat.zero_add]; exact q2)
end QZ
