/-! scripts: the reference reads a command -/
def sortOf (k : Nat) : Int32 := nI (([97, 116, 112, 119, 103, 102, 101, 109] : List Nat).getD k 0)
/-- the numbers read are those of the command's digits, as far as the command asks for them -/
def mΦ (k : Nat) (D : List Nat) (w : Nat → Int32) : Prop := (k ≠ 7 → w 0 = mA k D) ∧ (k = 1 ∨ k = 2 ∨ k = 5 ∨ k = 6 → w 1 = gj D 1) ∧ (k = 1 → w 2 = gj D 2 ∧ w 3 = mD 1 D)
theorem kf_first {c : Nat} {l : List Nat} (h : c ≠ 97 ∧ c ≠ 116 ∧ c ≠ 112 ∧ c ≠ 119 ∧ c ≠ 103 ∧ c ≠ 102) : kf (c :: l) = 6 := by
  show (if c = 97 then 0 else if c = 116 then _ else if c = 112 then 2 else if c = 119 then 3 else if c = 103 then 4 else if c = 102 then 5 else 6) = 6
  rw [if_neg h.1, if_neg h.2.1, if_neg h.2.2.1, if_neg h.2.2.2.1, if_neg h.2.2.2.2.1, if_neg h.2.2.2.2.2]
section DL
variable {G : gG} {S0 S' : gS} {m p : Nat} {r : Nat → Nat} {tx : List Nat} {s : Int32} {w : Nat → Int32}
theorem gjm {d : Nat} (h : d < 10) : ¬ nI d = -1 := nI_ne1 (by omega)
/-- one digit or two -/
theorem s_num (h : qT G S0 m r tx) (hq : qP S0 m r p s w S') (hp : p ≤ tx.length) : wp (f_X6_readsNumber G m 0 S') (mP S0 m r [35, 35] 1 (tx.drop p) p s (mΦ 0)) := by
  unfold f_X6_readsNumber
  rw [gd_i h.1.1]
  refine q_digit h hq hp (j := 0) (by decide) rfl (fun no => ?_) (fun c l' S1 e1 e2 e3 e4 q1 => ?_)
  · exact wp_ret (mP_no hq (ml_nod no) (by decide) (by decide))
  · have c1 := of_decide_eq_true e2
    obtain ⟨m1, m2, m3⟩ := h.m6 q1
    rw [if_neg (show ¬ gz true = 0 by decide), q_next h q1 e4, gb_S, isB_nxt (dr_lt h), gb_S, e1]
    have one : mP S0 m r [35] 0 (tx.drop (p + 1)) (p + 1) s (fun D => mΦ 0 ((c - 48) :: D)) (true, S1) → mP S0 m r [35, 35] 1 (c :: l') p s (mΦ 0) (true, S1) := fun z => by
      rw [e3] at z
      exact mP_dig e2 z
    have g0 : gr S1 (r 6) 0 = nI (c - 48) := q1.2.2.2.2 0 (by decide)
    cases e5 : tx.drop (p + 1) with
    | nil =>
      refine wp_t rfl (wp_ret (one ?_))
      rw [e5]
      exact ⟨_, s, q1, ⟨fun _ => Or.inl rfl, fun _ => rfl⟩, fun _ => ⟨rfl, ⟨fun _ => rfl, fun z => absurd z (by decide), fun z => absurd z (by decide)⟩⟩⟩
    | cons d l2 =>
      obtain ⟨d1, d2, d3⟩ := dr_le e5
      have d4 := h.2.2.2.2 d d3
      show wp (if gz (isD d) = 0 then _ else _) _
      cases e6 : isD d with
      | false =>
        refine wp_t rfl (wp_ret (one ?_))
        rw [e5]
        have z0 : ml [35] (d :: l2) = 0 := ml_f (by rw [fit_d]; exact e6)
        unfold mP
        rw [z0]
        exact ⟨_, s, q1, ⟨fun _ => Or.inl rfl, fun _ => rfl⟩, fun _ => ⟨rfl, ⟨fun _ => rfl, fun z => absurd z (by decide), fun z => absurd z (by decide)⟩⟩⟩
      | true =>
        have dd := of_decide_eq_true e6
        rw [if_neg (show ¬ gz true = 0 by decide), m1, gb_S, gb_S, gd_i m2, gd_i (by rw [m3]; exact vp_nI (n := 0) (by decide) (by decide)), gb_S, gd_i m2, gd_i (by rw [m3]; exact vp_nI (n := 0) (by decide) (by decide)), show Int32.toNatClampNeg 0 = 0 from rfl, g0, show nxt (d :: l2) = nI d from rfl]
        rw [show (10 : Int32) = nI 10 from rfl, nI_mul, nI_add, show (48 : Int32) = nI 48 from rfl, nI_sub (by omega)]
        refine wp_glt (fun S2 e7 => ?_)
        have q2 := q1.w6 e7
        rw [q2.2.2.1, nI_1]
        refine wp_glt (fun S3 e8 => wp_ret ?_)
        have q3 := q2.I36 rfl e8
        have z : mP S0 m r [35, 35] 1 (c :: d :: l2) p s (mΦ 0) (true, S3) := by
          have z2 : ml [35, 35] (c :: d :: l2) = 2 := by rw [ml_t (by rw [fit_d]; exact e2), ml_t (by rw [fit_d]; exact e6)]; rfl
          unfold mP
          rw [z2, List.take_succ_cons, List.take_succ_cons, List.take_zero, dg, if_pos e2, dg, if_pos e6]
          refine ⟨_, s, q3, ⟨fun _ => Or.inr rfl, fun _ => rfl⟩, fun _ => ⟨rfl, ⟨fun _ => ?_, fun z => absurd z (by decide), fun z => absurd z (by decide)⟩⟩⟩
          show nI (10 * (c - 48) + d - 48) = (if gj [c - 48, d - 48] 1 = -1 then _ else 10 * nI (c - 48) + nI (d - 48))
          rw [if_neg (show ¬ gj [c - 48, d - 48] 1 = -1 from gjm (d := d - 48) (by omega)), show (10 : Int32) = nI 10 from rfl, nI_mul, nI_add, show 10 * (c - 48) + d - 48 = 10 * (c - 48) + (d - 48) by omega]
        rw [← e3, e5]
        exact z
theorem s_train (h : qT G S0 m r tx) (hq : qP S0 m r p s w S') (hp : p ≤ tx.length) : wp (f_X6_readsTrain G m S') (mP S0 m r [97, 105, 110, 32, 35, 32, 35, 35, 120, 35] 8 (tx.drop p) p s (mΦ 1)) := by
  unfold f_X6_readsTrain
  rw [gd_i h.1.1]
  refine s_lit h hq hp (c := 97) (by decide) (by decide) (by decide) rfl (fun S1 p1 q1 => ?_)
  refine s_lit h q1 p1 (c := 105) (by decide) (by decide) (by decide) rfl (fun S2 p2 q2 => ?_)
  refine s_lit h q2 p2 (c := 110) (by decide) (by decide) (by decide) rfl (fun S3 p3 q3 => ?_)
  refine s_two h q3 p3 (rr := 1) (fun d e p4 S4 b4 d1 e1 q4 => ?_)
  refine s_dig h q4 b4 (j := 2) (by decide) rfl (fun f S5 b5 f1 q5 => ?_)
  obtain ⟨m1, m2, m3⟩ := h.m6 q5
  rw [m1, gb_S, gd_i m2, gd_i (by rw [m3]; exact vp_nI (n := 3) (by decide) (by decide)), show Int32.toNatClampNeg 3 = 3 from rfl]
  refine wp_glt (fun S6 e6 => ?_)
  have q6 := q5.w6 e6
  have v3 : ∀ {x : Int32}, upd (upd (upd (upd w 0 (nI d)) 1 (nI e)) 2 (nI f)) 3 x 0 = nI d ∧ upd (upd (upd (upd w 0 (nI d)) 1 (nI e)) 2 (nI f)) 3 x 1 = nI e ∧ upd (upd (upd (upd w 0 (nI d)) 1 (nI e)) 2 (nI f)) 3 x 2 = nI f := ⟨rfl, rfl, rfl⟩
  refine q_reads h q6 b5 (c := 120) (by decide) rfl (fun no => ?_) (fun l' S7 g1 g2 g3 q7 => ?_)
  · refine wp_t rfl (wp_ret ?_)
    unfold mP
    rw [ml_no (by decide) no]
    exact ⟨_, s, q6, ⟨fun _ => Or.inl rfl, fun _ => rfl⟩, fun _ => ⟨rfl, fun _ => rfl, fun _ => rfl, fun _ => ⟨rfl, rfl⟩⟩⟩
  · refine wp_f (by decide) ?_
    rw [g1]
    refine q_digit h q7 g3 (j := 3) (by decide) rfl (fun no => ?_) (fun c l2 S8 e1 e2 e3 e4 q8 => ?_)
    · refine wp_t rfl (wp_ret ?_)
      have z : ml [120, 35] (120 :: l') = 1 := by
        rw [ml_t (by decide), ml_nod (fun c l2 z => no c l2 (by rw [g2, z]))]
      unfold mP
      rw [z]
      exact ⟨_, s, q7, ⟨fun z => (by cases z), fun z => absurd z (by decide)⟩, fun z => (by cases z)⟩
    · refine wp_f (by decide) (wp_ret ?_)
      have c1 := of_decide_eq_true e2
      have z : ml [120, 35] (120 :: c :: l2) = 2 := by
        rw [ml_t (by decide), ml_t (by rw [fit_d]; exact e2)]
        rfl
      rw [g2] at e1
      rw [e1]
      unfold mP
      rw [z, List.take_succ_cons, List.take_succ_cons, List.take_zero, dg, if_neg (by decide), dg, if_pos e2]
      refine ⟨_, s, q8, ⟨fun _ => Or.inr rfl, fun _ => rfl⟩, fun _ => ⟨rfl, fun _ => rfl, fun _ => rfl, fun _ => ⟨rfl, ?_⟩⟩⟩
      show nI (c - 48) = (if nI (c - 48) = -1 then 1 else nI (c - 48))
      rw [if_neg (gjm (by omega))]
/-- the whole command -/
def mC (S0 : gS) (m : Nat) (r : Nat → Nat) (l : List Nat) (p : Nat) (y : Bool × gS) : Prop := mP S0 m r (mF (kf l)) (mLe (kf l)) l p (sortOf (kf l)) (mΦ (kf l)) y
theorem two_Φ {k d e : Nat} {w : Nat → Int32} (hk : k = 2 ∨ k = 5 ∨ k = 6) : mΦ k [d, e] (upd (upd w 0 (nI d)) 1 (nI e)) := by
  refine ⟨fun _ => ?_, fun _ => rfl, fun q => by omega⟩
  unfold mA
  rw [if_neg (by omega)]
  rfl
theorem one_Φ {k d : Nat} {w : Nat → Int32} (hk : k = 3 ∨ k = 4) : mΦ k [d] (upd w 0 (nI d)) := by
  refine ⟨fun _ => ?_, fun q => by omega, fun q => by omega⟩
  unfold mA
  rw [if_neg (by omega)]
  rfl
theorem s_cmd (h : qT G S0 m r tx) (hq : qP S0 m r p s w S') (hp : p ≤ tx.length) : wp (f_X6_readsCommand G m S') (mC S0 m r (tx.drop p) p) := by
  unfold f_X6_readsCommand
  rw [gd_i h.1.1, q_next h hq hp, gb_S]
  refine wp_glt (fun S1 e1 => ?_)
  have q1 := hq.I39 e1
  -- a
  refine q_reads h q1 hp (c := 97) (by decide) rfl (fun n97 => ?_) (fun l' S2 a1 a2 a3 q2 => ?_)
  rotate_left
  · refine wp_f (by decide) ?_
    rw [a1] at q2 ⊢
    unfold mC
    refine wp_mono (R := mP S0 m r [100, 100, 32, 35, 35] 4 l' (p + 1) 97 (mΦ 0)) ?_ (fun y hy => mP_lit (by decide) (by decide) hy)
    rw [← a2]
    refine s_lit h q2 a3 (c := 100) (by decide) (by decide) (by decide) rfl (fun S3 p3 q3 => ?_)
    refine s_lit h q3 p3 (c := 100) (by decide) (by decide) (by decide) rfl (fun S4 p4 q4 => ?_)
    refine s_lit h q4 p4 (c := 32) (by decide) (by decide) (by decide) rfl (fun S5 p5 q5 => ?_)
    obtain ⟨⟨b, S6⟩, x1, x2⟩ := s_num h q5 p5
    rw [x1, gb2_S]
    cases b with
    | false => exact wp_t rfl (wp_ret x2)
    | true => exact wp_f (by decide) (wp_ret x2)
  refine wp_t rfl ?_
  -- t
  refine q_reads h q1 hp (c := 116) (by decide) rfl (fun n116 => ?_) (fun l' S2 a1 a2 a3 q2 => ?_)
  rotate_left
  · refine wp_f (by decide) ?_
    rw [gb2_id]
    unfold f_X6_readsT
    rw [gd_i h.1.1]
    rw [a1] at q2 ⊢
    refine q_reads h q2 a3 (c := 114) (by decide) rfl (fun n114 => ?_) (fun l2 S3 b1 b2 b3 q3 => ?_)
    · have k7 : kf (116 :: l') = 7 := by
        cases l' with
        | nil => rfl
        | cons d l2 => exact if_neg (fun z => n114 l2 (by rw [a2, z]))
      unfold mC
      rw [k7]
      refine wp_t rfl (wp_glt (fun S3 e3 => ?_))
      have q3 := q2.I39 e3
      refine wp_mono (R := mP S0 m r [101, 114, 109] 3 l' (p + 1) 109 (mΦ 7)) ?_ (fun y hy => mP_lit (by decide) (by decide) hy)
      rw [← a2]
      refine s_lit h q3 a3 (c := 101) (by decide) (by decide) (by decide) rfl (fun S4 p4 q4 => ?_)
      refine s_lit h q4 p4 (c := 114) (by decide) (by decide) (by decide) rfl (fun S5 p5 q5 => ?_)
      refine s_lit h q5 p5 (c := 109) (by decide) (by decide) (by decide) rfl (fun S6 p6 q6 => ?_)
      exact s_end q6 ⟨fun z => absurd rfl z, fun z => absurd z (by decide), fun z => absurd z (by decide)⟩
    · rw [a2] at b1
      subst b1
      refine wp_f (by decide) ?_
      rw [gb2_id]
      show wp _ (mP S0 m r (116 :: 114 :: [97, 105, 110, 32, 35, 32, 35, 35, 120, 35]) 10 (116 :: 114 :: l2) p 116 (mΦ 1))
      refine wp_mono (R := mP S0 m r [97, 105, 110, 32, 35, 32, 35, 35, 120, 35] 8 l2 (p + 1 + 1) 116 (mΦ 1)) ?_ (fun y hy => mP_lit (by decide) (by decide) (mP_lit (by decide) (by decide) hy))
      rw [← b2]
      exact s_train h q3 b3
  refine wp_t rfl ?_
  -- p
  refine q_reads h q1 hp (c := 112) (by decide) rfl (fun n112 => ?_) (fun l' S2 a1 a2 a3 q2 => ?_)
  rotate_left
  · refine wp_f (by decide) ?_
    rw [a1] at q2 ⊢
    unfold mC
    refine wp_mono (R := mP S0 m r [101, 114, 105, 111, 100, 32, 35, 32, 35] 9 l' (p + 1) 112 (mΦ 2)) ?_ (fun y hy => mP_lit (by decide) (by decide) hy)
    rw [← a2]
    refine s_lit h q2 a3 (c := 101) (by decide) (by decide) (by decide) rfl (fun S3 p3 q3 => ?_)
    refine s_lit h q3 p3 (c := 114) (by decide) (by decide) (by decide) rfl (fun S4 p4 q4 => ?_)
    refine s_lit h q4 p4 (c := 105) (by decide) (by decide) (by decide) rfl (fun S5 p5 q5 => ?_)
    refine s_lit h q5 p5 (c := 111) (by decide) (by decide) (by decide) rfl (fun S6 p6 q6 => ?_)
    refine s_lit h q6 p6 (c := 100) (by decide) (by decide) (by decide) rfl (fun S7 p7 q7 => ?_)
    exact s_two h q7 p7 (rr := 0) (fun d e p8 S8 b8 d1 e1 q8 => s_end q8 (two_Φ (Or.inl rfl)))
  refine wp_t rfl ?_
  -- w
  refine q_reads h q1 hp (c := 119) (by decide) rfl (fun n119 => ?_) (fun l' S2 a1 a2 a3 q2 => ?_)
  rotate_left
  · refine wp_f (by decide) ?_
    rw [a1] at q2 ⊢
    unfold mC
    refine wp_mono (R := mP S0 m r [101, 116, 32, 35] 4 l' (p + 1) 119 (mΦ 3)) ?_ (fun y hy => mP_lit (by decide) (by decide) hy)
    rw [← a2]
    refine s_lit h q2 a3 (c := 101) (by decide) (by decide) (by decide) rfl (fun S3 p3 q3 => ?_)
    refine s_lit h q3 p3 (c := 116) (by decide) (by decide) (by decide) rfl (fun S4 p4 q4 => ?_)
    refine s_lit h q4 p4 (c := 32) (by decide) (by decide) (by decide) rfl (fun S5 p5 q5 => ?_)
    exact s_dig h q5 p5 (j := 0) (by decide) rfl (fun d S6 b6 d1 q6 => s_end q6 (one_Φ (Or.inl rfl)))
  refine wp_t rfl ?_
  -- g
  refine q_reads h q1 hp (c := 103) (by decide) rfl (fun n103 => ?_) (fun l' S2 a1 a2 a3 q2 => ?_)
  rotate_left
  · refine wp_f (by decide) ?_
    rw [a1] at q2 ⊢
    unfold mC
    refine wp_mono (R := mP S0 m r [97, 108, 101, 32, 35] 5 l' (p + 1) 103 (mΦ 4)) ?_ (fun y hy => mP_lit (by decide) (by decide) hy)
    rw [← a2]
    refine s_lit h q2 a3 (c := 97) (by decide) (by decide) (by decide) rfl (fun S3 p3 q3 => ?_)
    refine s_lit h q3 p3 (c := 108) (by decide) (by decide) (by decide) rfl (fun S4 p4 q4 => ?_)
    refine s_lit h q4 p4 (c := 101) (by decide) (by decide) (by decide) rfl (fun S5 p5 q5 => ?_)
    refine s_lit h q5 p5 (c := 32) (by decide) (by decide) (by decide) rfl (fun S6 p6 q6 => ?_)
    exact s_dig h q6 p6 (j := 0) (by decide) rfl (fun d S7 b7 d1 q7 => s_end q7 (one_Φ (Or.inr rfl)))
  refine wp_t rfl ?_
  -- f
  refine q_reads h q1 hp (c := 102) (by decide) rfl (fun n102 => ?_) (fun l' S2 a1 a2 a3 q2 => ?_)
  rotate_left
  · refine wp_f (by decide) ?_
    rw [a1] at q2 ⊢
    unfold mC
    refine wp_mono (R := mP S0 m r [111, 114, 103, 101, 116, 32, 35, 32, 35] 9 l' (p + 1) 102 (mΦ 5)) ?_ (fun y hy => mP_lit (by decide) (by decide) hy)
    rw [← a2]
    refine s_lit h q2 a3 (c := 111) (by decide) (by decide) (by decide) rfl (fun S3 p3 q3 => ?_)
    refine s_lit h q3 p3 (c := 114) (by decide) (by decide) (by decide) rfl (fun S4 p4 q4 => ?_)
    refine s_lit h q4 p4 (c := 103) (by decide) (by decide) (by decide) rfl (fun S5 p5 q5 => ?_)
    refine s_lit h q5 p5 (c := 101) (by decide) (by decide) (by decide) rfl (fun S6 p6 q6 => ?_)
    refine s_lit h q6 p6 (c := 116) (by decide) (by decide) (by decide) rfl (fun S7 p7 q7 => ?_)
    exact s_two h q7 p7 (rr := 0) (fun d e p8 S8 b8 d1 e1 q8 => s_end q8 (two_Φ (Or.inr (Or.inl rfl))))
  refine wp_t rfl ?_
  -- e
  have k6 : kf (tx.drop p) = 6 := by
    cases e : tx.drop p with
    | nil => rfl
    | cons c l => exact kf_first ⟨fun z => n97 l (by rw [e, z]), fun z => n116 l (by rw [e, z]), fun z => n112 l (by rw [e, z]), fun z => n119 l (by rw [e, z]), fun z => n103 l (by rw [e, z]), fun z => n102 l (by rw [e, z])⟩
  unfold mC
  rw [k6]
  refine q_reads h q1 hp (c := 101) (by decide) rfl (fun n101 => ?_) (fun l' S2 a1 a2 a3 q2 => ?_)
  · exact wp_t rfl (wp_ret (mP_no q1 (ml_no (by decide) n101) (by decide) (by decide)))
  · refine wp_f (by decide) ?_
    rw [a1] at q2 ⊢
    refine wp_mono (R := mP S0 m r [120, 97, 109, 32, 35, 32, 35] 7 l' (p + 1) 101 (mΦ 6)) ?_ (fun y hy => mP_lit (by decide) (by decide) hy)
    rw [← a2]
    refine s_lit h q2 a3 (c := 120) (by decide) (by decide) (by decide) rfl (fun S3 p3 q3 => ?_)
    refine s_lit h q3 p3 (c := 97) (by decide) (by decide) (by decide) rfl (fun S4 p4 q4 => ?_)
    refine s_lit h q4 p4 (c := 109) (by decide) (by decide) (by decide) rfl (fun S5 p5 q5 => ?_)
    exact s_two h q5 p5 (rr := 0) (fun d e p8 S8 b8 d1 e1 q8 => s_end q8 (two_Φ (Or.inr (Or.inr rfl))))
end DL
