/-! scripts: the reference reads -/
def qT (G : gG) (S0 : gS) (m : Nat) (r : Nat → Nat) (tx : List Nat) : Prop := mSh G S0 m r ∧ gI S0 35 m = nI tx.length ∧ (∀ (k c : Nat), tx[k]? = some c → gr S0 (r 5) k = nI c) ∧ tx.length ≤ 60 ∧ ∀ c ∈ tx, c < 128
def qP (S0 : gS) (m : Nat) (r : Nat → Nat) (p : Nat) (s : Int32) (w : Nat → Int32) (S' : gS) : Prop := gFr [m, r 6] S0 S' ∧ (∀ f, f ≠ 36 → f ≠ 39 → gI S' f m = gI S0 f m) ∧ gI S' 36 m = nI p ∧ gI S' 39 m = s ∧ ∀ j, j < 4 → gr S' (r 6) j = w j
def nxt (l : List Nat) : Int32 := match l with
  | [] => -1
  | c :: _ => nI c
def isn (l : List Nat) : Bool := match l with
  | [] => false
  | c :: _ => isD c
theorem gb2_if {β : Type} (X : Option (Bool × gS)) (Y : gS → Option (Bool × gS)) (K : Bool → gS → Option β) : gb2 (gb2 X fun b S1 => if gz b = 0 then some (false, S1) else Y S1) K = gb2 X fun b S1 => if gz b = 0 then K false S1 else gb2 (Y S1) K := by
  cases X with
  | none => rfl
  | some q =>
    obtain ⟨b, S1⟩ := q
    cases b <;> rfl
section DK
variable {G : gG} {S0 S' : gS} {m p : Nat} {r : Nat → Nat} {tx : List Nat} {s : Int32} {w : Nat → Int32}
theorem qP.I36 (h : qP S0 m r p s w S') {q : Nat} {v : Int32} (hv : v = nI q) {S1 : gS} (e : S1 = sI S' 36 m v) : qP S0 m r q s w S1 := by
  subst e hv
  obtain ⟨h1, h2, h3, h4, h5⟩ := h
  refine ⟨h1.I (by simp), fun f f1 f2 => ?_, ?_, ?_, h5⟩
  · rw [gI_sI, if_neg (fun z => f1 z.1)]; exact h2 f f1 f2
  · rw [gI_sI, if_pos ⟨rfl, rfl⟩]
  · rw [gI_sI, if_neg (fun z => absurd z.1 (by decide))]; exact h4
theorem qP.I39 (h : qP S0 m r p s w S') {v : Int32} {S1 : gS} (e : S1 = sI S' 39 m v) : qP S0 m r p v w S1 := by
  subst e
  obtain ⟨h1, h2, h3, h4, h5⟩ := h
  refine ⟨h1.I (by simp), fun f f1 f2 => ?_, ?_, ?_, h5⟩
  · rw [gI_sI, if_neg (fun z => f2 z.1)]; exact h2 f f1 f2
  · rw [gI_sI, if_neg (fun z => absurd z.1 (by decide))]; exact h3
  · rw [gI_sI, if_pos ⟨rfl, rfl⟩]
theorem qP.w6 (h : qP S0 m r p s w S') {j : Nat} {v : Int32} {S1 : gS} (e : S1 = sr S' (r 6) j v) : qP S0 m r p s (upd w j v) S1 := by
  subst e
  obtain ⟨h1, h2, h3, h4, h5⟩ := h
  refine ⟨h1.r (by simp), h2, h3, h4, fun i hi => ?_⟩
  rw [gr_sr_at]
  unfold upd
  by_cases q : i = j
  · rw [if_pos q, if_pos q]
  · rw [if_neg q, if_neg q]; exact h5 i hi
theorem qT.sh (h : qT G S0 m r tx) (hq : qP S0 m r p s w S') : mSh G S' m r := h.1.fr hq.1
theorem qT.m6 (h : qT G S0 m r tx) (hq : qP S0 m r p s w S') : gP S' 16 m = some (r 6) ∧ gis G 7 (r 6) ∧ gn G (r 6) = 4 := (h.sh hq).2.1 6 (by decide)
theorem qT.row5 (h : qT G S0 m r tx) (hq : qP S0 m r p s w S') : gr S' (r 5) = gr S0 (r 5) := by
  have h1 := mSh.ne h.1 (show 5 < 7 by decide)
  have h2 := h.1.2.2 5 6 (by decide) (by decide) (by decide)
  exact funext fun i => (hq.1.1 _ (by simp [h1, h2])).2 i
theorem q_next (h : qT G S0 m r tx) (hq : qP S0 m r p s w S') (hp : p ≤ tx.length) : f_X6_nextChar G m S' = some (nxt (tx.drop p)) := by
  obtain ⟨t1, t2, t3, t4, t5⟩ := id h
  obtain ⟨m1, m2, m3⟩ := (h.sh hq).2.1 5 (by decide)
  have m1 : gP S' 15 m = some (r 5) := m1
  have m2 : gis G 6 (r 5) := m2
  have m3 : gn G (r 5) = 60 := m3
  have e35 : gI S' 35 m = nI tx.length := (hq.2.1 35 (by decide) (by decide)).trans t2
  unfold f_X6_nextChar
  rw [gd_i t1.1, e35, hq.2.2.1]
  by_cases e : p = tx.length
  · rw [if_pos (by rw [e]; exact Int32.le_refl _), e, List.drop_length]
    rfl
  · have lt : p < tx.length := by omega
    rw [if_neg (nI_ge lt (by omega)), m1, gb_S, gd_i m2, gd_i (by rw [m3]; exact vp_nI (by omega) (by decide)), nI_clamp (by omega), h.row5 hq, t3 p _ (List.getElem?_eq_getElem lt), List.drop_eq_getElem_cons lt]
    rfl
theorem dr_le {l : List Nat} {c : Nat} {l' : List Nat} (e : l.drop p = c :: l') : p < l.length ∧ l.drop (p + 1) = l' ∧ c ∈ l := by
  have lt : p < l.length := by
    refine Nat.not_le.mp (fun z => ?_)
    rw [List.drop_of_length_le z] at e
    cases e
  rw [List.drop_eq_getElem_cons lt] at e
  exact ⟨lt, (List.cons.inj e).2, (List.cons.inj e).1 ▸ List.getElem_mem lt⟩
theorem nI_m1 {i : Nat} (h : i < 2 ^ 31) : ¬ (-1 : Int32) = nI i := fun q => nI_ne1 h q.symm
theorem q_reads (h : qT G S0 m r tx) (hq : qP S0 m r p s w S') (hp : p ≤ tx.length) {c : Nat} (hc : c < 128) {a : Int32} (ha : a = nI c) {β : Type} {K : Bool → gS → Option β} {Q : β → Prop}
    (no : (∀ l', tx.drop p ≠ c :: l') → wp (K false S') Q) (yes : ∀ l' S1, tx.drop p = c :: l' → tx.drop (p + 1) = l' → p < tx.length → qP S0 m r (p + 1) s w S1 → wp (K true S1) Q) : wp (gb2 (f_X6_reads G m a S') K) Q := by
  subst ha
  unfold f_X6_reads
  rw [gd_i h.1.1, q_next h hq hp, gb_S]
  cases e : tx.drop p with
  | nil =>
    rw [show nxt [] = -1 from rfl, if_neg (nI_m1 (by omega)), gb2_S]
    exact no (fun l' z => by rw [e] at z; cases z)
  | cons d l =>
    obtain ⟨d1, d2, d3⟩ := dr_le e
    have d4 := h.2.2.2.2 d d3
    rw [show nxt (d :: l) = nI d from rfl]
    by_cases q : d = c
    · subst q
      rw [if_pos rfl, glt_S, gb2_S, hq.2.2.1, nI_1]
      exact yes l _ e d2 d1 (hq.I36 rfl rfl)
    · rw [if_neg (fun z => q ((nI_eq (by omega) (by omega)).mp z)), gb2_S]
      exact no (fun l' z => by rw [e] at z; exact q (List.cons.inj z).1)
theorem isB_nxt {l : List Nat} (hl : ∀ c ∈ l, c < 128) : f_X6_isBetween (nxt l) 48 57 = some (isn l) := by
  rw [q_isB]
  cases l with
  | nil => exact congrArg some (show decide ((48 : Int32) ≤ -1 ∧ (-1 : Int32) ≤ 57) = false by decide)
  | cons c l =>
    have hc := hl c List.mem_cons_self
    refine congrArg some ?_
    show decide ((48 : Int32) ≤ nI c ∧ nI c ≤ 57) = isD c
    have e1 : ((48 : Int32) ≤ nI c) ↔ 48 ≤ c := nI_leI (a := 48) (by decide) (by omega)
    have e2 : (nI c ≤ (57 : Int32)) ↔ c ≤ 57 := nI_leI (b := 57) (by omega) (by decide)
    unfold isD
    rw [decide_eq_decide, e1, e2]
theorem dr_lt (h : qT G S0 m r tx) : ∀ c ∈ tx.drop p, c < 128 := fun c hc => h.2.2.2.2 c (List.mem_of_mem_drop hc)
theorem q_digit (h : qT G S0 m r tx) (hq : qP S0 m r p s w S') (hp : p ≤ tx.length) {j : Nat} (hj : j < 4) {a : Int32} (ha : a = nI j) {β : Type} {K : Bool → gS → Option β} {Q : β → Prop}
    (no : (∀ c l', tx.drop p = c :: l' → isD c = false) → wp (K false S') Q) (yes : ∀ c l' S1, tx.drop p = c :: l' → isD c = true → tx.drop (p + 1) = l' → p < tx.length → qP S0 m r (p + 1) s (upd w j (nI (c - 48))) S1 → wp (K true S1) Q) : wp (gb2 (f_X6_readsDigit G m a S') K) Q := by
  subst ha
  obtain ⟨m1, m2, m3⟩ := h.m6 hq
  unfold f_X6_readsDigit
  rw [gd_i h.1.1, q_next h hq hp, gb_S, isB_nxt (dr_lt h), gb_S]
  cases e : tx.drop p with
  | nil =>
    rw [if_pos (show gz (isn []) = 0 from rfl), gb2_S]
    exact no (fun c l' z => by rw [e] at z; cases z)
  | cons d l =>
    obtain ⟨d1, d2, d3⟩ := dr_le e
    have d4 := h.2.2.2.2 d d3
    show wp (gb2 (if gz (isD d) = 0 then _ else _) K) Q
    cases q : isD d with
    | false =>
      rw [if_pos (show gz false = 0 from rfl), gb2_S]
      exact no (fun c l' z => by rw [e] at z; exact (List.cons.inj z).1 ▸ q)
    | true =>
      have q1 := of_decide_eq_true q
      obtain ⟨S2, e2⟩ : ∃ S2, S2 = sr S' (r 6) j (nI (d - 48)) := ⟨_, rfl⟩
      have h2 := hq.w6 e2
      rw [if_neg (show ¬ gz true = 0 by decide), m1, gb_S, gb_S, gd_i m2, gd_i (by rw [m3]; exact vp_nI hj (by decide)), nI_clamp (by omega), show nxt (d :: l) = nI d from rfl, show (48 : Int32) = nI 48 from rfl, nI_sub (by omega), ← e2, glt_S, h2.2.2.1, nI_1, glt_S, gb2_S]
      exact yes d l _ e q d2 d1 (h2.I36 rfl rfl)
/-- a reading from p on: how far it goes, whether it is done, what it has read -/
def mP (S0 : gS) (m : Nat) (r : Nat → Nat) (F : List Nat) (rr : Nat) (l : List Nat) (p : Nat) (s : Int32) (Φ : List Nat → (Nat → Int32) → Prop) (y : Bool × gS) : Prop :=
  ∃ w' s', qP S0 m r (p + ml F l) s' w' y.2 ∧ (y.1 = true ↔ ml F l = rr ∨ ml F l = F.length) ∧ (y.1 = true → s' = s ∧ Φ (dg (l.take (ml F l))) w')
theorem mP_lit {F l' : List Nat} {rr c : Nat} {s1 : Int32} {Φ : List Nat → (Nat → Int32) → Prop} {y : Bool × gS} (h35 : c ≠ 35) (hd : isD c = false) (h : mP S0 m r F rr l' (p + 1) s1 Φ y) : mP S0 m r (c :: F) (rr + 1) (c :: l') p s1 Φ y := by
  obtain ⟨w', s', h1, h2, h3⟩ := h
  unfold mP
  rw [ml_t (fit_eq h35), List.take_succ_cons, dg, if_neg (by rw [hd]; decide), List.length_cons]
  refine ⟨w', s', ?_, h2.trans ?_, h3⟩
  · rw [show p + (ml F l' + 1) = p + 1 + ml F l' by omega]; exact h1
  · omega
theorem mP_dig {F l' : List Nat} {rr c : Nat} {s1 : Int32} {Φ : List Nat → (Nat → Int32) → Prop} {y : Bool × gS} (hd : isD c = true) (h : mP S0 m r F rr l' (p + 1) s1 (fun D => Φ ((c - 48) :: D)) y) : mP S0 m r (35 :: F) (rr + 1) (c :: l') p s1 Φ y := by
  obtain ⟨w', s', h1, h2, h3⟩ := h
  unfold mP
  rw [ml_t (by rw [fit_d]; exact hd), List.take_succ_cons, dg, if_pos hd, List.length_cons]
  refine ⟨w', s', ?_, h2.trans ?_, h3⟩
  · rw [show p + (ml F l' + 1) = p + 1 + ml F l' by omega]; exact h1
  · omega
theorem mP_no {F l : List Nat} {rr : Nat} {s1 : Int32} {Φ : List Nat → (Nat → Int32) → Prop} (hq : qP S0 m r p s w S') (h0 : ml F l = 0) (h1 : 0 < rr) (h2 : 0 < F.length) : mP S0 m r F rr l p s1 Φ (false, S') := by
  unfold mP
  rw [h0]
  exact ⟨w, s, hq, ⟨fun z => (by cases z), fun z => by omega⟩, fun z => (by cases z)⟩
theorem ml_no {F l : List Nat} {c : Nat} (h35 : c ≠ 35) (h : ∀ l', l ≠ c :: l') : ml (c :: F) l = 0 := by
  cases l with
  | nil => rfl
  | cons d l => exact ml_f (fit_ne h35 (fun z => h l (by rw [z])))
theorem ml_nod {F l : List Nat} (h : ∀ c l', l = c :: l' → isD c = false) : ml (35 :: F) l = 0 := by
  cases l with
  | nil => rfl
  | cons d l => exact ml_f (by rw [fit_d]; exact h d l rfl)
theorem s_lit (h : qT G S0 m r tx) (hq : qP S0 m r p s w S') (hp : p ≤ tx.length) {c : Nat} (hc : c < 128) (h35 : c ≠ 35) (hd : isD c = false) {a : Int32} (ha : a = nI c) {F : List Nat} {rr : Nat} {s1 : Int32} {Φ : List Nat → (Nat → Int32) → Prop} {K : gS → Option (Bool × gS)}
    (k : ∀ S1, p + 1 ≤ tx.length → qP S0 m r (p + 1) s w S1 → wp (K S1) (mP S0 m r F rr (tx.drop (p + 1)) (p + 1) s1 Φ)) : wp (gb2 (f_X6_reads G m a S') fun b S1 => if gz b = 0 then some (false, S1) else K S1) (mP S0 m r (c :: F) (rr + 1) (tx.drop p) p s1 Φ) := by
  refine q_reads h hq hp hc ha (fun no => ?_) (fun l' S1 e1 e2 e3 q1 => ?_)
  · exact wp_ret (mP_no hq (ml_no h35 no) (Nat.succ_pos _) (Nat.succ_pos _))
  · refine wp_mono (k S1 e3 q1) (fun y hy => ?_)
    rw [e2] at hy
    rw [e1]
    exact mP_lit h35 hd hy
theorem s_dig (h : qT G S0 m r tx) (hq : qP S0 m r p s w S') (hp : p ≤ tx.length) {j : Nat} (hj : j < 4) {a : Int32} (ha : a = nI j) {F : List Nat} {rr : Nat} {s1 : Int32} {Φ : List Nat → (Nat → Int32) → Prop} {K : gS → Option (Bool × gS)}
    (k : ∀ d S1, p + 1 ≤ tx.length → d < 10 → qP S0 m r (p + 1) s (upd w j (nI d)) S1 → wp (K S1) (mP S0 m r F rr (tx.drop (p + 1)) (p + 1) s1 (fun D => Φ (d :: D)))) : wp (gb2 (f_X6_readsDigit G m a S') fun b S1 => if gz b = 0 then some (false, S1) else K S1) (mP S0 m r (35 :: F) (rr + 1) (tx.drop p) p s1 Φ) := by
  refine q_digit h hq hp hj ha (fun no => ?_) (fun c l' S1 e1 e2 e3 e4 q1 => ?_)
  · exact wp_ret (mP_no hq (ml_nod no) (Nat.succ_pos _) (Nat.succ_pos _))
  · have := of_decide_eq_true e2
    refine wp_mono (k (c - 48) S1 e4 (by omega) q1) (fun y hy => ?_)
    rw [e3] at hy
    rw [e1]
    exact mP_dig e2 hy
theorem s_end (hq : qP S0 m r p s w S') {l : List Nat} {Φ : List Nat → (Nat → Int32) → Prop} (hΦ : Φ [] w) : wp (some (true, S')) (mP S0 m r [] 0 l p s Φ) :=
  wp_ret ⟨w, s, hq, ⟨fun _ => Or.inl rfl, fun _ => rfl⟩, fun _ => ⟨rfl, hΦ⟩⟩
theorem s_two (h : qT G S0 m r tx) (hq : qP S0 m r p s w S') (hp : p ≤ tx.length) {F : List Nat} {rr : Nat} {s1 : Int32} {Φ : List Nat → (Nat → Int32) → Prop} {K : gS → Option (Bool × gS)}
    (k : ∀ d e p' S1, p' ≤ tx.length → d < 10 → e < 10 → qP S0 m r p' s (upd (upd w 0 (nI d)) 1 (nI e)) S1 → wp (K S1) (mP S0 m r F rr (tx.drop p') p' s1 (fun D => Φ (d :: e :: D)))) : wp (gb2 (f_X6_readsTwo G m S') fun b S1 => if gz b = 0 then some (false, S1) else K S1) (mP S0 m r (32 :: 35 :: 32 :: 35 :: F) (rr + 1 + 1 + 1 + 1) (tx.drop p) p s1 Φ) := by
  unfold f_X6_readsTwo
  rw [gd_i h.1.1, gb2_if]
  refine s_lit h hq hp (by decide) (by decide) (by decide) rfl (fun S1 p1 q1 => ?_)
  rw [gb2_if]
  refine s_dig h q1 p1 (j := 0) (by decide) rfl (fun d S2 p2 d1 q2 => ?_)
  rw [gb2_if]
  refine s_lit h q2 p2 (by decide) (by decide) (by decide) rfl (fun S3 p3 q3 => ?_)
  rw [gb2_if]
  exact s_dig h q3 p3 (j := 1) (by decide) rfl (fun e S4 p4 e1 q4 => k d e _ S4 p4 d1 e1 q4)
end DK
