/-! the world: addresses, the school's part, the reference's part -/
-- x, its history, its two texts, the reference, the law's two rows, the books, the reference's rows
abbrev aW : Type := (Nat × Nat × Nat × Nat) × (Nat × Nat × Nat) × (Nat → gBA) × (Nat → Nat)
def ax (A : aW) : Nat := A.1.1
def ah (A : aW) : Nat := A.1.2.1
def at1 (A : aW) : Nat := A.1.2.2.1
def at2 (A : aW) : Nat := A.1.2.2.2
def am (A : aW) : Nat := A.2.1.1
def ao (A : aW) : Nat := A.2.1.2.1
def aoD (A : aW) : Nat := A.2.1.2.2
def aB (A : aW) (b : Nat) : gBA := A.2.2.1 b
def ar (A : aW) (j : Nat) : Nat := A.2.2.2 j
/-- what never changes -/
def wSh (G : gG) (S : gS) (A : aW) : Prop :=
  (gis G 2 (ax A) ∧ gP S 5 (ax A) = some (aB A 0).1 ∧ gP S 6 (ax A) = some (aB A 1).1 ∧ gP S 7 (ax A) = some (ah A) ∧ gis G 8 (ah A) ∧ gn G (ah A) = 9 ∧ gP S 8 (ax A) = some (at1 A) ∧ gP S 9 (ax A) = some (at2 A) ∧ at1 A ≠ at2 A) ∧
  ((∀ b, b < 11 → bOk G S (aB A b)) ∧ (∀ b c, b < 11 → c < 11 → b ≠ c → ∀ a ∈ bFp (aB A b), a ∉ bFp (aB A c)) ∧ ∀ b, b < 11 → (aB A b).2.1 ≠ ah A) ∧
  mSh G S (am A) (ar A) ∧
  (∀ b, b < 11 → ax A ∉ bFp (aB A b) ∧ am A ∉ bFp (aB A b) ∧ ao A ∉ bFp (aB A b) ∧ aoD A ∉ bFp (aB A b) ∧ ∀ j, j < 7 → ar A j ∉ bFp (aB A b)) ∧
  (ax A ≠ am A ∧ ao A ≠ aoD A ∧ ∀ j, j < 7 → ar A j ≠ ao A ∧ ar A j ≠ aoD A) ∧ gis G 10 (ao A) ∧ gn G (ao A) = 1 ∧ gis G 11 (aoD A) ∧ gn G (aoD A) = 1 ∧ (ax A ≠ ao A ∧ ax A ≠ aoD A ∧ am A ≠ ao A ∧ am A ≠ aoD A ∧ ∀ j, j < 7 → ar A j ≠ ax A)
/-- outside some addresses, but for the history -/
def gFh (A : aW) (X : List Nat) (S S' : gS) : Prop := (∀ a, a ∉ X → (∀ f, gI S' f a = gI S f a) ∧ ∀ i, gr S' a i = gr S a i) ∧ (∀ f a, gP S' f a = gP S f a) ∧ ∀ a i, a ≠ ah A → gq S' a i = gq S a i
theorem gFr.h {A : aW} {X : List Nat} {S S' : gS} (h : gFr X S S') : gFh A X S S' := ⟨h.1, h.2.1, fun a i _ => h.2.2 a i⟩
theorem gFh.trans {A : aW} {X : List Nat} {S S1 S2 : gS} (h1 : gFh A X S S1) (h2 : gFh A X S1 S2) : gFh A X S S2 := ⟨fun a ha => ⟨fun f => ((h2.1 a ha).1 f).trans ((h1.1 a ha).1 f), fun i => ((h2.1 a ha).2 i).trans ((h1.1 a ha).2 i)⟩, fun f a => (h2.2.1 f a).trans (h1.2.1 f a), fun a i hn => (h2.2.2 a i hn).trans (h1.2.2 a i hn)⟩
theorem gFh.mono {A : aW} {X Y : List Nat} {S S1 : gS} (h : gFh A X S S1) (hXY : ∀ a ∈ X, a ∈ Y) : gFh A Y S S1 := ⟨fun a ha => h.1 a (fun q => ha (hXY a q)), h.2⟩
theorem gFh.rfl' {A : aW} {X : List Nat} {S : gS} : gFh A X S S := gFr.rfl'.h
theorem uSh.fh {A : aW} {G : gG} {S S' : gS} {X : List Nat} {x : gUA} (h : uSh G S x) (e : gFh A X S S') : uSh G S' x := ⟨h.1, fun j hj => ⟨(e.2.1 _ _).trans (h.2 j hj).1, (h.2 j hj).2⟩⟩
theorem bOk.fh {A : aW} {G : gG} {S S' : gS} {X : List Nat} {x : gBA} (h : bOk G S x) (e : gFh A X S S') (hn : x.2.1 ≠ ah A) : bOk G S' x := ⟨⟨h.1.1, (e.2.1 _ _).trans h.1.2.1, h.1.2.2.1, h.1.2.2.2.1, fun i hi => ⟨(e.2.2 _ _ hn).trans (h.1.2.2.2.2 i hi).1, (h.1.2.2.2.2 i hi).2.fh e⟩⟩, h.2⟩
theorem wSh.fh {G : gG} {S S' : gS} {A : aW} {X : List Nat} (h : wSh G S A) (e : gFh A X S S') : wSh G S' A := by
  obtain ⟨⟨a1, a2, a3, a4, a5, a6, a7, a8, a9⟩, ⟨b1, b2, b3⟩, c, d⟩ := h
  exact ⟨⟨a1, (e.2.1 _ _).trans a2, (e.2.1 _ _).trans a3, (e.2.1 _ _).trans a4, a5, a6, (e.2.1 _ _).trans a7, (e.2.1 _ _).trans a8, a9⟩, ⟨fun b hb => (b1 b hb).fh e (b3 b hb), b2, b3⟩, ⟨c.1, fun j hj => ⟨(e.2.1 _ _).trans (c.2.1 j hj).1, (c.2.1 j hj).2⟩, c.2.2⟩, d⟩
theorem wSh.fr {G : gG} {S S' : gS} {A : aW} {X : List Nat} (h : wSh G S A) (e : gFr X S S') : wSh G S' A := h.fh e.h
theorem uR.fh {A : aW} {S S' : gS} {X : List Nat} {x : gUA} {U : mU} (h : uR S x U) (e : gFh A X S S') (hX : ∀ a ∈ uFp x, a ∉ X) : uR S' x U := by
  have m0 := e.1 _ (hX x.1 List.mem_cons_self)
  have m1 := e.1 _ (hX _ (uFp_r x (show 0 < 4 by decide)))
  have m2 := e.1 _ (hX _ (uFp_r x (show 1 < 4 by decide)))
  have m3 := e.1 _ (hX _ (uFp_r x (show 2 < 4 by decide)))
  have m4 := e.1 _ (hX _ (uFp_r x (show 3 < 4 by decide)))
  exact ⟨fun f hf => (m0.1 _).trans (h.1 f hf), fun k t hk => ⟨(m1.2 k).trans (h.2.1 k t hk).1, (m2.2 k).trans (h.2.1 k t hk).2⟩, fun c hc => ⟨(m3.2 c).trans (h.2.2 c hc).1, (m4.2 c).trans (h.2.2 c hc).2⟩⟩
theorem bR.fh {A : aW} {S S' : gS} {X : List Nat} {x : gBA} {M : mB} (h : bR S x M) (e : gFh A X S S') (hX : ∀ a ∈ bFp x, a ∉ X) : bR S' x M := by
  have m0 := (e.1 _ (hX x.1 List.mem_cons_self)).1
  obtain ⟨⟨h0, h1, h2, h3, h4, h5, h6⟩, hu⟩ := h
  exact ⟨⟨(m0 0).trans h0, (m0 1).trans h1, (m0 2).trans h2, (m0 3).trans h3, (m0 4).trans h4, (m0 5).trans h5, (m0 6).trans h6⟩, fun i hi => (hu i hi).fh e (fun a ha => hX a (uFp_b hi ha))⟩
-- the model of all: the books now, the snapshot, the undo rows; has a snapshot, error, failed; the script, the output
abbrev mX : Type := (mB × mB × List mB) × (Bool × Int32 × Int32) × (List Nat × List Nat)
/-- a builder's room: one of three sizes, and the text fits; two builders there are -/
def tK (T : gT) (a l : Nat) : Prop := gcap T a ∧ ∃ c, tc T a = some c ∧ l ≤ c ∧ T.length = 2
def tP (T : gT) (A : aW) (tx ou : List Nat) : Prop := tg T (at1 A) = some tx ∧ tg T (at2 A) = some ou ∧ tK T (at1 A) tx.length ∧ tK T (at2 A) ou.length
/-- the school but for its books of now -/
def cO (S : gS) (T : gT) (A : aW) (sp : mB) (us : List mB) (has : Bool) (er fa : Int32) (tx ou : List Nat) : Prop :=
  (has = true → bR S (aB A 1) sp) ∧ (gI S 20 (ax A) = nI us.length ∧ gI S 21 (ax A) = gz has ∧ gI S 22 (ax A) = er ∧ gI S 23 (ax A) = fa) ∧
  (∃ p : Nat → Nat, (∀ i, i < 9 → 2 ≤ p i ∧ p i < 11) ∧ (∀ i j, i < 9 → j < 9 → i ≠ j → p i ≠ p j) ∧ (∀ i, i < 9 → gq S (ah A) i = some (aB A (p i)).1) ∧ ∀ (k : Nat) (M : mB), us[k]? = some M → k < 8 ∧ bR S (aB A (p k)) M) ∧
  tP T A tx ou
/-- the reference but for its row of now -/
def mO (S : gS) (A : aW) (sp : mB) (us : List mB) (has : Bool) (er fa : Int32) (tx ou : List Nat) : Prop :=
  (has = true → rowR (gr S (ar A 2)) sp) ∧ (gI S 31 (am A) = nI us.length ∧ gI S 33 (am A) = gz has ∧ gI S 37 (am A) = er ∧ gI S 38 (am A) = fa ∧ gI S 35 (am A) = nI tx.length ∧ gI S 34 (am A) = nI ou.length) ∧
  (∃ fc : Nat, fc < 8 ∧ gI S 32 (am A) = nI fc ∧ ∀ (k : Nat) (M : mB), us[k]? = some M → rowR (fun j => gr S (ar A 1) (176 * ((fc + k) % 8) + j)) M) ∧
  (∀ (k c : Nat), tx[k]? = some c → gr S (ar A 5) k = nI c) ∧ ∀ (k c : Nat), ou[k]? = some c → gr S (ar A 4) k = nI c
/-- well-formed, for a bound -/
def wW (N : Nat) (now sp : mB) (us : List mB) (has : Bool) (er fa : Int32) (tx ou : List Nat) : Prop :=
  bW N now ∧ (has = true → bW N sp) ∧ (us.length ≤ 8 ∧ ∀ M ∈ us, bW N M) ∧ (er = -1 ∨ 0 ≤ er) ∧ (fa = -1 ∨ 0 ≤ fa) ∧ (tx.length ≤ 60 ∧ ∀ c ∈ tx, 32 ≤ c ∧ c ≤ 126) ∧ ou.length ≤ 60 ∧ ∀ c ∈ ou, c < 128
section CS
variable {G : gG} {S : gS} {A : aW} {N : Nat} {M : mB}
theorem cO.fh {S' : gS} {T : gT} {X : List Nat} {sp : mB} {us : List mB} {has : Bool} {er fa : Int32} {tx ou : List Nat} (h : cO S T A sp us has er fa tx ou) (e : gFr X S S') (hx : ax A ∉ X) (hb : ∀ b, 1 ≤ b → b < 11 → ∀ a ∈ bFp (aB A b), a ∉ X) : cO S' T A sp us has er fa tx ou := by
  obtain ⟨h1, ⟨h2, h3, h4, h5⟩, ⟨p, p1, p2, p3, p4⟩, h6⟩ := h
  have m := (e.1 _ hx).1
  exact ⟨fun q => (h1 q).fr e (hb 1 (by decide) (by decide)), ⟨(m 20).trans h2, (m 21).trans h3, (m 22).trans h4, (m 23).trans h5⟩, ⟨p, p1, p2, fun i hi => (e.2.2 _ _).trans (p3 i hi), fun k M hk => ⟨(p4 k M hk).1, (p4 k M hk).2.fr e (hb (p k) (by have := (p1 k (by have := (p4 k M hk).1; omega)).1; omega) (p1 k (by have := (p4 k M hk).1; omega)).2)⟩⟩, h6⟩
theorem mO.ext {S' : gS} {sp : mB} {us : List mB} {has : Bool} {er fa : Int32} {tx ou : List Nat} (h : mO S A sp us has er fa tx ou) (hI : ∀ f, f = 31 ∨ f = 32 ∨ f = 33 ∨ f = 34 ∨ f = 35 ∨ f = 37 ∨ f = 38 → gI S' f (am A) = gI S f (am A)) (hr : ∀ j, j = 1 ∨ j = 2 ∨ j = 4 ∨ j = 5 → gr S' (ar A j) = gr S (ar A j)) : mO S' A sp us has er fa tx ou := by
  unfold mO
  rw [hr 1 (by omega), hr 2 (by omega), hr 4 (by omega), hr 5 (by omega), hI 31 (by omega), hI 32 (by omega), hI 33 (by omega), hI 34 (by omega), hI 35 (by omega), hI 37 (by omega), hI 38 (by omega)]
  exact h
theorem mO.fr {S' : gS} {X : List Nat} {sp : mB} {us : List mB} {has : Bool} {er fa : Int32} {tx ou : List Nat} (h : mO S A sp us has er fa tx ou) (e : gFr X S S') (hm : am A ∉ X) (hr : ∀ j, j < 7 → ar A j ∉ X) : mO S' A sp us has er fa tx ou :=
  h.ext (fun f _ => (e.1 _ hm).1 f) (fun j hj => funext fun i => (e.1 _ (hr j (by omega))).2 i)
-- what is refused, in the class
theorem c_isB (a lo hi : Int32) : f_X5_isBetween a lo hi = some (mBtw a lo hi) := q_isB a lo hi
theorem c_lev (a : Int32) : f_X5_isLevel a = some (mLev a) := by
  unfold f_X5_isLevel
  rw [c_isB, gb_S]
  rfl
theorem c_for (h : wSh G S A) (hR : bR S (aB A 0) M) (a : Int32) (ok : Bool) : f_X5_refusalFor G (ax A) a ok S = some (mFor M a ok) := by
  have hb := h.2.1.1 0 (by decide)
  unfold f_X5_refusalFor
  rw [gd_i h.1.1, h.1.2.1, gb_S, gd_i hb.1.1, hR.1.1, c_isB, gb_S]
  unfold mFor
  show (if gz (mUmb M a) = 0 then _ else _) = _
  cases mUmb M a with
  | false => rfl
  | true => cases ok <;> rfl
theorem c_not (h : wSh G S A) (hR : bR S (aB A 0) M) (hW : bW N M) {k : Nat} (hk : k < 8) (a b c d : Int32) : f_X5_refusalOf G (ax A) k a b c d S = some (mNot M k a b c d) := by
  have hb := h.2.1.1 0 (by decide)
  have h6 := hW.1.2
  have hc : gI S 0 (aB A 0).1 = nI (mc M) := hR.1.1.trans hW.1.1
  unfold f_X5_refusalOf
  rw [gd_i hk, gd_i (vp_nI hk (by decide))]
  have hk' : k = 0 ∨ k = 1 ∨ k = 2 ∨ k = 3 ∨ k = 4 ∨ k = 5 ∨ k = 6 ∨ k = 7 := by omega
  rcases hk' with rfl | rfl | rfl | rfl | rfl | rfl | rfl | rfl
  · rw [if_pos (by decide), c_isB, gb_S]
    show _ = some (if mBtw a 3 20 = true then (if mc M < 6 then 0 else 3) else 2)
    cases mBtw a 3 20 with
    | false => rfl
    | true =>
      rw [if_neg (by decide), gd_i h.1.1, h.1.2.1, gb_S, gd_i hb.1.1, hc, if_pos rfl]
      rw [show (6 : Int32) = nI 6 from rfl]
      by_cases q : mc M < 6
      · rw [if_neg (nI_ge q (by decide)), if_pos q]
      · rw [if_pos (nI_le (show 6 ≤ mc M by omega) (by omega)), if_neg q]
  · rw [if_neg (by decide), if_pos (by decide), c_lev, gb_S]
    show _ = some (mFor M a (mLev b && mLev c && mBtw d 1 9))
    cases mLev b with
    | false => rw [if_pos (show gz false = 0 from rfl), gd_i h.1.1, c_for h hR, gb_S]; rfl
    | true =>
      rw [if_neg (by decide), c_lev, gb_S]
      cases mLev c with
      | false => rw [if_pos (show gz false = 0 from rfl), gd_i h.1.1, c_for h hR, gb_S]; rfl
      | true =>
        rw [if_neg (by decide), c_isB, gb_S]
        cases mBtw d 1 9 with
        | false => rw [if_pos (show gz false = 0 from rfl), gd_i h.1.1, c_for h hR, gb_S]; rfl
        | true => rw [if_neg (by decide), gd_i h.1.1, c_for h hR, gb_S]; rfl
  · rw [if_neg (by decide), if_neg (by decide), if_pos (by decide), c_isB, gb_S, gd_i h.1.1, c_for h hR, gb_S]
    rfl
  · rw [if_neg (by decide), if_neg (by decide), if_neg (by decide), if_pos (by decide), c_isB, gb_S]
    show _ = some (if mBtw a 0 9 = true then 0 else 2)
    cases mBtw a 0 9 <;> rfl
  · rw [if_neg (by decide), if_neg (by decide), if_neg (by decide), if_neg (by decide), if_pos (by decide), c_isB, gb_S]
    show _ = some (if mBtw a 0 9 = true then 0 else 2)
    cases mBtw a 0 9 <;> rfl
  · rw [if_neg (by decide), if_neg (by decide), if_neg (by decide), if_neg (by decide), if_neg (by decide), if_pos (by decide), c_lev, gb_S, gd_i h.1.1, c_for h hR, gb_S]
    rfl
  · rw [if_neg (by decide), if_neg (by decide), if_neg (by decide), if_neg (by decide), if_neg (by decide), if_neg (by decide), if_pos (by decide), c_lev, gb_S, gd_i h.1.1, c_for h hR, gb_S]
    rfl
  · rw [if_neg (by decide), if_neg (by decide), if_neg (by decide), if_neg (by decide), if_neg (by decide), if_neg (by decide), if_neg (by decide), gd_i h.1.1, h.1.2.1, gb_S, gd_i hb.1.1, hc]
    show _ = some (if 0 < mc M then 0 else 3)
    by_cases q : 0 < mc M
    · rw [if_neg (nI_nle q (by omega)), if_pos q]
    · rw [if_pos (by rw [show mc M = 0 by omega]; decide), if_neg q]
theorem c_do (h : wSh G S A) (hR : bR S (aB A 0) M) (hW : bW N M) (hN : N + 640 ≤ 2 ^ 30) {k : Nat} (hk : k < 8) {a b c d : Int32} (h0 : mNot M k a b c d = 0) : wp (f_X5_perform G (ax A) k a b c d S) (fun y => y.1 = (mDo M k a b c d).1 ∧ bR y.2 (aB A 0) (mDo M k a b c d).2 ∧ gFr (bFp (aB A 0)) S y.2) := by
  have hb := h.2.1.1 0 (by decide)
  have h6 := hW.1.2
  have fl : ∀ {β : Type} {y : β} {Q R : β → Prop}, wp (some y) Q → (∀ y, Q y → R y) → wp (some y) R := fun h1 h2 => wp_mono h1 h2
  unfold f_X5_perform
  refine wp_gd hk (wp_gd (vp_nI hk (by decide)) ?_)
  have hk' : k = 0 ∨ k = 1 ∨ k = 2 ∨ k = 3 ∨ k = 4 ∨ k = 5 ∨ k = 6 ∨ k = 7 := by omega
  rcases hk' with rfl | rfl | rfl | rfl | rfl | rfl | rfl | rfl
  · refine wp_t (by decide) (wp_gd h.1.1 (wp_gb h.1.2.1 (wp_gd hb.1.1 ?_)))
    have h0 : (if mBtw a 3 20 = true then (if mc M < 6 then 0 else 3) else 2) = 0 := h0
    have h5 : mc M < 6 := by
      by_cases q : mc M < 6
      · exact q
      · rw [if_neg q] at h0
        revert h0
        cases mBtw a 3 20 <;> intro h0 <;> exact absurd h0 (by decide)
    exact wp_gb2w (c_enrol hb hR hW h5 a) (fun v S1 q => wp_ret q)
  · refine wp_f (by decide) (wp_t (by decide) (wp_gd h.1.1 (wp_gb h.1.2.1 (wp_gb h.1.2.1 (wp_gd hb.1.1 ?_)))))
    obtain ⟨q1, q2⟩ := mFor_0 (show mFor M a (mLev b && mLev c && mBtw d 1 9) = 0 from h0)
    obtain ⟨u, u1, u2, u3⟩ := mUmb_t hW q1
    have q3 := (Bool.and_eq_true _ _).mp q2
    have q4 := (Bool.and_eq_true _ _).mp q3.1
    obtain ⟨rn, r1, r2, r3⟩ := mLev_t q4.1
    obtain ⟨wd, w1, w2, w3⟩ := mLev_t q4.2
    obtain ⟨t, t1, t2, t3⟩ := mBtw_t (n := 9) (by decide) rfl (mBtw_0 (by decide) q3.2)
    refine wp_gbx1 (c_at hb hR hW u2 u1) (wp_gd hb.1.1 (wp_gb2w (c_teach hb hR hW hN r2 w2 t2 u1 r1 w1 t1) (fun v S1 q => wp_ret ?_)))
    show v = (mTrs a.toNatClampNeg b.toNatClampNeg c.toNatClampNeg d.toNatClampNeg 0 M).1 ∧ bR S1 _ (mTrs a.toNatClampNeg b.toNatClampNeg c.toNatClampNeg d.toNatClampNeg 0 M).2 ∧ _
    rw [u3, r3, w3, t3]
    exact q
  · refine wp_f (by decide) (wp_f (by decide) (wp_t (by decide) (wp_gd h.1.1 (wp_gb h.1.2.1 (wp_gd hb.1.1 ?_)))))
    obtain ⟨q1, q2⟩ := mFor_0 (show mFor M a (mBtw b 0 9) = 0 from h0)
    obtain ⟨u, u1, u2, u3⟩ := mUmb_t hW q1
    refine wp_gbx1 (c_at hb hR hW u2 u1) (wp_gd (hb.u (i := u) (by omega)).1.1 (wp_gb2w (c_period hb hR (show u < 6 by omega) b) (fun v S1 q => wp_ret ?_)))
    show v = (M.2 a.toNatClampNeg).1 1 ∧ bR S1 _ (mSet M a.toNatClampNeg (upd (M.2 a.toNatClampNeg).1 1 b, (M.2 a.toNatClampNeg).2)) ∧ _
    rw [u3]
    exact q
  · refine wp_f (by decide) (wp_f (by decide) (wp_f (by decide) (wp_t (by decide) (wp_gd h.1.1 (wp_gb h.1.2.1 (wp_gd hb.1.1 ?_))))))
    exact wp_gb2w (c_wet hb hR a) (fun v S1 q => wp_ret q)
  · refine wp_f (by decide) (wp_f (by decide) (wp_f (by decide) (wp_f (by decide) (wp_t (by decide) (wp_gd h.1.1 (wp_gb h.1.2.1 (wp_gd hb.1.1 ?_)))))))
    exact wp_gb2w (c_gale hb hR a) (fun v S1 q => wp_ret q)
  · refine wp_f (by decide) (wp_f (by decide) (wp_f (by decide) (wp_f (by decide) (wp_f (by decide) (wp_t (by decide) (wp_gd h.1.1 (wp_gb h.1.2.1 (wp_gd hb.1.1 ?_))))))))
    obtain ⟨q1, q2⟩ := mFor_0 (show mFor M a (mLev b) = 0 from h0)
    obtain ⟨u, u1, u2, u3⟩ := mUmb_t hW q1
    obtain ⟨rn, r1, r2, r3⟩ := mLev_t q2
    refine wp_gbx1 (c_at hb hR hW u2 u1) (wp_gd (hb.u (i := u) (by omega)).1.1 (wp_gb2w (c_forgetB hb hR hW r2 u1 r1) (fun v S1 q => wp_ret ?_)))
    show v = nI ((M.2 a.toNatClampNeg).2.length - (mKeep (M.2 a.toNatClampNeg).2 b.toNatClampNeg).length) ∧ bR S1 _ (mSet M a.toNatClampNeg (mForget (M.2 a.toNatClampNeg) b.toNatClampNeg)) ∧ _
    rw [u3, r3]
    exact q
  · refine wp_f (by decide) (wp_f (by decide) (wp_f (by decide) (wp_f (by decide) (wp_f (by decide) (wp_f (by decide) (wp_t (by decide) (wp_gd h.1.1 (wp_gb h.1.2.1 (wp_gb h.1.2.1 (wp_gd hb.1.1 ?_))))))))))
    obtain ⟨q1, q2⟩ := mFor_0 (show mFor M a (mLev b) = 0 from h0)
    obtain ⟨u, u1, u2, u3⟩ := mUmb_t hW q1
    obtain ⟨wd, r1, r2, r3⟩ := mLev_t q2
    refine wp_gbx1 (c_at hb hR hW u2 u1) (wp_gd hb.1.1 (wp_gb2w (c_exam hb hR hW r2 u1 r1) (fun v S1 q => wp_ret ?_)))
    show v = mRA M a.toNatClampNeg b.toNatClampNeg ∧ bR S1 _ (mExam M a.toNatClampNeg b.toNatClampNeg) ∧ _
    rw [u3, r3]
    exact q
  · refine wp_f (by decide) (wp_f (by decide) (wp_f (by decide) (wp_f (by decide) (wp_f (by decide) (wp_f (by decide) (wp_f (by decide) (wp_gd h.1.1 (wp_gb h.1.2.1 (wp_gd hb.1.1 ?_)))))))))
    have h0 : (if 0 < mc M then 0 else 3) = 0 := h0
    have hc : 0 < mc M := by
      by_cases q : 0 < mc M
      · exact q
      · rw [if_neg q] at h0; exact absurd h0 (by decide)
    exact wp_gb2w (c_term hb hR hW hc) (fun v S1 q => wp_ret q)
end CS
