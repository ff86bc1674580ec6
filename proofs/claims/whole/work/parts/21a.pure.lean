/-! the model's steps; the class: what books answer and do -/
-- one trial
def mGo (M : mB) (u rn wd : Nat) : Bool := mHab (M.2 u).2 (4 * rn + wd) != mExp (M.2 u).1
def mG (M : mB) (u rn wd : Nat) : Int32 := mRew M.1 rn wd (mGo M u rn wd)
def mT (M : mB) (u rn wd : Nat) : Nat × Nat := (2 * (4 * rn + wd) + (mGo M u rn wd).toNat, (mG M u rn wd + 64).toNatClampNeg)
def mNum (n : Nat → Int32) (o : Bool) (g : Int32) : Nat → Int32 := fun k => if k = 4 then (if o = true then n 4 + g else n 4) else if k = 5 then (if o = true then n 5 else n 5 + g) else if k = 6 then (if o = true then n 6 + 1 else n 6) else if k = 7 then n 7 + 1 else n k
def mSet (M : mB) (u : Nat) (U : mU) : mB := (M.1, fun j => if j = u then U else M.2 j)
def mTry (M : mB) (u rn wd : Nat) : mB := (mNum M.1 (mGo M u rn wd) (mG M u rn wd), fun j => if j = u then mEnter (mRoom (M.2 u)) (mT M u rn wd) else M.2 j)
def mTrs (u rn wd : Nat) : Nat → Int32 → mB → Int32 × mB
  | 0, s, M => (s, M)
  | d + 1, s, M => mTrs u rn wd d (s + mG M u rn wd) (mTry M u rn wd)
/-- right answers for a wind -/
def mRA (M : mB) (u wd : Nat) : Int32 := dS (fun rn => if mHab (M.2 u).2 (4 * rn + wd) = mPay M.1 rn wd then 1 else 0) 4 4
def mExS (e : Int32) (wd : Nat) (b : Bool) : Int32 := if b = true then e ||| (1 <<< (nI wd &&& 31)) else e &&& ((1 <<< (nI wd &&& 31)) ^^^ (-1))
def mExam (M : mB) (u wd : Nat) : mB := mSet M u (upd (M.2 u).1 7 (mExS ((M.2 u).1 7) wd (decide (3 ≤ mRA M u wd))), (M.2 u).2)
/-- the best of the term -/
def mBest (u : Nat → mU) : Nat → Nat
  | 0 => 0
  | n + 1 => if (u (mBest u n)).1 5 < (u n).1 5 then n else mBest u n
def mZero (M : mB) (k : Nat) : mB := (upd M.1 3 (M.1 3 + 1), fun j => if k ≤ j ∧ j < mc M then (upd (M.2 j).1 5 0, (M.2 j).2) else M.2 j)
def mStar (M : mB) : mB := mSet M (mBest M.2 (mc M)) (upd (M.2 (mBest M.2 (mc M))).1 6 ((M.2 (mBest M.2 (mc M))).1 6 + 1), (M.2 (mBest M.2 (mc M))).2)
def mTerm (M : mB) : mB := mZero (mStar M) 0
def mAdd (M : mB) (cap : Int32) : mB := (upd M.1 0 (M.1 0 + 1), fun j => if j = mc M then (upd (fun _ => 0) 0 cap, []) else M.2 j)
-- ranks
def mRk (U V : mU) : Bool := if U.1 6 = V.1 6 then decide (V.1 4 < U.1 4) else decide (V.1 6 < U.1 6)
def mAh (u : Nat → mU) (i j : Nat) : Bool := mRk (u i) (u j) || (decide (i < j) && !mRk (u j) (u i))
def mPos (M : mB) (j : Nat) : Int32 := dS (fun i => if mAh M.2 i j = true then 1 else 0) (mc M) (mc M)
def mByRank (M : mB) (x : Int32) : Option Nat := dF (fun i => decide (mPos M i = x)) (mc M) (mc M)
def mSum (M : mB) (k : Nat) : Int32 := dS (fun i => (M.2 i).1 k) (mc M) (mc M)
-- situations
def mTi (L : List (Nat × Nat)) (s : Nat) : Nat := ct L (2 * s + 1) + ct L (2 * s)
def mKn (L : List (Nat × Nat)) : Int32 := dS (fun s => if 0 < mTi L s then 1 else 0) 16 16
def mSB (L : List (Nat × Nat)) (s : Nat) : Int32 := dS (fun o => if mTi L s < mTi L o ∨ (mTi L o = mTi L s ∧ o < s) then 1 else 0) 16 16
def mSR (L : List (Nat × Nat)) (x : Int32) : Option Nat := dF (fun s => decide (0 < mTi L s ∧ mSB L s = x)) 16 16
theorem mTi_le {N : Nat} {U : mU} (hU : uW N U) (s : Nat) : mTi U.2 s ≤ 20 := by
  have h1 := ct_le2 U.2 (show 2 * s + 1 ≠ 2 * s by omega)
  have h2 := hU.cap
  unfold mTi
  omega
theorem rew_ok {N : Nat} {M : mB} (hW : bW N M) {rn wd : Nat} (hr : rn < 4) (hw : wd < 4) (o : Bool) : (mRew M.1 rn wd o + 64).toNatClampNeg < 128 ∧ mRew M.1 rn wd o = nI (mRew M.1 rn wd o + 64).toNatClampNeg - 64 ∧ -64 ≤ (mRew M.1 rn wd o).toInt ∧ (mRew M.1 rn wd o).toInt ≤ 64 := by
  obtain ⟨-, ⟨p, hp, ep⟩, ⟨q, hq, eq⟩, -⟩ := hW
  unfold mRew
  rw [ep, eq]
  have k1 : ∀ q, q < 10 → ∀ rn, rn < 4 → ∀ wd, wd < 4 → (4 * nI rn - nI q * nI wd + 64).toNatClampNeg < 128 ∧ 4 * nI rn - nI q * nI wd = nI (4 * nI rn - nI q * nI wd + 64).toNatClampNeg - 64 ∧ -64 ≤ (4 * nI rn - nI q * nI wd).toInt ∧ (4 * nI rn - nI q * nI wd).toInt ≤ 64 := by decide +kernel
  have k0 : ∀ p, p < 10 → ∀ rn, rn < 4 → (-(nI p) * nI rn + 64).toNatClampNeg < 128 ∧ -(nI p) * nI rn = nI (-(nI p) * nI rn + 64).toNatClampNeg - 64 ∧ -64 ≤ (-(nI p) * nI rn).toInt ∧ (-(nI p) * nI rn).toInt ≤ 64 := by decide +kernel
  cases o with
  | true => exact k1 q (by omega) rn hr wd hw
  | false => exact k0 p (by omega) rn hr
theorem room_ok {N : Nat} {U : mU} (hU : uW N U) : (mRoom U).2.length < 20 ∧ (mRoom U).1 3 = nI (mRoom U).2.length ∧ (∀ k, k ≠ 3 → (mRoom U).1 k = U.1 k) ∧ (∀ t ∈ (mRoom U).2, t ∈ U.2) ∧ ∀ cap, U.1 0 = nI cap → cap ≤ 20 → 3 ≤ cap → (mRoom U).2.length + 1 ≤ cap := by
  have h20 := hU.cap
  obtain ⟨cap, h1, h2, h3, h4⟩ := hU.1
  have hc : ∀ cap', U.1 0 = nI cap' → cap' ≤ 20 → cap' = cap := fun cap' e h => by
    rw [h1] at e
    exact ((nI_eq (by omega) (by omega)).mp e).symm
  unfold mRoom
  by_cases c : U.1 0 ≤ nI U.2.length
  · rw [if_pos c]
    rw [h1, nI_leI (by omega) (by omega)] at c
    have hl : U.2.tail.length = U.2.length - 1 := List.length_tail
    refine ⟨by show U.2.tail.length < 20; omega, ?_, fun k hk => upd_ne hk, fun t ht => List.mem_of_mem_tail ht, fun cap' e h _ => ?_⟩
    · rw [show U.2.tail.length = U.2.length - 1 from hl]
      show upd U.1 3 (nI (U.2.length - 1)) 3 = _
      exact upd_at _ _ _
    · have := hc cap' e h
      show U.2.tail.length + 1 ≤ cap'
      omega
  · rw [if_neg c]
    rw [h1, nI_leI (by omega) (by omega)] at c
    refine ⟨by omega, hU.2.2.1, fun _ _ => rfl, fun t ht => ht, fun cap' e h _ => ?_⟩
    have := hc cap' e h
    omega
theorem uW.mono {N N' : Nat} {U : mU} (h : uW N U) (hN : N ≤ N') : uW N' U := by
  obtain ⟨h1, h2, h3, h4, h5, ⟨s, h6, h7⟩, h8, h9⟩ := h
  exact ⟨h1, h2, h3, h4, h5, ⟨s, by omega, h7⟩, by omega, by omega⟩
theorem bW.mono {N N' : Nat} {M : mB} (h : bW N M) (hN : N ≤ N') : bW N' M := ⟨h.1, h.2.1, h.2.2.1, fun i hi => (h.2.2.2.1 i hi).mono hN, h.2.2.2.2⟩
theorem toInt_sum {a b : Int32} {n m : Nat} (ha : -(n : Int) ≤ a.toInt ∧ a.toInt ≤ n) (hb : -(m : Int) ≤ b.toInt ∧ b.toInt ≤ m) (hn : n + m < 2 ^ 31) : (a + b).toInt = a.toInt + b.toInt := by
  rw [Int32.toInt_add]
  exact Int.bmod_eq_of_le (by omega) (by omega)
theorem uW_enter {N : Nat} {U : mU} {t : Nat × Nat} (hU : uW N U) (hN : N ≤ 2 ^ 30) (ht : t.1 < 32 ∧ t.2 < 128) (hg : -64 ≤ (trw t).toInt ∧ (trw t).toInt ≤ 64) : uW (N + 64) (mEnter (mRoom U) t) := by
  obtain ⟨r1, r2, r3, r4, r5⟩ := room_ok hU
  obtain ⟨⟨cap, c1, c2, c3, c4⟩, ⟨per, p1, p2⟩, h3, h4, ⟨e, e1, e2⟩, ⟨s, s1, s2⟩, t1, t2⟩ := hU
  refine ⟨⟨cap, (r3 0 (by decide)).trans c1, c2, c3, ?_⟩, ⟨per, (r3 1 (by decide)).trans p1, p2⟩, ?_, ?_, ⟨e, e1, (r3 7 (by decide)).trans e2⟩, ⟨s, by omega, (r3 6 (by decide)).trans s2⟩, ?_⟩
  · show ((mRoom U).2 ++ [t]).length ≤ cap
    rw [List.length_append]
    exact r5 cap c1 c3 c2
  · show nI ((mRoom U).2.length + 1) = nI ((mRoom U).2 ++ [t]).length
    rw [List.length_append]
    rfl
  · intro t' ht'
    rcases List.mem_append.mp ht' with q | q
    · exact h4 t' (r4 t' q)
    · rw [List.mem_singleton.mp q]; exact ht
  · show -((N + 64 : Nat) : Int) ≤ ((mRoom U).1 4 + trw t).toInt ∧ ((mRoom U).1 4 + trw t).toInt ≤ ((N + 64 : Nat) : Int)
    rw [r3 4 (by decide), toInt_sum (n := N) (m := 64) ⟨t1, t2⟩ hg (by omega)]
    omega
theorem bW_try {N : Nat} {M : mB} {u rn wd : Nat} (hW : bW N M) (hN : N ≤ 2 ^ 30) (hu : u < mc M) (hr : rn < 4) (hw : wd < 4) : bW (N + 64) (mTry M u rn wd) ∧ mc (mTry M u rn wd) = mc M := by
  have hm : mc (mTry M u rn wd) = mc M := rfl
  have hrw := rew_ok hW hr hw (mGo M u rn wd)
  refine ⟨?_, hm⟩
  obtain ⟨h1, h2, h3, h4, h5, h6⟩ := hW
  unfold bW
  rw [hm]
  refine ⟨h1, h2, h3, fun i hi => ?_, fun i hi => ?_, ?_⟩
  · show uW (N + 64) (if i = u then _ else M.2 i)
    by_cases c : i = u
    · rw [if_pos c]
      have ho : (mGo M u rn wd).toNat < 2 := by cases mGo M u rn wd <;> decide
      have e : trw (mT M u rn wd) = mG M u rn wd := hrw.2.1.symm
      refine uW_enter (h4 u hu) hN ⟨?_, hrw.1⟩ (by rw [e]; exact hrw.2.2)
      show 2 * (4 * rn + wd) + (mGo M u rn wd).toNat < 32
      omega
    · rw [if_neg c]
      exact (h4 i hi).mono (by omega)
  · show (if i = u then _ else M.2 i) = mU0
    rw [if_neg (by omega)]
    exact h5 i hi
  · show M.1 7 + 1 = _
    rw [h6]
    have r3 := (room_ok (h4 u hu)).2.2.1 2 (by decide)
    have := dS_upd (f := fun i => (M.2 i).1 2) (g := fun i => ((mTry M u rn wd).2 i).1 2) (v := 1) hu (by
      show ((if u = u then _ else _ : mU)).1 2 = (M.2 u).1 2 + 1
      rw [if_pos rfl]
      show (mRoom (M.2 u)).1 2 + 1 = _
      rw [r3]) (fun k hk => by
      show ((if k = u then _ else M.2 k : mU)).1 2 = (M.2 k).1 2
      rw [if_neg hk]) (mc M) (Nat.le_refl _)
    rw [if_pos (by omega)] at this
    exact this.symm
section CC
variable {G : gG} {S : gS} {x : gBA} {M : mB} {N : Nat}
theorem uR.I {S S' : gS} {x : gUA} {U : mU} {v : Int32} (k : Nat) (h : uR S x U) (e : S' = sI S (10 + k) x.1 v) : uR S' x (upd U.1 k v, U.2) := by
  have v1 := (h.V).I k e
  refine uR.of v1 (fun f hf => ?_) h.2.1 h.2.2
  by_cases c : f = k
  · subst c; rw [upd_at]; exact (upd_at _ _ _).symm
  · rw [upd_ne c, h.1 f hf]; exact (upd_ne c).symm
theorem bR.set {S' : gS} {u : Nat} {U : mU} (hR : bR S x M) (hO : bOk G S x) (hu : u < 6) (hU : uR S' (x.2.2 u) U) (f : gFr (uFp (x.2.2 u)) S S') : bR S' x (mSet M u U) := by
  obtain ⟨⟨h0, h1, h2, h3, h4, h5, h6⟩, hu'⟩ := hR
  have m := (f.1 x.1 (hO.parts.1 u hu)).1
  refine ⟨⟨(m 0).trans h0, (m 1).trans h1, (m 2).trans h2, (m 3).trans h3, (m 4).trans h4, (m 5).trans h5, (m 6).trans h6⟩, fun i hi => ?_⟩
  show uR S' (x.2.2 i) (if i = u then U else M.2 i)
  by_cases c : i = u
  · subst c; rw [if_pos rfl]; exact hU
  · rw [if_neg c]
    exact (hu' i hi).fr f (hO.parts.2.2 i u hi hu c)
theorem c_rew (h : bOk G S x) (hR : bR S x M) {rn wd : Nat} {a b : Int32} (ha : a = nI rn) (hb : b = nI wd) (o : Bool) : f_X1_rewardFor G x.1 a b o S = some (mRew M.1 rn wd o) := by
  subst ha hb
  unfold f_X1_rewardFor mRew
  cases o with
  | false => rw [if_pos (show gz false = 0 from rfl), if_neg (by decide), gd_i h.1.1, hR.1.2.1]
  | true => rw [if_neg (by decide), if_pos rfl, gd_i h.1.1, hR.1.2.2.1]
theorem c_pay (h : bOk G S x) (hR : bR S x M) {rn wd : Nat} {a b : Int32} (ha : a = nI rn) (hb : b = nI wd) : f_X1_openingPays G x.1 a b S = some (mPay M.1 rn wd) := by
  unfold f_X1_openingPays mPay
  rw [gd_i h.1.1, c_rew h hR ha hb, c_rew h hR ha hb, gb_S, gb_S]
  by_cases c : mRew M.1 rn wd true ≤ mRew M.1 rn wd false
  · rw [if_pos c, decide_eq_false (Int32.not_lt.mpr c)]
  · rw [if_neg c, decide_eq_true (Int32.not_le.mp c)]
/-- a trial entered, then what follows -/
theorem c_three {β : Type} {u rn wd : Nat} {k : gS → Option β} {Q : β → Prop} (h : bOk G S x) (hR : bR S x M) (hW : bW N M) (hu : u < mc M) (hr : rn < 4) (hw : wd < 4) {o : Bool} (ho : mGo M u rn wd = o) {s : Int32} (hs : s = nI (4 * rn + wd))
    (hk : ∀ S', bR S' x (mTry M u rn wd) → gFr (bFp x) S S' → wp (k S') Q) : wp (gb (f_X4_makeRoom G (x.2.2 u).1 S) fun S1 => gb (f_X5_caseInSituation s o) fun c => gb (f_X4_enterTrial G (x.2.2 u).1 c (mRew M.1 rn wd o) S1) fun S2 => gb (f_X1_enterReward G x.1 o (mRew M.1 rn wd o) S2) fun S3 => k S3) Q := by
  have hu6 : u < 6 := by have := hW.1.2; omega
  have hU := hW.2.2.2.1 u hu
  have hrw := rew_ok hW hr hw o
  have hm : mG M u rn wd = mRew M.1 rn wd o := by unfold mG; rw [ho]
  have hT : mT M u rn wd = (2 * (4 * rn + wd) + o.toNat, (mRew M.1 rn wd o + 64).toNatClampNeg) := by unfold mT; rw [hm, ho]
  have hO : o.toNat < 2 := by cases o <;> decide
  refine wp_gbw (c_room (h.u hu6) (hR.2 u hu6) hU) ?_
  rintro S1 ⟨r1, f1⟩
  have o1 := h.fr f1
  rw [hs]
  refine wp_gb (c_case (4 * rn + wd) o) ?_
  refine wp_gbw (c_enter (t := mT M u rn wd) (o1.u hu6) r1 (room_ok hU).1 (room_ok hU).2.1 (by rw [hT]) (by rw [hT]; exact hrw.2.1) (by rw [hT]; show 2 * (4 * rn + wd) + o.toNat < 32; omega)) ?_
  rintro S2 ⟨r2, f2⟩
  have f12 := f1.trans f2
  have b2 := bR.set hR h hu6 r2 f12
  have fb : gFr (bFp x) S S2 := f12.mono (fun a ha => uFp_b hu6 ha)
  have o2 := h.fr fb
  have e4 : gI S2 4 x.1 = M.1 6 := b2.1.2.2.2.2.1
  have e5 : gI S2 5 x.1 = M.1 4 := b2.1.2.2.2.2.2.1
  have e6 : gI S2 6 x.1 = M.1 5 := b2.1.2.2.2.2.2.2
  have hd : ∀ S3, gFr [x.1] S2 S3 → ∀ i, i < 6 → uR S3 (x.2.2 i) ((mTry M u rn wd).2 i) := fun S3 f i hi => (b2.2 i hi).fr f (fun a ha q => h.parts.1 i hi (by rw [List.mem_singleton.mp q] at ha; exact ha))
  have fx : ∀ S3, gFr [x.1] S2 S3 → gFr (bFp x) S S3 := fun S3 f => fb.trans (f.mono (fun a ha => by rw [List.mem_singleton.mp ha]; exact bFp_0 x))
  cases o with
  | false =>
    refine wp_gbw (R := fun S3 => S3 = sI S2 6 x.1 (gI S2 6 x.1 + mRew M.1 rn wd false)) ?_ ?_
    · unfold f_X1_enterReward
      exact wp_t (show gz false = 0 from rfl) (wp_gd o2.1.1 (wp_glt fun S3 e3 => wp_ret e3))
    · intro S3 e3
      have f3 := (gFr.rfl' (S := S2)).I' e3 (List.mem_cons_self (a := x.1) (l := []))
      refine hk S3 ⟨?_, hd S3 f3⟩ (fx S3 f3)
      have g : mTry M u rn wd = (mNum M.1 false (mRew M.1 rn wd false), (mTry M u rn wd).2) := by unfold mTry; rw [ho, hm]
      obtain ⟨⟨b0, b1, b2', b3, -⟩, -⟩ := b2
      rw [g, e3]
      exact ⟨b0, b1, b2', b3, e4, e5, by show (if 6 = 6 ∧ x.1 = x.1 then _ else _) = _; rw [if_pos ⟨rfl, rfl⟩, e6]; rfl⟩
  | true =>
    refine wp_gbw (R := fun S3 => ∃ S4, S4 = sI S2 4 x.1 (gI S2 4 x.1 + 1) ∧ S3 = sI S4 5 x.1 (gI S4 5 x.1 + mRew M.1 rn wd true)) ?_ ?_
    · unfold f_X1_enterReward
      exact wp_f (show ¬ gz true = 0 by decide) (wp_gd o2.1.1 (wp_glt fun S4 e4' => wp_glt fun S3 e3 => wp_ret ⟨S4, e4', e3⟩))
    · rintro S3 ⟨S4, e4', e3⟩
      have f3 := ((gFr.rfl' (S := S2)).I' e4' (List.mem_cons_self (a := x.1) (l := []))).I' e3 List.mem_cons_self
      refine hk S3 ⟨?_, hd S3 f3⟩ (fx S3 f3)
      have g : mTry M u rn wd = (mNum M.1 true (mRew M.1 rn wd true), (mTry M u rn wd).2) := by unfold mTry; rw [ho, hm]
      obtain ⟨⟨b0, b1, b2', b3, -⟩, -⟩ := b2
      rw [g, e3, e4']
      refine ⟨b0, b1, b2', b3, ?_, ?_, e6⟩
      · rw [gI_sI, if_neg (fun q => absurd q.1 (by decide)), gI_sI, if_pos ⟨rfl, rfl⟩, e4]
        rfl
      · rw [gI_sI, if_pos ⟨rfl, rfl⟩, gI_sI, if_neg (fun q => absurd q.1 (by decide)), e5]
        rfl
theorem c_teach_L {u rn wd : Nat} (hr : rn < 4) (hw : wd < 4) : ∀ (n d k N : Nat) (s : Int32) (M : mB) (S : gS), d < n → k + d ≤ 1000 → N + 64 * d ≤ 2 ^ 30 → bOk G S x → bR S x M → bW N M → u < mc M → wp (f_X1_teach_L13 G x.1 (x.2.2 u).1 (nI rn) (nI wd) (nI (k + d)) n (nI (4 * rn + wd)) s (nI k) S) (fun y => y.1 = (mTrs u rn wd d s M).1 ∧ bR y.2 x (mTrs u rn wd d s M).2 ∧ gFr (bFp x) S y.2) := by
  intro n
  induction n with
  | zero => intro d k N s M S hd; omega
  | succ n ih =>
    intro d k N s M S hd hk hN h hR hW hu
    have hu6 : u < 6 := by have := hW.1.2; omega
    rw [f_X1_teach_L13]
    cases d with
    | zero => exact wp_t (nI_le (by omega) (by omega)) (wp_ret ⟨rfl, hR, gFr.rfl'⟩)
    | succ d =>
      refine wp_f (nI_ge (by omega) (by omega)) (wp_gd (h.u hu6).1.1 ?_)
      refine wp_gb (c_opens (h.u hu6) (hR.2 u hu6) (hW.2.2.2.1 u hu) rfl (by omega)) (wp_gb (c_expl (h.u hu6) (hR.2 u hu6)) ?_)
      have next : ∀ (o : Bool) (s' : Int32), mGo M u rn wd = o → s' = s + mRew M.1 rn wd o → ∀ S', bR S' x (mTry M u rn wd) → gFr (bFp x) S S' → wp (glt (nI k + 1) fun (x7 : Int32) => f_X1_teach_L13 G x.1 (x.2.2 u).1 (nI rn) (nI wd) (nI (k + (d + 1))) n (nI (4 * rn + wd)) s' x7 S') (fun y => y.1 = (mTrs u rn wd (d + 1) s M).1 ∧ bR y.2 x (mTrs u rn wd (d + 1) s M).2 ∧ gFr (bFp x) S y.2) := by
        intro o s' ho es S' hR' hf
        refine wp_glt (fun z e => ?_)
        rw [nI_1] at e
        subst e
        obtain ⟨w1, w2⟩ := bW_try hW (by omega) hu hr hw
        have em : mG M u rn wd = mRew M.1 rn wd o := by unfold mG; rw [ho]
        have := ih d (k + 1) (N + 64) (s + mG M u rn wd) (mTry M u rn wd) S' (by omega) (by omega) (by omega) (h.fr hf) hR' w1 (by rw [w2]; exact hu)
        rw [show k + (d + 1) = k + 1 + d by omega, es, ← em]
        exact wp_mono this (fun y hy => ⟨hy.1, hy.2.1, hf.trans hy.2.2⟩)
      by_cases c : mHab (M.2 u).2 (4 * rn + wd) = mExp (M.2 u).1
      · refine wp_t (congrArg gz c) (wp_gd h.1.1 (wp_gb (c_rew h hR rfl rfl false) ?_))
        have ho : mGo M u rn wd = false := by unfold mGo; rw [c]; cases mExp (M.2 u).1 <;> rfl
        exact c_three h hR hW hu hr hw ho rfl (fun S' a b => wp_glt (fun z e => next false z ho e S' a b))
      · refine wp_f (fun q => c ((gz_inj _ _) ▸ q)) (wp_gd h.1.1 (wp_gb (c_rew h hR rfl rfl true) ?_))
        have ho : mGo M u rn wd = true := by
          unfold mGo
          revert c
          cases mHab (M.2 u).2 (4 * rn + wd) <;> cases mExp (M.2 u).1 <;> decide
        exact c_three h hR hW hu hr hw ho rfl (fun S' a b => wp_glt (fun z e => next true z ho e S' a b))
theorem c_teach (h : bOk G S x) (hR : bR S x M) (hW : bW N M) (hN : N + 640 ≤ 2 ^ 30) {u rn wd t : Nat} {a b c : Int32} (ha : a = nI rn) (hb : b = nI wd) (hc : c = nI t) (hu : u < mc M) (hr : rn < 4) (hw : wd < 4) (ht : t ≤ 9) : wp (f_X1_teach G x.1 (x.2.2 u).1 a b c S) (fun y => y.1 = (mTrs u rn wd t 0 M).1 ∧ bR y.2 x (mTrs u rn wd t 0 M).2 ∧ gFr (bFp x) S y.2) := by
  subst ha hb hc
  unfold f_X1_teach f_X5_situationOf
  refine wp_gb rfl ?_
  have := c_teach_L (G := G) (x := x) (u := u) hr hw gN t 0 N 0 M S (by rw [gN_e]; omega) (by omega) (by omega) h hR hW hu
  rw [Nat.zero_add] at this
  rw [show (4 : Int32) = nI 4 from rfl, nI_mul, nI_add, Nat.mul_comm]
  exact this
theorem c_right_L {u wd : Nat} (h : bOk G S x) (hR : bR S x M) (hW : bW N M) (hu : u < mc M) (hw : wd < 4) : ∀ (n k : Nat) (s : Int32), k ≤ 4 → 4 - k < n → f_X1_rightAnswers_L5 G x.1 (x.2.2 u).1 (nI wd) S n s (nI k) = some (s + dS (fun rn => if mHab (M.2 u).2 (4 * rn + wd) = mPay M.1 rn wd then 1 else 0) 4 (4 - k)) := by
  have hu6 : u < 6 := by have := hW.1.2; omega
  intro n
  induction n with
  | zero => intro k s _ hn; omega
  | succ n ih =>
    intro k s hk hn
    rw [f_X1_rightAnswers_L5, show (4 : Int32) = nI 4 from rfl]
    by_cases c : 4 ≤ k
    · rw [if_pos (nI_le c (by omega)), dS_end _ c, Int32.add_zero]
    · rw [if_neg (nI_ge (by omega) (by decide))]
      unfold f_X5_situationOf
      rw [gb_S, gd_i (h.u hu6).1.1, show (4 : Int32) = nI 4 from rfl, nI_mul, nI_add, Nat.mul_comm, c_opens (h.u hu6) (hR.2 u hu6) (hW.2.2.2.1 u hu) rfl (by omega), gb_S, gd_i h.1.1, c_pay h hR rfl rfl, gb_S, dS_at _ (show k < 4 by omega)]
      by_cases c2 : mHab (M.2 u).2 (4 * k + wd) = mPay M.1 k wd
      · rw [if_pos (congrArg gz c2), if_pos c2, glt_S, glt_S, nI_1, ih (k + 1) _ (by omega) (by omega), Int32.add_assoc]
      · rw [if_neg (fun q => c2 ((gz_inj _ _) ▸ q)), if_neg c2, glt_S, nI_1, ih (k + 1) _ (by omega) (by omega), Int32.zero_add]
theorem c_right {u wd : Nat} {a : Int32} (h : bOk G S x) (hR : bR S x M) (hW : bW N M) (ha : a = nI wd) (hu : u < mc M) (hw : wd < 4) : f_X1_rightAnswers G x.1 (x.2.2 u).1 a S = some (mRA M u wd) := by
  subst ha
  have := c_right_L h hR hW hu hw gN 0 0 (by omega) (by rw [gN_e]; omega)
  rw [Int32.zero_add] at this
  exact this
theorem c_exam {u wd : Nat} {a : Int32} (h : bOk G S x) (hR : bR S x M) (hW : bW N M) (ha : a = nI wd) (hu : u < mc M) (hw : wd < 4) : wp (f_X1_holdExam G x.1 (x.2.2 u).1 a S) (fun y => y.1 = mRA M u wd ∧ bR y.2 x (mExam M u wd) ∧ gFr (bFp x) S y.2) := by
  have hu6 : u < 6 := by have := hW.1.2; omega
  have e7 : gI S 17 (x.2.2 u).1 = (M.2 u).1 7 := (hR.2 u hu6).1 7 (by decide)
  unfold f_X1_holdExam
  refine wp_gd h.1.1 (wp_gb (c_right h hR hW ha hu hw) ?_)
  subst ha
  have fin : ∀ (b : Bool) (S1 : gS), b = decide (3 ≤ mRA M u wd) → S1 = sI S 17 (x.2.2 u).1 (mExS ((M.2 u).1 7) wd b) → bR S1 x (mExam M u wd) ∧ gFr (bFp x) S S1 := by
    intro b S1 hb e
    have f1 := (gFr.rfl' (S := S)).I' e (uFp_0 (x.2.2 u))
    refine ⟨?_, f1.mono (fun a ha => uFp_b hu6 ha)⟩
    rw [hb] at e
    exact bR.set hR h hu6 ((hR.2 u hu6).I 7 e) f1
  by_cases c : mRA M u wd < 3
  · refine wp_t c (wp_gd (h.u hu6).1.1 ?_)
    refine wp_gbw (R := fun S1 => S1 = sI S 17 (x.2.2 u).1 (mExS ((M.2 u).1 7) wd false)) ?_ (fun S1 e => wp_ret ⟨rfl, fin false S1 (decide_eq_false (Int32.not_le.mpr c)).symm e⟩)
    unfold f_X4_noteExam
    refine wp_glt (fun z ez => wp_t rfl (wp_gd (h.u hu6).1.1 (wp_glt (fun S1 e => wp_ret ?_))))
    rw [e, ez, e7]
    rfl
  · refine wp_f c (wp_gd (h.u hu6).1.1 ?_)
    refine wp_gbw (R := fun S1 => S1 = sI S 17 (x.2.2 u).1 (mExS ((M.2 u).1 7) wd true)) ?_ (fun S1 e => wp_ret ⟨rfl, fin true S1 (decide_eq_true (Int32.not_lt.mp c)).symm e⟩)
    unfold f_X4_noteExam
    refine wp_glt (fun z ez => wp_f (by decide) (wp_gd (h.u hu6).1.1 (wp_glt (fun S1 e => wp_ret ?_))))
    rw [e, ez, e7]
    rfl
end CC
