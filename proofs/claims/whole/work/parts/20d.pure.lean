/-! the pure side: numbers, evaluation, the model -/
theorem nI_mul (a b : Nat) : nI a * nI b = nI (a * b) := (Int32.ofNat_mul a b).symm
theorem nI_sub {a b : Nat} (h : b ≤ a) : nI a - nI b = nI (a - b) := (Int32.ofNat_sub a b h).symm
theorem nI_div {a b : Nat} (ha : a < 2 ^ 31) (hb : b < 2 ^ 31) : nI a / nI b = nI (a / b) := (Int32.ofNat_div ha hb).symm
theorem nI_rem {a b : Nat} (ha : a < 2 ^ 31) (hb : b < 2 ^ 31) : nI a - nI a / nI b * nI b = nI (a % b) := by
  rw [nI_div ha hb, nI_mul, nI_sub (Nat.div_mul_le_self a b)]
  congr 1
  have := Nat.div_add_mod a b
  rw [Nat.mul_comm] at this
  omega
theorem nI_ofc {x : Int32} (h : 0 ≤ x) : x = nI x.toNatClampNeg := (Int32.ofNat_toNatClampNeg x h).symm
/-- an index is within a range, or it isn't -/
theorem i_cases (x : Int32) {n : Nat} (hn : n < 2 ^ 31) : (∃ j : Nat, j < n ∧ x = nI j) ∨ (x < 0 ∨ nI n ≤ x) := by
  by_cases h : x < 0
  · exact Or.inr (Or.inl h)
  · obtain ⟨j, hj, rfl⟩ := nI_of h
    by_cases h2 : j < n
    · exact Or.inl ⟨j, h2, rfl⟩
    · exact Or.inr (Or.inr (nI_le (by omega) hj))
theorem gb_S {α β : Type} (a : α) (k : α → Option β) : gb (some a) k = k a := rfl
theorem gb2_S {α β γ : Type} (a : α) (b : β) (k : α → β → Option γ) : gb2 (some (a, b)) k = k a b := rfl
theorem glt_S {α β : Type} (x : α) (k : α → Option β) : glt x k = k x := rfl
theorem gbx1_R {α γ : Type} (a : α) (kx : String → Option γ) (k : α → Option γ) : gbx1 (some (.inr a)) kx k = k a := rfl
theorem gbx1_L {α γ : Type} (E : String) (kx : String → Option γ) (k : α → Option γ) : gbx1 (some (.inl E)) kx k = kx E := rfl
theorem gbx2_R {α σ γ : Type} (a : α) (s : σ) (kx : String → σ → Option γ) (k : α → σ → Option γ) : gbx2 (some (.inr a, s)) kx k = k a s := rfl
theorem gbx2_L {α σ γ : Type} (E : String) (s : σ) (kx : String → σ → Option γ) (k : α → σ → Option γ) : gbx2 (some (.inl E, s)) kx k = kx E s := rfl
theorem gz_0 (b : Bool) : (gz b = 0) = (b = false) := by cases b <;> decide
theorem gz_inj (a b : Bool) : (gz a = gz b) = (a = b) := by cases a <;> cases b <;> decide
theorem gz_t : gz true = 1 := rfl
theorem gz_f : gz false = 0 := rfl
theorem gN_e : gN = 4095 + 1 := rfl
theorem vp_nI {n N : Nat} (h : n < N) (hN : N < 2 ^ 31) : vp_in (nI n) N := vp_in_nI h hN
-- writing in rows
theorem sr_at (S : gS) (a i : Nat) (v : Int32) : sr S a i v = srow S a (upd (gr S a) i v) := sr_srow S a i v
theorem srow_eta (S : gS) (a : Nat) : srow S a (gr S a) = S := by
  have h : (fun a' i' => if a' = a then gr S a i' else S.2.2.1 a' i') = S.2.2.1 := by
    funext a' i'
    by_cases z : a' = a
    · subst z; rw [if_pos rfl]; rfl
    · rw [if_neg z]
  show (S.1, S.2.1, _, S.2.2.2) = S
  rw [h]
theorem gr_same (S : gS) (a : Nat) (f : Nat → Int32) : gr (srow S a f) a = f := by
  funext i
  rw [gr_srow, if_pos rfl]
theorem gr_other {S : gS} {a b : Nat} (f : Nat → Int32) (h : b ≠ a) : gr (srow S a f) b = gr S b := by
  funext i
  rw [gr_srow, if_neg h]
theorem gr_sr_ne {S : gS} {a a' i j : Nat} {v : Int32} (h : a' ≠ a) : gr (sr S a i v) a' j = gr S a' j := by rw [gr_sr, if_neg (fun q => h q.1)]
theorem gr_sr_at {S : gS} {a i j : Nat} {v : Int32} : gr (sr S a i v) a j = if j = i then v else gr S a j := by
  rw [gr_sr]
  by_cases c : j = i
  · rw [if_pos ⟨rfl, c⟩, if_pos c]
  · rw [if_neg (fun q => c q.2), if_neg c]
theorem upd_at (f : Nat → Int32) (k : Nat) (x : Int32) : upd f k x k = x := if_pos rfl
theorem upd_ne {f : Nat → Int32} {k j : Nat} {x : Int32} (h : j ≠ k) : upd f k x j = f j := if_neg h
-- trials: a case's number, a reward and 64
def cq (c : Nat) : Nat := c / 8 + 4 * (c / 2 % 4) + 16 * (c % 2)
def tcd (t : Nat × Nat) : Int32 := nI (cq t.1 + 32 * t.2)
def trw (t : Nat × Nat) : Int32 := nI t.2 - 64
def ct : List (Nat × Nat) → Nat → Nat
  | [], _ => 0
  | t :: L, c => (if t.1 = c then 1 else 0) + ct L c
def sm : List (Nat × Nat) → Nat → Int32
  | [], _ => 0
  | t :: L, c => (if t.1 = c then trw t else 0) + sm L c
theorem ct_nil (c : Nat) : ct [] c = 0 := rfl
theorem sm_nil (c : Nat) : sm [] c = 0 := rfl
theorem ct_cons (t : Nat × Nat) (L : List (Nat × Nat)) (c : Nat) : ct (t :: L) c = (if t.1 = c then 1 else 0) + ct L c := rfl
theorem sm_cons (t : Nat × Nat) (L : List (Nat × Nat)) (c : Nat) : sm (t :: L) c = (if t.1 = c then trw t else 0) + sm L c := rfl
theorem ct_app (L M : List (Nat × Nat)) (c : Nat) : ct (L ++ M) c = ct L c + ct M c := by
  induction L with
  | nil => rw [List.nil_append, ct_nil, Nat.zero_add]
  | cons t L ih => rw [List.cons_append, ct_cons, ct_cons, ih, Nat.add_assoc]
theorem sm_app (L M : List (Nat × Nat)) (c : Nat) : sm (L ++ M) c = sm L c + sm M c := by
  induction L with
  | nil => rw [List.nil_append, sm_nil, Int32.zero_add]
  | cons t L ih => rw [List.cons_append, sm_cons, sm_cons, ih, Int32.add_assoc]
theorem ct_le (L : List (Nat × Nat)) (c : Nat) : ct L c ≤ L.length := by
  induction L with
  | nil => exact Nat.le_refl 0
  | cons t L ih =>
    rw [ct_cons, List.length_cons]
    split <;> omega
theorem ct_le2 (L : List (Nat × Nat)) {c d : Nat} (h : c ≠ d) : ct L c + ct L d ≤ L.length := by
  induction L with
  | nil => exact Nat.le_refl 0
  | cons t L ih =>
    rw [ct_cons, ct_cons, List.length_cons]
    by_cases h1 : t.1 = c
    · have h2 : ¬ t.1 = d := fun q => h (h1.symm.trans q)
      rw [if_pos h1, if_neg h2]; omega
    · rw [if_neg h1]
      split <;> omega
/-- a sum from n - d up to n -/
def dS (f : Nat → Int32) (n : Nat) : Nat → Int32
  | 0 => 0
  | d + 1 => f (n - (d + 1)) + dS f n d
/-- the first that fits, from n - d up to n -/
def dF (p : Nat → Bool) (n : Nat) : Nat → Option Nat
  | 0 => none
  | d + 1 => if p (n - (d + 1)) = true then some (n - (d + 1)) else dF p n d
theorem dS_at (f : Nat → Int32) {n k : Nat} (h : k < n) : dS f n (n - k) = f k + dS f n (n - (k + 1)) := by
  obtain ⟨d, hd⟩ : ∃ d, n - k = d + 1 := ⟨n - k - 1, by omega⟩
  rw [hd, show n - (k + 1) = d by omega]
  show f (n - (d + 1)) + _ = _
  rw [show n - (d + 1) = k by omega]
theorem dS_end (f : Nat → Int32) {n k : Nat} (h : n ≤ k) : dS f n (n - k) = 0 := by
  rw [show n - k = 0 by omega]
  rfl
theorem dF_at (p : Nat → Bool) {n k : Nat} (h : k < n) : dF p n (n - k) = if p k = true then some k else dF p n (n - (k + 1)) := by
  obtain ⟨d, hd⟩ : ∃ d, n - k = d + 1 := ⟨n - k - 1, by omega⟩
  rw [hd, show n - (k + 1) = d by omega]
  show (if p (n - (d + 1)) = true then some (n - (d + 1)) else _) = _
  rw [show n - (d + 1) = k by omega]
theorem dF_end (p : Nat → Bool) {n k : Nat} (h : n ≤ k) : dF p n (n - k) = none := by
  rw [show n - k = 0 by omega]
  rfl
theorem dS_cong {f g : Nat → Int32} {n : Nat} : ∀ d, d ≤ n → (∀ k, k < n → f k = g k) → dS f n d = dS g n d := by
  intro d
  induction d with
  | zero => intro _ _; rfl
  | succ d ih =>
    intro hd h
    show f (n - (d + 1)) + dS f n d = g (n - (d + 1)) + dS g n d
    rw [ih (by omega) h, h _ (by omega)]
theorem dF_cong {p q : Nat → Bool} {n : Nat} : ∀ d, d ≤ n → (∀ k, k < n → p k = q k) → dF p n d = dF q n d := by
  intro d
  induction d with
  | zero => intro _ _; rfl
  | succ d ih =>
    intro hd h
    show (if p (n - (d + 1)) = true then _ else dF p n d) = (if q (n - (d + 1)) = true then _ else dF q n d)
    rw [ih (by omega) h, h _ (by omega)]
theorem dS_upd {f g : Nat → Int32} {n u : Nat} {v : Int32} (hu : u < n) (h1 : g u = f u + v) (h2 : ∀ k, k ≠ u → g k = f k) : ∀ d, d ≤ n → dS g n d = if n - d ≤ u then dS f n d + v else dS f n d := by
  intro d
  induction d with
  | zero => intro _; rw [if_neg (by omega)]; rfl
  | succ d ih =>
    intro hd
    show g (n - (d + 1)) + dS g n d = if n - (d + 1) ≤ u then (f (n - (d + 1)) + dS f n d) + v else f (n - (d + 1)) + dS f n d
    rw [ih (by omega)]
    by_cases c : n - (d + 1) = u
    · rw [if_neg (show ¬ n - d ≤ u by omega), if_pos (show n - (d + 1) ≤ u by omega), c, h1, Int32.add_assoc, Int32.add_comm v, Int32.add_assoc]
    · rw [h2 _ c]
      by_cases c2 : n - d ≤ u
      · rw [if_pos c2, if_pos (show n - (d + 1) ≤ u by omega), Int32.add_assoc]
      · rw [if_neg c2, if_neg (show ¬ n - (d + 1) ≤ u by omega)]
theorem dS_succ (f : Nat → Int32) (n : Nat) : ∀ d, d ≤ n → dS f (n + 1) (d + 1) = dS f n d + f n := by
  intro d
  induction d with
  | zero =>
    intro _
    show f (n + 1 - (0 + 1)) + 0 = 0 + f n
    rw [Int32.add_zero, Int32.zero_add]
    rfl
  | succ d ih =>
    intro hd
    show f (n + 1 - (d + 1 + 1)) + dS f (n + 1) (d + 1) = f (n - (d + 1)) + dS f n d + f n
    rw [ih (by omega), show n + 1 - (d + 1 + 1) = n - (d + 1) by omega, Int32.add_assoc]
/-- an umbrella: its scalars, its trials; a book: its numbers, its umbrellas -/
abbrev mU : Type := (Nat → Int32) × List (Nat × Nat)
abbrev mB : Type := (Nat → Int32) × (Nat → mU)
def mU0 : mU := (fun _ => 0, [])
def mc (M : mB) : Nat := (M.1 0).toNatClampNeg
def uW (N : Nat) (U : mU) : Prop := (∃ cap : Nat, U.1 0 = nI cap ∧ 3 ≤ cap ∧ cap ≤ 20 ∧ U.2.length ≤ cap) ∧ (∃ per : Nat, U.1 1 = nI per ∧ per ≤ 9) ∧ U.1 3 = nI U.2.length ∧ (∀ t ∈ U.2, t.1 < 32 ∧ t.2 < 128) ∧ (∃ e : Nat, e < 16 ∧ U.1 7 = nI e) ∧ (∃ s : Nat, s ≤ N ∧ U.1 6 = nI s) ∧ -(N : Int) ≤ (U.1 4).toInt ∧ (U.1 4).toInt ≤ N
def bW (N : Nat) (M : mB) : Prop := (M.1 0 = nI (mc M) ∧ mc M ≤ 6) ∧ (∃ p : Nat, p ≤ 9 ∧ M.1 1 = nI p) ∧ (∃ p : Nat, p ≤ 9 ∧ M.1 2 = nI p) ∧ (∀ i, i < mc M → uW N (M.2 i)) ∧ (∀ i, mc M ≤ i → M.2 i = mU0) ∧ M.1 7 = dS (fun i => (M.2 i).1 2) (mc M) (mc M)
-- the reference's row
def rowU (w : Nat → Int32) (i : Nat) (U : mU) : Prop := (∀ k, k < 8 → w (8 + 28 * i + k) = U.1 k) ∧ ∀ (k : Nat) (t : Nat × Nat), U.2[k]? = some t → w (16 + 28 * i + k) = tcd t
def rowR (w : Nat → Int32) (M : mB) : Prop := (∀ k, k < 8 → w k = M.1 k) ∧ ∀ i, i < mc M → rowU w i (M.2 i)
-- the class's objects
def uR (S : gS) (x : gUA) (U : mU) : Prop := (∀ f, f < 8 → gI S (10 + f) x.1 = U.1 f) ∧ (∀ (k : Nat) (t : Nat × Nat), U.2[k]? = some t → gr S (x.2 0) k = nI t.1 ∧ gr S (x.2 1) k = trw t) ∧ ∀ c, c < 32 → gr S (x.2 2) c = nI (ct U.2 c) ∧ gr S (x.2 3) c = sm U.2 c
def bR (S : gS) (x : gBA) (M : mB) : Prop := (gI S 0 x.1 = M.1 0 ∧ gI S 1 x.1 = M.1 1 ∧ gI S 2 x.1 = M.1 2 ∧ gI S 3 x.1 = M.1 3 ∧ gI S 4 x.1 = M.1 6 ∧ gI S 5 x.1 = M.1 4 ∧ gI S 6 x.1 = M.1 5) ∧ ∀ i, i < 6 → uR S (x.2.2 i) (M.2 i)
/-- what of a heap stays outside some addresses -/
def gFr (X : List Nat) (S S' : gS) : Prop := (∀ a, a ∉ X → (∀ f, gI S' f a = gI S f a) ∧ ∀ i, gr S' a i = gr S a i) ∧ (∀ f a, gP S' f a = gP S f a) ∧ ∀ a i, gq S' a i = gq S a i
theorem gFr.rfl' {X : List Nat} {S : gS} : gFr X S S := ⟨fun _ _ => ⟨fun _ => rfl, fun _ => rfl⟩, fun _ _ => rfl, fun _ _ => rfl⟩
theorem gFr.trans {X : List Nat} {S S1 S2 : gS} (h1 : gFr X S S1) (h2 : gFr X S1 S2) : gFr X S S2 := ⟨fun a ha => ⟨fun f => ((h2.1 a ha).1 f).trans ((h1.1 a ha).1 f), fun i => ((h2.1 a ha).2 i).trans ((h1.1 a ha).2 i)⟩, fun f a => (h2.2.1 f a).trans (h1.2.1 f a), fun a i => (h2.2.2 a i).trans (h1.2.2 a i)⟩
theorem gFr.mono {X Y : List Nat} {S S1 : gS} (h : gFr X S S1) (hXY : ∀ a ∈ X, a ∈ Y) : gFr Y S S1 := ⟨fun a ha => h.1 a (fun q => ha (hXY a q)), h.2⟩
theorem gFr.I {X : List Nat} {S S1 : gS} {a f : Nat} {v : Int32} (h : gFr X S S1) (ha : a ∈ X) : gFr X S (sI S1 f a v) := h.trans ⟨fun b hb => ⟨fun g => by rw [gI_sI, if_neg (fun q => hb (by rw [q.2]; exact ha))], fun i => by rw [gr_sI]⟩, fun _ _ => rfl, fun _ _ => rfl⟩
theorem gFr.r {X : List Nat} {S S1 : gS} {a i : Nat} {v : Int32} (h : gFr X S S1) (ha : a ∈ X) : gFr X S (sr S1 a i v) := h.trans ⟨fun b hb => ⟨fun g => rfl, fun j => by rw [gr_sr, if_neg (fun q => hb (by rw [q.1]; exact ha))]⟩, fun _ _ => rfl, fun _ _ => rfl⟩
theorem gFr.row {X : List Nat} {S S1 : gS} {a : Nat} {v : Nat → Int32} (h : gFr X S S1) (ha : a ∈ X) : gFr X S (srow S1 a v) := h.trans ⟨fun b hb => ⟨fun g => rfl, fun j => by rw [gr_srow, if_neg (fun q => hb (by rw [q]; exact ha))]⟩, fun _ _ => rfl, fun _ _ => rfl⟩
theorem uSh.fr {G : gG} {S S' : gS} {X : List Nat} {x : gUA} (h : uSh G S x) (e : gFr X S S') : uSh G S' x := ⟨h.1, fun j hj => ⟨(e.2.1 _ _).trans (h.2 j hj).1, (h.2 j hj).2⟩⟩
theorem bSh.fr {G : gG} {S S' : gS} {X : List Nat} {x : gBA} (h : bSh G S x) (e : gFr X S S') : bSh G S' x := ⟨h.1, (e.2.1 _ _).trans h.2.1, h.2.2.1, h.2.2.2.1, fun i hi => ⟨(e.2.2 _ _).trans (h.2.2.2.2 i hi).1, (h.2.2.2.2 i hi).2.fr e⟩⟩
theorem uR.fr {S S' : gS} {X : List Nat} {x : gUA} {U : mU} (h : uR S x U) (e : gFr X S S') (hX : ∀ a ∈ uFp x, a ∉ X) : uR S' x U := by
  have m0 := e.1 _ (hX x.1 List.mem_cons_self)
  have m1 := e.1 _ (hX (x.2 0) (by unfold uFp; simp))
  have m2 := e.1 _ (hX (x.2 1) (by unfold uFp; simp))
  have m3 := e.1 _ (hX (x.2 2) (by unfold uFp; simp))
  have m4 := e.1 _ (hX (x.2 3) (by unfold uFp; simp))
  exact ⟨fun f hf => (m0.1 _).trans (h.1 f hf), fun k t hk => ⟨(m1.2 k).trans (h.2.1 k t hk).1, (m2.2 k).trans (h.2.1 k t hk).2⟩, fun c hc => ⟨(m3.2 c).trans (h.2.2 c hc).1, (m4.2 c).trans (h.2.2 c hc).2⟩⟩
theorem uFp_b {x : gBA} {i : Nat} (hi : i < 6) {a : Nat} (ha : a ∈ uFp (x.2.2 i)) : a ∈ bFp x := bFp_u hi ha
theorem bR.fr {S S' : gS} {X : List Nat} {x : gBA} {M : mB} (h : bR S x M) (e : gFr X S S') (hX : ∀ a ∈ bFp x, a ∉ X) : bR S' x M := by
  have m0 := (e.1 _ (hX x.1 List.mem_cons_self)).1
  obtain ⟨⟨h0, h1, h2, h3, h4, h5, h6⟩, hu⟩ := h
  exact ⟨⟨(m0 0).trans h0, (m0 1).trans h1, (m0 2).trans h2, (m0 3).trans h3, (m0 4).trans h4, (m0 5).trans h5, (m0 6).trans h6⟩, fun i hi => (hu i hi).fr e (fun a ha => hX a (uFp_b hi ha))⟩
