/-! the class: an umbrella -/
def wp {α : Type} (x : Option α) (Q : α → Prop) : Prop := ∃ y, x = some y ∧ Q y
section WP
variable {α β γ : Type}
theorem wp_gd {P : Prop} {k : Option α} {Q : α → Prop} (h : P) (hk : wp k Q) : wp (gd P k) Q := by rw [gd_i h]; exact hk
theorem wp_gb {x : Option α} {a : α} {k : α → Option β} {Q : β → Prop} (h : x = some a) (hk : wp (k a) Q) : wp (gb x k) Q := by rw [h]; exact hk
theorem wp_gb2 {x : Option (α × β)} {a : α} {b : β} {k : α → β → Option γ} {Q : γ → Prop} (h : x = some (a, b)) (hk : wp (k a b) Q) : wp (gb2 x k) Q := by rw [h]; exact hk
theorem wp_gbw {x : Option α} {R : α → Prop} {k : α → Option β} {Q : β → Prop} (h : wp x R) (hk : ∀ a, R a → wp (k a) Q) : wp (gb x k) Q := by
  obtain ⟨a, h1, h2⟩ := h
  rw [h1]
  exact hk a h2
theorem wp_gb2w {x : Option (α × β)} {R : α × β → Prop} {k : α → β → Option γ} {Q : γ → Prop} (h : wp x R) (hk : ∀ a b, R (a, b) → wp (k a b) Q) : wp (gb2 x k) Q := by
  obtain ⟨⟨a, b⟩, h1, h2⟩ := h
  rw [h1]
  exact hk a b h2
theorem wp_glt {x : α} {k : α → Option β} {Q : β → Prop} (hk : ∀ y, y = x → wp (k y) Q) : wp (glt x k) Q := hk x rfl
theorem wp_ret {y : α} {Q : α → Prop} (h : Q y) : wp (some y) Q := ⟨y, rfl, h⟩
theorem wp_t {c : Prop} {d : Decidable c} {a b : Option α} {Q : α → Prop} (h : c) (hk : wp a Q) : wp (@ite _ c d a b) Q := by rw [if_pos h]; exact hk
theorem wp_f {c : Prop} {d : Decidable c} {a b : Option α} {Q : α → Prop} (h : ¬ c) (hk : wp b Q) : wp (@ite _ c d a b) Q := by rw [if_neg h]; exact hk
theorem wp_mono {x : Option α} {R Q : α → Prop} (h : wp x R) (hk : ∀ a, R a → Q a) : wp x Q := by
  obtain ⟨a, h1, h2⟩ := h
  exact ⟨a, h1, hk a h2⟩
theorem wp_gbx1 {x : Option (String ⊕ α)} {a : α} {kx : String → Option β} {k : α → Option β} {Q : β → Prop} (h : x = some (.inr a)) (hk : wp (k a) Q) : wp (gbx1 x kx k) Q := by rw [h]; exact hk
theorem wp_gbx1E {x : Option (String ⊕ α)} {E : String} {kx : String → Option β} {k : α → Option β} {Q : β → Prop} (h : x = some (.inl E)) (hk : wp (kx E) Q) : wp (gbx1 x kx k) Q := by rw [h]; exact hk
end WP
def uOk (G : gG) (S : gS) (x : gUA) : Prop := uSh G S x ∧ ∀ i j, i < 4 → j < 4 → i ≠ j → x.2 i ≠ x.2 j
theorem uOk.fr {G : gG} {S S' : gS} {x : gUA} {X : List Nat} (h : uOk G S x) (e : gFr X S S') : uOk G S' x := ⟨h.1.fr e, h.2⟩
def uV (S : gS) (x : gUA) (z : Nat → Int32) (a : Nat → Nat → Int32) : Prop := (∀ f, f < 8 → gI S (10 + f) x.1 = z f) ∧ ∀ j, j < 4 → gr S (x.2 j) = a j
theorem uV.I {S S' : gS} {x : gUA} {z : Nat → Int32} {a : Nat → Nat → Int32} {v : Int32} (k : Nat) (h : uV S x z a) (e : S' = sI S (10 + k) x.1 v) : uV S' x (upd z k v) a := by
  subst e
  refine ⟨fun f hf => ?_, h.2⟩
  rw [gI_sI]
  by_cases c : f = k
  · subst c; rw [if_pos ⟨rfl, rfl⟩, upd_at]
  · rw [if_neg (fun q => c (by omega)), upd_ne c]; exact h.1 f hf
theorem uV.r {G : gG} {S S' : gS} {x : gUA} {z : Nat → Int32} {a : Nat → Nat → Int32} {i : Nat} {v : Int32} (j : Nat) (h : uV S x z a) (ho : uOk G S x) (hj : j < 4) (e : S' = sr S (x.2 j) i v) : uV S' x z (fun j' => if j' = j then upd (a j) i v else a j') := by
  subst e
  refine ⟨h.1, fun j' hj' => ?_⟩
  rw [sr_at]
  by_cases c : j' = j
  · subst c
    show _ = if j' = j' then upd (a j') i v else a j'
    rw [gr_same, if_pos rfl, h.2 _ hj]
  · show _ = if j' = j then upd (a j) i v else a j'
    rw [gr_other _ (ho.2 _ _ hj' hj c), if_neg c]
    exact h.2 _ hj'
theorem uR.V {S : gS} {x : gUA} {U : mU} (_ : uR S x U) : uV S x (fun f => gI S (10 + f) x.1) (fun j => gr S (x.2 j)) := ⟨fun _ _ => rfl, fun _ _ => rfl⟩
theorem uR.of {S : gS} {x : gUA} {U : mU} {z : Nat → Int32} {a : Nat → Nat → Int32} (h : uV S x z a) (h1 : ∀ f, f < 8 → z f = U.1 f) (h2 : ∀ (k : Nat) (t : Nat × Nat), U.2[k]? = some t → a 0 k = nI t.1 ∧ a 1 k = trw t) (h3 : ∀ c, c < 32 → a 2 c = nI (ct U.2 c) ∧ a 3 c = sm U.2 c) : uR S x U :=
  ⟨fun f hf => (h.1 f hf).trans (h1 f hf), fun k t hk => by rw [h.2 0 (by decide), h.2 1 (by decide)]; exact h2 k t hk, fun c hc => by rw [h.2 2 (by decide), h.2 3 (by decide)]; exact h3 c hc⟩
theorem gFr.I' {X : List Nat} {S S1 S2 : gS} {a f : Nat} {v : Int32} (h : gFr X S S1) (e : S2 = sI S1 f a v) (ha : a ∈ X) : gFr X S S2 := by subst e; exact h.I ha
theorem gFr.r' {X : List Nat} {S S1 S2 : gS} {a i : Nat} {v : Int32} (h : gFr X S S1) (e : S2 = sr S1 a i v) (ha : a ∈ X) : gFr X S S2 := by subst e; exact h.r ha
theorem uFp_0 (x : gUA) : x.1 ∈ uFp x := List.mem_cons_self
theorem uFp_r (x : gUA) {j : Nat} (hj : j < 4) : x.2 j ∈ uFp x := by
  have h : j = 0 ∨ j = 1 ∨ j = 2 ∨ j = 3 := by omega
  unfold uFp
  rcases h with rfl | rfl | rfl | rfl <;> simp
theorem mU_get {L M : List (Nat × Nat)} {k : Nat} {t : Nat × Nat} (h : (L ++ M)[k]? = some t) : L[k]? = some t ∧ k < L.length ∨ ∃ j, k = L.length + j ∧ M[j]? = some t := by
  by_cases c : k < L.length
  · rw [List.getElem?_append_left c] at h
    exact Or.inl ⟨h, c⟩
  · rw [List.getElem?_append_right (by omega)] at h
    exact Or.inr ⟨k - L.length, by omega, h⟩
section CU
variable {G : gG} {S : gS} {x : gUA} {U : mU} {N : Nat}
theorem c_val {b n k : Nat} (hb : gis G 7 b) (hn : gn G b = n) (hk : k < n) (h2 : n < 2 ^ 31) : f_X5_valueAt G b (nI k) S = some (gr S b k) := by
  unfold f_X5_valueAt
  rw [if_neg (nI_pos (by omega)), gd_i hb, hn, show Int32.ofNat n = nI n from rfl, if_neg (nI_ge hk h2), gd_i (vp_nI hk h2), nI_clamp (by omega)]
theorem c_put {b n k : Nat} {v : Int32} (hb : gis G 7 b) (hn : gn G b = n) (hk : k < n) (h2 : n < 2 ^ 31) : f_X5_putAt G b (nI k) v S = some (sr S b k v) := by
  unfold f_X5_putAt
  rw [if_neg (nI_pos (by omega)), gd_i hb, hn, show Int32.ofNat n = nI n from rfl, if_neg (nI_ge hk h2), gd_i (vp_nI hk h2), nI_clamp (by omega), glt_S]
theorem c_add {b n k : Nat} {v : Int32} (hb : gis G 7 b) (hn : gn G b = n) (hk : k < n) (h2 : n < 2 ^ 31) : f_X5_addAt G b (nI k) v S = some (sr S b k (gr S b k + v)) := by
  unfold f_X5_addAt
  rw [if_neg (nI_pos (by omega)), gd_i hb, hn, show Int32.ofNat n = nI n from rfl, if_neg (nI_ge hk h2), gd_i (vp_nI hk h2), gd_i (vp_nI hk h2), nI_clamp (by omega), glt_S]
theorem uOk.p0 (h : uOk G S x) : gP S 1 x.1 = some (x.2 0) ∧ gis G 7 (x.2 0) ∧ gn G (x.2 0) = 20 := h.1.2 0 (by decide)
theorem uOk.p1 (h : uOk G S x) : gP S 2 x.1 = some (x.2 1) ∧ gis G 7 (x.2 1) ∧ gn G (x.2 1) = 20 := h.1.2 1 (by decide)
theorem uOk.p2 (h : uOk G S x) : gP S 3 x.1 = some (x.2 2) ∧ gis G 7 (x.2 2) ∧ gn G (x.2 2) = 32 := h.1.2 2 (by decide)
theorem uOk.p3 (h : uOk G S x) : gP S 4 x.1 = some (x.2 3) ∧ gis G 7 (x.2 3) ∧ gn G (x.2 3) = 32 := h.1.2 3 (by decide)
theorem c_case (s : Nat) (o : Bool) : f_X5_caseInSituation (nI s) o = some (nI (2 * s + o.toNat)) := by
  unfold f_X5_caseInSituation
  cases o with
  | false => rw [if_pos (show gz false = 0 from rfl), Int32.add_zero, show (2 : Int32) = nI 2 from rfl, nI_mul]; rfl
  | true => rw [if_neg (by decide), show (2 : Int32) = nI 2 from rfl, show (1 : Int32) = nI 1 from rfl, nI_mul, nI_add]; rfl
theorem c_opens (h : uOk G S x) (hR : uR S x U) (hU : uW N U) {s : Nat} {a : Int32} (ha : a = nI s) (hs : s < 16) : f_X4_opensIn G x.1 a S = some (mHab U.2 s) := by
  subst ha
  have h20 := hU.cap
  have l1 := ct_le U.2 (2 * s + 1)
  have l0 := ct_le U.2 (2 * s)
  have e1 := hR.2.2 (2 * s + 1) (by omega)
  have e0 := hR.2.2 (2 * s) (by omega)
  unfold f_X4_opensIn
  rw [c_case, c_case, gb_S, gb_S, gd_i h.1.1, h.p2.1, gb_S, show 2 * s + Bool.toNat true = 2 * s + 1 from rfl, show 2 * s + Bool.toNat false = 2 * s from rfl, c_val h.p2.2.1 h.p2.2.2 (by omega) (by decide), gb_S, gb_S, c_val h.p2.2.1 h.p2.2.2 (by omega) (by decide), gb_S, e1.1, e0.1, h.p3.1, gb_S, c_val h.p3.2.1 h.p3.2.2 (by omega) (by decide), gb_S, gb_S, c_val h.p3.2.1 h.p3.2.2 (by omega) (by decide), gb_S, e1.2, e0.2]
  unfold mHab
  by_cases c1 : ct U.2 (2 * s + 1) = 0
  · rw [if_pos ((nI_0iff (by omega)).mpr c1), if_pos c1, c1, if_pos (by decide)]
  · have g1 : ¬ nI (ct U.2 (2 * s + 1)) ≤ 0 := nI_nle (by omega) (by omega)
    rw [if_neg (fun q => c1 ((nI_0iff (by omega)).mp q)), if_neg c1, if_neg g1]
    by_cases c2 : ct U.2 (2 * s) = 0
    · rw [if_pos ((nI_0iff (by omega)).mpr c2), if_pos c2]
    · rw [if_neg (fun q => c2 ((nI_0iff (by omega)).mp q)), if_neg c2]
      by_cases c3 : sm U.2 (2 * s + 1) * nI (ct U.2 (2 * s)) ≤ sm U.2 (2 * s) * nI (ct U.2 (2 * s + 1))
      · rw [if_pos c3, decide_eq_false (Int32.not_lt.mpr c3)]
      · rw [if_neg c3, decide_eq_true (Int32.not_le.mp c3)]
theorem c_expl (h : uOk G S x) (hR : uR S x U) : f_X4_willExplore G x.1 S = some (mExp U.1) := by
  have e1 : gI S 11 x.1 = U.1 1 := hR.1 1 (by decide)
  have e2 : gI S 12 x.1 = U.1 2 := hR.1 2 (by decide)
  unfold f_X4_willExplore mExp
  rw [gd_i h.1.1, e1, e2]
  by_cases c : U.1 1 ≤ 0
  · rw [if_pos c, decide_eq_false (fun q => Int32.not_lt.mpr c q.1)]
  · have c' := Int32.not_le.mp c
    rw [if_neg c, gd_i (fun q => by rw [q] at c'; exact Int32.lt_irrefl c')]
    by_cases c2 : (U.1 2 + 1) - (U.1 2 + 1) / U.1 1 * U.1 1 = 0
    · rw [if_pos c2, decide_eq_true ⟨c', c2⟩]
    · rw [if_neg c2, decide_eq_false (fun q => c2 q.2)]
theorem c_count (h : uOk G S x) {c : Nat} {a b d : Int32} (hd : d = nI c) (hc : c < 32) : f_X4_countCase G x.1 d a b S = some (sr (sr S (x.2 2) c (gr S (x.2 2) c + a)) (x.2 3) c (gr S (x.2 3) c + b)) := by
  subst hd
  have e3 : gP (sr S (x.2 2) c (gr S (x.2 2) c + a)) 4 x.1 = some (x.2 3) := h.p3.1
  unfold f_X4_countCase
  rw [gd_i h.1.1, h.p2.1, gb_S, c_add h.p2.2.1 h.p2.2.2 hc (by decide), gb_S, e3, gb_S, c_add h.p3.2.1 h.p3.2.2 hc (by decide), gb_S, gr_sr_ne (h.2 3 2 (by decide) (by decide) (by decide))]
-- room for a trial
def mRoom (U : mU) : mU := if U.1 0 ≤ nI U.2.length then (upd U.1 3 (nI (U.2.length - 1)), U.2.tail) else U
def mEnter (U : mU) (t : Nat × Nat) : mU := (fun k => if k = 2 then U.1 2 + 1 else if k = 3 then nI (U.2.length + 1) else if k = 4 then U.1 4 + trw t else if k = 5 then U.1 5 + trw t else U.1 k, U.2 ++ [t])
theorem c_room_L : ∀ (n k len : Nat) (S : gS), uOk G S x → 1 ≤ k → k ≤ len → len ≤ 20 → len - k < n → gI S 13 x.1 = nI len → wp (f_X4_makeRoom_L36 G x.1 n (nI k) S) (fun S' => gFr (uFp x) S S' ∧ (∀ f, gI S' f x.1 = if f = 13 then nI (len - 1) else gI S f x.1) ∧ (∀ j, gr S' (x.2 0) j = if k - 1 ≤ j ∧ j + 1 < len then gr S (x.2 0) (j + 1) else gr S (x.2 0) j) ∧ (∀ j, gr S' (x.2 1) j = if k - 1 ≤ j ∧ j + 1 < len then gr S (x.2 1) (j + 1) else gr S (x.2 1) j) ∧ gr S' (x.2 2) = gr S (x.2 2) ∧ gr S' (x.2 3) = gr S (x.2 3)) := by
  intro n
  induction n with
  | zero => intro k len S _ _ _ _ hn; omega
  | succ n ih =>
    intro k len S h h1 hk hl hn h13
    rw [f_X4_makeRoom_L36]
    refine wp_gd h.1.1 ?_
    rw [h13]
    by_cases c : len ≤ k
    · refine wp_t (nI_le c (by omega)) ?_
      refine wp_glt (fun S1 e1 => wp_ret ?_)
      have e : nI len - 1 = nI (len - 1) := by
        obtain ⟨l, rfl⟩ : ∃ l, len = l + 1 := ⟨len - 1, by omega⟩
        exact nI_pred l
      rw [e] at e1
      subst e1
      refine ⟨gFr.rfl'.I (uFp_0 x), fun f => ?_, fun j => ?_, fun j => ?_, rfl, rfl⟩
      · rw [gI_sI]
        by_cases q : f = 13
        · rw [if_pos ⟨q, rfl⟩, if_pos q]
        · rw [if_neg (fun z => q z.1), if_neg q]
      · rw [if_neg (by omega)]; rfl
      · rw [if_neg (by omega)]; rfl
    · refine wp_f (nI_ge (by omega) (by omega)) ?_
      have ek : nI k - 1 = nI (k - 1) := by
        obtain ⟨l, rfl⟩ : ∃ l, k = l + 1 := ⟨k - 1, by omega⟩
        exact nI_pred l
      rw [ek]
      refine wp_gb h.p0.1 (wp_gb h.p0.1 ?_)
      refine wp_gb (c_val h.p0.2.1 h.p0.2.2 (by omega) (by decide)) ?_
      refine wp_gb (c_put h.p0.2.1 h.p0.2.2 (by omega) (by decide)) ?_
      obtain ⟨S1, e1⟩ : ∃ S1, S1 = sr S (x.2 0) (k - 1) (gr S (x.2 0) k) := ⟨_, rfl⟩
      rw [← e1]
      have f1 := (gFr.rfl' (S := S)).r' e1 (uFp_r x (show 0 < 4 by decide))
      have o1 := h.fr f1
      refine wp_gb o1.p1.1 (wp_gb o1.p1.1 ?_)
      refine wp_gb (c_val o1.p1.2.1 o1.p1.2.2 (by omega) (by decide)) ?_
      refine wp_gb (c_put o1.p1.2.1 o1.p1.2.2 (by omega) (by decide)) ?_
      obtain ⟨S2, e2⟩ : ∃ S2, S2 = sr S1 (x.2 1) (k - 1) (gr S1 (x.2 1) k) := ⟨_, rfl⟩
      rw [← e2]
      have f2 := f1.r' e2 (uFp_r x (show 1 < 4 by decide))
      refine wp_glt (fun z e => ?_)
      rw [nI_1] at e
      subst e
      have z0 : ∀ j, gr S2 (x.2 0) j = if j = k - 1 then gr S (x.2 0) k else gr S (x.2 0) j := fun j => by
        rw [e2, gr_sr_ne (h.2 0 1 (by decide) (by decide) (by decide)), e1, gr_sr_at]
      have z1 : ∀ j, gr S2 (x.2 1) j = if j = k - 1 then gr S (x.2 1) k else gr S (x.2 1) j := fun j => by
        rw [e2, gr_sr_at, e1, gr_sr_ne (h.2 1 0 (by decide) (by decide) (by decide)), gr_sr_ne (h.2 1 0 (by decide) (by decide) (by decide))]
      have z2 : gr S2 (x.2 2) = gr S (x.2 2) := by
        funext j
        rw [e2, gr_sr_ne (h.2 2 1 (by decide) (by decide) (by decide)), e1, gr_sr_ne (h.2 2 0 (by decide) (by decide) (by decide))]
      have z3 : gr S2 (x.2 3) = gr S (x.2 3) := by
        funext j
        rw [e2, gr_sr_ne (h.2 3 1 (by decide) (by decide) (by decide)), e1, gr_sr_ne (h.2 3 0 (by decide) (by decide) (by decide))]
      have zI : ∀ f, gI S2 f x.1 = gI S f x.1 := fun f => by rw [e2, e1]; rfl
      refine wp_mono (ih (k + 1) len _ (h.fr f2) (by omega) (by omega) hl (by omega) ((zI 13).trans h13)) ?_
      rintro S' ⟨g1, g2, g3, g4, g5, g6⟩
      refine ⟨f2.trans g1, fun f => by rw [g2 f, zI], fun j => ?_, fun j => ?_, g5.trans z2, g6.trans z3⟩
      · rw [g3 j, z0, z0]
        by_cases q : j = k - 1
        · rw [if_neg (show ¬ (k + 1 - 1 ≤ j ∧ j + 1 < len) by omega), if_pos q, if_pos (show k - 1 ≤ j ∧ j + 1 < len by omega), q, show k - 1 + 1 = k by omega]
        · by_cases q2 : k - 1 ≤ j ∧ j + 1 < len
          · rw [if_pos (show k + 1 - 1 ≤ j ∧ j + 1 < len by omega), if_neg (show ¬ j + 1 = k - 1 by omega), if_pos q2]
          · rw [if_neg (show ¬ (k + 1 - 1 ≤ j ∧ j + 1 < len) by omega), if_neg q, if_neg q2]
      · rw [g4 j, z1, z1]
        by_cases q : j = k - 1
        · rw [if_neg (show ¬ (k + 1 - 1 ≤ j ∧ j + 1 < len) by omega), if_pos q, if_pos (show k - 1 ≤ j ∧ j + 1 < len by omega), q, show k - 1 + 1 = k by omega]
        · by_cases q2 : k - 1 ≤ j ∧ j + 1 < len
          · rw [if_pos (show k + 1 - 1 ≤ j ∧ j + 1 < len by omega), if_neg (show ¬ j + 1 = k - 1 by omega), if_pos q2]
          · rw [if_neg (show ¬ (k + 1 - 1 ≤ j ∧ j + 1 < len) by omega), if_neg q, if_neg q2]
theorem nI_dec (n : Nat) : nI (n + 1) + -1 = nI n := by rw [Int32.add_neg_eq_sub, nI_pred]
theorem c_room (h : uOk G S x) (hR : uR S x U) (hU : uW N U) : wp (f_X4_makeRoom G x.1 S) (fun S' => uR S' x (mRoom U) ∧ gFr (uFp x) S S') := by
  have h20 := hU.cap
  have h10 : gI S 10 x.1 = U.1 0 := hR.1 0 (by decide)
  have h13 : gI S 13 x.1 = nI U.2.length := (hR.1 3 (by decide)).trans hU.2.2.1
  unfold f_X4_makeRoom
  refine wp_gd h.1.1 ?_
  rw [h10, h13]
  unfold mRoom
  by_cases c : U.1 0 ≤ nI U.2.length
  · refine wp_t c ?_
    rw [if_pos c]
    have hl : 3 ≤ U.2.length := by
      obtain ⟨cap, h1, h2, h3, h4⟩ := hU.1
      rw [h1, nI_leI (by omega) (by omega)] at c
      omega
    obtain ⟨t, L, hL⟩ : ∃ t L, U.2 = t :: L := by
      cases q : U.2 with
      | nil => rw [q] at hl; exact absurd hl (by decide)
      | cons t L => exact ⟨t, L, rfl⟩
    have ht := hU.2.2.2.1 t (by rw [hL]; exact List.mem_cons_self)
    have h0 := hR.2.1 0 t (by rw [hL]; rfl)
    refine wp_gb h.p0.1 ?_
    refine wp_gb (c_val (k := 0) h.p0.2.1 h.p0.2.2 (by decide) (by decide)) ?_
    refine wp_gb h.p1.1 ?_
    refine wp_gb (c_val (k := 0) h.p1.2.1 h.p1.2.2 (by decide) (by decide)) ?_
    rw [h0.1, h0.2]
    refine wp_gb (c_count h rfl ht.1) ?_
    have f2 : gFr (uFp x) S (sr (sr S (x.2 2) t.1 (gr S (x.2 2) t.1 + -1)) (x.2 3) t.1 (gr S (x.2 3) t.1 + -trw t)) := (gFr.rfl'.r (uFp_r x (by decide))).r (uFp_r x (by decide))
    refine wp_mono (c_room_L gN 1 U.2.length _ (h.fr f2) (by decide) (by omega) h20 (by rw [gN_e]; omega) h13) ?_
    rintro S' ⟨g1, g2, g3, g4, g5, g6⟩
    refine ⟨⟨fun f hf => ?_, fun k t' hk => ?_, fun c' hc' => ?_⟩, f2.trans g1⟩
    · rw [g2 (10 + f)]
      show _ = upd U.1 3 (nI (U.2.length - 1)) f
      by_cases q : f = 3
      · rw [if_pos (by omega), q, upd_at]
      · rw [if_neg (by omega), upd_ne q]
        exact hR.1 f hf
    · have hk' : U.2[k + 1]? = some t' := by
        rw [hL]
        rw [hL] at hk
        exact hk
      have hkl := (List.getElem?_eq_some_iff.mp hk').1
      have := hR.2.1 (k + 1) t' hk'
      rw [g3 k, g4 k, if_pos (by omega), if_pos (by omega), gr_sr_ne (h.2 0 3 (by decide) (by decide) (by decide)), gr_sr_ne (h.2 0 2 (by decide) (by decide) (by decide)), gr_sr_ne (h.2 1 3 (by decide) (by decide) (by decide)), gr_sr_ne (h.2 1 2 (by decide) (by decide) (by decide))]
      exact this
    · have hc2 := hR.2.2 c' hc'
      rw [hL] at hc2
      rw [ct_cons, sm_cons] at hc2
      show _ = nI (ct U.2.tail c') ∧ _ = sm U.2.tail c'
      rw [hL]
      show _ = nI (ct L c') ∧ _ = sm L c'
      rw [g5, g6, gr_sr_ne (h.2 2 3 (by decide) (by decide) (by decide)), gr_sr_at, gr_sr_at, gr_sr_ne (h.2 3 2 (by decide) (by decide) (by decide))]
      by_cases q : c' = t.1
      · subst q
        rw [if_pos rfl, if_pos rfl] at hc2
        rw [if_pos rfl, if_pos rfl, hc2.1, hc2.2, Nat.add_comm, nI_dec, Int32.add_neg_eq_sub, Int32.add_comm, Int32.add_sub_cancel]
        exact ⟨rfl, rfl⟩
      · rw [if_neg (fun z => q z.symm), if_neg (fun z => q z.symm), Nat.zero_add, Int32.zero_add] at hc2
        rw [if_neg q, if_neg q]
        exact hc2
  · refine wp_f c (wp_ret ?_)
    rw [if_neg c]
    exact ⟨hR, gFr.rfl'⟩
theorem c_enter (h : uOk G S x) (hR : uR S x U) (hl : U.2.length < 20) (h3 : U.1 3 = nI U.2.length) {t : Nat × Nat} {a b : Int32} (ha : a = nI t.1) (hb : b = trw t) (ht : t.1 < 32) : wp (f_X4_enterTrial G x.1 a b S) (fun S' => uR S' x (mEnter U t) ∧ gFr (uFp x) S S') := by
  subst ha hb
  have h12 : gI S 12 x.1 = U.1 2 := hR.1 2 (by decide)
  have h13 : gI S 13 x.1 = nI U.2.length := (hR.1 3 (by decide)).trans h3
  have h14 : gI S 14 x.1 = U.1 4 := hR.1 4 (by decide)
  have h15 : gI S 15 x.1 = U.1 5 := hR.1 5 (by decide)
  unfold f_X4_enterTrial
  refine wp_gd h.1.1 (wp_glt fun S1 e1 => wp_glt fun S2 e2 => wp_glt fun S3 e3 => ?_)
  have v1 := (hR.V).I 2 e1
  have v2 := v1.I 4 e2
  have v3 := v2.I 5 e3
  have f3 := ((gFr.rfl'.I' e1 (uFp_0 x)).I' e2 (uFp_0 x)).I' e3 (uFp_0 x)
  have o3 := h.fr f3
  have k13 : gI S3 13 x.1 = nI U.2.length := (v3.1 3 (by decide)).trans h13
  refine wp_gb o3.p0.1 ?_
  rw [k13]
  refine wp_gb (c_put o3.p0.2.1 o3.p0.2.2 hl (by decide)) ?_
  obtain ⟨S4, e4⟩ : ∃ S4, S4 = sr S3 (x.2 0) U.2.length (nI t.1) := ⟨_, rfl⟩
  rw [← e4]
  have v4 := v3.r 0 o3 (by decide) e4
  have f4 := f3.r' e4 (uFp_r x (by decide))
  have o4 := h.fr f4
  have k13 : gI S4 13 x.1 = nI U.2.length := (v4.1 3 (by decide)).trans h13
  refine wp_gb o4.p1.1 ?_
  rw [k13]
  refine wp_gb (c_put o4.p1.2.1 o4.p1.2.2 hl (by decide)) ?_
  obtain ⟨S5, e5⟩ : ∃ S5, S5 = sr S4 (x.2 1) U.2.length (trw t) := ⟨_, rfl⟩
  rw [← e5]
  have v5 := v4.r 1 o4 (by decide) e5
  have f5 := f4.r' e5 (uFp_r x (by decide))
  have k13 : gI S5 13 x.1 = nI U.2.length := (v5.1 3 (by decide)).trans h13
  refine wp_glt fun S6 e6 => ?_
  rw [k13, nI_1] at e6
  have v6 := v5.I 3 e6
  have f6 := f5.I' e6 (uFp_0 x)
  have o6 := h.fr f6
  refine wp_gb (c_count o6 rfl ht) (wp_ret ?_)
  obtain ⟨S7, e7⟩ : ∃ S7, S7 = sr S6 (x.2 2) t.1 (gr S6 (x.2 2) t.1 + 1) := ⟨_, rfl⟩
  have v7 := v6.r 2 o6 (by decide) e7
  have f7 := f6.r' e7 (uFp_r x (by decide))
  obtain ⟨S8, e8⟩ : ∃ S8, S8 = sr S7 (x.2 3) t.1 (gr S6 (x.2 3) t.1 + trw t) := ⟨_, rfl⟩
  have v8 := v7.r 3 (h.fr f7) (by decide) e8
  have f8 := f7.r' e8 (uFp_r x (by decide))
  rw [← e7, ← e8]
  have r2 : gr S6 (x.2 2) = gr S (x.2 2) := v6.2 2 (by decide)
  have r3 : gr S6 (x.2 3) = gr S (x.2 3) := v6.2 3 (by decide)
  have i12 : gI S1 12 x.1 = _ := v1.1 2 (by decide)
  have i14 : gI S1 14 x.1 = gI S 14 x.1 := v1.1 4 (by decide)
  have i15 : gI S2 15 x.1 = gI S 15 x.1 := v2.1 5 (by decide)
  refine ⟨uR.of v8 (fun f hf => ?_) (fun k t' hk => ?_) (fun c hc => ?_), f8⟩
  · have hf' : f = 0 ∨ f = 1 ∨ f = 2 ∨ f = 3 ∨ f = 4 ∨ f = 5 ∨ f = 6 ∨ f = 7 := by omega
    rcases hf' with rfl | rfl | rfl | rfl | rfl | rfl | rfl | rfl
    · exact hR.1 0 (by decide)
    · exact hR.1 1 (by decide)
    · show gI S 12 x.1 + 1 = U.1 2 + 1
      rw [h12]
    · rfl
    · show gI S1 14 x.1 + trw t = U.1 4 + trw t
      rw [i14, h14]
    · show gI S2 15 x.1 + trw t = U.1 5 + trw t
      rw [i15, h15]
    · exact hR.1 6 (by decide)
    · exact hR.1 7 (by decide)
  · show upd (gr S (x.2 0)) U.2.length (nI t.1) k = nI t'.1 ∧ upd (gr S (x.2 1)) U.2.length (trw t) k = trw t'
    rcases mU_get hk with ⟨h1, h2⟩ | ⟨j, h1, h2⟩
    · rw [upd_ne (by omega), upd_ne (by omega)]
      exact hR.2.1 k t' h1
    · cases j with
      | zero =>
        cases h2
        rw [h1, Nat.add_zero, upd_at, upd_at]
        exact ⟨rfl, rfl⟩
      | succ j => cases h2
  · show upd (gr S (x.2 2)) t.1 (gr S6 (x.2 2) t.1 + 1) c = nI (ct (U.2 ++ [t]) c) ∧ upd (gr S (x.2 3)) t.1 (gr S6 (x.2 3) t.1 + trw t) c = sm (U.2 ++ [t]) c
    rw [r2, r3, ct_app, sm_app, ct_cons, sm_cons, ct_nil, sm_nil, Int32.add_zero, Nat.add_zero]
    have hc2 := hR.2.2 c hc
    by_cases q : c = t.1
    · subst q
      rw [upd_at, upd_at, if_pos rfl, if_pos rfl, hc2.1, hc2.2, nI_1]
      exact ⟨rfl, rfl⟩
    · rw [upd_ne q, upd_ne q, if_neg (fun z => q z.symm), if_neg (fun z => q z.symm), Int32.add_zero]
      exact hc2
end CU
