/-! texts: the two builders, the line -/
theorem tfind_ts (T : gT) (a : Nat) (l : List Nat) (b : Nat) : ((ts T a l).find? (fun q => q.1 == b)) = (T.find? (fun q => q.1 == b)).map (fun q => if q.1 = a then (q.1, sb_cap l.length q.2.1, l) else q) := by
  unfold ts
  induction T with
  | nil => rfl
  | cons q T ih =>
    have e : (if q.1 = a then (q.1, sb_cap l.length q.2.1, l) else q).1 = q.1 := by split <;> rfl
    rw [List.map_cons, List.find?_cons, List.find?_cons, e]
    cases q.1 == b with
    | true => rfl
    | false => exact ih
theorem ts_g {T : gT} {a : Nat} {t : List Nat} (l : List Nat) (h : tg T a = some t) : tg (ts T a l) a = some l := by
  unfold tg at h ⊢
  rw [tfind_ts]
  cases e : T.find? (fun q => q.1 == a) with
  | none => rw [e] at h; cases h
  | some q =>
    have hq : q.1 = a := by
      have := List.find?_some e
      exact beq_iff_eq.mp this
    show some (if q.1 = a then (q.1, sb_cap l.length q.2.1, l) else q).2.2 = some l
    rw [if_pos hq]
theorem ts_c {T : gT} {a c : Nat} (l : List Nat) (h : tc T a = some c) : tc (ts T a l) a = some (sb_cap l.length c) := by
  unfold tc at h ⊢
  rw [tfind_ts]
  cases e : T.find? (fun q => q.1 == a) with
  | none => rw [e] at h; cases h
  | some q =>
    have hq : q.1 = a := by
      have := List.find?_some e
      exact beq_iff_eq.mp this
    rw [e] at h
    have h : some q.2.1 = some c := h
    cases h
    show some (if q.1 = a then (q.1, sb_cap l.length q.2.1, l) else q).2.1 = _
    rw [if_pos hq]
theorem ts_ne {T : gT} {a b : Nat} (l : List Nat) (hn : b ≠ a) : tg (ts T a l) b = tg T b ∧ tc (ts T a l) b = tc T b := by
  unfold tg tc
  rw [tfind_ts]
  cases e : T.find? (fun q => q.1 == b) with
  | none => exact ⟨rfl, rfl⟩
  | some q =>
    have hq : q.1 = b := by
      have := List.find?_some e
      exact beq_iff_eq.mp this
    show some (if q.1 = a then (q.1, sb_cap l.length q.2.1, l) else q).2.2 = some q.2.2 ∧ some (if q.1 = a then (q.1, sb_cap l.length q.2.1, l) else q).2.1 = some q.2.1
    rw [if_neg (by rw [hq]; exact hn)]
    exact ⟨rfl, rfl⟩
theorem tK.put {T : gT} {a n : Nat} {l : List Nat} (h : tK T a n) (h1 : l.length ≤ 70) (h2 : l.length ≤ n + 10) : tK (ts T a l) a l.length := by
  obtain ⟨g, c, c1, c2, c3⟩ := h
  have e := ts_c l c1
  have hc : c = 16 ∨ c = 34 ∨ c = 70 := by
    unfold gcap at g
    rw [c1] at g
    rcases g with g | g | g <;> cases g <;> simp
  have hs : sb_cap l.length c = 16 ∨ sb_cap l.length c = 34 ∨ sb_cap l.length c = 70 := by
    unfold sb_cap
    rcases hc with rfl | rfl | rfl
    · by_cases q : l.length ≤ 16
      · rw [if_pos q]; omega
      · rw [if_neg q, if_neg (by omega)]; omega
    · by_cases q : l.length ≤ 34
      · rw [if_pos q]; omega
      · rw [if_neg q, if_neg (by omega)]; omega
    · rw [if_pos h1]; omega
  refine ⟨?_, _, e, sb_cap_ge _ _, (List.length_map ..).trans c3⟩
  unfold gcap
  rw [e]
  rcases hs with q | q | q <;> rw [q] <;> simp
theorem tP.put2 {T : gT} {A : aW} {tx ou l : List Nat} (h : tP T A tx ou) (hn : at1 A ≠ at2 A) (h1 : l.length ≤ 70) (h2 : l.length ≤ ou.length + 10) : tP (ts T (at2 A) l) A tx l := by
  obtain ⟨a1, a2, a3, a4⟩ := h
  obtain ⟨e1, e2⟩ := ts_ne (T := T) l hn
  refine ⟨e1.trans a1, ts_g l a2, ?_, a4.put h1 h2⟩
  unfold tK gcap
  rw [e2]
  exact ⟨a3.1, a3.2.choose, a3.2.choose_spec.1, a3.2.choose_spec.2.1, (List.length_map ..).trans a3.2.choose_spec.2.2⟩
theorem tP.put1 {T : gT} {A : aW} {tx ou l : List Nat} (h : tP T A tx ou) (hn : at1 A ≠ at2 A) (h1 : l.length ≤ 70) (h2 : l.length ≤ tx.length + 10) : tP (ts T (at1 A) l) A l ou := by
  obtain ⟨a1, a2, a3, a4⟩ := h
  obtain ⟨e1, e2⟩ := ts_ne (T := T) l (Ne.symm hn)
  refine ⟨ts_g l a1, e1.trans a2, a3.put h1 h2, ?_⟩
  unfold tK gcap
  rw [e2]
  exact ⟨a4.1, a4.2.choose, a4.2.choose_spec.1, a4.2.choose_spec.2.1, (List.length_map ..).trans a4.2.choose_spec.2.2⟩
section DE
variable {G : gG} {S : gS} {T : gT} {A : aW} {N : Nat} {X Y : mX}
def xOut (X : mX) (l : List Nat) : mX := (X.1, X.2.1, (X.2.2.1, l))
def xTx (X : mX) (l : List Nat) : mX := (X.1, X.2.1, (l, X.2.2.2))
theorem wC.t {T1 : gT} {l : List Nat} (h : wC G S T A X Y) (hT : tP T1 A X.2.2.1 l) : wC G S T1 A (xOut X l) Y := by
  obtain ⟨h1, ⟨h2, h3, h4, h5, h6⟩, h7⟩ := h
  exact ⟨h1, ⟨h2, h3, h4, h5, hT⟩, h7⟩
theorem wC.t1 {T1 : gT} {l : List Nat} (h : wC G S T A X Y) (hT : tP T1 A l X.2.2.2) : wC G S T1 A (xTx X l) Y := by
  obtain ⟨h1, ⟨h2, h3, h4, h5, h6⟩, h7⟩ := h
  exact ⟨h1, ⟨h2, h3, h4, h5, hT⟩, h7⟩
theorem wC.P (h : wC G S T A X Y) : tP T A X.2.2.1 X.2.2.2 := h.2.1.2.2.2.2
/-- the class puts a character behind its line -/
theorem c_putc (h : wSh G S A) {tx ou : List Nat} (hT : tP T A tx ou) {c : Nat} {x : Int32} (hx : x = nI c) (hc : c < 128) (hl : ou.length < 60) {β : Type} {F : gT → Option β} {Q : β → Prop} (k : ∀ T', tP T' A tx (ou ++ [c]) → wp (F T') Q) :
    wp (gb (tg T (at2 A)) fun t => gd ((0 : Int32) ≤ x ∧ x ≤ (255 : Int32) ∧ gcap T (at2 A)) <| gd (List.length (t ++ [Int32.toNatClampNeg x]) ≤ 70) <| glt (ts T (at2 A) (t ++ [Int32.toNatClampNeg x])) fun T' => F T') Q := by
  subst hx
  have e : (ou ++ [c]).length = ou.length + 1 := by rw [List.length_append]; rfl
  refine wp_gb hT.2.1 ?_
  rw [nI_clamp (show c < 2 ^ 31 by omega)]
  refine wp_gd ⟨nI_pos' (by omega), (show nI c ≤ nI 255 from nI_le (by omega) (by decide)), hT.2.2.2.1⟩ (wp_gd (by omega) (wp_glt (fun T' e' => ?_)))
  rw [e']
  exact k _ (hT.put2 h.1.2.2.2.2.2.2.2.2 (by omega) (by omega))
/-- a number -/
theorem c_putn (h : wSh G S A) {tx ou : List Nat} (hT : tP T A tx ou) {v : Nat} {x : Int32} (hx : x = nI v) (hv : v < 2 ^ 31) (hl : ou.length + 10 ≤ 60) {β : Type} {F : gT → Option β} {Q : β → Prop} (k : ∀ T', tP T' A tx (ou ++ gdec v) → wp (F T') Q) :
    wp (gb (tg T (at2 A)) fun t => gd ((0 : Int32) ≤ x ∧ gcap T (at2 A)) <| gd (List.length (t ++ gdec (Int32.toNatClampNeg x)) ≤ 70) <| glt (ts T (at2 A) (t ++ gdec (Int32.toNatClampNeg x))) fun T' => F T') Q := by
  subst hx
  have e : (ou ++ gdec v).length = ou.length + sb_dg v := by rw [List.length_append, gdec_len]
  have e2 := (sb_dg_in v).2
  refine wp_gb hT.2.1 ?_
  rw [nI_clamp hv]
  refine wp_gd ⟨nI_pos' hv, hT.2.2.2.1⟩ (wp_gd (by omega) (wp_glt (fun T' e' => ?_)))
  rw [e']
  exact k _ (hT.put2 h.1.2.2.2.2.2.2.2.2 (by omega) (by omega))
end DE
