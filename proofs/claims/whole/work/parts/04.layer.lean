/-! THE LAYER: heaps as functions (a shape G, contents S, texts T), and one judgement Xj over W whose rows speak of them alone -/
-- shapes: addresses, kinds, lengths; contents: int fields, reference fields, rows of numbers, rows of references
abbrev gG : Type := List Nat × (Nat → Nat) × (Nat → Nat)
abbrev gS : Type := (Nat → Nat → Int32) × (Nat → Nat → Option Nat) × (Nat → Nat → Int32) × (Nat → Nat → Option Nat)
abbrev gT : Type := List (Nat × Nat × List Nat)
abbrev gY : Type := (Nat → ClassId) × (Nat → Nat)
def gL (G : gG) : List Nat := G.1
def gK (G : gG) (a : Nat) : Nat := G.2.1 a
def gn (G : gG) (a : Nat) : Nat := G.2.2 a
/-- a is an object (or a row) of kind k -/
def gis (G : gG) (k a : Nat) : Prop := a ∈ gL G ∧ gK G a = k
def gI (S : gS) (f a : Nat) : Int32 := S.1 f a
def gP (S : gS) (f a : Nat) : Option Nat := S.2.1 f a
def gr (S : gS) (a i : Nat) : Int32 := S.2.2.1 a i
def gq (S : gS) (a i : Nat) : Option Nat := S.2.2.2 a i
def sI (S : gS) (f a : Nat) (v : Int32) : gS := (fun f' a' => if f' = f ∧ a' = a then v else S.1 f' a', S.2)
def sP (S : gS) (f a : Nat) (v : Option Nat) : gS := (S.1, fun f' a' => if f' = f ∧ a' = a then v else S.2.1 f' a', S.2.2)
def sr (S : gS) (a i : Nat) (v : Int32) : gS := (S.1, S.2.1, fun a' i' => if a' = a ∧ i' = i then v else S.2.2.1 a' i', S.2.2.2)
def srow (S : gS) (a : Nat) (f : Nat → Int32) : gS := (S.1, S.2.1, fun a' i' => if a' = a then f i' else S.2.2.1 a' i', S.2.2.2)
def sq (S : gS) (a i : Nat) (v : Option Nat) : gS := (S.1, S.2.1, S.2.2.1, fun a' i' => if a' = a ∧ i' = i then v else S.2.2.2 a' i')
def gfv (S : gS) (a : Nat) (x : Nat ⊕ Nat) : Value := match x with
  | .inl f => .int (gI S f a)
  | .inr f => va_rf (gP S f a)
-- a double in two ints
def gdb (h l : Int32) : UInt64 := (h.toUInt32.toUInt64 <<< 32) ||| l.toUInt32.toUInt64
def gdh (x : UInt64) : Int32 := (x >>> 32).toUInt32.toInt32
def gdl (x : UInt64) : Int32 := x.toUInt32.toInt32
def gar (cy : gY) (G : gG) (S : gS) (a : Nat) : va_E :=
  if gK G a = 5 then .inl (cy.1 0, gn G a, .inl (gr S a)) else
  if gK G a = 6 then .inl (cy.1 1, gn G a, .inl (gr S a)) else
  if gK G a = 7 then .inl (cy.1 2, gn G a, .inl (gr S a)) else
  if gK G a = 8 then .inl (cy.1 3, gn G a, .inr (.inr (.inr (.inr (gq S a))))) else
  if gK G a = 10 then .inl (cy.1 5, gn G a, .inr (.inl (fun i => (gr S a i).toInt64))) else
  if gK G a = 11 then .inl (cy.1 6, gn G a, .inr (.inr (.inr (.inl (fun i => gdb (gr S a (2 * i)) (gr S a (2 * i + 1))))))) else
  .inl (cy.1 4, gn G a, .inr (.inr (.inr (.inr (gq S a)))))
def gce (cy : gY) (G : gG) (S : gS) (a : Nat) : va_E := match gkt (gK G a) with
  | some (ci, fl) => .inr (ci, fl.map (gfv S a))
  | none => gar cy G S a
def gw (cy : gY) (G : gG) (S : gS) : va_W := va_pl (gL G) (gce cy G S)
def gty (cy : gY) : List (ClassId × FieldType) := [(cy.1 0, .byte), (cy.1 1, .char), (cy.1 2, .int), (cy.1 3, .object "UmbrellaSchool$Books"), (cy.1 4, .object "UmbrellaSchool$Umbrella"), (cy.1 5, .long), (cy.1 6, .double)]
-- texts: a StringBuilder at a, of capacity cap, holds tx; its bytes lie at some other address
def gZ (cy : gY) : va_W → gT → Prop
  | Z, [] => Z = []
  | Z, (a, cap, tx) :: T => ∃ (arr : Nat) (ml : Int32) (by' : Nat → Int32) (Z' : va_W), Z = (a, .inr (1, [.ref arr, .int 0, .int ml, .int (nI tx.length)])) :: (arr, .inl (cy.1 0, cap, .inl by')) :: Z' ∧ tx.length ≤ cap ∧ cap ≤ 65536 ∧ sb_Lat (fun i => tx.getD i 0) tx.length by' ∧ sb_Fit by' ∧ gZ cy Z' T
-- reading behind writing
theorem gI_sI (S : gS) (f a f' a' : Nat) (v : Int32) : gI (sI S f a v) f' a' = if f' = f ∧ a' = a then v else gI S f' a' := rfl
theorem gI_sP (S : gS) (f a f' a' : Nat) (v : Option Nat) : gI (sP S f a v) f' a' = gI S f' a' := rfl
theorem gI_sr (S : gS) (a i f' a' : Nat) (v : Int32) : gI (sr S a i v) f' a' = gI S f' a' := rfl
theorem gI_srow (S : gS) (a f' a' : Nat) (v : Nat → Int32) : gI (srow S a v) f' a' = gI S f' a' := rfl
theorem gI_sq (S : gS) (a i f' a' : Nat) (v : Option Nat) : gI (sq S a i v) f' a' = gI S f' a' := rfl
theorem gP_sI (S : gS) (f a f' a' : Nat) (v : Int32) : gP (sI S f a v) f' a' = gP S f' a' := rfl
theorem gP_sP (S : gS) (f a f' a' : Nat) (v : Option Nat) : gP (sP S f a v) f' a' = if f' = f ∧ a' = a then v else gP S f' a' := rfl
theorem gP_sr (S : gS) (a i f' a' : Nat) (v : Int32) : gP (sr S a i v) f' a' = gP S f' a' := rfl
theorem gP_srow (S : gS) (a f' a' : Nat) (v : Nat → Int32) : gP (srow S a v) f' a' = gP S f' a' := rfl
theorem gP_sq (S : gS) (a i f' a' : Nat) (v : Option Nat) : gP (sq S a i v) f' a' = gP S f' a' := rfl
theorem gr_sI (S : gS) (f a a' i' : Nat) (v : Int32) : gr (sI S f a v) a' i' = gr S a' i' := rfl
theorem gr_sP (S : gS) (f a a' i' : Nat) (v : Option Nat) : gr (sP S f a v) a' i' = gr S a' i' := rfl
theorem gr_sr (S : gS) (a i a' i' : Nat) (v : Int32) : gr (sr S a i v) a' i' = if a' = a ∧ i' = i then v else gr S a' i' := rfl
theorem gr_srow (S : gS) (a a' i' : Nat) (v : Nat → Int32) : gr (srow S a v) a' i' = if a' = a then v i' else gr S a' i' := rfl
theorem gr_sq (S : gS) (a i a' i' : Nat) (v : Option Nat) : gr (sq S a i v) a' i' = gr S a' i' := rfl
theorem gq_sI (S : gS) (f a a' i' : Nat) (v : Int32) : gq (sI S f a v) a' i' = gq S a' i' := rfl
theorem gq_sP (S : gS) (f a a' i' : Nat) (v : Option Nat) : gq (sP S f a v) a' i' = gq S a' i' := rfl
theorem gq_sr (S : gS) (a i a' i' : Nat) (v : Int32) : gq (sr S a i v) a' i' = gq S a' i' := rfl
theorem gq_srow (S : gS) (a a' i' : Nat) (v : Nat → Int32) : gq (srow S a v) a' i' = gq S a' i' := rfl
theorem gq_sq (S : gS) (a i a' i' : Nat) (v : Option Nat) : gq (sq S a i v) a' i' = if a' = a ∧ i' = i then v else gq S a' i' := rfl
-- a list of fields, one of them written
theorem g_mset {α β : Type} [DecidableEq α] (fl : List α) (g : α → β) (k : Nat) (x : α) (v : β) (hn : fl.Nodup) (hk : fl[k]? = some x) : (fl.map g).set k v = fl.map (fun y => if y = x then v else g y) := by
  apply List.ext_getElem?
  intro i
  rw [List.getElem?_set, List.getElem?_map, List.getElem?_map, List.length_map]
  by_cases e : k = i
  · subst e
    have hl := (List.getElem?_eq_some_iff.mp hk).1
    rw [if_pos rfl, if_pos hl, hk]
    simp
  · rw [if_neg e]
    cases h : fl[i]? with
    | none => rfl
    | some y =>
      have hy : y ≠ x := by
        intro z
        subst z
        have h1 := (List.getElem?_eq_some_iff.mp hk)
        have h2 := (List.getElem?_eq_some_iff.mp h)
        have hp := List.pairwise_iff_getElem.mp (show List.Pairwise (fun a b => a ≠ b) fl from hn)
        rcases Nat.lt_or_gt_of_ne e with q | q
        · exact hp k i h1.1 h2.1 q (h1.2.trans h2.2.symm)
        · exact hp i k h2.1 h1.1 q (h2.2.trans h1.2.symm)
      simp [hy]
theorem gkt_nodup : ∀ k ci fl, gkt k = some (ci, fl) → fl.Nodup := by
  intro k ci fl h
  match k, h with
  | 0, h => cases h; decide
  | 1, h => cases h; decide
  | 2, h => cases h; decide
  | 3, h => cases h; decide
  | 4, h => cases h; decide
  | k + 5, h => cases h
theorem gce_obj {cy : gY} {G : gG} {S : gS} {a ci : Nat} {fl : List (Nat ⊕ Nat)} (h : gkt (gK G a) = some (ci, fl)) : gce cy G S a = .inr (ci, fl.map (gfv S a)) := by
  unfold gce
  rw [h]
theorem gce_eq {cy : gY} {G : gG} {S S' : gS} {b : Nat} (h1 : ∀ f, gI S' f b = gI S f b) (h2 : ∀ f, gP S' f b = gP S f b) (h3 : gr S' b = gr S b) (h4 : gq S' b = gq S b) : gce cy G S' b = gce cy G S b := by
  have e : gfv S' b = gfv S b := by
    funext x
    cases x with
    | inl f => show Value.int _ = Value.int _; rw [h1]
    | inr f => show va_rf _ = va_rf _; rw [h2]
  unfold gce gar
  rw [e, h3, h4]
theorem gup_I {cy : gY} {G : gG} {S : gS} {a ci f k : Nat} {fl : List (Nat ⊕ Nat)} (h : gkt (gK G a) = some (ci, fl)) (hk : fl[k]? = some (.inl f)) (v : Int32) (b : Nat) : va_up (gce cy G S) a (.inr (ci, (fl.map (gfv S a)).set k (.int v))) b = gce cy G (sI S f a v) b := by
  by_cases e : b = a
  · subst e
    rw [gce_obj h, g_mset fl _ k _ _ (gkt_nodup _ _ _ h) hk]
    unfold va_up
    rw [if_pos rfl]
    congr 2
    apply List.map_congr_left
    intro y _
    cases y with
    | inl f' =>
      show (if (Sum.inl f' : Nat ⊕ Nat) = .inl f then Value.int v else Value.int (gI S f' b)) = Value.int (gI (sI S f b v) f' b)
      rw [gI_sI]
      by_cases z : f' = f
      · subst z; simp
      · rw [if_neg (by intro q; exact z (Sum.inl.inj q)), if_neg (by intro q; exact z q.1)]
    | inr f' => rfl
  · rw [va_up_ne _ _ e]
    exact (gce_eq (S := S) (S' := sI S f a v) (fun f' => by rw [gI_sI, if_neg (fun q => e q.2)]) (fun _ => rfl) rfl rfl).symm
theorem gup_P {cy : gY} {G : gG} {S : gS} {a ci f k : Nat} {fl : List (Nat ⊕ Nat)} (h : gkt (gK G a) = some (ci, fl)) (hk : fl[k]? = some (.inr f)) (v : Option Nat) (b : Nat) : va_up (gce cy G S) a (.inr (ci, (fl.map (gfv S a)).set k (va_rf v))) b = gce cy G (sP S f a v) b := by
  by_cases e : b = a
  · subst e
    rw [gce_obj h, g_mset fl _ k _ _ (gkt_nodup _ _ _ h) hk]
    unfold va_up
    rw [if_pos rfl]
    congr 2
    apply List.map_congr_left
    intro y _
    cases y with
    | inr f' =>
      show (if (Sum.inr f' : Nat ⊕ Nat) = .inr f then va_rf v else va_rf (gP S f' b)) = va_rf (gP (sP S f b v) f' b)
      rw [gP_sP]
      by_cases z : f' = f
      · subst z; simp
      · rw [if_neg (by intro q; exact z (Sum.inr.inj q)), if_neg (by intro q; exact z q.1)]
    | inl f' => rfl
  · rw [va_up_ne _ _ e]
    exact (gce_eq (S := S) (S' := sP S f a v) (fun _ => rfl) (fun f' => by rw [gP_sP, if_neg (fun q => e q.2)]) rfl rfl).symm
theorem gce_y {cy : gY} {G : gG} {S : gS} {a : Nat} (h : gK G a = 5) : gce cy G S a = .inl (cy.1 0, gn G a, .inl (gr S a)) := by
  unfold gce gar; rw [h]; rfl
theorem gce_i {cy : gY} {G : gG} {S : gS} {a : Nat} (h : gK G a = 7) : gce cy G S a = .inl (cy.1 2, gn G a, .inl (gr S a)) := by
  unfold gce gar; rw [h]; rfl
theorem gce_c {cy : gY} {G : gG} {S : gS} {a : Nat} (h : gK G a = 6) : gce cy G S a = .inl (cy.1 1, gn G a, .inl (gr S a)) := by
  unfold gce gar; rw [h]; rfl
theorem gce_b {cy : gY} {G : gG} {S : gS} {a : Nat} (h : gK G a = 8) : gce cy G S a = .inl (cy.1 3, gn G a, .inr (.inr (.inr (.inr (gq S a))))) := by
  unfold gce gar; rw [h]; rfl
theorem gce_u {cy : gY} {G : gG} {S : gS} {a : Nat} (h : gK G a = 9) : gce cy G S a = .inl (cy.1 4, gn G a, .inr (.inr (.inr (.inr (gq S a))))) := by
  unfold gce gar; rw [h]; rfl
theorem gce_l {cy : gY} {G : gG} {S : gS} {a : Nat} (h : gK G a = 10) : gce cy G S a = .inl (cy.1 5, gn G a, .inr (.inl (fun i => (gr S a i).toInt64))) := by
  unfold gce gar; rw [h]; rfl
theorem gce_d {cy : gY} {G : gG} {S : gS} {a : Nat} (h : gK G a = 11) : gce cy G S a = .inl (cy.1 6, gn G a, .inr (.inr (.inr (.inl (fun i => gdb (gr S a (2 * i)) (gr S a (2 * i + 1))))))) := by
  unfold gce gar; rw [h]; rfl
theorem gup_row {cy : gY} {G : gG} {S : gS} {a : Nat} (v : Nat → Int32) (e : va_E) (he : e = gce cy G (srow S a v) a) (b : Nat) : va_up (gce cy G S) a e b = gce cy G (srow S a v) b := by
  by_cases z : b = a
  · subst z; rw [he]; unfold va_up; rw [if_pos rfl]
  · rw [va_up_ne _ _ z]
    exact (gce_eq (S := S) (S' := srow S a v) (fun _ => rfl) (fun _ => rfl) (by funext i; rw [gr_srow, if_neg z]) rfl).symm
theorem sr_srow (S : gS) (a i : Nat) (v : Int32) : sr S a i v = srow S a (upd (gr S a) i v) := by
  have h : (fun a' i' => if a' = a ∧ i' = i then v else S.2.2.1 a' i') = (fun a' i' => if a' = a then upd (gr S a) i v i' else S.2.2.1 a' i') := by
    funext a' i'
    by_cases z : a' = a
    · subst z
      rw [if_pos rfl]
      show _ = (if i' = i then v else S.2.2.1 a' i')
      by_cases y : i' = i
      · rw [if_pos ⟨rfl, y⟩, if_pos y]
      · rw [if_neg (fun q => y q.2), if_neg y]
    · rw [if_neg (fun q => z q.1), if_neg z]
  show (S.1, S.2.1, _, S.2.2.2) = (S.1, S.2.1, _, S.2.2.2)
  rw [h]
theorem gup_q {cy : gY} {G : gG} {S : gS} {a i : Nat} (v : Option Nat) (e : va_E) (he : e = gce cy G (sq S a i v) a) (b : Nat) : va_up (gce cy G S) a e b = gce cy G (sq S a i v) b := by
  by_cases z : b = a
  · subst z; rw [he]; unfold va_up; rw [if_pos rfl]
  · rw [va_up_ne _ _ z]
    exact (gce_eq (S := S) (S' := sq S a i v) (fun _ => rfl) (fun _ => rfl) rfl (by funext j; rw [gq_sq, if_neg (fun q => z q.1)])).symm
-- locals: place by place what is known
def gl (ls : Array Slot) (nL : Nat) (lv : List (Option Value)) : Prop := ls.size = nL ∧ lv_wf ls ∧ lv.length = nL ∧ ∀ (i : Nat) (v : Value), lv[i]? = some (some v) → ls[i]? = some (.val v)
def gas (lv : List (Option Value)) : List (Nat × Value) := (List.range lv.length).filterMap (fun i => match lv[i]? with | some (some v) => some (i, v) | _ => none)
theorem gas_mem {lv : List (Option Value)} {i : Nat} {v : Value} : (i, v) ∈ gas lv ↔ lv[i]? = some (some v) := by
  unfold gas
  rw [List.mem_filterMap]
  constructor
  · rintro ⟨j, hj, h⟩
    split at h
    · rename_i w hw
      cases h
      exact hw
    · cases h
  · intro h
    refine ⟨i, List.mem_range.mpr (List.getElem?_eq_some_iff.mp h).1, ?_⟩
    rw [h]
theorem gl_has {ls : Array Slot} {nL : Nat} {lv : List (Option Value)} (h : gl ls nL lv) : lv_has ls nL (gas lv) := ⟨h.1, h.2.1, fun q hq => h.2.2.2 q.1 q.2 (gas_mem.mp hq)⟩
theorem gl_of {ls : Array Slot} {nL i : Nat} {lv : List (Option Value)} {v : Value} (hp : ∀ w, lv[i - 1]? = some (some w) → 0 < i → w.category = 1) (hi : i < nL) (hn : lv.length = nL) (h : lv_has ls nL ((i, v) :: (gas lv).filter (fun q => !(q.1 == i) && !(q.1 + 1 == i && q.2.category == 2)))) : gl ls nL (lv.set i (some v)) := by
  refine ⟨h.1, h.2.1, by rw [List.length_set]; exact hn, fun j w hj => ?_⟩
  rw [List.getElem?_set] at hj
  by_cases e : i = j
  · subst e
    rw [if_pos rfl] at hj
    split at hj
    · cases hj
      exact h.2.2 _ List.mem_cons_self
    · cases hj
  · rw [if_neg e] at hj
    refine h.2.2 (j, w) (List.mem_cons_of_mem _ (List.mem_filter.mpr ⟨gas_mem.mpr hj, ?_⟩))
    have h1 : (j == i) = false := by simpa using fun q : j = i => e q.symm
    have h2 : (j + 1 == i && w.category == 2) = false := by
      by_cases z : j + 1 = i
      · have : w.category = 1 := hp w (by rw [← z]; exact hj) (by omega)
        simp [this]
      · simp [z]
    simp [h1, h2]
theorem gl_sub {ls : Array Slot} {nL : Nat} {lv lv' : List (Option Value)} (h : gl ls nL lv) (hn : lv'.length = lv.length) (hs : ∀ (i : Nat) (v : Value), lv'[i]? = some (some v) → lv[i]? = some (some v)) : gl ls nL lv' := ⟨h.1, h.2.1, hn.trans h.2.2.1, fun i v hi => h.2.2.2 i v (hs i v hi)⟩
theorem gl_drop {ls : Array Slot} {nL : Nat} {lv : List (Option Value)} (k : Nat) (h : gl ls nL lv) : gl ls nL (lv.set k none) := gl_sub h (List.length_set ..) (fun i v hi => by
  rw [List.getElem?_set] at hi
  split at hi
  · split at hi <;> cases hi
  · exact hi)
theorem gl_entry {vs : List Value} {n : Nat} (hn : vs.length ≤ n) (h : (lg_sl vs).length ≤ n) (h1 : ∀ v ∈ vs, v.category = 1) : gl ((lg_sl vs ++ List.replicate (n - (lg_sl vs).length) Slot.unset).toArray) n (vs.map some ++ List.replicate (n - vs.length) none) := by
  obtain ⟨a, b, c⟩ := lv_entry vs h
  refine ⟨a, b, by simp; omega, fun i v hi => ?_⟩
  have hv : vs[i]? = some v := by
    rw [List.getElem?_append] at hi
    split at hi
    · rw [List.getElem?_map] at hi
      cases q : vs[i]? with
      | none => rw [q] at hi; cases hi
      | some w => rw [q] at hi; cases hi; rfl
    · rw [List.getElem?_replicate] at hi
      split at hi <;> cases hi
  have key : ∀ (us : List Value) (o i : Nat), (∀ v ∈ us, v.category = 1) → us[i]? = some v → (o + i, v) ∈ lv_args o us := by
    intro us
    induction us with
    | nil => intro o i _ q; simp at q
    | cons u us ih =>
      intro o i hc q
      have hu : u.category = 1 := hc u List.mem_cons_self
      cases i with
      | zero =>
        simp at q
        subst q
        unfold lv_args
        exact List.mem_cons_self
      | succ i =>
        have := ih (o + 1) i (fun w hw => hc w (List.mem_cons_of_mem _ hw)) (by simpa using q)
        unfold lv_args
        refine List.mem_cons_of_mem _ ?_
        rw [show o + (i + 1) = o + 1 + i by omega, hu]
        exact this
  have := c _ (key vs 0 i h1 hv)
  simpa using this
theorem lg_len : ∀ vs : List Value, (∀ v ∈ vs, v.category = 1) → (lg_sl vs).length = vs.length := by
  intro vs
  induction vs with
  | nil => intro _; rfl
  | cons v vs ih =>
    intro h
    have e := ih (fun w hw => h w (List.mem_cons_of_mem _ hw))
    unfold lg_sl at e ⊢
    rw [List.flatMap_cons, List.length_append, e, h v List.mem_cons_self]
    simp
    omega
