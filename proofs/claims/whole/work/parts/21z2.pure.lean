/-! scripts: both sides alike -/
theorem mErr_le : ∀ (f : Nat) (l : List Nat) (e : Nat), mErr f l = some e → e ≤ l.length := by
  intro f
  induction f with
  | zero => intro l e h; cases h
  | succ f ih =>
    intro l e h
    have hm := mN_len l
    rw [mErr] at h
    cases e1 : mOk l with
    | false =>
      rw [e1, if_neg (by decide)] at h
      cases h
      exact hm
    | true =>
      rw [e1, if_pos rfl] at h
      cases e2 : l.drop (mN l) with
      | nil => rw [e2] at h; cases h
      | cons c l' =>
        have e3 := congrArg List.length e2
        rw [List.length_drop, List.length_cons] at e3
        rw [e2] at h
        have h : (if c = 59 then (mErr f l').map (· + (mN l + 1)) else some (mN l)) = some e := h
        by_cases q : c = 59
        · rw [if_pos q] at h
          obtain ⟨e', g1, g2⟩ := Option.map_eq_some_iff.mp h
          have := ih l' e' g1
          omega
        · rw [if_neg q] at h
          cases h
          exact hm
def xEr (X : mX) (e : Nat) : mX := (X.1, (X.2.1.1, nI e, X.2.1.2.2), ([], X.2.2.2))
def xDn (X : mX) (M : mB) : mX := ((M, X.1.2.1, mPush X.1.2.2 X.1.1), X.2.1, ([], X.2.2.2))
def xFa (X : mX) (d : Nat) : mX := (X.1, (X.2.1.1, X.2.1.2.1, nI d), ([], X.2.2.2))
section DO
variable {G : gG} {S S' : gS} {T T1 : gT} {A : aW} {N : Nat} {X Y : mX} {sp : mB} {us : List mB} {has : Bool} {er fa v : Int32} {tx ou : List Nat}
theorem cO.I22 (h : cO S T A sp us has er fa tx ou) (hs : wSh G S A) (e : S' = sI S 22 (ax A) v) : cO S' T A sp us has v fa tx ou := by
  obtain ⟨h1, ⟨h2, h3, h4, h5⟩, ⟨p, p1, p2, p3, p4⟩, h6⟩ := h
  have f1 := (gFr.rfl' (S := S)).I' e (List.mem_cons_self (a := ax A) (l := []))
  have hx : ∀ b, b < 11 → ∀ a ∈ bFp (aB A b), a ∉ [ax A] := fun b hb a ha q => (hs.2.2.2.1 b hb).1 (by rw [List.mem_singleton.mp q] at ha; exact ha)
  refine ⟨fun q => (h1 q).fr f1 (hx 1 (by decide)), ⟨?_, ?_, ?_, ?_⟩, ⟨p, p1, p2, fun i hi => (f1.2.2 _ _).trans (p3 i hi), fun k M hk => ⟨(p4 k M hk).1, (p4 k M hk).2.fr f1 (hx _ (p1 k (by have := (p4 k M hk).1; omega)).2)⟩⟩, h6⟩
  · rw [e, gI_sI, if_neg (fun z => absurd z.1 (by decide))]; exact h2
  · rw [e, gI_sI, if_neg (fun z => absurd z.1 (by decide))]; exact h3
  · rw [e, gI_sI, if_pos ⟨rfl, rfl⟩]
  · rw [e, gI_sI, if_neg (fun z => absurd z.1 (by decide))]; exact h5
theorem cO.I23 (h : cO S T A sp us has er fa tx ou) (hs : wSh G S A) (e : S' = sI S 23 (ax A) v) : cO S' T A sp us has er v tx ou := by
  obtain ⟨h1, ⟨h2, h3, h4, h5⟩, ⟨p, p1, p2, p3, p4⟩, h6⟩ := h
  have f1 := (gFr.rfl' (S := S)).I' e (List.mem_cons_self (a := ax A) (l := []))
  have hx : ∀ b, b < 11 → ∀ a ∈ bFp (aB A b), a ∉ [ax A] := fun b hb a ha q => (hs.2.2.2.1 b hb).1 (by rw [List.mem_singleton.mp q] at ha; exact ha)
  refine ⟨fun q => (h1 q).fr f1 (hx 1 (by decide)), ⟨?_, ?_, ?_, ?_⟩, ⟨p, p1, p2, fun i hi => (f1.2.2 _ _).trans (p3 i hi), fun k M hk => ⟨(p4 k M hk).1, (p4 k M hk).2.fr f1 (hx _ (p1 k (by have := (p4 k M hk).1; omega)).2)⟩⟩, h6⟩
  · rw [e, gI_sI, if_neg (fun z => absurd z.1 (by decide))]; exact h2
  · rw [e, gI_sI, if_neg (fun z => absurd z.1 (by decide))]; exact h3
  · rw [e, gI_sI, if_neg (fun z => absurd z.1 (by decide))]; exact h4
  · rw [e, gI_sI, if_pos ⟨rfl, rfl⟩]
theorem cO.tt (h : cO S T A sp us has er fa tx ou) (hT : tP T1 A [] ou) : cO S T1 A sp us has er fa [] ou := ⟨h.1, h.2.1, h.2.2.1, hT⟩
/-- the reference's part is left alone -/
def rKp (A : aW) (S S' : gS) : Prop := (∀ f, gI S' f (am A) = gI S f (am A)) ∧ ∀ j, j < 7 → gr S' (ar A j) = gr S (ar A j)
theorem rKp.trans {S1 S2 S3 : gS} (h1 : rKp A S1 S2) (h2 : rKp A S2 S3) : rKp A S1 S3 := ⟨fun f => (h2.1 f).trans (h1.1 f), fun j hj => (h2.2 j hj).trans (h1.2 j hj)⟩
theorem rKp.ofb (hs : wSh G S A) {S1 S2 : gS} {b : Nat} (hb : b < 11) (f : gFr (bFp (aB A b)) S1 S2) : rKp A S1 S2 := ⟨fun g => (f.1 _ (hs.2.2.2.1 b hb).2.1).1 g, fun j hj => funext fun i => (f.1 _ ((hs.2.2.2.1 b hb).2.2.2.2 j hj)).2 i⟩
theorem rKp.ofx (hs : wSh G S A) {S1 S2 : gS} (f : gFh A [ax A] S1 S2) : rKp A S1 S2 :=
  ⟨fun g => (f.1 _ (by simp [hs.2.2.2.2.1.1.symm])).1 g, fun j hj => funext fun i => (f.1 _ (by simp [hs.2.2.2.2.2.2.2.2.2.2.2.2.2 j hj])).2 i⟩
theorem rKp.R {M : mB} (h : rKp A S S') (hR : rowR (gr S (ar A 0)) M) : rowR (gr S' (ar A 0)) M := by rw [h.2 0 (by decide)]; exact hR
theorem rKp.O (h : rKp A S S') (hO : mO S A sp us has er fa tx ou) : mO S' A sp us has er fa tx ou := hO.ext (fun f _ => h.1 f) (fun j hj => h.2 j (by omega))
theorem wX.text (h : wX N X) : X.2.2.1.length ≤ 60 ∧ (∀ c ∈ X.2.2.1, c < 128) := by
  obtain ⟨-, -, -, -, -, ⟨h1, h2⟩, -⟩ := h
  exact ⟨h1, fun c hc => by have := h2 c hc; omega⟩
theorem c_script (h : wC G S T A X Y) (hW : wX N X) (hN : N + 40000 ≤ 2 ^ 30) : (∀ e, mErr 100 X.2.2.1 = some e → wp (f_X5_runScript G (ax A) S T) (fun y => y.1 = .inl "java/lang/IllegalArgumentException" ∧ wC G y.2.1 y.2.2 A (xEr X e) Y)) ∧
    (mErr 100 X.2.2.1 = none → wp (f_X5_runScript G (ax A) S T) (fun y => ((mRun 100 X.2.2.1 X.1.1).2.2 = true → y.1 = .inr (nI (mRun 100 X.2.2.1 X.1.1).2.1) ∧ wC G y.2.1 y.2.2 A (xDn X (mRun 100 X.2.2.1 X.1.1).1) Y) ∧ ((mRun 100 X.2.2.1 X.1.1).2.2 = false → y.1 = .inl "java/lang/IllegalStateException" ∧ wC G y.2.1 y.2.2 A (xFa X (mRun 100 X.2.2.1 X.1.1).2.1) Y))) := by
  obtain ⟨hl, hc⟩ := hW.text
  have hP := h.P
  have hn := h.1.1.2.2.2.2.2.2.2.2
  have hP0 : tP (ts T (at1 A) []) A [] X.2.2.2 := hP.put1 hn (by decide) (by show 0 ≤ _; omega)
  have s8 := h.1.1.2.2.2.2.2.2.1
  have ee : f_X5_findFormError G (ax A) S T = some (match mErr 100 X.2.2.1 with | none => -1 | some e => nI e) := by
    rw [c_err h.1 hP.1 hl hc, mErr_fuel gN 100 _ (by rw [gN_e]; omega) (by omega)]
    cases mErr 100 X.2.2.1 <;> rfl
  obtain ⟨h1, ⟨h2, h3⟩, h4, h5⟩ := h
  obtain ⟨w1, w2, ⟨w3, w3'⟩, w4⟩ := hW
  constructor
  · intro e he
    have hle := mErr_le _ _ _ he
    rw [he] at ee
    have ee : f_X5_findFormError G (ax A) S T = some (nI e) := ee
    unfold f_X5_runScript
    refine wp_gd h1.1.1 (wp_gb ee (wp_f (nI_ne1 (by omega)) (wp_gb s8 (wp_gb hP.1 (wp_glt (fun T1 e1 => wp_glt (fun S1 e2 => wp_ret ?_)))))))
    have f1 := (gFr.rfl' (S := S)).I' e2 (List.mem_cons_self (a := ax A) (l := []))
    have kp := rKp.ofx h1 f1.h
    have hx : ∀ b, b < 11 → ∀ a ∈ bFp (aB A b), a ∉ [ax A] := fun b hb a ha q => (h1.2.2.2.1 b hb).1 (by rw [List.mem_singleton.mp q] at ha; exact ha)
    refine ⟨rfl, h1.fr f1, ⟨h2.fr f1 (hx 0 (by decide)), ?_⟩, kp.R h4, kp.O h5⟩
    show cO S1 T1 A _ _ _ _ _ _ _
    rw [e1]
    exact (h3.I22 h1 e2).tt hP0
  · intro he
    rw [he] at ee
    have ee : f_X5_findFormError G (ax A) S T = some (-1) := ee
    unfold f_X5_runScript
    refine wp_gd h1.1.1 (wp_gb ee (wp_t rfl (wp_gbw (c_keep h1 h2 w1 h3 w3) ?_)))
    rintro S1 ⟨r1, r2, ⟨p, p1, p2, p3, p4, p5⟩, b1, hb1, hb2, f1⟩
    have s1 := h1.fr f1
    have k1 := rKp.ofb h1 hb2 f1
    refine wp_gb (c_cnt s1 hP.1 hl hc) ?_
    have hb0 : ∀ b, 1 ≤ b → b < 11 → ∀ a ∈ bFp (aB A b), a ∉ bFp (aB A 0) := fun b q1 q2 => h1.sep q2 (by decide) (by omega)
    have hp := p1 X.1.2.2.length (by omega)
    have r6 : ∀ S', gFr (bFp (aB A 0)) S1 S' → ∃ p : Nat → Nat, (∀ i, i < 9 → 2 ≤ p i ∧ p i < 11) ∧ (∀ i j, i < 9 → j < 9 → i ≠ j → p i ≠ p j) ∧ (∀ i, i < 9 → gq S' (ah A) i = some (aB A (p i)).1) ∧ (∀ (k : Nat) (M : mB), X.1.2.2[k]? = some M → k < 8 ∧ bR S' (aB A (p k)) M) ∧ bR S' (aB A (p X.1.2.2.length)) X.1.1 := fun S' f2 => by
      refine ⟨p, p1, p2, fun i hi => (f2.2.2 _ _).trans (p3 i hi), fun j M hj => ?_, p5.fr f2 (hb0 _ (by omega) hp.2)⟩
      have hj1 := (p4 j M hj).1
      have hpj := p1 j (by omega)
      exact ⟨hj1, (p4 j M hj).2.fr f2 (hb0 _ (by omega) hpj.2)⟩
    have hkk := mK_le hl
    have e0 : nI (1 + cs9 X.2.2.1) = nI (0 + (1 + cs9 (X.2.2.1.drop 0))) := by rw [Nat.zero_add, List.drop_zero]
    rw [e0]
    refine c_run_L hP.1 hl hc 100 gN 0 0 X.1.1 N S1 s1 r1 w1 (by show N + mK (X.2.2.1.length - 0) ≤ _; rw [Nat.sub_zero]; omega) (Nat.zero_le _) (by decide) (by omega) (by rw [gN_e]; decide) (Nat.le_refl _) (by rw [List.drop_zero]; exact he) ?_ ?_
    · rw [List.drop_zero, Nat.zero_add]
      intro S2 g1 f2 g2
      have s2 := s1.fr f2
      have r5 := r2.fh f2 (h1.2.2.2.1 0 (by decide)).1 hb0
      refine wp_gbw (c_countC s2 r5 w3 (r6 S2 f2)) ?_
      rintro S3 ⟨r7, f3⟩
      have kp := (k1.trans (rKp.ofb h1 (by decide) f2)).trans (rKp.ofx h1 f3)
      refine wp_ret ⟨fun _ => ⟨rfl, s2.fh f3, ⟨g2.fh f3 (fun a ha q => (h1.2.2.2.1 0 (by decide)).1 (by rw [List.mem_singleton.mp q] at ha; exact ha)), r7.tt hP0⟩, kp.R h4, kp.O h5⟩, fun z => by rw [g1] at z; cases z⟩
    · rw [List.drop_zero, Nat.zero_add]
      intro S2 g1 f2
      have s2 := s1.fr f2
      have r5 := r2.fh f2 (h1.2.2.2.1 0 (by decide)).1 hb0
      obtain ⟨p', q1, q2, q3, q4, q5⟩ := r6 S2 f2
      refine wp_gbw (c_back s2 r5 (cur := X.1.1) w1 r5.2.1.1 w3 ⟨p', q1, q3, q5⟩) ?_
      rintro S3 ⟨g3, f3⟩
      have s3 := s2.fr f3
      refine wp_glt (fun S4 e4 => wp_ret ⟨fun z => (by rw [g1] at z; cases z), fun _ => ⟨rfl, ?_⟩⟩)
      have f4 := (gFr.rfl' (S := S3)).I' e4 (List.mem_cons_self (a := ax A) (l := []))
      have kp := ((k1.trans (rKp.ofb h1 (by decide) f2)).trans (rKp.ofb h1 (by decide) f3)).trans (rKp.ofx h1 f4.h)
      have hx : ∀ b, b < 11 → ∀ a ∈ bFp (aB A b), a ∉ [ax A] := fun b hb a ha q => (h1.2.2.2.1 b hb).1 (by rw [List.mem_singleton.mp q] at ha; exact ha)
      refine ⟨s3.fr f4, ⟨g3.fr f4 (hx 0 (by decide)), ?_⟩, kp.R h4, kp.O h5⟩
      exact ((r5.fh f3 (h1.2.2.2.1 0 (by decide)).1 hb0).I23 s3 e4).tt hP0
/-- the reference's half -/
theorem mO.mv (h : mO S A sp us has er fa tx ou) {er' fa' : Int32} {tx' : List Nat} (hI : ∀ f, f = 31 ∨ f = 32 ∨ f = 33 ∨ f = 34 → gI S' f (am A) = gI S f (am A)) (hr : ∀ j, j = 1 ∨ j = 2 ∨ j = 4 ∨ j = 5 → gr S' (ar A j) = gr S (ar A j)) (h35 : gI S' 35 (am A) = nI tx'.length) (h37 : gI S' 37 (am A) = er') (h38 : gI S' 38 (am A) = fa') (ht : tx' = [] ∨ tx' = tx) : mO S' A sp us has er' fa' tx' ou := by
  obtain ⟨m1, ⟨n1, n2, n3, n4, n5, n6⟩, ⟨fc, f1, f2, f3⟩, m4, m5⟩ := h
  refine ⟨?_, ⟨?_, ?_, h37, h38, h35, ?_⟩, ⟨fc, f1, ?_, ?_⟩, ?_, ?_⟩
  · rw [hr 2 (by omega)]; exact m1
  · rw [hI 31 (by omega)]; exact n1
  · rw [hI 33 (by omega)]; exact n2
  · rw [hI 34 (by omega)]; exact n6
  · rw [hI 32 (by omega)]; exact f2
  · rw [hr 1 (by omega)]; exact f3
  · rcases ht with rfl | rfl
    · intro k c hk; cases hk
    · rw [hr 5 (by omega)]; exact m4
  · rw [hr 4 (by omega)]; exact m5
theorem q_script {Z : mX} (hc : wC G S T A Z X) (hW : wX N X) (hN : N + 40000 ≤ 2 ^ 30) : (∀ e, mErr 100 X.2.2.1 = some e → ∃ S2, f_X6_runScript G (am A) S = some (0, S2) ∧ wC G S2 T A Z (xEr X e) ∧ oK A S S2 ∧ gI S2 30 (am A) = 1) ∧
    (mErr 100 X.2.2.1 = none → wp (f_X6_runScript G (am A) S) (fun y => oK A S y.2 ∧ ((mRun 100 X.2.2.1 X.1.1).2.2 = true → y.1 = nI (mRun 100 X.2.2.1 X.1.1).2.1 ∧ wC G y.2 T A Z (xDn X (mRun 100 X.2.2.1 X.1.1).1) ∧ gI y.2 30 (am A) = 0) ∧ ((mRun 100 X.2.2.1 X.1.1).2.2 = false → y.1 = 0 ∧ wC G y.2 T A Z (xFa X (mRun 100 X.2.2.1 X.1.1).2.1) ∧ gI y.2 30 (am A) = 2))) := by
  obtain ⟨hl, hcc⟩ := hW.text
  obtain ⟨w1, w2, ⟨w3, w3'⟩, w4⟩ := hW
  obtain ⟨S1, e1⟩ : ∃ S1, S1 = sI S 30 (am A) 0 := ⟨_, rfl⟩
  have c1 := hc.I e1 (Or.inl rfl)
  obtain ⟨S2, e2⟩ : ∃ S2, S2 = sI S1 36 (am A) 0 := ⟨_, rfl⟩
  have ok1 : oK A S S1 := by rw [e1]; exact oK.I
  have ok12 : oK A S1 S2 := by rw [e2]; exact oK.I
  have ok2 := ok1.trans ok12
  have c2 := c1.I e2 (Or.inr (Or.inl rfl))
  have m2 := c2.m
  have i30 : gI S2 30 (am A) = 0 := by rw [e2, gI_sI, if_neg (fun z => absurd z.1 (by decide)), e1]; exact th_at
  obtain ⟨o1, ⟨o2, o3, o4, o5, o6, o7⟩, o8, o9, o10⟩ := id c2.2.2.2
  have t2 : qT G S2 (am A) (ar A) X.2.2.1 := ⟨m2, o6, o9, hl, hcc⟩
  obtain ⟨⟨b, S3⟩, a1, p', s', w', a2, a3, a4⟩ := q_all_L t2 100 gN 0 _ _ S2 (qP.rf (by rw [e2, gI_sI, if_pos ⟨rfl, rfl⟩]; rfl)) (Nat.zero_le _) (by omega) (by rw [gN_e]; decide)
  rw [List.drop_zero] at a3 a4
  have a2 : qP S2 (am A) (ar A) p' s' w' S3 := a2
  have rj3 : ∀ j, j < 6 → gr S3 (ar A j) = gr S2 (ar A j) := fun j hj => by
    have z1 := mSh.ne m2 (show j < 7 by omega)
    have z2 := m2.2.2 j 6 (by omega) (by decide) (by omega)
    exact funext fun i => (a2.1.1 _ (by simp [z1, z2])).2 i
  have all : f_X6_readsAll G (am A) S1 = some (b, S3) := by
    unfold f_X6_readsAll
    rw [gd_i hc.m.1, glt_S, ← e2]
    exact a1
  constructor
  · intro e he
    obtain ⟨g1, g2⟩ := a4 e he
    have g1 : b = false := g1
    subst g1
    have g2 : p' = e := by omega
    obtain ⟨S4, e4⟩ : ∃ S4, S4 = sI S3 37 (am A) (nI e) := ⟨_, rfl⟩
    obtain ⟨S5, e5⟩ : ∃ S5, S5 = sI S4 35 (am A) 0 := ⟨_, rfl⟩
    obtain ⟨S6, e6⟩ : ∃ S6, S6 = sI S5 30 (am A) 1 := ⟨_, rfl⟩
    have fr : gFr [am A, ar A 6] S2 S6 := ((a2.1.I' e4 (by simp)).I' e5 (by simp)).I' e6 (by simp)
    have rj : ∀ j, j < 6 → gr S6 (ar A j) = gr S2 (ar A j) := fun j hj => by
      rw [e6, e5, e4]
      exact rj3 j hj
    have iN : ∀ f, f ≠ 37 → f ≠ 35 → f ≠ 30 → gI S6 f (am A) = gI S3 f (am A) := fun f f1 f2 f3 => by
      rw [e6, gI_sI, if_neg (fun z => f3 z.1), e5, gI_sI, if_neg (fun z => f2 z.1), e4, gI_sI, if_neg (fun z => f1 z.1)]
    have hin : ∀ a ∈ [am A, ar A 6], a = am A ∨ ∃ j, j < 7 ∧ a = ar A j := fun a ha => by
      rcases List.mem_cons.mp ha with z | z
      · exact Or.inl z
      · exact Or.inr ⟨6, by decide, List.mem_singleton.mp z⟩
    refine ⟨S6, ?_, c2.ref (Z := xEr X e) fr hin ?_ ?_, ok2.trans (oK.ref c2.1 fr hin), ?_⟩
    · unfold f_X6_runScript
      rw [gd_i hc.m.1, ← e1, glt_S, all, gb2_S, if_pos (show gz false = 0 from rfl), a2.2.2.1, g2, ← e4, glt_S, ← e5, glt_S, fails_eq hc.m.1, gb2_S, ← e6]
    · rw [rj 0 (by decide)]; exact c2.2.2.1
    · refine c2.2.2.2.mv (fun f hf => ?_) (fun j hj => rj j (by omega)) ?_ ?_ ?_ (Or.inl rfl)
      · rw [iN f (by omega) (by omega) (by omega)]
        exact a2.2.1 f (by omega) (by omega)
      · rw [e6, gI_sI, if_neg (fun z => absurd z.1 (by decide)), e5, gI_sI, if_pos ⟨rfl, rfl⟩]; rfl
      · rw [e6, gI_sI, if_neg (fun z => absurd z.1 (by decide)), e5, gI_sI, if_neg (fun z => absurd z.1 (by decide)), e4, gI_sI, if_pos ⟨rfl, rfl⟩]; rfl
      · rw [iN 38 (by decide) (by decide) (by decide), a2.2.1 38 (by decide) (by decide)]; exact o5
    · rw [e6]; exact th_at
  · intro he
    have g1 : b = true := a3 he
    subst g1
    have m3 : mSh G S3 (am A) (ar A) := m2.fr a2.1
    have R3 : rowR (gr S3 (ar A 0)) X.1.1 := by rw [rj3 0 (by decide)]; exact c2.2.2.1
    unfold f_X6_runScript
    rw [gd_i hc.m.1, ← e1, glt_S, all, gb2_S, if_neg (show ¬ gz true = 0 by decide)]
    refine wp_gbw (q_copies m3 w1 R3) ?_
    rintro S4 ⟨w4', e4, r4⟩
    have n3 : ∀ j, j < 7 → j ≠ 3 → gr S4 (ar A j) = gr S3 (ar A j) := fun j hj h3 => by rw [e4]; exact gr_other _ (m3.2.2 j 3 hj (by decide) h3)
    have m4 : mSh G S4 (am A) (ar A) := by rw [e4]; exact m3.row
    obtain ⟨S5, e5⟩ : ∃ S5, S5 = sI S4 40 (am A) 0 := ⟨_, rfl⟩
    obtain ⟨S6, e6⟩ : ∃ S6, S6 = sI S5 36 (am A) 0 := ⟨_, rfl⟩
    have m6 : mSh G S6 (am A) (ar A) := by rw [e6, e5]; exact (m4.I).I
    have i36 : gI S6 36 (am A) = nI 0 := by rw [e6, gI_sI, if_pos ⟨rfl, rfl⟩]; rfl
    have i40 : gI S6 40 (am A) = nI 0 := by rw [e6, gI_sI, if_neg (fun z => absurd z.1 (by decide)), e5, gI_sI, if_pos ⟨rfl, rfl⟩]; rfl
    have iN : ∀ f, f ≠ 36 → f ≠ 39 → f ≠ 40 → gI S6 f (am A) = gI S2 f (am A) := fun f f1 f2 f3 => by
      rw [e6, gI_sI, if_neg (fun z => f1 z.1), e5, gI_sI, if_neg (fun z => f3 z.1), e4]
      exact a2.2.1 f f1 f2
    have rj6 : ∀ j, j < 6 → j ≠ 3 → gr S6 (ar A j) = gr S2 (ar A j) := fun j hj h3 => by
      rw [e6, e5]
      exact (n3 j (by omega) h3).trans (rj3 j hj)
    have t6 : qT G S6 (am A) (ar A) X.2.2.1 := ⟨m6, (iN 35 (by decide) (by decide) (by decide)).trans o6, fun k c hk => by rw [rj6 5 (by decide) (by decide)]; exact o9 k c hk, hl, hcc⟩
    have R6 : rowR (gr S6 (ar A 0)) X.1.1 := by rw [rj6 0 (by decide) (by decide)]; exact c2.2.2.1
    have hkk := mK_le hl
    obtain ⟨⟨b2, S7⟩, d1, d2, d3, d4, d5, d6⟩ := q_run_L (Sb := S6) 100 gN 0 0 X.1.1 N S6 t6 i36 i40 R6 w1 (by rw [Nat.sub_zero]; omega) (Nat.zero_le _) (by omega) (by rw [gN_e]; decide) (by rw [List.drop_zero]; exact he) gFr.rfl' (fun _ _ _ _ => rfl)
    rw [List.drop_zero] at d2 d3 d4
    rw [Nat.zero_add] at d3
    have d2 : b2 = (mRun 100 X.2.2.1 X.1.1).2.2 := d2
    have d3 : gI S7 40 (am A) = nI (mRun 100 X.2.2.1 X.1.1).2.1 := d3
    have d4 : b2 = true → rowR (gr S7 (ar A 0)) (mRun 100 X.2.2.1 X.1.1).1 := d4
    have d5 : gFr [am A, ar A 0, ar A 6] S6 S7 := d5
    have d6 : ∀ f, f ≠ 36 → f ≠ 39 → f ≠ 40 → gI S7 f (am A) = gI S6 f (am A) := d6
    have all2 : f_X6_doesAll G (am A) S4 = some (b2, S7) := by
      unfold f_X6_doesAll
      rw [gd_i hc.m.1, ← e5, glt_S, ← e6, glt_S]
      exact d1
    have rj7 : ∀ j, j < 6 → j ≠ 0 → gr S7 (ar A j) = gr S6 (ar A j) := fun j hj h3 => by
      have z1 := mSh.ne m2 (show j < 7 by omega)
      have z2 := m2.2.2 j 6 (by omega) (by decide) (by omega)
      have z3 := m2.2.2 j 0 (by omega) (by decide) h3
      exact funext fun i => (d5.1 _ (by simp [z1, z2, z3])).2 i
    rw [all2, gb2_S]
    refine wp_glt (fun x ex => wp_glt (fun S8 e8 => ?_))
    have m8 : mSh G S8 (am A) (ar A) := by rw [e8]; exact (m6.fr d5).I
    have f8 : gFr [am A, ar A 0, ar A 6, ar A 3, ar A 1] S2 S8 := by
      have q1 : gFr [am A, ar A 0, ar A 6, ar A 3, ar A 1] S2 S3 := a2.1.mono (fun a ha => by rcases List.mem_cons.mp ha with z | z; (rw [z]; simp); (rw [List.mem_singleton.mp z]; simp))
      have q2 := ((q1.row' e4 (by simp)).I' e5 (by simp)).I' e6 (by simp)
      exact (q2.trans (d5.mono (fun a ha => by
        rcases List.mem_cons.mp ha with z | z
        · rw [z]; simp
        · rcases List.mem_cons.mp z with z | z
          · rw [z]; simp
          · rw [List.mem_singleton.mp z]; simp))).I' e8 (by simp)
    have hin : ∀ a ∈ [am A, ar A 0, ar A 6, ar A 3, ar A 1], a = am A ∨ ∃ j, j < 7 ∧ a = ar A j := fun a ha => by
      rcases List.mem_cons.mp ha with z | z
      · exact Or.inl z
      · rcases List.mem_cons.mp z with z | z
        · exact Or.inr ⟨0, by decide, z⟩
        · rcases List.mem_cons.mp z with z | z
          · exact Or.inr ⟨6, by decide, z⟩
          · rcases List.mem_cons.mp z with z | z
            · exact Or.inr ⟨3, by decide, z⟩
            · exact Or.inr ⟨1, by decide, List.mem_singleton.mp z⟩
    have i8 : ∀ f, f ≠ 35 → f ≠ 36 → f ≠ 39 → f ≠ 40 → gI S8 f (am A) = gI S2 f (am A) := fun f f0 f1 f2 f3 => by
      rw [e8, gI_sI, if_neg (fun z => f0 z.1)]
      exact (d6 f f1 f2 f3).trans (iN f f1 f2 f3)
    have j8 : gI S8 40 (am A) = nI (mRun 100 X.2.2.1 X.1.1).2.1 := by rw [e8, gI_sI, if_neg (fun z => absurd z.1 (by decide))]; exact d3
    have r8 : ∀ j, j < 6 → j ≠ 0 → j ≠ 3 → gr S8 (ar A j) = gr S2 (ar A j) := fun j hj h0 h3 => by
      rw [e8]
      exact (rj7 j hj h0).trans (rj6 j hj h3)
    have r83 : rowR (gr S8 (ar A 3)) X.1.1 := by
      have : gr S8 (ar A 3) = w4' := by
        rw [e8]
        refine (rj7 3 (by decide) (by decide)).trans ?_
        rw [e6, e5, e4]
        exact gr_same _ _ _
      rw [this]
      exact r4
    have O8 : mO S8 A X.1.2.1 X.1.2.2 X.2.1.1 X.2.1.2.1 X.2.1.2.2 [] X.2.2.2 := by
      refine c2.2.2.2.mv (fun f hf => i8 f (by omega) (by omega) (by omega) (by omega)) (fun j hj => r8 j (by omega) (by omega) (by omega)) ?_ ?_ ?_ (Or.inl rfl)
      · rw [e8, gI_sI, if_pos ⟨rfl, rfl⟩]; rfl
      · rw [i8 37 (by decide) (by decide) (by decide) (by decide)]; exact o4
      · rw [i8 38 (by decide) (by decide) (by decide) (by decide)]; exact o5
    cases b2 with
    | true =>
      refine wp_f (by rw [ex]; decide) (wp_gbw (q_keeps m8 O8 w3 w1 w3' r83) ?_)
      rintro S9 ⟨g1, g2, g3, g4⟩
      have f9 := f8.trans (g2.mono (fun a ha => by
        rcases List.mem_cons.mp ha with z | z
        · rw [z]; simp
        · rw [List.mem_singleton.mp z]; simp))
      refine wp_ret ⟨ok2.trans (oK.ref c2.1 f9 hin), fun _ => ⟨?_, c2.ref (Z := xDn X (mRun 100 X.2.2.1 X.1.1).1) f9 hin ?_ g1, ?_⟩, fun z => by rw [← d2] at z; cases z⟩
      · show gI S9 40 (am A) = _
        rw [g3 40 (by decide) (by decide)]
        exact j8
      · rw [g4 0 (m2.2.2 0 1 (by decide) (by decide) (by decide)), e8]
        exact d4 rfl
      · show gI S9 30 (am A) = 0
        rw [g3 30 (by decide) (by decide), i8 30 (by decide) (by decide) (by decide) (by decide)]
        exact i30
    | false =>
      refine wp_t (by rw [ex]; rfl) (wp_gbw (q_goesBack_L gN 0 S8 m8 (by decide) (by rw [gN_e]; decide)) ?_)
      rintro S9 ⟨f9, e9, g9⟩
      have R9 : rowR f9 X.1.1 := r83.cong w1.1.2 w1.lenc (fun j hj => by have := g9.1 j (Nat.zero_le _) hj; rw [Nat.zero_add] at this; exact this)
      have j9 : gI S9 40 (am A) = nI (mRun 100 X.2.2.1 X.1.1).2.1 := by rw [e9]; exact j8
      rw [j9]
      refine wp_glt (fun S10 e10 => ?_)
      obtain ⟨S11, e11⟩ : ∃ S11, S11 = sI S10 30 (am A) 2 := ⟨_, rfl⟩
      have f11 := ((f8.row' e9 (by simp)).I' e10 (by simp)).I' e11 (by simp)
      refine wp_gb2 (fails_eq m8.1) (wp_ret ⟨ok2.trans (by rw [← e11]; exact oK.ref c2.1 f11 hin), fun z => (by rw [← d2] at z; cases z), fun _ => ⟨rfl, ?_, th_at⟩⟩)
      show wC G (sI S10 30 (am A) 2) T A Z _
      rw [← e11]
      have i11 : ∀ f, f ≠ 30 → f ≠ 38 → gI S11 f (am A) = gI S8 f (am A) := fun f f1 f2 => by
        rw [e11, gI_sI, if_neg (fun z => f1 z.1), e10, gI_sI, if_neg (fun z => f2 z.1), e9]
        rfl
      have r11 : ∀ j, j < 6 → j ≠ 0 → gr S11 (ar A j) = gr S8 (ar A j) := fun j hj h0 => by
        rw [e11, e10, e9]
        exact gr_other _ (m2.2.2 j 0 (by omega) (by decide) h0)
      refine c2.ref (Z := xFa X (mRun 100 X.2.2.1 X.1.1).2.1) f11 hin ?_ ?_
      · have : gr S11 (ar A 0) = f9 := by rw [e11, e10, e9]; exact gr_same _ _ _
        rw [this]
        exact R9
      · refine O8.mv (fun f hf => i11 f (by omega) (by omega)) (fun j hj => r11 j (by omega) (by omega)) ?_ ?_ ?_ (Or.inl rfl)
        · rw [i11 35 (by decide) (by decide)]; exact O8.2.1.2.2.2.2.1
        · rw [i11 37 (by decide) (by decide)]; exact O8.2.1.2.2.1
        · rw [e11, gI_sI, if_neg (fun z => absurd z.1 (by decide)), e10, gI_sI, if_pos ⟨rfl, rfl⟩]; rfl
theorem x_script (h : wR G S T A N X) (hN : N + 40000 ≤ 2 ^ 30) : tStep G T A N X ["java/lang/IllegalArgumentException", "java/lang/IllegalStateException"] (fun res S1 T1 => f_X5_runScript G (ax A) S T = some (res, S1, T1)) (fun S' b S2 => f_X6_runScript G (am A) S' = some (b, S2)) := by
  obtain ⟨hc, hW⟩ := h
  obtain ⟨hl, hcc⟩ := hW.text
  obtain ⟨c1, c2⟩ := c_script hc hW hN
  have hkk := mK_le hl
  obtain ⟨w1, w2, w3, w4, w5, w6, w7⟩ := hW.mono (show N ≤ N + 40000 by omega)
  have t0 : ([] : List Nat).length ≤ 60 ∧ ∀ c ∈ ([] : List Nat), 32 ≤ c ∧ c ≤ 126 := ⟨by decide, fun c hc => by cases hc⟩
  cases he : mErr 100 X.2.2.1 with
  | some e =>
    have hle := mErr_le _ _ _ he
    obtain ⟨⟨r, S1, T1⟩, a1, a2, a3⟩ := c1 e he
    have a2 : r = .inl "java/lang/IllegalArgumentException" := a2
    have a3 : wC G S1 T1 A (xEr X e) X := a3
    subst a2
    refine ⟨_, S1, T1, xEr X e, a1, ⟨w1, w2, w3, Or.inr (nI_pos' (by omega)), w5, t0, w7⟩, a3, fun S' hc' => ?_⟩
    obtain ⟨S2, b1, b2, bk, b3⟩ := (q_script hc' hW hN).1 e he
    exact ⟨0, S2, b1, b2, bk, 0, rfl, b3⟩
  | none =>
    obtain ⟨⟨r, S1, T1⟩, a1, a2, a3⟩ := c2 he
    cases hr : (mRun 100 X.2.2.1 X.1.1).2.2 with
    | true =>
      obtain ⟨a4, a5⟩ := a2 hr
      have a4 : r = .inr (nI (mRun 100 X.2.2.1 X.1.1).2.1) := a4
      have a5 : wC G S1 T1 A (xDn X (mRun 100 X.2.2.1 X.1.1).1) X := a5
      subst a4
      refine ⟨_, S1, T1, xDn X (mRun 100 X.2.2.1 X.1.1).1, a1, ⟨(bW_run 100 _ _ _ hW.1 (by omega)).mono (by omega), w2, ⟨mPush_len w3.1, fun M hm => ?_⟩, w4, w5, t0, w7⟩, a5, fun S' hc' => ?_⟩
      · rcases mPush_mem hm with q | q
        · exact w3.2 M q
        · rw [q]; exact w1
      · obtain ⟨⟨b, S2⟩, b1, bk, b2, -⟩ := (q_script hc' hW hN).2 he
        obtain ⟨b3, b4, b5⟩ := b2 hr
        exact ⟨b, S2, b1, b4, bk, b5, b3⟩
    | false =>
      obtain ⟨a4, a5⟩ := a3 hr
      have a4 : r = .inl "java/lang/IllegalStateException" := a4
      have a5 : wC G S1 T1 A (xFa X (mRun 100 X.2.2.1 X.1.1).2.1) X := a5
      subst a4
      have hd := mRun_done 100 X.2.2.1 X.1.1
      refine ⟨_, S1, T1, xFa X (mRun 100 X.2.2.1 X.1.1).2.1, a1, ⟨w1, w2, w3, w4, Or.inr (nI_pos' (by omega)), t0, w7⟩, a5, fun S' hc' => ?_⟩
      obtain ⟨⟨b, S2⟩, b1, bk, -, b2⟩ := (q_script hc' hW hN).2 he
      obtain ⟨b3, b4, b5⟩ := b2 hr
      exact ⟨b, S2, b1, b4, bk, 1, rfl, b5⟩
end DO
