/-! constants: statics, enum constants and their fields, rows of constants; texts; results that may be exceptions -/
def glst (k : Nat) : Int32 := ([5, 10, 10, 5, 6, 10, 8, 4] : List Int32).getD k 0
def gfl (k : Nat) : Nat := (gForms.map List.length).getD k 0
def gfc (k i : Nat) : Int32 := (gForms.getD k []).getD i 0
theorem x_gst {K : gKx} {PX : va_W} {G : gG} {pc idx : Nat} {lv : List (Option Value)} {st : List Value} {S : gS} {T : gT} {c0 s0 d : Nat} {own C n dd : String} {cc : ByteArray} {v : Value} (g : Gd K own cc d) (hdg : decode cc pc = .ok (.getstatic idx, 3)) (hZ : va_Z C n dd v (kA K) (ks K) (ks K).heap) (hlk : Cond.fieldLink own idx C n dd ∈ lw_tbl) (k : Xj K PX G (pc + 3) lv (v :: st) S T c0 s0) : Xj K PX G pc lv st S T c0 s0 :=
  fun H locs cells slots ls Z h => va_gets g.1.1 g.1.2.1 hZ h.2.2.2.1 g.1.2.2.2.1 (g.tb hlk rfl) (fun _ h => h) hdg (k H locs cells slots ls Z h)
theorem x_gcf {K : gKx} {PX : va_W} {G : gG} {pc idx q : Nat} {lv : List (Option Value)} {st : List Value} {S : gS} {T : gT} {c0 s0 d : Nat} {own o n dd : String} {cc : ByteArray} {v : Value} (g : Gd K own cc d) (hdg : decode cc pc = .ok (.getfield idx, 3)) (hE : va_OF o n dd v q (kA K) (ks K) (ks K).heap) (hlk : Cond.fieldLink own idx o n dd ∈ lw_tbl) (k : Xj K PX G (pc + 3) lv (v :: st) S T c0 s0) : Xj K PX G pc lv (.ref q :: st) S T c0 s0 :=
  fun H locs cells slots ls Z h => vk_getf g.1.1 g.1.2.1 hE h.2.2.2.1 g.1.2.2.2.1 (g.tb hlk rfl) (fun _ h => h) hdg (k H locs cells slots ls Z h)
section HZ
variable {K : gKx} {own : String} {cc : ByteArray} {d : Nat}
theorem hzC (g : Gd K own cc d) (k : Nat) (hk : k < 8) : va_Z "UmbrellaSchool$Command" (gCmds.getD k "") "LUmbrellaSchool$Command;" (.ref ((ky K).2 k)) (kA K) (ks K) (ks K).heap := (g.2.2.1.2.2.1.1 k hk).1
theorem hzR (g : Gd K own cc d) (k : Nat) (hk : k < 4) : va_Z "UmbrellaSchool$Refusal" (gRefs.getD k "") "LUmbrellaSchool$Refusal;" (.ref ((ky K).2 (10 + k))) (kA K) (ks K) (ks K).heap := (g.2.2.1.2.2.2.1.1 k hk).1
theorem hzS (g : Gd K own cc d) : va_Z "UmbrellaSchool" "COMMANDS" "[LUmbrellaSchool$Command;" (.ref ((ky K).2 40)) (kA K) (ks K) (ks K).heap := g.2.2.1.2.2.2.2.2.2.1
theorem hzW (g : Gd K own cc d) : va_Z "UmbrellaSchool$1" "$SwitchMap$UmbrellaSchool$Command" "[I" (.ref ((ky K).2 41)) (kA K) (ks K) (ks K).heap := g.2.2.1.2.2.2.2.2.2.2.2.1
theorem hzF (g : Gd K own cc d) {k : Nat} (hk : k < 8) : va_OF "UmbrellaSchool$Command" "form" "Ljava/lang/String;" (.ref ((ky K).2 (20 + k))) ((ky K).2 k) (kA K) (ks K) (ks K).heap := g.2.2.1.2.2.2.2.1 k hk
theorem hzL (g : Gd K own cc d) {k : Nat} (hk : k < 8) : va_OF "UmbrellaSchool$Command" "leastLength" "I" (.int (glst k)) ((ky K).2 k) (kA K) (ks K) (ks K).heap := (g.2.2.1.2.2.1.1 k hk).2.2 _ (List.mem_cons_of_mem _ List.mem_cons_self)
theorem hzO (g : Gd K own cc d) {k : Nat} (hk : k < 8) : va_OF "java/lang/Enum" "ordinal" "I" (.int (nI k)) ((ky K).2 k) (kA K) (ks K) (ks K).heap := by
  have h := (g.2.2.1.2.2.1.1 k hk).2.2 _ List.mem_cons_self
  have e : ([0, 1, 2, 3, 4, 5, 6, 7] : List Int32).getD k 0 = nI k := by
    rcases (by omega : k = 0 ∨ k = 1 ∨ k = 2 ∨ k = 3 ∨ k = 4 ∨ k = 5 ∨ k = 6 ∨ k = 7) with rfl | rfl | rfl | rfl | rfl | rfl | rfl | rfl <;> rfl
  rw [← e]
  exact h
end HZ
theorem x_ldSW {K : gKx} {PX : va_W} {G : gG} {pc : Nat} {lv : List (Option Value)} {st : List Value} {S : gS} {T : gT} {c0 s0 d : Nat} {own : String} {cc : ByteArray} {i : Int32} (g : Gd K own cc d) (hdg : decode cc pc = .ok (.iaload, 1)) (hin : vp_in i 8) (k : Xj K PX G (pc + 1) lv (.int (gsw (Int32.toNatClampNeg i)) :: st) S T c0 s0) : Xj K PX G pc lv (.int i :: .ref ((ky K).2 41) :: st) S T c0 s0 :=
  fun H locs cells slots ls Z h => va_ti g.1.1 g.1.2.1 g.2.2.1.2.2.2.2.2.2.2.2.2.1 h.2.2.2.1 hin rfl hdg (k H locs cells slots ls Z h)
theorem x_lenCM {K : gKx} {PX : va_W} {G : gG} {pc : Nat} {lv : List (Option Value)} {st : List Value} {S : gS} {T : gT} {c0 s0 d : Nat} {own : String} {cc : ByteArray} (g : Gd K own cc d) (hdg : decode cc pc = .ok (.arraylength, 1)) (k : Xj K PX G (pc + 1) lv (.int 8 :: st) S T c0 s0) : Xj K PX G pc lv (.ref ((ky K).2 40) :: st) S T c0 s0 := by
  intro H locs cells slots ls Z h
  obtain ⟨cell, h1, h2, h3, h4, h5, h6, h7⟩ := va_T.kept g.2.2.1.2.2.2.2.2.2.2.1 h.2.2.2.1.2.1
  exact W.alen g.1.1 g.1.2.1 h1 h2 h5 rfl rfl hdg (k H locs cells slots ls Z h)
theorem x_ldCM {K : gKx} {PX : va_W} {G : gG} {pc : Nat} {lv : List (Option Value)} {st : List Value} {S : gS} {T : gT} {c0 s0 d : Nat} {own : String} {cc : ByteArray} {i : Int32} (g : Gd K own cc d) (hdg : decode cc pc = .ok (.aaload, 1)) (hin : vp_in i 8) (k : Xj K PX G (pc + 1) lv (.ref ((ky K).2 (Int32.toNatClampNeg i)) :: st) S T c0 s0) : Xj K PX G pc lv (.int i :: .ref ((ky K).2 40) :: st) S T c0 s0 := by
  intro H locs cells slots ls Z h
  obtain ⟨cell, h1, h2, h3, h4, h5, h6, h7⟩ := va_T.kept g.2.2.1.2.2.2.2.2.2.2.1 h.2.2.2.1.2.1
  have hlt : i.toNatClampNeg < 8 := Nat.not_le.mp fun q => hin (Or.inr q)
  exact W.aald (v := .ref ((ky K).2 (Int32.toNatClampNeg i))) (ty := .object "UmbrellaSchool$Command") g.1.1 g.1.2.1 h1 h2 rfl h3 (fun q => q.elim (fun q => hin (Or.inl q)) (fun q => absurd (Nat.lt_of_lt_of_le hlt h4) (Nat.not_lt.mpr q))) (h6 _ hlt) rfl rfl hdg (k H locs cells slots ls Z h)
theorem x_acmpCMD_eq {K : gKx} {PX : va_W} {G : gG} {pc k1 k2 : Nat} {lv : List (Option Value)} {st : List Value} {S : gS} {T : gT} {c0 s0 d : Nat} {own : String} {cc : ByteArray} {off : Int} (tgt : Nat) (g : Gd K own cc d) (hdg : decode cc pc = .ok (.if_acmp .eq off, 3)) (ht : (pc : Int) + off = (tgt : Int)) (h1 : k1 < 8) (h2 : k2 < 8) (kt : k1 = k2 → Xj K PX G tgt lv st S T c0 s0) (kf : ¬ k1 = k2 → Xj K PX G (pc + 3) lv st S T c0 s0) : Xj K PX G pc lv (.ref ((ky K).2 k2) :: .ref ((ky K).2 k1) :: st) S T c0 s0 :=
  fun H locs cells slots ls Z h => lv_acmp_eq (rx := some ((ky K).2 k1)) (ry := some ((ky K).2 k2)) g.1.1 g.1.2.1 hdg ht (fun c => kt (g.2.2.1.2.2.1.2 k1 k2 h1 h2 (Option.some.inj c)) H locs cells slots ls Z h) (fun c => kf (fun e => c (by rw [e])) H locs cells slots ls Z h)
theorem x_acmpCMD_ne {K : gKx} {PX : va_W} {G : gG} {pc k1 k2 : Nat} {lv : List (Option Value)} {st : List Value} {S : gS} {T : gT} {c0 s0 d : Nat} {own : String} {cc : ByteArray} {off : Int} (tgt : Nat) (hg : Gd K own cc d) (hdg : decode cc pc = .ok (.if_acmp .ne off, 3)) (ht : (pc : Int) + off = (tgt : Int)) (h1 : k1 < 8) (h2 : k2 < 8) (kt : ¬ k1 = k2 → Xj K PX G tgt lv st S T c0 s0) (kf : k1 = k2 → Xj K PX G (pc + 3) lv st S T c0 s0) : Xj K PX G pc lv (.ref ((ky K).2 k2) :: .ref ((ky K).2 k1) :: st) S T c0 s0 :=
  fun H locs cells slots ls Z h => lv_acmp_ne (rx := some ((ky K).2 k1)) (ry := some ((ky K).2 k2)) hg.1.1 hg.1.2.1 hdg ht (fun c => kt (fun e => c (by rw [e])) H locs cells slots ls Z h) (fun c => kf (hg.2.2.1.2.2.1.2 k1 k2 h1 h2 (Option.some.inj c)) H locs cells slots ls Z h)
theorem x_acmpREF_eq {K : gKx} {PX : va_W} {G : gG} {pc k1 k2 : Nat} {lv : List (Option Value)} {st : List Value} {S : gS} {T : gT} {c0 s0 d : Nat} {own : String} {cc : ByteArray} {off : Int} (tgt : Nat) (g : Gd K own cc d) (hdg : decode cc pc = .ok (.if_acmp .eq off, 3)) (ht : (pc : Int) + off = (tgt : Int)) (h1 : k1 < 4) (h2 : k2 < 4) (kt : k1 = k2 → Xj K PX G tgt lv st S T c0 s0) (kf : ¬ k1 = k2 → Xj K PX G (pc + 3) lv st S T c0 s0) : Xj K PX G pc lv (.ref ((ky K).2 (10 + k2)) :: .ref ((ky K).2 (10 + k1)) :: st) S T c0 s0 :=
  fun H locs cells slots ls Z h => lv_acmp_eq (rx := some ((ky K).2 (10 + k1))) (ry := some ((ky K).2 (10 + k2))) g.1.1 g.1.2.1 hdg ht (fun c => kt (g.2.2.1.2.2.2.1.2 k1 k2 h1 h2 (Option.some.inj c)) H locs cells slots ls Z h) (fun c => kf (fun e => c (by rw [e])) H locs cells slots ls Z h)
theorem x_acmpREF_ne {K : gKx} {PX : va_W} {G : gG} {pc k1 k2 : Nat} {lv : List (Option Value)} {st : List Value} {S : gS} {T : gT} {c0 s0 d : Nat} {own : String} {cc : ByteArray} {off : Int} (tgt : Nat) (g : Gd K own cc d) (hdg : decode cc pc = .ok (.if_acmp .ne off, 3)) (ht : (pc : Int) + off = (tgt : Int)) (h1 : k1 < 4) (h2 : k2 < 4) (kt : ¬ k1 = k2 → Xj K PX G tgt lv st S T c0 s0) (kf : k1 = k2 → Xj K PX G (pc + 3) lv st S T c0 s0) : Xj K PX G pc lv (.ref ((ky K).2 (10 + k2)) :: .ref ((ky K).2 (10 + k1)) :: st) S T c0 s0 :=
  fun H locs cells slots ls Z h => lv_acmp_ne (rx := some ((ky K).2 (10 + k1))) (ry := some ((ky K).2 (10 + k2))) g.1.1 g.1.2.1 hdg ht (fun c => kt (fun e => c (by rw [e])) H locs cells slots ls Z h) (fun c => kf (g.2.2.1.2.2.2.1.2 k1 k2 h1 h2 (Option.some.inj c)) H locs cells slots ls Z h)
theorem x_ifnn {K : gKx} {PX : va_W} {G : gG} {pc x : Nat} {lv : List (Option Value)} {st : List Value} {S : gS} {T : gT} {c0 s0 d : Nat} {own : String} {cc : ByteArray} {off : Int} (tgt : Nat) (g : Gd K own cc d) (hdg : decode cc pc = .ok (.ifnonnull off, 3)) (ht : (pc : Int) + off = (tgt : Int)) (k : Xj K PX G tgt lv st S T c0 s0) : Xj K PX G pc lv (.ref x :: st) S T c0 s0 :=
  fun H locs cells slots ls Z h => lv_ifnonnull g.1.1 g.1.2.1 hdg ht (k H locs cells slots ls Z h)
theorem x_ifnnN {K : gKx} {PX : va_W} {G : gG} {pc : Nat} {lv : List (Option Value)} {st : List Value} {S : gS} {T : gT} {c0 s0 d : Nat} {own : String} {cc : ByteArray} {off : Int} (g : Gd K own cc d) (hdg : decode cc pc = .ok (.ifnonnull off, 3)) (k : Xj K PX G (pc + 3) lv st S T c0 s0) : Xj K PX G pc lv (.null :: st) S T c0 s0 :=
  fun H locs cells slots ls Z h => lv_ifnonnullN g.1.1 g.1.2.1 hdg (k H locs cells slots ls Z h)
theorem x_aloadN_n {K : gKx} {PX : va_W} {G : gG} {pc : Nat} {lv : List (Option Value)} {st : List Value} {S : gS} {T : gT} {c0 s0 d : Nat} {own : String} {cc : ByteArray} {kk : Fin 4} (i : Nat) (g : Gd K own cc d) (hdg : decode cc pc = .ok (.aload_n kk, 1)) (hi : (kk : Nat) = i) (hl : lv[i]? = some (some .null)) (k : Xj K PX G (pc + 1) lv (.null :: st) S T c0 s0) : Xj K PX G pc lv st S T c0 s0 :=
  fun H locs cells slots ls Z h => lv_aload_nN g.1.1 g.1.2.1 hdg hi (h.2.2.2.2.1.2.2.2 i _ hl) (k H locs cells slots ls Z h)
theorem x_aloadN {K : gKx} {PX : va_W} {G : gG} {pc i : Nat} {lv : List (Option Value)} {st : List Value} {S : gS} {T : gT} {c0 s0 d : Nat} {own : String} {cc : ByteArray} (g : Gd K own cc d) (hdg : decode cc pc = .ok (.aload i, 2)) (hl : lv[i]? = some (some .null)) (k : Xj K PX G (pc + 2) lv (.null :: st) S T c0 s0) : Xj K PX G pc lv st S T c0 s0 :=
  fun H locs cells slots ls Z h => lv_aloadN g.1.1 g.1.2.1 hdg (h.2.2.2.2.1.2.2.2 i _ hl) (k H locs cells slots ls Z h)
theorem x_astoreN_n {K : gKx} {PX : va_W} {G : gG} {pc : Nat} {lv : List (Option Value)} {st : List Value} {S : gS} {T : gT} {c0 s0 d : Nat} {own : String} {cc : ByteArray} {kk : Fin 4} (i : Nat) (g : Gd K own cc d) (hdg : decode cc pc = .ok (.astore_n kk, 1)) (hk : (kk : Nat) = i) (hi : i < lv.length) (hp : gpv lv i = true) (k : Xj K PX G (pc + 1) (lv.set i (some .null)) st S T c0 s0) : Xj K PX G pc lv (.null :: st) S T c0 s0 :=
  fun H locs cells slots ls Z h => lv_astore_nN g.1.1 g.1.2.1 hdg hk (gl_has h.2.2.2.2.1) (gl_lt h.2.2.2.2.1 hi) rfl (fun ls' h' => k H locs cells slots ls' Z ⟨h.1, h.2.1, h.2.2.1, h.2.2.2.1, gl_of (gpv_ok hp) (gl_lt h.2.2.2.2.1 hi) h.2.2.2.2.1.2.2.1 h', h.2.2.2.2.2⟩)
theorem x_astoreN {K : gKx} {PX : va_W} {G : gG} {pc i : Nat} {lv : List (Option Value)} {st : List Value} {S : gS} {T : gT} {c0 s0 d : Nat} {own : String} {cc : ByteArray} (g : Gd K own cc d) (hdg : decode cc pc = .ok (.astore i, 2)) (hi : i < lv.length) (hp : gpv lv i = true) (k : Xj K PX G (pc + 2) (lv.set i (some .null)) st S T c0 s0) : Xj K PX G pc lv (.null :: st) S T c0 s0 :=
  fun H locs cells slots ls Z h => lv_astoreN g.1.1 g.1.2.1 hdg (gl_has h.2.2.2.2.1) (gl_lt h.2.2.2.2.1 hi) rfl (fun ls' h' => k H locs cells slots ls' Z ⟨h.1, h.2.1, h.2.2.1, h.2.2.2.1, gl_of (gpv_ok hp) (gl_lt h.2.2.2.2.1 hi) h.2.2.2.2.1.2.2.1 h', h.2.2.2.2.2⟩)
theorem x_aretN {K : gKx} {G : gG} {pc : Nat} {lv : List (Option Value)} {S S1 : gS} {T : gT} {c0 s0 d : Nat} {own C : String} {cc : ByteArray} (g : Gd K own cc d) (e : gEnd K (some (.object C)) (some (va_rf ((none : Option Nat).map (ky K).2))) G S1 T) (hdg : decode cc pc = .ok (.areturn, 1)) (h2 : S = S1) : Xj K [] G pc lv [.null] S T c0 s0 := by
  subst h2; exact x_aret (r := none) g e hdg
theorem x_aretC {K : gKx} {G : gG} {pc k : Nat} {lv : List (Option Value)} {S S1 : gS} {T : gT} {c0 s0 d : Nat} {own C : String} {cc : ByteArray} (g : Gd K own cc d) (e : gEnd K (some (.object C)) (some (va_rf ((some k).map (ky K).2))) G S1 T) (hdg : decode cc pc = .ok (.areturn, 1)) (h2 : S = S1) : Xj K [] G pc lv [.ref ((ky K).2 k)] S T c0 s0 := by
  subst h2; exact x_aret (r := some ((ky K).2 k)) g e hdg
theorem x_dconst0 {K : gKx} {PX : va_W} {G : gG} {pc : Nat} {lv : List (Option Value)} {st : List Value} {S : gS} {T : gT} {c0 s0 d : Nat} {own : String} {cc : ByteArray} (g : Gd K own cc d) (hdg : decode cc pc = .ok (.dconst 0, 1)) (k : Xj K PX G (pc + 1) lv (.double FP.dconst0 :: st) S T c0 s0) : Xj K PX G pc lv st S T c0 s0 :=
  fun H locs cells slots ls Z h => lv_dconst0 g.1.1 g.1.2.1 hdg (k H locs cells slots ls Z h)
theorem x_acpy {K : gKx} {PX : va_W} {G : gG} {pc a a0 idx : Nat} {lv : List (Option Value)} {st : List Value} {S : gS} {T : gT} {c0 s0 d : Nat} {own : String} {cc : ByteArray} {n : Int32} (g : Gd K own cc d) (hdg : decode cc pc = .ok (.invokestatic idx, 3)) (hlk : Cond.methodLink own idx arraycopyName ∈ lw_tbl) (hd : 1 ≤ d) (h0 : gis G 7 a0) (h1 : gis G 7 a) (hn : ¬ n < 0 ∧ Int32.toNatClampNeg n ≤ gn G a0 ∧ Int32.toNatClampNeg n ≤ gn G a) (hW : (st.map fun v => v.category).sum ≤ 8)
    (k : Xj K PX G (pc + 3) lv st (srow S a (va_cpy (gr S a0) (gr S a) 0 0 (Int32.toNatClampNeg n))) T c0 s0) : Xj K PX G pc lv (.int n :: .int 0 :: .ref a :: .int 0 :: .ref a0 :: st) S T c0 s0 := by
  intro H locs cells slots ls Z h
  obtain ⟨q0, hq⟩ := gFind (cy := ky K) (PX := PX ++ Z) (S := S) h0.1
  obtain ⟨q1, hr⟩ := gFind (cy := ky K) (PX := PX ++ Z) (S := S) h1.1
  have hr2 := hr
  rw [gce_i h0.2] at hq
  rw [gce_i h1.2] at hr
  have hR := g.2.2.2.2.2.2
  have hb := h.2.2.2.2.2
  have hf : 1 ≤ (kR K).frames := by rw [hR]; exact hd
  have hw : nativeFrameWords "java/lang/System" "arraycopy" 5 ≤ 40 := by decide
  have hlc : (st.map fun v => v.category).sum + (nativeFrameWords "java/lang/System" "arraycopy" 5 + 11) ≤ (kR K).locals := by
    rw [hR]
    show _ ≤ 64 * d
    omega
  refine va_copyi (D := kD K) (own := own) (sp := 0) (dp := 0) g.1.1 g.1.2.1 (g.1.2.2.1.trans h.2.2.2.2.1.1.symm) g.1.2.2.2.1 (g.tb hlk rfl) (g.tb (w_tb 348 (by decide +kernel)) rfl) (g.tb (w_tb 347 (by decide +kernel)) rfl) (g.tb (w_tb 20 (by decide +kernel)) rfl) g.2.1.1 h.2.1 h.2.2.1 h.2.2.2.1 q0 q1 2 2 hq hr rfl rfl rfl (by decide) (by decide) hn.1 (by rw [sb_cl0, Nat.zero_add]; exact hn.2.1) (by rw [sb_cl0, Nat.zero_add]; exact hn.2.2) (fun _ _ => rfl) hf hlc hdg (fun H1 locs1 hP hD hS => ?_)
  have e : ((PX ++ Z) ++ gw (ky K) G S).set q1 (a, .inl ((ky K).1 2, gn G a, .inl (va_cpy (gr S a0) (gr S a) (0 : Int32).toNatClampNeg (0 : Int32).toNatClampNeg n.toNatClampNeg))) = (PX ++ Z) ++ gw (ky K) G (srow S a (va_cpy (gr S a0) (gr S a) 0 0 (Int32.toNatClampNeg n))) := by
    rw [sb_cl0]
    exact gPut h.2.2.1 h1.1 hr2 (gup_row (cy := ky K) (G := G) (S := S) (va_cpy (gr S a0) (gr S a) 0 0 (Int32.toNatClampNeg n)) _ (by rw [gce_i h1.2, gr_row]))
  rw [e] at hP hD
  exact k H1 locs1 cells slots ls Z ⟨h.1, hP, hD, hS, h.2.2.2.2⟩
-- results that may be exceptions
def gbx1 {α γ : Type} (x : Option (String ⊕ α)) (kx : String → Option γ) (k : α → Option γ) : Option γ := x.bind fun p => match p with
  | .inl E => kx E
  | .inr a => k a
def gbx2 {α σ γ : Type} (x : Option ((String ⊕ α) × σ)) (kx : String → σ → Option γ) (k : α → σ → Option γ) : Option γ := x.bind fun p => match p.1 with
  | .inl E => kx E p.2
  | .inr a => k a p.2
theorem gbx1_e {α γ : Type} {x : Option (String ⊕ α)} {kx : String → Option γ} {k : α → Option γ} {y : γ} (h : gbx1 x kx k = some y) : (∃ E, x = some (.inl E) ∧ kx E = some y) ∨ ∃ a, x = some (.inr a) ∧ k a = some y := by
  unfold gbx1 at h
  cases x with
  | none => cases h
  | some p => cases p with
    | inl E => exact Or.inl ⟨E, rfl, h⟩
    | inr a => exact Or.inr ⟨a, rfl, h⟩
theorem gbx2_e {α σ γ : Type} {x : Option ((String ⊕ α) × σ)} {kx : String → σ → Option γ} {k : α → σ → Option γ} {y : γ} (h : gbx2 x kx k = some y) : (∃ E s, x = some (.inl E, s) ∧ kx E s = some y) ∨ ∃ a s, x = some (.inr a, s) ∧ k a s = some y := by
  unfold gbx2 at h
  cases x with
  | none => cases h
  | some p =>
    obtain ⟨p, s⟩ := p
    cases p with
    | inl E => exact Or.inl ⟨E, s, rfl, h⟩
    | inr a => exact Or.inr ⟨a, s, rfl, h⟩
def gbz (x : Int32) : Option Bool := if x = 0 then some false else if x = 1 then some true else none
theorem gbz_e {x : Int32} {b : Bool} (h : gbz x = some b) : x = gz b := by
  unfold gbz at h
  by_cases h0 : x = 0
  · rw [if_pos h0] at h; cases h; exact h0
  · rw [if_neg h0] at h
    by_cases h1 : x = 1
    · rw [if_pos h1] at h; cases h; exact h1
    · rw [if_neg h1] at h; cases h
theorem ls_X5_47 : Cond.fieldLink RX5 47 "UmbrellaSchool$Command" "ADD" "LUmbrellaSchool$Command;" ∈ lw_tbl := w_tb 358 (by decide +kernel)
theorem ls_X5_57 : Cond.fieldLink RX5 57 "UmbrellaSchool$Command" "TRAIN" "LUmbrellaSchool$Command;" ∈ lw_tbl := w_tb 568 (by decide +kernel)
theorem ls_X5_60 : Cond.fieldLink RX5 60 "UmbrellaSchool$Command" "PERIOD" "LUmbrellaSchool$Command;" ∈ lw_tbl := w_tb 577 (by decide +kernel)
theorem ls_X5_63 : Cond.fieldLink RX5 63 "UmbrellaSchool$Command" "WET" "LUmbrellaSchool$Command;" ∈ lw_tbl := w_tb 586 (by decide +kernel)
theorem ls_X5_66 : Cond.fieldLink RX5 66 "UmbrellaSchool$Command" "GALE" "LUmbrellaSchool$Command;" ∈ lw_tbl := w_tb 595 (by decide +kernel)
theorem ls_X5_69 : Cond.fieldLink RX5 69 "UmbrellaSchool$Command" "FORGET" "LUmbrellaSchool$Command;" ∈ lw_tbl := w_tb 604 (by decide +kernel)
theorem ls_X5_72 : Cond.fieldLink RX5 72 "UmbrellaSchool$Command" "EXAM" "LUmbrellaSchool$Command;" ∈ lw_tbl := w_tb 613 (by decide +kernel)
theorem ls_X5_75 : Cond.fieldLink RX5 75 "UmbrellaSchool$Command" "TERM" "LUmbrellaSchool$Command;" ∈ lw_tbl := w_tb 622 (by decide +kernel)
theorem ls_X5_319 : Cond.fieldLink RX5 319 "UmbrellaSchool$1" "$SwitchMap$UmbrellaSchool$Command" "[I" ∈ lw_tbl := w_tb 368 (by decide +kernel)
theorem ls_X5_327 : Cond.fieldLink RX5 327 "UmbrellaSchool$Refusal" "ARGUMENT" "LUmbrellaSchool$Refusal;" ∈ lw_tbl := w_tb 379 (by decide +kernel)
theorem ls_X5_333 : Cond.fieldLink RX5 333 "UmbrellaSchool$Refusal" "NOTHING" "LUmbrellaSchool$Refusal;" ∈ lw_tbl := w_tb 381 (by decide +kernel)
theorem ls_X5_336 : Cond.fieldLink RX5 336 "UmbrellaSchool$Refusal" "STATE" "LUmbrellaSchool$Refusal;" ∈ lw_tbl := w_tb 383 (by decide +kernel)
theorem ls_X5_343 : Cond.fieldLink RX5 343 "UmbrellaSchool$Refusal" "UMBRELLA" "LUmbrellaSchool$Refusal;" ∈ lw_tbl := w_tb 392 (by decide +kernel)
theorem ls_X5_391 : Cond.fieldLink RX5 391 "UmbrellaSchool" "COMMANDS" "[LUmbrellaSchool$Command;" ∈ lw_tbl := w_tb 1252 (by decide +kernel)
theorem ls_X5_395 : Cond.fieldLink RX5 395 "UmbrellaSchool$Command" "form" "Ljava/lang/String;" ∈ lw_tbl := w_tb 1878 (by decide +kernel)
theorem ls_X5_403 : Cond.fieldLink RX5 403 "UmbrellaSchool$Command" "leastLength" "I" ∈ lw_tbl := w_tb 1879 (by decide +kernel)
theorem lmb_X5_25 : Cond.methodLink RX5 25 yJ4_init_da8c8 ∈ lw_tbl := w_tb 141 (by decide +kernel)
theorem lmb_X5_237 : Cond.methodLink RX5 237 yJ4_setLength_d00df ∈ lw_tbl := w_tb 922 (by decide +kernel)
theorem lmb_X5_241 : Cond.methodLink RX5 241 yJ4_append_cf468 ∈ lw_tbl := w_tb 1175 (by decide +kernel)
theorem lmb_X5_245 : Cond.methodLink RX5 245 yJ4_length_8abf5 ∈ lw_tbl := w_tb 1197 (by decide +kernel)
theorem lmb_X5_248 : Cond.methodLink RX5 248 yJ4_append_bf812 ∈ lw_tbl := w_tb 1205 (by decide +kernel)
theorem lmb_X5_256 : Cond.methodLink RX5 256 yJ4_charAt_5068e ∈ lw_tbl := w_tb 1214 (by decide +kernel)
theorem lmo_X5_324 : Cond.methodLink RX5 324 ⟨"UmbrellaSchool$Command", "ordinal", "()I"⟩ ∈ lw_tbl := w_tb 370 (by decide +kernel)
theorem lms_X5_406 : Cond.methodLink RX5 406 yJ0_length_8abf5 ∈ lw_tbl := w_tb 1258 (by decide +kernel)
theorem lms_X5_414 : Cond.methodLink RX5 414 yJ0_charAt_5068e ∈ lw_tbl := w_tb 1259 (by decide +kernel)
theorem lac_X5_435 : Cond.methodLink RX5 435 arraycopyName ∈ lw_tbl := w_tb 346 (by decide +kernel)
theorem x_astb {K : gKx} {PX : va_W} {G : gG} {pc a v : Nat} {lv : List (Option Value)} {st : List Value} {S : gS} {T : gT} {c0 s0 d : Nat} {own : String} {cc : ByteArray} {i : Int32} (g : Gd K own cc d) (hdg : decode cc pc = .ok (.aastore, 1)) (ha : gis G 8 a) (hin : vp_in i (gn G a)) (hv : gis G 0 v) (kk : Xj K PX G (pc + 1) lv st (sq S a i.toNatClampNeg (some v)) T c0 s0) : Xj K PX G pc lv (.ref v :: .int i :: .ref a :: st) S T c0 s0 := by
  intro H locs cells slots ls Z h
  obtain ⟨q0, hq⟩ := gFind (cy := ky K) (PX := PX ++ Z) (S := S) ha.1
  obtain ⟨q1, hr⟩ := gFind (cy := ky K) (PX := PX ++ Z) (S := S) hv.1
  have hq2 := hq
  rw [gce_b ha.2] at hq
  rw [gce_obj (show gkt (gK G v) = some (4, [.inr 0, .inl 0, .inl 1, .inl 2, .inl 3, .inl 4, .inl 5, .inl 6]) by rw [hv.2]; rfl)] at hr
  refine va_astq (D := kD K) g.1.1 g.1.2.1 g.2.1.1 h.2.1 h.2.2.1 h.2.2.2.1 q0 3 q1 4 hq (r := (RX1, TX1, 8)) rfl hr rfl hin hdg (fun H1 locs1 hP hD hS => ?_)
  have e : ((PX ++ Z) ++ gw (ky K) G S).set q0 (a, .inl ((ky K).1 3, gn G a, .inr (.inr (.inr (.inr (va_up (gq S a) i.toNatClampNeg (some v))))))) = (PX ++ Z) ++ gw (ky K) G (sq S a i.toNatClampNeg (some v)) := gPut h.2.2.1 ha.1 hq2 (gup_q (cy := ky K) (G := G) (S := S) (i := i.toNatClampNeg) (some v) _ (by
    rw [gce_b ha.2]
    congr 7
    funext j
    rw [gq_sq]
    unfold va_up
    by_cases z : j = i.toNatClampNeg
    · rw [if_pos z, if_pos ⟨rfl, z⟩]
    · rw [if_neg z, if_neg (fun q => z q.2)]))
  rw [e] at hP hD
  exact kk H1 locs1 cells slots ls Z ⟨h.1, hP, hD, hS, h.2.2.2.2⟩
