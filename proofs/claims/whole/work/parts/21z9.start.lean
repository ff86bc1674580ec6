/-! the start: constants -/
def stI : List Nat := [56, 62, 65, 68, 71, 74, 77, 80]
def stT (i : Nat) : Term := .string "UmbrellaSchool$Command" (stI.getD i 0)
theorem va_En.ad {E d : String} {nm : List String} {F : List (String × String × String × List Int32)} {a a' : Nat → Nat} {A : Nat → Prop} {U : State} {H : Heap} (h : va_En E d nm F a A U H) (e : ∀ i, i < nm.length → a' i = a i) : va_En E d nm F a' A U H :=
  ⟨fun i hi => by rw [e i hi]; exact h.1 i hi, fun i j hi hj q => h.2 i j hi hj (by rw [← e i hi, ← e j hj]; exact q)⟩
theorem vk_S.ad {N : Nat} {len : List Nat} {byt : List (List Int32)} {k k' v v' : Nat → Nat} {A : Nat → Prop} {U : State} {H : Heap} (h : vk_S N len byt k v A U H) (e : ∀ i, i < N → k' i = k i) (e2 : ∀ i, i < N → v' i = v i) : vk_S N len byt k' v' A U H :=
  ⟨fun i hi => by rw [e i hi, e2 i hi]; exact h.1 i hi, fun i j hi hj q => h.2 i j hi hj (by rw [← e i hi, ← e j hj]; exact q)⟩
section STR
variable {s : State} {args : Array Value} {t u : Term} {a b : Nat}
theorem st_nq (ht : t.eval args s none [] s = some (.ref a)) (hu : u.eval args s none [] s = some (.ref b)) (hab : a ≠ b) : (Cond.not (.eq t u)).before args s = true := by
  simp [Cond.before, Cond.holds, Cond.value, ht, hu, hab]
theorem st_len {o n d : String} (h : t.eval args s none [] s = u.eval args s none [] s) : (Term.length (.field t o n d)).eval args s none [] s = (Term.length (.field u o n d)).eval args s none [] s := by
  simp only [Term.eval, h]
theorem st_el {o n d : String} {i : Int32} (h : t.eval args s none [] s = u.eval args s none [] s) : (Term.elem (.field t o n d) (.int i)).eval args s none [] s = (Term.elem (.field u o n d) (.int i)).eval args s none [] s := by
  simp only [Term.eval, h]
end STR
/-- the forms' texts -/
theorem st_S {s : State} {args : Array Value} (hg : stG.before args s = true) : ∃ adK adV : Nat → Nat, vk_S 8 (gForms.map List.length) gForms adK adV (fun q => s.heap.size ≤ q) s s.heap ∧ ∀ i : Nat, i < 8 → (stT i).eval args s none [] s = some (.ref (adK i)) := by
  have m1 : ∀ i, i < 8 → atN 12 (([3516, 3528, 3549, 3567, 3579, 3624, 3720, 3804] : List Nat).getD i 0) stG = Cond.exactly (stT i) "java/lang/String" := by decide +kernel
  have m2 : ∀ i, i < 8 → atN 12 (([3517, 3530, 3550, 3568, 3580, 3632, 3728, 3808] : List Nat).getD i 0) stG = Cond.eq (.field (stT i) "java/lang/String" "coder" "B") (.int 0) := by decide +kernel
  have m3 : ∀ i, i < 8 → atN 12 (([3518, 3531, 3551, 3570, 3581, 3640, 3736, 3816] : List Nat).getD i 0) stG = Cond.arrayOf (.field (stT i) "java/lang/String" "value" "[B") .byte := by decide +kernel
  have m4 : ∀ i, i < 8 → atN 12 (([3519, 3532, 3552, 3571, 3582, 3644, 3744, 3824] : List Nat).getD i 0) stG = Cond.eq (.length (.field (stT i) "java/lang/String" "value" "[B")) (.int (Int32.ofNat ((gForms.map List.length).getD i 0))) := by decide +kernel
  have m5 : ∀ i, i < 8 → ∀ j, j < (gForms.map List.length).getD i 0 → atN 12 ((([[3520, 3522, 3523, 3524, 3526, 3527], [3534, 3535, 3536, 3538, 3539, 3540, 3542, 3543, 3544, 3546, 3547, 3548], [3554, 3555, 3556, 3558, 3559, 3560, 3562, 3563, 3564, 3566], [3572, 3574, 3575, 3576, 3578], [3583, 3584, 3592, 3600, 3608, 3616], [3648, 3656, 3664, 3672, 3680, 3688, 3696, 3704, 3708, 3712], [3752, 3760, 3768, 3772, 3776, 3784, 3792, 3800], [3832, 3836, 3840, 3848]] : List (List Nat)).getD i []).getD j 0) stG = Cond.eq (.elem (.field (stT i) "java/lang/String" "value" "[B") (.int (Int32.ofNat j))) (.int ((gForms.getD i []).getD j 0)) := by decide +kernel
  have m6 : ∀ i, i < 8 → (gForms.map List.length).getD i 0 < 2 ^ 31 ∧ 0 < (gForms.map List.length).getD i 0 := by decide
  have m7 : ∀ i, i < 8 → ∀ j, j < 8 → i ≠ j → Int32.ofNat ((gForms.map List.length).getD i 0) ≠ Int32.ofNat ((gForms.map List.length).getD j 0) ∨ (gForms.getD i []).getD 0 0 ≠ (gForms.getD j []).getD 0 0 := by decide
  refine vk_Sof (tm := stT) (fun i hi => (m6 i hi).1) (fun i hi => st_at hg _ (m1 i hi)) (fun i hi => st_at hg _ (m2 i hi)) (fun i hi => st_at hg _ (m3 i hi)) (fun i hi => st_at hg _ (m4 i hi)) (fun i hi j hj => st_at hg _ (m5 i hi j hj)) (fun i j hi hj hn => Or.inl ?_) (fun a h => Nat.not_le.mpr h)
  obtain ⟨a, -, -, -, h1, -⟩ := Cond.exactly_spec (st_at hg _ (m1 i hi))
  obtain ⟨b, -, -, -, h2, -⟩ := Cond.exactly_spec (st_at hg _ (m1 j hj))
  refine st_nq h1 h2 (fun q => ?_)
  have e : (stT i).eval args s none [] s = (stT j).eval args s none [] s := by
    rw [q] at h1
    exact h1.trans h2.symm
  rcases m7 i hi j hj hn with z | z
  · have l1 := va_eqt (st_at hg _ (m4 i hi))
    rw [st_len e, va_eqt (st_at hg _ (m4 j hj))] at l1
    exact z (Value.int.inj (Option.some.inj l1)).symm
  · have l1 := va_eqt (st_at hg _ (m5 i hi 0 (m6 i hi).2))
    rw [st_el e, va_eqt (st_at hg _ (m5 j hj 0 (m6 j hj).2))] at l1
    exact z (Value.int.inj (Option.some.inj l1)).symm
/-- the commands, the refusals -/
theorem st_C {s : State} {args : Array Value} (hts : ∀ w ∈ lw_tbl, w.before args s = true) (hg : stG.before args s = true) : ∃ adC : Nat → Nat, va_En "UmbrellaSchool$Command" "LUmbrellaSchool$Command;" gCmds [("java/lang/Enum", "ordinal", "I", [0, 1, 2, 3, 4, 5, 6, 7]), ("UmbrellaSchool$Command", "leastLength", "I", [5, 10, 10, 5, 6, 10, 8, 4])] adC (fun q => s.heap.size ≤ q) s s.heap ∧ ∀ i, i < 8 → (Term.static "UmbrellaSchool$Command" (gCmds.getD i "") "LUmbrellaSchool$Command;").eval args s none [] s = some (.ref (adC i)) := by
  have m1 : ∀ i, i < 8 → Cond.laysStatic "UmbrellaSchool$Command" (gCmds.getD i "") "LUmbrellaSchool$Command;" ∈ tables_1 := by decide +kernel
  have m2 : ∀ i, i < 8 → atN 12 (([2055, 2098, 2109, 2122, 2136, 2151, 2168, 2186] : List Nat).getD i 0) stG = Cond.exactly (.static "UmbrellaSchool$Command" (gCmds.getD i "") "LUmbrellaSchool$Command;") "UmbrellaSchool$Command" := by decide +kernel
  have m3a : ∀ i, i < 8 → atN 12 (([2056, 2099, 2110, 2123, 2138, 2152, 2170, 2187] : List Nat).getD i 0) stG = Cond.eq (.field (.static "UmbrellaSchool$Command" (gCmds.getD i "") "LUmbrellaSchool$Command;") "java/lang/Enum" "ordinal" "I") (.int (([0, 1, 2, 3, 4, 5, 6, 7] : List Int32).getD i 0)) := by decide +kernel
  have m3b : ∀ i, i < 8 → atN 12 (([2059, 2102, 2112, 2126, 2140, 2155, 2172, 2190] : List Nat).getD i 0) stG = Cond.eq (.field (.static "UmbrellaSchool$Command" (gCmds.getD i "") "LUmbrellaSchool$Command;") "UmbrellaSchool$Command" "leastLength" "I") (.int (([5, 10, 10, 5, 6, 10, 8, 4] : List Int32).getD i 0)) := by decide +kernel
  have m4 : ∀ i, i < 8 → ∀ j, j < 8 → i ≠ j → atN 12 ((([[0, 2103, 2114, 2127, 2141, 2156, 2173, 2191], [2103, 0, 2120, 2134, 2147, 2163, 2179, 2198], [2114, 2120, 0, 2135, 2148, 2164, 2180, 2199], [2127, 2134, 2135, 0, 2150, 2166, 2182, 2200], [2141, 2147, 2148, 2150, 0, 2167, 2183, 2202], [2156, 2163, 2164, 2166, 2167, 0, 2184, 2203], [2173, 2179, 2180, 2182, 2183, 2184, 0, 2204], [2191, 2198, 2199, 2200, 2202, 2203, 2204, 0]] : List (List Nat)).getD i []).getD j 0) stG = Cond.not (.eq (.static "UmbrellaSchool$Command" (gCmds.getD i "") "LUmbrellaSchool$Command;") (.static "UmbrellaSchool$Command" (gCmds.getD j "") "LUmbrellaSchool$Command;")) ∨ atN 12 ((([[0, 2103, 2114, 2127, 2141, 2156, 2173, 2191], [2103, 0, 2120, 2134, 2147, 2163, 2179, 2198], [2114, 2120, 0, 2135, 2148, 2164, 2180, 2199], [2127, 2134, 2135, 0, 2150, 2166, 2182, 2200], [2141, 2147, 2148, 2150, 0, 2167, 2183, 2202], [2156, 2163, 2164, 2166, 2167, 0, 2184, 2203], [2173, 2179, 2180, 2182, 2183, 2184, 0, 2204], [2191, 2198, 2199, 2200, 2202, 2203, 2204, 0]] : List (List Nat)).getD i []).getD j 0) stG = Cond.not (.eq (.static "UmbrellaSchool$Command" (gCmds.getD j "") "LUmbrellaSchool$Command;") (.static "UmbrellaSchool$Command" (gCmds.getD i "") "LUmbrellaSchool$Command;")) := by decide +kernel
  exact va_Enof2 (fun i hi => hts _ (List.mem_append_right _ (m1 i hi))) (hts _ (w_tb 10 (by decide +kernel))) (fun i hi => st_at hg _ (m2 i hi)) (fun q hq i hi => by
    rcases List.mem_cons.mp hq with z | z
    · rw [z]; exact st_at hg _ (m3a i hi)
    · rw [List.mem_singleton.mp z]; exact st_at hg _ (m3b i hi)) (fun i j hi hj hn => (m4 i hi j hj hn).imp (st_at hg _) (st_at hg _)) (fun a h => Nat.not_le.mpr h)
theorem st_R {s : State} {args : Array Value} (hts : ∀ w ∈ lw_tbl, w.before args s = true) (hg : stG.before args s = true) : ∃ adR : Nat → Nat, va_En "UmbrellaSchool$Refusal" "LUmbrellaSchool$Refusal;" gRefs [] adR (fun q => s.heap.size ≤ q) s s.heap ∧ ∀ i, i < 4 → (Term.static "UmbrellaSchool$Refusal" (gRefs.getD i "") "LUmbrellaSchool$Refusal;").eval args s none [] s = some (.ref (adR i)) := by
  have m1 : ∀ i, i < 4 → Cond.laysStatic "UmbrellaSchool$Refusal" (gRefs.getD i "") "LUmbrellaSchool$Refusal;" ∈ tables_1 := by decide +kernel
  have m2 : ∀ i, i < 4 → atN 12 (([2078, 2090, 2075, 2083] : List Nat).getD i 0) stG = Cond.exactly (.static "UmbrellaSchool$Refusal" (gRefs.getD i "") "LUmbrellaSchool$Refusal;") "UmbrellaSchool$Refusal" := by decide +kernel
  have m4 : ∀ i, i < 4 → ∀ j, j < 4 → i ≠ j → atN 12 ((([[0, 2095, 2082, 2088], [2095, 0, 2094, 2096], [2082, 2094, 0, 2087], [2088, 2096, 2087, 0]] : List (List Nat)).getD i []).getD j 0) stG = Cond.not (.eq (.static "UmbrellaSchool$Refusal" (gRefs.getD i "") "LUmbrellaSchool$Refusal;") (.static "UmbrellaSchool$Refusal" (gRefs.getD j "") "LUmbrellaSchool$Refusal;")) ∨ atN 12 ((([[0, 2095, 2082, 2088], [2095, 0, 2094, 2096], [2082, 2094, 0, 2087], [2088, 2096, 2087, 0]] : List (List Nat)).getD i []).getD j 0) stG = Cond.not (.eq (.static "UmbrellaSchool$Refusal" (gRefs.getD j "") "LUmbrellaSchool$Refusal;") (.static "UmbrellaSchool$Refusal" (gRefs.getD i "") "LUmbrellaSchool$Refusal;")) := by decide +kernel
  exact va_Enof2 (F := []) (fun i hi => hts _ (List.mem_append_right _ (m1 i hi))) (hts _ (w_tb 12 (by decide +kernel))) (fun i hi => st_at hg _ (m2 i hi)) (fun q hq => by cases hq) (fun i j hi hj hn => (m4 i hi j hj hn).imp (st_at hg _) (st_at hg _)) (fun a h => Nat.not_le.mpr h)
/-- rows of numbers -/
theorem st_row {s : State} {args : Array Value} (hts : ∀ w ∈ lw_tbl, w.before args s = true) (hg : stG.before args s = true) {C n d : String} {ty : FieldType} {N : Nat} {f : Nat → Int32} (hN : N < 2 ^ 31) (h1 : Cond.laysStatic C n d ∈ lw_tbl) (h2 : Cond.initialized C ∈ lw_tbl) (n3 n4 : Nat) (n5 : List Nat) (h3 : atN 12 n3 stG = Cond.arrayOf (.static C n d) ty) (h4 : atN 12 n4 stG = Cond.eq (.length (.static C n d)) (.int (Int32.ofNat N))) (h5 : ∀ j, j < N → atN 12 (n5.getD j 0) stG = Cond.eq (.elem (.static C n d) (.int (Int32.ofNat j))) (.int (f j))) : ∃ t : Nat, va_Z C n d (.ref t) (fun q => s.heap.size ≤ q) s s.heap ∧ va_T ty t N (fun j => .int (f j)) (fun q => s.heap.size ≤ q) s s.heap := by
  obtain ⟨t, e, hT⟩ := va_Tof (tm := .static C n d) (ty := ty) (N := N) (f := fun j => .int (f j)) (A := fun q => s.heap.size ≤ q) hN (st_at hg _ h3) (va_eqt (st_at hg _ h4)) (fun j hj => va_eqt (st_at hg _ (h5 j hj))) (fun a h => Nat.not_le.mpr h)
  exact ⟨t, va_Zof (hts _ h1) (hts _ h2) e (fun a h => Nat.not_le.mpr h), hT⟩
theorem st_sw {s : State} {args : Array Value} (hts : ∀ w ∈ lw_tbl, w.before args s = true) (hg : stG.before args s = true) : ∃ t : Nat, va_Z "UmbrellaSchool$1" "$SwitchMap$UmbrellaSchool$Command" "[I" (.ref t) (fun q => s.heap.size ≤ q) s s.heap ∧ va_T .int t 8 (fun j => .int (gsw j)) (fun q => s.heap.size ≤ q) s s.heap :=
  st_row hts hg (by decide) (w_tb 369 (by decide +kernel)) (w_tb 11 (by decide +kernel)) 2062 2063 [2064, 2066, 2067, 2068, 2070, 2071, 2072, 2074] (by decide +kernel) (by decide +kernel) (by decide +kernel)
theorem st_ones {s : State} {args : Array Value} (hts : ∀ w ∈ lw_tbl, w.before args s = true) (hg : stG.before args s = true) : ∃ t : Nat, va_Z "java/lang/Integer" "DigitOnes" "[B" (.ref t) (fun q => s.heap.size ≤ q) s s.heap ∧ va_T .byte t 100 (fun j => .int (nI (48 + j % 10))) (fun q => s.heap.size ≤ q) s s.heap :=
  st_row hts hg (by decide) (w_tb 1067 (by decide +kernel)) (w_tb 30 (by decide +kernel)) 2211 2212 [2214, 2215, 2216, 2218, 2219, 2220, 2222, 2223, 2224, 2226, 2227, 2228, 2230, 2231, 2232, 2234, 2235, 2236, 2237, 2238, 2239, 2240, 2242, 2243, 2244, 2246, 2247, 2248, 2250, 2251, 2252, 2254, 2255, 2256, 2258, 2259, 2260, 2262, 2263, 2264, 2266, 2267, 2268, 2269, 2270, 2271, 2272, 2274, 2275, 2276, 2278, 2279, 2280, 2282, 2283, 2284, 2286, 2287, 2288, 2290, 2291, 2292, 2294, 2295, 2296, 2298, 2299, 2300, 2301, 2302, 2303, 2304, 2306, 2307, 2308, 2310, 2311, 2312, 2314, 2315, 2316, 2318, 2319, 2320, 2322, 2323, 2324, 2326, 2327, 2328, 2330, 2331, 2332, 2333, 2334, 2335, 2336, 2338, 2339, 2340] (by decide +kernel) (by decide +kernel) (by decide +kernel)
theorem st_tens {s : State} {args : Array Value} (hts : ∀ w ∈ lw_tbl, w.before args s = true) (hg : stG.before args s = true) : ∃ t : Nat, va_Z "java/lang/Integer" "DigitTens" "[B" (.ref t) (fun q => s.heap.size ≤ q) s s.heap ∧ va_T .byte t 100 (fun j => .int (nI (48 + j / 10))) (fun q => s.heap.size ≤ q) s s.heap :=
  st_row hts hg (by decide) (w_tb 1069 (by decide +kernel)) (w_tb 30 (by decide +kernel)) 2343 2344 [2346, 2347, 2348, 2350, 2351, 2352, 2354, 2355, 2356, 2358, 2359, 2360, 2362, 2363, 2364, 2365, 2366, 2367, 2368, 2370, 2371, 2372, 2374, 2375, 2376, 2378, 2379, 2380, 2382, 2383, 2384, 2386, 2387, 2388, 2390, 2391, 2392, 2394, 2395, 2396, 2397, 2398, 2399, 2400, 2402, 2403, 2404, 2406, 2407, 2408, 2410, 2411, 2412, 2414, 2415, 2416, 2418, 2419, 2420, 2422, 2423, 2424, 2426, 2427, 2428, 2429, 2430, 2431, 2432, 2434, 2435, 2436, 2438, 2439, 2440, 2442, 2443, 2444, 2446, 2447, 2448, 2450, 2451, 2452, 2454, 2455, 2456, 2458, 2459, 2460, 2461, 2462, 2463, 2464, 2466, 2467, 2468, 2470, 2471, 2472] (by decide +kernel) (by decide +kernel) (by decide +kernel)
theorem st_H {s : State} {args : Array Value} (hts : ∀ w ∈ lw_tbl, w.before args s = true) (hg : stG.before args s = true) : ∃ ad : Nat → Nat, ∀ c1, gH (c1, ad) (fun q => s.heap.size ≤ q) s s.heap := by
  have hA : ∀ a : Nat, a < s.heap.size → ¬ (fun q => s.heap.size ≤ q) a := fun a h => Nat.not_le.mpr h
  obtain ⟨adC, eC, vC⟩ := st_C hts hg
  obtain ⟨adR, eR, -⟩ := st_R hts hg
  obtain ⟨adK, adV, eS, vK⟩ := st_S hg
  have f1 : ∀ i, i < 8 → atN 12 (([2058, 2100, 2111, 2124, 2139, 2154, 2171, 2188] : List Nat).getD i 0) stG = Cond.eq (.field (.static "UmbrellaSchool$Command" (gCmds.getD i "") "LUmbrellaSchool$Command;") "UmbrellaSchool$Command" "form" "Ljava/lang/String;") (stT i) := by decide +kernel
  have eF := va_Efof (N := 8) (E := "UmbrellaSchool$Command") (d0 := "LUmbrellaSchool$Command;") (o := "UmbrellaSchool$Command") (n := "form") (d := "Ljava/lang/String;") (nm := gCmds) (v := fun i => .ref (adK i)) (tm := stT) (ad := adC) (A := fun q => s.heap.size ≤ q) vC (fun i hi => st_at hg _ (f1 i hi)) vK hA
  have f2 : ∀ j, j < 8 → atN 12 (([2480, 2482, 2483, 2484, 2486, 2487, 2488, 2490] : List Nat).getD j 0) stG = Cond.eq (.elem (.static "UmbrellaSchool" "COMMANDS" "[LUmbrellaSchool$Command;") (.int (Int32.ofNat j))) (.static "UmbrellaSchool$Command" (gCmds.getD j "") "LUmbrellaSchool$Command;") := by decide +kernel
  obtain ⟨t40, v40, e40⟩ := va_Tof (args := args) (tm := .static "UmbrellaSchool" "COMMANDS" "[LUmbrellaSchool$Command;") (ty := .object "UmbrellaSchool$Command") (N := 8) (f := fun j => .ref (adC j)) (A := fun q => s.heap.size ≤ q) (by decide) (st_at hg 2476 (by decide +kernel)) (va_eqt (z := 8) (st_at hg 2478 (by decide +kernel))) (fun j hj => va_eqv (st_at hg _ (f2 j hj)) (vC j hj)) hA
  have z40 := va_Zof (C := "UmbrellaSchool") (n := "COMMANDS") (hts _ (w_tb 1253 (by decide +kernel))) (hts _ (w_tb 1 (by decide +kernel))) v40 hA
  obtain ⟨t41, z41, e41⟩ := st_sw hts hg
  obtain ⟨t50, z50, e50⟩ := st_ones hts hg
  obtain ⟨t51, z51, e51⟩ := st_tens hts hg
  have zc := va_Zof (A := fun q => s.heap.size ≤ q) (hts _ (w_tb 149 (by decide +kernel))) (hts _ (w_tb 6 (by decide +kernel))) (va_eqi (C := "java/lang/String") (n := "COMPACT_STRINGS") (d := "Z") (z := 1) (st_at hg 2051 (by decide +kernel))) hA
  have zu := vx_Zqof (C := Bundle.tN) (n := "UNASSIGNED_STACK") (d := Bundle.steD) (A := fun q => s.heap.size ≤ q) (hts _ (w_tb 255 (by decide +kernel))) (hts _ (w_tb 13 (by decide +kernel))) (st_at hg 2052 (by decide +kernel)) hA
  have zs := vx_Zqof (C := Bundle.tN) (n := "SUPPRESSED_SENTINEL") (d := Bundle.listD) (A := fun q => s.heap.size ≤ q) (hts _ (w_tb 257 (by decide +kernel))) (hts _ (w_tb 13 (by decide +kernel))) (st_at hg 2054 (by decide +kernel)) hA
  have zp := va_Zqof (C := "jdk/internal/util/Preconditions") (n := "SIOOBE_FORMATTER") (d := "Ljava/util/function/BiFunction;") (A := fun q => s.heap.size ≤ q) (hts _ (w_tb 997 (by decide +kernel))) (hts _ (w_tb 27 (by decide +kernel))) (st_at hg 2205 (by decide +kernel)) hA
  obtain ⟨ad, had⟩ : ∃ ad : Nat → Nat, ad = fun n => if n < 10 then adC n else if n < 20 then adR (n - 10) else if n < 30 then adK (n - 20) else if n < 40 then adV (n - 30) else if n = 40 then t40 else if n = 41 then t41 else if n = 50 then t50 else t51 := ⟨_, rfl⟩
  have d0 : ∀ i, i < 8 → ad i = adC i := fun i hi => by rw [had]; exact if_pos (by omega)
  have d1 : ∀ i, i < 8 → ad (10 + i) = adR i := fun i hi => by
    rw [had]
    show (if 10 + i < 10 then _ else if 10 + i < 20 then adR (10 + i - 10) else _) = _
    rw [if_neg (by omega), if_pos (by omega), Nat.add_sub_cancel_left]
  have d2 : ∀ i, i < 8 → ad (20 + i) = adK i := fun i hi => by
    rw [had]
    show (if 20 + i < 10 then _ else if 20 + i < 20 then _ else if 20 + i < 30 then adK (20 + i - 20) else _) = _
    rw [if_neg (by omega), if_neg (by omega), if_pos (by omega), Nat.add_sub_cancel_left]
  have d3 : ∀ i, i < 8 → ad (30 + i) = adV i := fun i hi => by
    rw [had]
    show (if 30 + i < 10 then _ else if 30 + i < 20 then _ else if 30 + i < 30 then _ else if 30 + i < 40 then adV (30 + i - 30) else _) = _
    rw [if_neg (by omega), if_neg (by omega), if_neg (by omega), if_pos (by omega), Nat.add_sub_cancel_left]
  have d40 : ad 40 = t40 := by rw [had]; rfl
  have d41 : ad 41 = t41 := by rw [had]; rfl
  have d50 : ad 50 = t50 := by rw [had]; rfl
  have d51 : ad 51 = t51 := by rw [had]; rfl
  refine ⟨ad, fun c1 => ⟨zu, zs, eC.ad d0, eR.ad (fun i hi => d1 i (Nat.lt_of_lt_of_le hi (by decide))), fun k hk => ?_, eS.ad d2 d3, ?_, ?_, ?_, ?_, zc, ?_, ?_, ?_, ?_, zp⟩⟩
  · show va_OF _ _ _ (.ref (ad (20 + k))) (ad k) _ _ _
    rw [d2 k hk, d0 k hk]
    exact eF k hk
  · show va_Z _ _ _ (.ref (ad 40)) _ _ _
    rw [d40]; exact z40
  · show va_T _ (ad 40) 8 (fun j => .ref (ad j)) _ _ _
    rw [d40]
    obtain ⟨cell, q1, q2, q3, q4, q5, q6, q7⟩ := e40
    exact ⟨cell, q1, q2, q3, q4, q5, fun j hj => (q6 j hj).trans (congrArg (fun z => some (Value.ref z)) (d0 j hj).symm), q7⟩
  · show va_Z _ _ _ (.ref (ad 41)) _ _ _
    rw [d41]; exact z41
  · show va_T _ (ad 41) 8 _ _ _ _
    rw [d41]; exact e41
  · show va_Z _ _ _ (.ref (ad 50)) _ _ _
    rw [d50]; exact z50
  · show va_T _ (ad 50) 100 _ _ _ _
    rw [d50]; exact e50
  · show va_Z _ _ _ (.ref (ad 51)) _ _ _
    rw [d51]; exact z51
  · show va_T _ (ad 51) 100 _ _ _ _
    rw [d51]; exact e51
