/-! cheapest, twins, parents -/
/-- pairs: how many, and the first, told as 10 a + b -/
def jps (p : Nat → Nat → Bool) (i j : Nat) (s : Int32 × Int32) : Int32 × Int32 := if p i j then (s.1 + nI 1, if s.1 = nI 0 then nI (10 * i + j) else s.2) else s
section C4
variable {N9 G L B c n : Nat} {gt nu fo kk vv no bo tk : Nat → Nat} {bk_forgives bk_tolls bk_lengths : Nat → Int32} {bk_numbers : Nat → Nat → Int32} {m_told : Nat → Int32} {m_gate m_list : Nat → Nat → Int32}
variable {lw_kinds lw_values : Nat → Int32} {lw_length m_lawMany : Int32} {m_law : Nat → Nat → Int32} {st_now st_born st_age st_passed st_gone st_took : Nat → Int32} {st_year re ra : Int32} {m_now m_refused : Nat → Int32}
theorem jcheap (hN : 70000 < N9) (hk : jBk G L gt nu fo bk_forgives bk_tolls bk_lengths bk_numbers m_told m_gate m_list) (hl : jLw n kk vv lw_kinds lw_values lw_length m_lawMany m_law) (hs : jSt G B no bo c tk st_now st_born st_age st_passed st_gone st_took (nI B) st_year (nI c) m_now) {b : Nat} (hb : b < B) (x2 re' ra' : Int32) (th : Int32) (rf lw ru stk kn : Nat → Int32) :
    ∃ v lw' ru' stk' kn', pX9_cheapest_23 N9 bk_forgives bk_tolls bk_lengths bk_numbers (nI G) lw_kinds lw_values lw_length st_now st_age st_passed st_gone (nI b) x2 N9 lw ru re' ra' (-nI 1) (-nI 1) (nI 0) = some (nI 0, v, lw', ru', re', ra') ∧
      pM_cheapest_60 N9 m_told m_gate m_list m_lawMany m_law m_now (nI b) x2 N9 th rf stk kn (-nI 1) (-nI 1) (nI 0) = some (v, th, rf, stk', kn') := by
  have hs' := hs
  obtain ⟨hB, -, h42, -, -, -, -, hno, hgo, -⟩ := hs
  have hG := hk.1
  have hg1 := hk.2.2.1
  obtain ⟨n1, -, n2, n3, -⟩ := hno b hb
  have h := jev_loop (P := fun r r' => ∃ v lw' ru' stk' kn', r = (nI 0, v, lw', ru', re', ra') ∧ r' = (v, th, rf, stk', kn')) (fun n (s : (Nat → Int32) × (Nat → Int32) × Int32 × Int32) i => pX9_cheapest_23 N9 bk_forgives bk_tolls bk_lengths bk_numbers (nI G) lw_kinds lw_values lw_length st_now st_age st_passed st_gone (nI b) x2 n s.1 s.2.1 re' ra' s.2.2.1 s.2.2.2 i)
    (fun n (t : (Nat → Int32) × (Nat → Int32) × Int32 × Int32) i => pM_cheapest_60 N9 m_told m_gate m_list m_lawMany m_law m_now (nI b) x2 n th rf t.1 t.2.1 t.2.2.1 t.2.2.2 i) G (fun i s t => s.2.2 = t.2.2) ?_ ?_ G 0 (lw, ru, -nI 1, -nI 1) (stk, kn, -nI 1, -nI 1) N9 N9 (by omega) (by omega) (by omega) rfl
  · obtain ⟨r, r', q1, q2, v, lw', ru', stk', kn', rfl, rfl⟩ := h
    exact ⟨v, lw', ru', stk', kn', q1, q2⟩
  · rintro n m i ⟨l1, l2, a, d⟩ ⟨k1, k2, a', d'⟩ hi hst
    obtain ⟨rfl, rfl⟩ : a = a' ∧ d = d' := ⟨congrArg Prod.fst hst, congrArg Prod.snd hst⟩
    have hx := jxopen hN hk n1 hi
    have hm := jmopen hN hk n1 hi
    show ∃ s' t', pX9_cheapest_23 N9 bk_forgives bk_tolls bk_lengths bk_numbers (nI G) lw_kinds lw_values lw_length st_now st_age st_passed st_gone (nI b) x2 (n + 1) l1 l2 re' ra' a d (nI i) = _ ∧ pM_cheapest_60 N9 m_told m_gate m_list m_lawMany m_law m_now (nI b) x2 (m + 1) th rf k1 k2 a d (nI i) = _ ∧ _
    simp only [pX9_cheapest_23, pX9_cheapest_104, pX9_cheapest_97, pM_cheapest_60, pM_cheapest_127, pM_cheapest_120, jlit]
    simp (disch := omega) only [jb1, jb2, jb3, jb4, jb5, jb6, jb7, jb8, jb9, jb10, jb11, jb12, jb13, jb14, jb15, jb16, jb17, jb18, jb19, jb20, jb21, jb22, jb23, jb24, jb25, jb26, jb27, jb28, jb29, jb30, jb31, jb32, jb33, jb34, jb35, jb36, jb37, jb38, jb39, jb40, jb41, jb42, jb43, jb44, jb45, jb46, jb47, jb48, jb49, jb50, zlet, jlit, jle_t, jle_f, jlt_t, jlt_f, jeq_t, jeq_f, jeqN_f, jNeq_f, jNN, jN1, jadd, jsub, jzin, jcl, if_true, if_false, ite_true, ite_false, not_true, not_false_iff, not_true_eq_false, not_false_eq_true, jB_t, jB_f, jB0_t, jB0_f, jBa, jand11, jand00, ↓reduceIte, Nat.reduceEqDiff, Nat.reduceAdd, Nat.reduceSub, hg1, n2, n3, hx, hm, Nat.zero_add]
    cases hc : jopen gt nu fo L i (no b)
    · simp (disch := omega) only [jb1, jb2, jb3, jb4, jb5, jb6, jb7, jb8, jb9, jb10, jb11, jb12, jb13, jb14, jb15, jb16, jb17, jb18, jb19, jb20, jb21, jb22, jb23, jb24, jb25, jb26, jb27, jb28, jb29, jb30, jb31, jb32, jb33, jb34, jb35, jb36, jb37, jb38, jb39, jb40, jb41, jb42, jb43, jb44, jb45, jb46, jb47, jb48, jb49, jb50, zlet, jlit, jle_t, jle_f, jlt_t, jlt_f, jeq_t, jeq_f, jeqN_f, jNeq_f, jNN, jN1, jadd, jsub, jzin, jcl, if_true, if_false, ite_true, ite_false, not_true, not_false_iff, not_true_eq_false, not_false_eq_true, jB_t, jB_f, jB0_t, jB0_f, jBa, jand11, jand00, ↓reduceIte, Nat.reduceEqDiff, Nat.reduceAdd, Nat.reduceSub, Bool.false_eq_true]
      exact ⟨(l1, l2, a, d), (k1, k2, a, d), rfl, rfl, rfl⟩
    · have hne : ¬ jnear gt nu i L (no b) = -nI 1 := by
        intro hq
        unfold jopen at hc
        rw [hq] at hc
        exact absurd hc (by simp)
      obtain ⟨st, ru, q1⟩ := jxfeeOf hN hk hl hs' hb hi l1 l2 (st_gone i)
      obtain ⟨st', kn, q2⟩ := jmfeeOf hN hk hl hs' hb hi k1 k2 (nI 0)
      rw [jadd0] at q2
      rw [if_neg hne] at q1
      generalize jfo kk vv _ gt nu L bk_tolls no st_age st_passed b i (st_gone i) = f at q1 q2
      simp (disch := omega) only [jb1, jb2, jb3, jb4, jb5, jb6, jb7, jb8, jb9, jb10, jb11, jb12, jb13, jb14, jb15, jb16, jb17, jb18, jb19, jb20, jb21, jb22, jb23, jb24, jb25, jb26, jb27, jb28, jb29, jb30, jb31, jb32, jb33, jb34, jb35, jb36, jb37, jb38, jb39, jb40, jb41, jb42, jb43, jb44, jb45, jb46, jb47, jb48, jb49, jb50, zlet, jlit, jle_t, jle_f, jlt_t, jlt_f, jeq_t, jeq_f, jeqN_f, jNeq_f, jNN, jN1, jadd, jsub, jzin, jcl, if_true, if_false, ite_true, ite_false, not_true, not_false_iff, not_true_eq_false, not_false_eq_true, jB_t, jB_f, jB0_t, jB0_f, jBa, jand11, jand00, ↓reduceIte, Nat.reduceEqDiff, Nat.reduceAdd, Nat.reduceSub, q1, q2]
      by_cases ha : a = -nI 1
      · rw [if_pos ha, if_pos ha]
        exact ⟨(st, ru, nI i, f), (st', kn, nI i, f), rfl, rfl, rfl⟩
      · rw [if_neg ha, if_neg ha]
        by_cases hd : d ≤ f
        · rw [if_pos hd, if_neg (jnle.mpr hd)]
          exact ⟨(st, ru, a, d), (st', kn, a, d), rfl, rfl, rfl⟩
        · rw [if_neg hd, if_pos (jnlt.mp hd)]
          exact ⟨(st, ru, nI i, f), (st', kn, nI i, f), rfl, rfl, rfl⟩
  · rintro n m ⟨l1, l2, a, d⟩ ⟨k1, k2, a', d'⟩ hst
    obtain ⟨rfl, rfl⟩ : a = a' ∧ d = d' := ⟨congrArg Prod.fst hst, congrArg Prod.snd hst⟩
    show jev _ (pX9_cheapest_23 N9 bk_forgives bk_tolls bk_lengths bk_numbers (nI G) lw_kinds lw_values lw_length st_now st_age st_passed st_gone (nI b) x2 (n + 1) l1 l2 re' ra' a d (nI G)) (pM_cheapest_60 N9 m_told m_gate m_list m_lawMany m_law m_now (nI b) x2 (m + 1) th rf k1 k2 a d (nI G))
    simp only [pX9_cheapest_23, pX9_cheapest_120, pM_cheapest_60, pM_cheapest_143, jlit]
    simp (disch := omega) only [jb1, jb2, jb3, jb4, jb5, jb6, jb7, jb8, jb9, jb10, jb11, jb12, jb13, jb14, jb15, jb16, jb17, jb18, jb19, jb20, jb21, jb22, jb23, jb24, jb25, jb26, jb27, jb28, jb29, jb30, jb31, jb32, jb33, jb34, jb35, jb36, jb37, jb38, jb39, jb40, jb41, jb42, jb43, jb44, jb45, jb46, jb47, jb48, jb49, jb50, zlet, jlit, jle_t, jle_f, jlt_t, jlt_f, jeq_t, jeq_f, jeqN_f, jNeq_f, jNN, jN1, jadd, jsub, jzin, jcl, if_true, if_false, ite_true, ite_false, not_true, not_false_iff, not_true_eq_false, not_false_eq_true, jB_t, jB_f, jB0_t, jB0_f, jBa, jand11, jand00, ↓reduceIte, Nat.reduceEqDiff, Nat.reduceAdd, Nat.reduceSub, hg1]
    by_cases h1 : x2 = nI 0
    · rw [if_pos h1, if_pos h1]
      exact ⟨_, _, rfl, rfl, _, _, _, _, _, rfl, rfl⟩
    · rw [if_neg h1, if_neg h1]
      exact ⟨_, _, rfl, rfl, _, _, _, _, _, rfl, rfl⟩
theorem jop_cheapest (hN : 70000 < N9) (hk : jBk G L gt nu fo bk_forgives bk_tolls bk_lengths bk_numbers m_told m_gate m_list) (hl : jLw n kk vv lw_kinds lw_values lw_length m_lawMany m_law) (hs : jSt G B no bo c tk st_now st_born st_age st_passed st_gone st_took (nI B) st_year (nI c) m_now) (hR : jRf re ra m_refused) (lw_stack : Nat → Int32) (ru_facts : Nat → Int32) (m_thrown : Int32) (m_stack : Nat → Int32) (m_known : Nat → Int32) (x1 : Int32) (x2 : Int32): ∃ z r lw_stack1 ru_facts1 re1 ra1 q th rf1 m_stack1 m_known1, pX9_cheapest N9 bk_forgives bk_tolls bk_lengths bk_numbers (nI G) lw_kinds lw_values lw_stack lw_length ru_facts st_now st_age st_passed st_gone (nI B) re ra x1 x2 = some (z, r, lw_stack1, ru_facts1, re1, ra1) ∧ pM_cheapest N9 m_thrown m_refused m_told m_gate m_list m_lawMany m_law m_stack m_known m_now x1 x2 = some (q, th, rf1, m_stack1, m_known1) ∧ jOutB z th r q ∧ jRf re1 ra1 rf1 := by
  have hch := fun (b : Nat) (hb : b < B) (x2 : Int32) => jcheap hN hk hl hs hb x2 re ra (nI 0) m_refused lw_stack ru_facts m_stack m_known
  obtain ⟨hB, -, h42, -, -, -, -, hno, -⟩ := hs
  unfold pX9_cheapest pM_cheapest pM_cheapest_19 pM_cheapest_42 pM_cheapest_50
  simp only [jlit, jN1]
  rcases jcase_b (N9 := N9) (re := re) h42 hB x1 with ⟨b, hb, rfl, h1, h2⟩ | ⟨h1, h2⟩
  · rcases jcase_a N9 (a := 1) (by omega) x2 with ⟨k, hk5, rfl, h3, h4⟩ | ⟨h3, h4⟩
    · obtain ⟨v, lw', ru', stk', kn', w1, w2⟩ := hch b hb (nI k)
      rw [h1, jb2, if_pos rfl, h3, jb1, jnA1, jb2, if_pos rfl, h2, jb1, if_neg j10, jbadO, jb3, if_pos rfl, h4, jb1, if_neg j10, jbadO, jb3, if_pos rfl, w1, w2]
      exact ⟨_, _, _, _, _, _, _, _, _, _, _, rfl, rfl, Or.inl ⟨rfl, rfl, rfl⟩, hR⟩
    · rw [h1, jb2, if_pos rfl, h3, jb1, jnA0, jb2, if_neg j20, h2, jb1, if_neg j10, jbadO, jb3, if_pos rfl, h4, jb1, if_pos rfl, jbadB, jb3, if_neg j10]
      exact ⟨_, _, _, _, _, _, _, _, _, _, _, rfl, rfl, Or.inr (Or.inr ⟨rfl, rfl⟩), hR.arg⟩
  · rw [h1, jb2, if_neg j10, h2, jb1, if_pos rfl, jbadE, jb3, if_neg j10]
    exact ⟨_, _, _, _, _, _, _, _, _, _, _, rfl, rfl, Or.inr (Or.inl ⟨rfl, rfl⟩), hR.elem⟩
/-- pairs: how many, and the first, told as 10 a + b -/
def jrd (p : Nat → Nat → Bool) (i : Nat) : Nat → Nat → Int32 × Int32 → Int32 × Int32 | 0, _, s => s | d + 1, j, s => jrd p i d (j + 1) (jps p i j s)
def jad (p : Nat → Nat → Bool) (B : Nat) : Nat → Nat → Int32 × Int32 → Int32 × Int32 | 0, _, s => s | d + 1, i, s => jad p B d (i + 1) (jrd p i (B - (i + 1)) (i + 1) s)
theorem jxfoalN (hN : 70000 < N9) (hs : jSt G B no bo c tk st_now st_born st_age st_passed st_gone st_took (nI B) st_year (nI c) m_now) {i j : Nat} (hi : i < B) (hj : j < B) : pX7_foalNumber N9 st_born (nI i) (nI j) = some (nI ((bo i + bo j) % 256)) := by
  obtain ⟨hB, -, -, -, -, -, -, hno, -⟩ := hs
  obtain ⟨-, a1, -, -, a2, -⟩ := hno i hi
  obtain ⟨-, b1, -, -, b2, -⟩ := hno j hj
  unfold pX7_foalNumber
  simp (disch := omega) only [jb1, jb2, jb3, jb4, jb5, jb6, jb7, jb8, jb9, jb10, jb11, jb12, jb13, jb14, jb15, jb16, jb17, jb18, jb19, jb20, jb21, jb22, jb23, jb24, jb25, jb26, jb27, jb28, jb29, jb30, jb31, jb32, jb33, jb34, jb35, jb36, jb37, jb38, jb39, jb40, jb41, jb42, jb43, jb44, jb45, jb46, jb47, jb48, jb49, jb50, zlet, jlit, jle_t, jle_f, jlt_t, jlt_f, jeq_t, jeq_f, jeqN_f, jNeq_f, jNN, jN1, jadd, jsub, jzin, jcl, if_true, if_false, ite_true, ite_false, not_true, not_false_iff, not_true_eq_false, not_false_eq_true, jB_t, jB_f, jB0_t, jB0_f, jBa, jand11, jand00, ↓reduceIte, Nat.reduceEqDiff, Nat.reduceAdd, Nat.reduceSub, a2, b2, jrem]
theorem jx_twins (hN : 70000 < N9) (hs : jSt G B no bo c tk st_now st_born st_age st_passed st_gone st_took (nI B) st_year (nI c) m_now) (ra' : Int32) (x2 : Int32) {d : Nat} (hd : d < 256) : pX9_twins_36 N9 st_now (nI B) (nI d) x2 N9 ra' (nI 0) (-nI 1) (nI 0) = some (nI 0, (if x2 = nI 0 then (jad (fun i j => decide (jpop (no i ^^^ no j) ≤ d)) B B 0 (nI 0, -nI 1)).1 else (jad (fun i j => decide (jpop (no i ^^^ no j) ≤ d)) B B 0 (nI 0, -nI 1)).2), ra') := by
  have hs' := hs
  obtain ⟨hB, -, h42, -, -, -, -, hno, -⟩ := hs
  have inner : ∀ (k : Int32 → Int32 → Int32 → Int32 → Option (Int32 × Int32 × Int32)) (i : Nat), i < B → ∀ e j n (s : Int32 × Int32), j + e = B → e < n → pX9_twins_54 N9 st_now (nI B) ra' (nI d) x2 k n s.1 s.2 (nI i) (nI j) = k ra' (jrd (fun i j => decide (jpop (no i ^^^ no j) ≤ d)) i e j s).1 (jrd (fun i j => decide (jpop (no i ^^^ no j) ≤ d)) i e j s).2 (nI (i + 1)) := by
    intro k i hi e
    obtain ⟨a1, a2, a3, a4, a5, a6, -⟩ := hno i hi
    induction e with
    | zero =>
      intro j n s h1 h2
      obtain ⟨n, rfl⟩ : ∃ q, n = q + 1 := ⟨n - 1, by omega⟩
      obtain rfl : j = B := by omega
      simp only [pX9_twins_54, jlit]
      simp (disch := omega) only [jb1, jb2, jb3, jb4, jb5, jb6, jb7, jb8, jb9, jb10, jb11, jb12, jb13, jb14, jb15, jb16, jb17, jb18, jb19, jb20, jb21, jb22, jb23, jb24, jb25, jb26, jb27, jb28, jb29, jb30, jb31, jb32, jb33, jb34, jb35, jb36, jb37, jb38, jb39, jb40, jb41, jb42, jb43, jb44, jb45, jb46, jb47, jb48, jb49, jb50, zlet, jlit, jle_t, jle_f, jlt_t, jlt_f, jeq_t, jeq_f, jeqN_f, jNeq_f, jNN, jN1, jadd, jsub, jzin, jcl, if_true, if_false, ite_true, ite_false, not_true, not_false_iff, not_true_eq_false, not_false_eq_true, jB_t, jB_f, jB0_t, jB0_f, jBa, jand11, jand00, ↓reduceIte, Nat.reduceEqDiff, Nat.reduceAdd, Nat.reduceSub, h42]
      rfl
    | succ e ih =>
      intro j n s h1 h2
      obtain ⟨n, rfl⟩ : ∃ q, n = q + 1 := ⟨n - 1, by omega⟩
      obtain ⟨b1, b2, b3, b4, b5, b6, -⟩ := hno j (by omega)
      have h3 := ih (j + 1) n (jps (fun i j => decide (jpop (no i ^^^ no j) ≤ d)) i j s) (by omega) (by omega)
      have hx := jxor_lt a1 b1
      have hpp := jpop_le (no i ^^^ no j)
      rw [jrd]
      simp only [pX9_twins_54, pX9_twins_111, pX9_twins_116, jlit]
      by_cases hp : jpop (no i ^^^ no j) ≤ d
      · rw [show jps (fun i j => decide (jpop (no i ^^^ no j) ≤ d)) i j s = (s.1 + nI 1, if s.1 = nI 0 then nI (10 * i + j) else s.2) from if_pos (by simp [hp])] at h3 ⊢
        simp (disch := omega) only [jb1, jb2, jb3, jb4, jb5, jb6, jb7, jb8, jb9, jb10, jb11, jb12, jb13, jb14, jb15, jb16, jb17, jb18, jb19, jb20, jb21, jb22, jb23, jb24, jb25, jb26, jb27, jb28, jb29, jb30, jb31, jb32, jb33, jb34, jb35, jb36, jb37, jb38, jb39, jb40, jb41, jb42, jb43, jb44, jb45, jb46, jb47, jb48, jb49, jb50, zlet, jlit, jle_t, jle_f, jlt_t, jlt_f, jeq_t, jeq_f, jeqN_f, jNeq_f, jNN, jN1, jadd, jsub, jzin, jcl, if_true, if_false, ite_true, ite_false, not_true, not_false_iff, not_true_eq_false, not_false_eq_true, jB_t, jB_f, jB0_t, jB0_f, jBa, jand11, jand00, ↓reduceIte, Nat.reduceEqDiff, Nat.reduceAdd, Nat.reduceSub, h42, Nat.zero_add, a3, b3, jxor, jbc hx, hp]
        by_cases h0 : s.1 = nI 0
        · rw [if_pos h0] at h3 ⊢
          simp (disch := omega) only [jb1, jb2, jb3, jb4, jb5, jb6, jb7, jb8, jb9, jb10, jb11, jb12, jb13, jb14, jb15, jb16, jb17, jb18, jb19, jb20, jb21, jb22, jb23, jb24, jb25, jb26, jb27, jb28, jb29, jb30, jb31, jb32, jb33, jb34, jb35, jb36, jb37, jb38, jb39, jb40, jb41, jb42, jb43, jb44, jb45, jb46, jb47, jb48, jb49, jb50, zlet, jlit, jle_t, jle_f, jlt_t, jlt_f, jeq_t, jeq_f, jeqN_f, jNeq_f, jNN, jN1, jadd, jsub, jzin, jcl, if_true, if_false, ite_true, ite_false, not_true, not_false_iff, not_true_eq_false, not_false_eq_true, jB_t, jB_f, jB0_t, jB0_f, jBa, jand11, jand00, ↓reduceIte, Nat.reduceEqDiff, Nat.reduceAdd, Nat.reduceSub, jmul, h0]
          rw [h0] at h3
          exact h3
        · rw [if_neg h0] at h3 ⊢
          simp (disch := omega) only [jb1, jb2, jb3, jb4, jb5, jb6, jb7, jb8, jb9, jb10, jb11, jb12, jb13, jb14, jb15, jb16, jb17, jb18, jb19, jb20, jb21, jb22, jb23, jb24, jb25, jb26, jb27, jb28, jb29, jb30, jb31, jb32, jb33, jb34, jb35, jb36, jb37, jb38, jb39, jb40, jb41, jb42, jb43, jb44, jb45, jb46, jb47, jb48, jb49, jb50, zlet, jlit, jle_t, jle_f, jlt_t, jlt_f, jeq_t, jeq_f, jeqN_f, jNeq_f, jNN, jN1, jadd, jsub, jzin, jcl, if_true, if_false, ite_true, ite_false, not_true, not_false_iff, not_true_eq_false, not_false_eq_true, jB_t, jB_f, jB0_t, jB0_f, jBa, jand11, jand00, ↓reduceIte, Nat.reduceEqDiff, Nat.reduceAdd, Nat.reduceSub, h0]
          exact h3
      · rw [show jps (fun i j => decide (jpop (no i ^^^ no j) ≤ d)) i j s = s from if_neg (by simp [hp])] at h3 ⊢
        simp (disch := omega) only [jb1, jb2, jb3, jb4, jb5, jb6, jb7, jb8, jb9, jb10, jb11, jb12, jb13, jb14, jb15, jb16, jb17, jb18, jb19, jb20, jb21, jb22, jb23, jb24, jb25, jb26, jb27, jb28, jb29, jb30, jb31, jb32, jb33, jb34, jb35, jb36, jb37, jb38, jb39, jb40, jb41, jb42, jb43, jb44, jb45, jb46, jb47, jb48, jb49, jb50, zlet, jlit, jle_t, jle_f, jlt_t, jlt_f, jeq_t, jeq_f, jeqN_f, jNeq_f, jNN, jN1, jadd, jsub, jzin, jcl, if_true, if_false, ite_true, ite_false, not_true, not_false_iff, not_true_eq_false, not_false_eq_true, jB_t, jB_f, jB0_t, jB0_f, jBa, jand11, jand00, ↓reduceIte, Nat.reduceEqDiff, Nat.reduceAdd, Nat.reduceSub, h42, Nat.zero_add, a3, b3, jxor, jbc hx, hp]
        exact h3
  have outer : ∀ e i n (s : Int32 × Int32), i + e = B → e < n → pX9_twins_36 N9 st_now (nI B) (nI d) x2 n ra' s.1 s.2 (nI i) = some (nI 0, (if x2 = nI 0 then (jad (fun i j => decide (jpop (no i ^^^ no j) ≤ d)) B e i s).1 else (jad (fun i j => decide (jpop (no i ^^^ no j) ≤ d)) B e i s).2), ra') := by
    intro e
    induction e with
    | zero =>
      intro i n s h1 h2
      obtain ⟨n, rfl⟩ : ∃ q, n = q + 1 := ⟨n - 1, by omega⟩
      obtain rfl : i = B := by omega
      simp only [pX9_twins_36, pX9_twins_138, jlit]
      simp (disch := omega) only [jb1, jb2, jb3, jb4, jb5, jb6, jb7, jb8, jb9, jb10, jb11, jb12, jb13, jb14, jb15, jb16, jb17, jb18, jb19, jb20, jb21, jb22, jb23, jb24, jb25, jb26, jb27, jb28, jb29, jb30, jb31, jb32, jb33, jb34, jb35, jb36, jb37, jb38, jb39, jb40, jb41, jb42, jb43, jb44, jb45, jb46, jb47, jb48, jb49, jb50, zlet, jlit, jle_t, jle_f, jlt_t, jlt_f, jeq_t, jeq_f, jeqN_f, jNeq_f, jNN, jN1, jadd, jsub, jzin, jcl, if_true, if_false, ite_true, ite_false, not_true, not_false_iff, not_true_eq_false, not_false_eq_true, jB_t, jB_f, jB0_t, jB0_f, jBa, jand11, jand00, ↓reduceIte, Nat.reduceEqDiff, Nat.reduceAdd, Nat.reduceSub, h42]
      rw [jad]
      by_cases h0 : x2 = nI 0
      · rw [if_pos h0, if_pos h0]
      · rw [if_neg h0, if_neg h0]
    | succ e ih =>
      intro i n s h1 h2
      obtain ⟨n, rfl⟩ : ∃ q, n = q + 1 := ⟨n - 1, by omega⟩
      simp only [pX9_twins_36, jlit]
      simp (disch := omega) only [jb1, jb2, jb3, jb4, jb5, jb6, jb7, jb8, jb9, jb10, jb11, jb12, jb13, jb14, jb15, jb16, jb17, jb18, jb19, jb20, jb21, jb22, jb23, jb24, jb25, jb26, jb27, jb28, jb29, jb30, jb31, jb32, jb33, jb34, jb35, jb36, jb37, jb38, jb39, jb40, jb41, jb42, jb43, jb44, jb45, jb46, jb47, jb48, jb49, jb50, zlet, jlit, jle_t, jle_f, jlt_t, jlt_f, jeq_t, jeq_f, jeqN_f, jNeq_f, jNN, jN1, jadd, jsub, jzin, jcl, if_true, if_false, ite_true, ite_false, not_true, not_false_iff, not_true_eq_false, not_false_eq_true, jB_t, jB_f, jB0_t, jB0_f, jBa, jand11, jand00, ↓reduceIte, Nat.reduceEqDiff, Nat.reduceAdd, Nat.reduceSub, h42]
      rw [inner _ i (by omega) (B - (i + 1)) (i + 1) N9 s (by omega) (by omega), jad]
      exact ih (i + 1) n _ (by omega) (by omega)
  exact outer B 0 N9 (nI 0, -nI 1) (by omega) (by omega)
theorem jm_twins (hN : 70000 < N9) (hs : jSt G B no bo c tk st_now st_born st_age st_passed st_gone st_took (nI B) st_year (nI c) m_now) (th : Int32) (rf : Nat → Int32) (x2 : Int32) {d : Nat} (hd : d < 256) : pM_twins_48 N9 m_now (nI d) x2 N9 th rf (nI 0) (-nI 1) (nI 0) = some ((if x2 = nI 0 then (jad (fun i j => decide (jpop (no i ^^^ no j) ≤ d)) B B 0 (nI 0, -nI 1)).1 else (jad (fun i j => decide (jpop (no i ^^^ no j) ≤ d)) B B 0 (nI 0, -nI 1)).2), th, rf) := by
  have hs' := hs
  obtain ⟨hB, -, h42, -, -, -, -, hno, -⟩ := hs
  have inner : ∀ (k : Int32 → (Nat → Int32) → Int32 → Int32 → Int32 → Option (Int32 × Int32 × (Nat → Int32))) (i : Nat), i < B → ∀ e j n (s : Int32 × Int32), j + e = B → e < n → pM_twins_66 N9 th rf m_now (nI d) x2 k n s.1 s.2 (nI i) (nI j) = k th rf (jrd (fun i j => decide (jpop (no i ^^^ no j) ≤ d)) i e j s).1 (jrd (fun i j => decide (jpop (no i ^^^ no j) ≤ d)) i e j s).2 (nI (i + 1)) := by
    intro k i hi e
    obtain ⟨a1, a2, a3, a4, a5, a6, -⟩ := hno i hi
    induction e with
    | zero =>
      intro j n s h1 h2
      obtain ⟨n, rfl⟩ : ∃ q, n = q + 1 := ⟨n - 1, by omega⟩
      obtain rfl : j = B := by omega
      simp only [pM_twins_66, jlit]
      simp (disch := omega) only [jb1, jb2, jb3, jb4, jb5, jb6, jb7, jb8, jb9, jb10, jb11, jb12, jb13, jb14, jb15, jb16, jb17, jb18, jb19, jb20, jb21, jb22, jb23, jb24, jb25, jb26, jb27, jb28, jb29, jb30, jb31, jb32, jb33, jb34, jb35, jb36, jb37, jb38, jb39, jb40, jb41, jb42, jb43, jb44, jb45, jb46, jb47, jb48, jb49, jb50, zlet, jlit, jle_t, jle_f, jlt_t, jlt_f, jeq_t, jeq_f, jeqN_f, jNeq_f, jNN, jN1, jadd, jsub, jzin, jcl, if_true, if_false, ite_true, ite_false, not_true, not_false_iff, not_true_eq_false, not_false_eq_true, jB_t, jB_f, jB0_t, jB0_f, jBa, jand11, jand00, ↓reduceIte, Nat.reduceEqDiff, Nat.reduceAdd, Nat.reduceSub, h42]
      rfl
    | succ e ih =>
      intro j n s h1 h2
      obtain ⟨n, rfl⟩ : ∃ q, n = q + 1 := ⟨n - 1, by omega⟩
      obtain ⟨b1, b2, b3, b4, b5, b6, -⟩ := hno j (by omega)
      have h3 := ih (j + 1) n (jps (fun i j => decide (jpop (no i ^^^ no j) ≤ d)) i j s) (by omega) (by omega)
      have hx := jxor_lt a1 b1
      have hpp := jpop_le (no i ^^^ no j)
      rw [jrd]
      simp only [pM_twins_66, pM_twins_124, pM_twins_129, jlit]
      by_cases hp : jpop (no i ^^^ no j) ≤ d
      · rw [show jps (fun i j => decide (jpop (no i ^^^ no j) ≤ d)) i j s = (s.1 + nI 1, if s.1 = nI 0 then nI (10 * i + j) else s.2) from if_pos (by simp [hp])] at h3 ⊢
        simp (disch := omega) only [jb1, jb2, jb3, jb4, jb5, jb6, jb7, jb8, jb9, jb10, jb11, jb12, jb13, jb14, jb15, jb16, jb17, jb18, jb19, jb20, jb21, jb22, jb23, jb24, jb25, jb26, jb27, jb28, jb29, jb30, jb31, jb32, jb33, jb34, jb35, jb36, jb37, jb38, jb39, jb40, jb41, jb42, jb43, jb44, jb45, jb46, jb47, jb48, jb49, jb50, zlet, jlit, jle_t, jle_f, jlt_t, jlt_f, jeq_t, jeq_f, jeqN_f, jNeq_f, jNN, jN1, jadd, jsub, jzin, jcl, if_true, if_false, ite_true, ite_false, not_true, not_false_iff, not_true_eq_false, not_false_eq_true, jB_t, jB_f, jB0_t, jB0_f, jBa, jand11, jand00, ↓reduceIte, Nat.reduceEqDiff, Nat.reduceAdd, Nat.reduceSub, h42, Nat.zero_add, a4, b4, jxor, jo hN hx, hp]
        by_cases h0 : s.1 = nI 0
        · rw [if_pos h0] at h3 ⊢
          simp (disch := omega) only [jb1, jb2, jb3, jb4, jb5, jb6, jb7, jb8, jb9, jb10, jb11, jb12, jb13, jb14, jb15, jb16, jb17, jb18, jb19, jb20, jb21, jb22, jb23, jb24, jb25, jb26, jb27, jb28, jb29, jb30, jb31, jb32, jb33, jb34, jb35, jb36, jb37, jb38, jb39, jb40, jb41, jb42, jb43, jb44, jb45, jb46, jb47, jb48, jb49, jb50, zlet, jlit, jle_t, jle_f, jlt_t, jlt_f, jeq_t, jeq_f, jeqN_f, jNeq_f, jNN, jN1, jadd, jsub, jzin, jcl, if_true, if_false, ite_true, ite_false, not_true, not_false_iff, not_true_eq_false, not_false_eq_true, jB_t, jB_f, jB0_t, jB0_f, jBa, jand11, jand00, ↓reduceIte, Nat.reduceEqDiff, Nat.reduceAdd, Nat.reduceSub, jmul, h0]
          rw [h0] at h3
          exact h3
        · rw [if_neg h0] at h3 ⊢
          simp (disch := omega) only [jb1, jb2, jb3, jb4, jb5, jb6, jb7, jb8, jb9, jb10, jb11, jb12, jb13, jb14, jb15, jb16, jb17, jb18, jb19, jb20, jb21, jb22, jb23, jb24, jb25, jb26, jb27, jb28, jb29, jb30, jb31, jb32, jb33, jb34, jb35, jb36, jb37, jb38, jb39, jb40, jb41, jb42, jb43, jb44, jb45, jb46, jb47, jb48, jb49, jb50, zlet, jlit, jle_t, jle_f, jlt_t, jlt_f, jeq_t, jeq_f, jeqN_f, jNeq_f, jNN, jN1, jadd, jsub, jzin, jcl, if_true, if_false, ite_true, ite_false, not_true, not_false_iff, not_true_eq_false, not_false_eq_true, jB_t, jB_f, jB0_t, jB0_f, jBa, jand11, jand00, ↓reduceIte, Nat.reduceEqDiff, Nat.reduceAdd, Nat.reduceSub, h0]
          exact h3
      · rw [show jps (fun i j => decide (jpop (no i ^^^ no j) ≤ d)) i j s = s from if_neg (by simp [hp])] at h3 ⊢
        simp (disch := omega) only [jb1, jb2, jb3, jb4, jb5, jb6, jb7, jb8, jb9, jb10, jb11, jb12, jb13, jb14, jb15, jb16, jb17, jb18, jb19, jb20, jb21, jb22, jb23, jb24, jb25, jb26, jb27, jb28, jb29, jb30, jb31, jb32, jb33, jb34, jb35, jb36, jb37, jb38, jb39, jb40, jb41, jb42, jb43, jb44, jb45, jb46, jb47, jb48, jb49, jb50, zlet, jlit, jle_t, jle_f, jlt_t, jlt_f, jeq_t, jeq_f, jeqN_f, jNeq_f, jNN, jN1, jadd, jsub, jzin, jcl, if_true, if_false, ite_true, ite_false, not_true, not_false_iff, not_true_eq_false, not_false_eq_true, jB_t, jB_f, jB0_t, jB0_f, jBa, jand11, jand00, ↓reduceIte, Nat.reduceEqDiff, Nat.reduceAdd, Nat.reduceSub, h42, Nat.zero_add, a4, b4, jxor, jo hN hx, hp]
        exact h3
  have outer : ∀ e i n (s : Int32 × Int32), i + e = B → e < n → pM_twins_48 N9 m_now (nI d) x2 n th rf s.1 s.2 (nI i) = some ((if x2 = nI 0 then (jad (fun i j => decide (jpop (no i ^^^ no j) ≤ d)) B e i s).1 else (jad (fun i j => decide (jpop (no i ^^^ no j) ≤ d)) B e i s).2), th, rf) := by
    intro e
    induction e with
    | zero =>
      intro i n s h1 h2
      obtain ⟨n, rfl⟩ : ∃ q, n = q + 1 := ⟨n - 1, by omega⟩
      obtain rfl : i = B := by omega
      simp only [pM_twins_48, pM_twins_151, jlit]
      simp (disch := omega) only [jb1, jb2, jb3, jb4, jb5, jb6, jb7, jb8, jb9, jb10, jb11, jb12, jb13, jb14, jb15, jb16, jb17, jb18, jb19, jb20, jb21, jb22, jb23, jb24, jb25, jb26, jb27, jb28, jb29, jb30, jb31, jb32, jb33, jb34, jb35, jb36, jb37, jb38, jb39, jb40, jb41, jb42, jb43, jb44, jb45, jb46, jb47, jb48, jb49, jb50, zlet, jlit, jle_t, jle_f, jlt_t, jlt_f, jeq_t, jeq_f, jeqN_f, jNeq_f, jNN, jN1, jadd, jsub, jzin, jcl, if_true, if_false, ite_true, ite_false, not_true, not_false_iff, not_true_eq_false, not_false_eq_true, jB_t, jB_f, jB0_t, jB0_f, jBa, jand11, jand00, ↓reduceIte, Nat.reduceEqDiff, Nat.reduceAdd, Nat.reduceSub, h42]
      rw [jad]
      by_cases h0 : x2 = nI 0
      · rw [if_pos h0, if_pos h0]
      · rw [if_neg h0, if_neg h0]
    | succ e ih =>
      intro i n s h1 h2
      obtain ⟨n, rfl⟩ : ∃ q, n = q + 1 := ⟨n - 1, by omega⟩
      simp only [pM_twins_48, jlit]
      simp (disch := omega) only [jb1, jb2, jb3, jb4, jb5, jb6, jb7, jb8, jb9, jb10, jb11, jb12, jb13, jb14, jb15, jb16, jb17, jb18, jb19, jb20, jb21, jb22, jb23, jb24, jb25, jb26, jb27, jb28, jb29, jb30, jb31, jb32, jb33, jb34, jb35, jb36, jb37, jb38, jb39, jb40, jb41, jb42, jb43, jb44, jb45, jb46, jb47, jb48, jb49, jb50, zlet, jlit, jle_t, jle_f, jlt_t, jlt_f, jeq_t, jeq_f, jeqN_f, jNeq_f, jNN, jN1, jadd, jsub, jzin, jcl, if_true, if_false, ite_true, ite_false, not_true, not_false_iff, not_true_eq_false, not_false_eq_true, jB_t, jB_f, jB0_t, jB0_f, jBa, jand11, jand00, ↓reduceIte, Nat.reduceEqDiff, Nat.reduceAdd, Nat.reduceSub, h42]
      rw [inner _ i (by omega) (B - (i + 1)) (i + 1) N9 s (by omega) (by omega), jad]
      exact ih (i + 1) n _ (by omega) (by omega)
  exact outer B 0 N9 (nI 0, -nI 1) (by omega) (by omega)
theorem jop_twins (hN : 70000 < N9) (hs : jSt G B no bo c tk st_now st_born st_age st_passed st_gone st_took (nI B) st_year (nI c) m_now) (hR : jRf re ra m_refused) (m_thrown : Int32) (x1 : Int32) (x2 : Int32): ∃ z r ra1 q th rf1, pX9_twins N9 st_now (nI B) ra x1 x2 = some (z, r, ra1) ∧ pM_twins N9 m_thrown m_refused m_now x1 x2 = some (q, th, rf1) ∧ jOutA z th r q ∧ jRf re ra1 rf1 := by
  unfold pX9_twins pM_twins pX9_twins_25 pX9_twins_24 pM_twins_25 pM_twins_30
  simp only [jlit, jN1]
  rcases jcase_a N9 (a := 8) (by omega) x1 with ⟨d, hd, rfl, h1, h2⟩ | ⟨h1, h2⟩
  · rcases jcase_a N9 (a := 1) (by omega) x2 with ⟨k, hk, rfl, h3, h4⟩ | ⟨h3, h4⟩
    · rw [h1, jb1, if_neg j10, h3, jb1, if_neg j10, jnA1, jb2, if_pos rfl, h2, jb1, if_neg j10, h4, jb1, if_neg j10, jbadO, jb3, if_pos rfl, jx_twins hN hs _ _ (by omega), jm_twins hN hs _ _ _ (by omega)]
      exact ⟨_, _, _, _, _, _, rfl, rfl, Or.inl ⟨rfl, rfl, rfl⟩, hR⟩
    · rw [h1, jb1, if_neg j10, h3, jb1, if_pos rfl, jnA0, jb2, if_neg j20, h2, jb1, if_neg j10, h4, jb1, if_pos rfl, jbadA, jb3, if_neg j10]
      exact ⟨_, _, _, _, _, _, rfl, rfl, Or.inr ⟨rfl, rfl⟩, hR.arg⟩
  · rw [h1, jb1, if_pos rfl, jnA0, jb2, if_neg j20, h2, jb1, if_pos rfl, jbadA, jb3, if_neg j10]
    exact ⟨_, _, _, _, _, _, rfl, rfl, Or.inr ⟨rfl, rfl⟩, hR.arg⟩
theorem jx_parents (hN : 70000 < N9) (hs : jSt G B no bo c tk st_now st_born st_age st_passed st_gone st_took (nI B) st_year (nI c) m_now) (ra' : Int32) (x2 : Int32) {d : Nat} (hd : d < 256) : pX9_parents_37 N9 st_born (nI B) (nI d) x2 N9 ra' (nI 0) (-nI 1) (nI 0) = some (nI 0, (if x2 = nI 0 then (jad (fun i j => decide ((bo i + bo j) % 256 = d)) B B 0 (nI 0, -nI 1)).1 else (jad (fun i j => decide ((bo i + bo j) % 256 = d)) B B 0 (nI 0, -nI 1)).2), ra') := by
  have hs' := hs
  obtain ⟨hB, -, h42, -, -, -, -, hno, -⟩ := hs
  have inner : ∀ (k : Int32 → Int32 → Int32 → Int32 → Option (Int32 × Int32 × Int32)) (i : Nat), i < B → ∀ e j n (s : Int32 × Int32), j + e = B → e < n → pX9_parents_55 N9 st_born (nI B) ra' (nI d) x2 k n s.1 s.2 (nI i) (nI j) = k ra' (jrd (fun i j => decide ((bo i + bo j) % 256 = d)) i e j s).1 (jrd (fun i j => decide ((bo i + bo j) % 256 = d)) i e j s).2 (nI (i + 1)) := by
    intro k i hi e
    obtain ⟨a1, a2, a3, a4, a5, a6, -⟩ := hno i hi
    induction e with
    | zero =>
      intro j n s h1 h2
      obtain ⟨n, rfl⟩ : ∃ q, n = q + 1 := ⟨n - 1, by omega⟩
      obtain rfl : j = B := by omega
      simp only [pX9_parents_55, jlit]
      simp (disch := omega) only [jb1, jb2, jb3, jb4, jb5, jb6, jb7, jb8, jb9, jb10, jb11, jb12, jb13, jb14, jb15, jb16, jb17, jb18, jb19, jb20, jb21, jb22, jb23, jb24, jb25, jb26, jb27, jb28, jb29, jb30, jb31, jb32, jb33, jb34, jb35, jb36, jb37, jb38, jb39, jb40, jb41, jb42, jb43, jb44, jb45, jb46, jb47, jb48, jb49, jb50, zlet, jlit, jle_t, jle_f, jlt_t, jlt_f, jeq_t, jeq_f, jeqN_f, jNeq_f, jNN, jN1, jadd, jsub, jzin, jcl, if_true, if_false, ite_true, ite_false, not_true, not_false_iff, not_true_eq_false, not_false_eq_true, jB_t, jB_f, jB0_t, jB0_f, jBa, jand11, jand00, ↓reduceIte, Nat.reduceEqDiff, Nat.reduceAdd, Nat.reduceSub, h42]
      rfl
    | succ e ih =>
      intro j n s h1 h2
      obtain ⟨n, rfl⟩ : ∃ q, n = q + 1 := ⟨n - 1, by omega⟩
      obtain ⟨b1, b2, b3, b4, b5, b6, -⟩ := hno j (by omega)
      have h3 := ih (j + 1) n (jps (fun i j => decide ((bo i + bo j) % 256 = d)) i j s) (by omega) (by omega)
      have hx := jxor_lt a1 b1
      have hpp := jpop_le (no i ^^^ no j)
      rw [jrd]
      simp only [pX9_parents_55, pX9_parents_99, pX9_parents_104, jlit]
      by_cases hp : (bo i + bo j) % 256 = d
      · rw [show jps (fun i j => decide ((bo i + bo j) % 256 = d)) i j s = (s.1 + nI 1, if s.1 = nI 0 then nI (10 * i + j) else s.2) from if_pos (by simp [hp])] at h3 ⊢
        simp (disch := omega) only [jb1, jb2, jb3, jb4, jb5, jb6, jb7, jb8, jb9, jb10, jb11, jb12, jb13, jb14, jb15, jb16, jb17, jb18, jb19, jb20, jb21, jb22, jb23, jb24, jb25, jb26, jb27, jb28, jb29, jb30, jb31, jb32, jb33, jb34, jb35, jb36, jb37, jb38, jb39, jb40, jb41, jb42, jb43, jb44, jb45, jb46, jb47, jb48, jb49, jb50, zlet, jlit, jle_t, jle_f, jlt_t, jlt_f, jeq_t, jeq_f, jeqN_f, jNeq_f, jNN, jN1, jadd, jsub, jzin, jcl, if_true, if_false, ite_true, ite_false, not_true, not_false_iff, not_true_eq_false, not_false_eq_true, jB_t, jB_f, jB0_t, jB0_f, jBa, jand11, jand00, ↓reduceIte, Nat.reduceEqDiff, Nat.reduceAdd, Nat.reduceSub, h42, Nat.zero_add, jxfoalN hN hs' hi (by omega : j < B), hp]
        by_cases h0 : s.1 = nI 0
        · rw [if_pos h0] at h3 ⊢
          simp (disch := omega) only [jb1, jb2, jb3, jb4, jb5, jb6, jb7, jb8, jb9, jb10, jb11, jb12, jb13, jb14, jb15, jb16, jb17, jb18, jb19, jb20, jb21, jb22, jb23, jb24, jb25, jb26, jb27, jb28, jb29, jb30, jb31, jb32, jb33, jb34, jb35, jb36, jb37, jb38, jb39, jb40, jb41, jb42, jb43, jb44, jb45, jb46, jb47, jb48, jb49, jb50, zlet, jlit, jle_t, jle_f, jlt_t, jlt_f, jeq_t, jeq_f, jeqN_f, jNeq_f, jNN, jN1, jadd, jsub, jzin, jcl, if_true, if_false, ite_true, ite_false, not_true, not_false_iff, not_true_eq_false, not_false_eq_true, jB_t, jB_f, jB0_t, jB0_f, jBa, jand11, jand00, ↓reduceIte, Nat.reduceEqDiff, Nat.reduceAdd, Nat.reduceSub, jmul, h0]
          rw [h0] at h3
          exact h3
        · rw [if_neg h0] at h3 ⊢
          simp (disch := omega) only [jb1, jb2, jb3, jb4, jb5, jb6, jb7, jb8, jb9, jb10, jb11, jb12, jb13, jb14, jb15, jb16, jb17, jb18, jb19, jb20, jb21, jb22, jb23, jb24, jb25, jb26, jb27, jb28, jb29, jb30, jb31, jb32, jb33, jb34, jb35, jb36, jb37, jb38, jb39, jb40, jb41, jb42, jb43, jb44, jb45, jb46, jb47, jb48, jb49, jb50, zlet, jlit, jle_t, jle_f, jlt_t, jlt_f, jeq_t, jeq_f, jeqN_f, jNeq_f, jNN, jN1, jadd, jsub, jzin, jcl, if_true, if_false, ite_true, ite_false, not_true, not_false_iff, not_true_eq_false, not_false_eq_true, jB_t, jB_f, jB0_t, jB0_f, jBa, jand11, jand00, ↓reduceIte, Nat.reduceEqDiff, Nat.reduceAdd, Nat.reduceSub, h0]
          exact h3
      · rw [show jps (fun i j => decide ((bo i + bo j) % 256 = d)) i j s = s from if_neg (by simp [hp])] at h3 ⊢
        simp (disch := omega) only [jb1, jb2, jb3, jb4, jb5, jb6, jb7, jb8, jb9, jb10, jb11, jb12, jb13, jb14, jb15, jb16, jb17, jb18, jb19, jb20, jb21, jb22, jb23, jb24, jb25, jb26, jb27, jb28, jb29, jb30, jb31, jb32, jb33, jb34, jb35, jb36, jb37, jb38, jb39, jb40, jb41, jb42, jb43, jb44, jb45, jb46, jb47, jb48, jb49, jb50, zlet, jlit, jle_t, jle_f, jlt_t, jlt_f, jeq_t, jeq_f, jeqN_f, jNeq_f, jNN, jN1, jadd, jsub, jzin, jcl, if_true, if_false, ite_true, ite_false, not_true, not_false_iff, not_true_eq_false, not_false_eq_true, jB_t, jB_f, jB0_t, jB0_f, jBa, jand11, jand00, ↓reduceIte, Nat.reduceEqDiff, Nat.reduceAdd, Nat.reduceSub, h42, Nat.zero_add, jxfoalN hN hs' hi (by omega : j < B), hp]
        exact h3
  have outer : ∀ e i n (s : Int32 × Int32), i + e = B → e < n → pX9_parents_37 N9 st_born (nI B) (nI d) x2 n ra' s.1 s.2 (nI i) = some (nI 0, (if x2 = nI 0 then (jad (fun i j => decide ((bo i + bo j) % 256 = d)) B e i s).1 else (jad (fun i j => decide ((bo i + bo j) % 256 = d)) B e i s).2), ra') := by
    intro e
    induction e with
    | zero =>
      intro i n s h1 h2
      obtain ⟨n, rfl⟩ : ∃ q, n = q + 1 := ⟨n - 1, by omega⟩
      obtain rfl : i = B := by omega
      simp only [pX9_parents_37, pX9_parents_126, jlit]
      simp (disch := omega) only [jb1, jb2, jb3, jb4, jb5, jb6, jb7, jb8, jb9, jb10, jb11, jb12, jb13, jb14, jb15, jb16, jb17, jb18, jb19, jb20, jb21, jb22, jb23, jb24, jb25, jb26, jb27, jb28, jb29, jb30, jb31, jb32, jb33, jb34, jb35, jb36, jb37, jb38, jb39, jb40, jb41, jb42, jb43, jb44, jb45, jb46, jb47, jb48, jb49, jb50, zlet, jlit, jle_t, jle_f, jlt_t, jlt_f, jeq_t, jeq_f, jeqN_f, jNeq_f, jNN, jN1, jadd, jsub, jzin, jcl, if_true, if_false, ite_true, ite_false, not_true, not_false_iff, not_true_eq_false, not_false_eq_true, jB_t, jB_f, jB0_t, jB0_f, jBa, jand11, jand00, ↓reduceIte, Nat.reduceEqDiff, Nat.reduceAdd, Nat.reduceSub, h42]
      rw [jad]
      by_cases h0 : x2 = nI 0
      · rw [if_pos h0, if_pos h0]
      · rw [if_neg h0, if_neg h0]
    | succ e ih =>
      intro i n s h1 h2
      obtain ⟨n, rfl⟩ : ∃ q, n = q + 1 := ⟨n - 1, by omega⟩
      simp only [pX9_parents_37, jlit]
      simp (disch := omega) only [jb1, jb2, jb3, jb4, jb5, jb6, jb7, jb8, jb9, jb10, jb11, jb12, jb13, jb14, jb15, jb16, jb17, jb18, jb19, jb20, jb21, jb22, jb23, jb24, jb25, jb26, jb27, jb28, jb29, jb30, jb31, jb32, jb33, jb34, jb35, jb36, jb37, jb38, jb39, jb40, jb41, jb42, jb43, jb44, jb45, jb46, jb47, jb48, jb49, jb50, zlet, jlit, jle_t, jle_f, jlt_t, jlt_f, jeq_t, jeq_f, jeqN_f, jNeq_f, jNN, jN1, jadd, jsub, jzin, jcl, if_true, if_false, ite_true, ite_false, not_true, not_false_iff, not_true_eq_false, not_false_eq_true, jB_t, jB_f, jB0_t, jB0_f, jBa, jand11, jand00, ↓reduceIte, Nat.reduceEqDiff, Nat.reduceAdd, Nat.reduceSub, h42]
      rw [inner _ i (by omega) (B - (i + 1)) (i + 1) N9 s (by omega) (by omega), jad]
      exact ih (i + 1) n _ (by omega) (by omega)
  exact outer B 0 N9 (nI 0, -nI 1) (by omega) (by omega)
theorem jm_parents (hN : 70000 < N9) (hs : jSt G B no bo c tk st_now st_born st_age st_passed st_gone st_took (nI B) st_year (nI c) m_now) (th : Int32) (rf : Nat → Int32) (x2 : Int32) {d : Nat} (hd : d < 256) : pM_parents_45 N9 m_now (nI d) x2 N9 th rf (nI 0) (-nI 1) (nI 0) = some ((if x2 = nI 0 then (jad (fun i j => decide ((bo i + bo j) % 256 = d)) B B 0 (nI 0, -nI 1)).1 else (jad (fun i j => decide ((bo i + bo j) % 256 = d)) B B 0 (nI 0, -nI 1)).2), th, rf) := by
  have hs' := hs
  obtain ⟨hB, -, h42, -, -, -, -, hno, -⟩ := hs
  have inner : ∀ (k : Int32 → (Nat → Int32) → Int32 → Int32 → Int32 → Option (Int32 × Int32 × (Nat → Int32))) (i : Nat), i < B → ∀ e j n (s : Int32 × Int32), j + e = B → e < n → pM_parents_63 N9 th rf m_now (nI d) x2 k n s.1 s.2 (nI i) (nI j) = k th rf (jrd (fun i j => decide ((bo i + bo j) % 256 = d)) i e j s).1 (jrd (fun i j => decide ((bo i + bo j) % 256 = d)) i e j s).2 (nI (i + 1)) := by
    intro k i hi e
    obtain ⟨a1, a2, a3, a4, a5, a6, -⟩ := hno i hi
    induction e with
    | zero =>
      intro j n s h1 h2
      obtain ⟨n, rfl⟩ : ∃ q, n = q + 1 := ⟨n - 1, by omega⟩
      obtain rfl : j = B := by omega
      simp only [pM_parents_63, jlit]
      simp (disch := omega) only [jb1, jb2, jb3, jb4, jb5, jb6, jb7, jb8, jb9, jb10, jb11, jb12, jb13, jb14, jb15, jb16, jb17, jb18, jb19, jb20, jb21, jb22, jb23, jb24, jb25, jb26, jb27, jb28, jb29, jb30, jb31, jb32, jb33, jb34, jb35, jb36, jb37, jb38, jb39, jb40, jb41, jb42, jb43, jb44, jb45, jb46, jb47, jb48, jb49, jb50, zlet, jlit, jle_t, jle_f, jlt_t, jlt_f, jeq_t, jeq_f, jeqN_f, jNeq_f, jNN, jN1, jadd, jsub, jzin, jcl, if_true, if_false, ite_true, ite_false, not_true, not_false_iff, not_true_eq_false, not_false_eq_true, jB_t, jB_f, jB0_t, jB0_f, jBa, jand11, jand00, ↓reduceIte, Nat.reduceEqDiff, Nat.reduceAdd, Nat.reduceSub, h42]
      rfl
    | succ e ih =>
      intro j n s h1 h2
      obtain ⟨n, rfl⟩ : ∃ q, n = q + 1 := ⟨n - 1, by omega⟩
      obtain ⟨b1, b2, b3, b4, b5, b6, -⟩ := hno j (by omega)
      have h3 := ih (j + 1) n (jps (fun i j => decide ((bo i + bo j) % 256 = d)) i j s) (by omega) (by omega)
      have hx := jxor_lt a1 b1
      have hpp := jpop_le (no i ^^^ no j)
      rw [jrd]
      simp only [pM_parents_63, pM_parents_124, pM_parents_129, jlit]
      by_cases hp : (bo i + bo j) % 256 = d
      · rw [show jps (fun i j => decide ((bo i + bo j) % 256 = d)) i j s = (s.1 + nI 1, if s.1 = nI 0 then nI (10 * i + j) else s.2) from if_pos (by simp [hp])] at h3 ⊢
        simp (disch := omega) only [jb1, jb2, jb3, jb4, jb5, jb6, jb7, jb8, jb9, jb10, jb11, jb12, jb13, jb14, jb15, jb16, jb17, jb18, jb19, jb20, jb21, jb22, jb23, jb24, jb25, jb26, jb27, jb28, jb29, jb30, jb31, jb32, jb33, jb34, jb35, jb36, jb37, jb38, jb39, jb40, jb41, jb42, jb43, jb44, jb45, jb46, jb47, jb48, jb49, jb50, zlet, jlit, jle_t, jle_f, jlt_t, jlt_f, jeq_t, jeq_f, jeqN_f, jNeq_f, jNN, jN1, jadd, jsub, jzin, jcl, if_true, if_false, ite_true, ite_false, not_true, not_false_iff, not_true_eq_false, not_false_eq_true, jB_t, jB_f, jB0_t, jB0_f, jBa, jand11, jand00, ↓reduceIte, Nat.reduceEqDiff, Nat.reduceAdd, Nat.reduceSub, h42, Nat.zero_add, a6, b6, jrem, hp]
        by_cases h0 : s.1 = nI 0
        · rw [if_pos h0] at h3 ⊢
          simp (disch := omega) only [jb1, jb2, jb3, jb4, jb5, jb6, jb7, jb8, jb9, jb10, jb11, jb12, jb13, jb14, jb15, jb16, jb17, jb18, jb19, jb20, jb21, jb22, jb23, jb24, jb25, jb26, jb27, jb28, jb29, jb30, jb31, jb32, jb33, jb34, jb35, jb36, jb37, jb38, jb39, jb40, jb41, jb42, jb43, jb44, jb45, jb46, jb47, jb48, jb49, jb50, zlet, jlit, jle_t, jle_f, jlt_t, jlt_f, jeq_t, jeq_f, jeqN_f, jNeq_f, jNN, jN1, jadd, jsub, jzin, jcl, if_true, if_false, ite_true, ite_false, not_true, not_false_iff, not_true_eq_false, not_false_eq_true, jB_t, jB_f, jB0_t, jB0_f, jBa, jand11, jand00, ↓reduceIte, Nat.reduceEqDiff, Nat.reduceAdd, Nat.reduceSub, jmul, h0]
          rw [h0] at h3
          exact h3
        · rw [if_neg h0] at h3 ⊢
          simp (disch := omega) only [jb1, jb2, jb3, jb4, jb5, jb6, jb7, jb8, jb9, jb10, jb11, jb12, jb13, jb14, jb15, jb16, jb17, jb18, jb19, jb20, jb21, jb22, jb23, jb24, jb25, jb26, jb27, jb28, jb29, jb30, jb31, jb32, jb33, jb34, jb35, jb36, jb37, jb38, jb39, jb40, jb41, jb42, jb43, jb44, jb45, jb46, jb47, jb48, jb49, jb50, zlet, jlit, jle_t, jle_f, jlt_t, jlt_f, jeq_t, jeq_f, jeqN_f, jNeq_f, jNN, jN1, jadd, jsub, jzin, jcl, if_true, if_false, ite_true, ite_false, not_true, not_false_iff, not_true_eq_false, not_false_eq_true, jB_t, jB_f, jB0_t, jB0_f, jBa, jand11, jand00, ↓reduceIte, Nat.reduceEqDiff, Nat.reduceAdd, Nat.reduceSub, h0]
          exact h3
      · rw [show jps (fun i j => decide ((bo i + bo j) % 256 = d)) i j s = s from if_neg (by simp [hp])] at h3 ⊢
        simp (disch := omega) only [jb1, jb2, jb3, jb4, jb5, jb6, jb7, jb8, jb9, jb10, jb11, jb12, jb13, jb14, jb15, jb16, jb17, jb18, jb19, jb20, jb21, jb22, jb23, jb24, jb25, jb26, jb27, jb28, jb29, jb30, jb31, jb32, jb33, jb34, jb35, jb36, jb37, jb38, jb39, jb40, jb41, jb42, jb43, jb44, jb45, jb46, jb47, jb48, jb49, jb50, zlet, jlit, jle_t, jle_f, jlt_t, jlt_f, jeq_t, jeq_f, jeqN_f, jNeq_f, jNN, jN1, jadd, jsub, jzin, jcl, if_true, if_false, ite_true, ite_false, not_true, not_false_iff, not_true_eq_false, not_false_eq_true, jB_t, jB_f, jB0_t, jB0_f, jBa, jand11, jand00, ↓reduceIte, Nat.reduceEqDiff, Nat.reduceAdd, Nat.reduceSub, h42, Nat.zero_add, a6, b6, jrem, hp]
        exact h3
  have outer : ∀ e i n (s : Int32 × Int32), i + e = B → e < n → pM_parents_45 N9 m_now (nI d) x2 n th rf s.1 s.2 (nI i) = some ((if x2 = nI 0 then (jad (fun i j => decide ((bo i + bo j) % 256 = d)) B e i s).1 else (jad (fun i j => decide ((bo i + bo j) % 256 = d)) B e i s).2), th, rf) := by
    intro e
    induction e with
    | zero =>
      intro i n s h1 h2
      obtain ⟨n, rfl⟩ : ∃ q, n = q + 1 := ⟨n - 1, by omega⟩
      obtain rfl : i = B := by omega
      simp only [pM_parents_45, pM_parents_151, jlit]
      simp (disch := omega) only [jb1, jb2, jb3, jb4, jb5, jb6, jb7, jb8, jb9, jb10, jb11, jb12, jb13, jb14, jb15, jb16, jb17, jb18, jb19, jb20, jb21, jb22, jb23, jb24, jb25, jb26, jb27, jb28, jb29, jb30, jb31, jb32, jb33, jb34, jb35, jb36, jb37, jb38, jb39, jb40, jb41, jb42, jb43, jb44, jb45, jb46, jb47, jb48, jb49, jb50, zlet, jlit, jle_t, jle_f, jlt_t, jlt_f, jeq_t, jeq_f, jeqN_f, jNeq_f, jNN, jN1, jadd, jsub, jzin, jcl, if_true, if_false, ite_true, ite_false, not_true, not_false_iff, not_true_eq_false, not_false_eq_true, jB_t, jB_f, jB0_t, jB0_f, jBa, jand11, jand00, ↓reduceIte, Nat.reduceEqDiff, Nat.reduceAdd, Nat.reduceSub, h42]
      rw [jad]
      by_cases h0 : x2 = nI 0
      · rw [if_pos h0, if_pos h0]
      · rw [if_neg h0, if_neg h0]
    | succ e ih =>
      intro i n s h1 h2
      obtain ⟨n, rfl⟩ : ∃ q, n = q + 1 := ⟨n - 1, by omega⟩
      simp only [pM_parents_45, jlit]
      simp (disch := omega) only [jb1, jb2, jb3, jb4, jb5, jb6, jb7, jb8, jb9, jb10, jb11, jb12, jb13, jb14, jb15, jb16, jb17, jb18, jb19, jb20, jb21, jb22, jb23, jb24, jb25, jb26, jb27, jb28, jb29, jb30, jb31, jb32, jb33, jb34, jb35, jb36, jb37, jb38, jb39, jb40, jb41, jb42, jb43, jb44, jb45, jb46, jb47, jb48, jb49, jb50, zlet, jlit, jle_t, jle_f, jlt_t, jlt_f, jeq_t, jeq_f, jeqN_f, jNeq_f, jNN, jN1, jadd, jsub, jzin, jcl, if_true, if_false, ite_true, ite_false, not_true, not_false_iff, not_true_eq_false, not_false_eq_true, jB_t, jB_f, jB0_t, jB0_f, jBa, jand11, jand00, ↓reduceIte, Nat.reduceEqDiff, Nat.reduceAdd, Nat.reduceSub, h42]
      rw [inner _ i (by omega) (B - (i + 1)) (i + 1) N9 s (by omega) (by omega), jad]
      exact ih (i + 1) n _ (by omega) (by omega)
  exact outer B 0 N9 (nI 0, -nI 1) (by omega) (by omega)
theorem jop_parents (hN : 70000 < N9) (hs : jSt G B no bo c tk st_now st_born st_age st_passed st_gone st_took (nI B) st_year (nI c) m_now) (hR : jRf re ra m_refused) (m_thrown : Int32) (x1 : Int32) (x2 : Int32): ∃ z r ra1 q th rf1, pX9_parents N9 st_born (nI B) ra x1 x2 = some (z, r, ra1) ∧ pM_parents N9 m_thrown m_refused m_now x1 x2 = some (q, th, rf1) ∧ jOutA z th r q ∧ jRf re ra1 rf1 := by
  unfold pX9_parents pM_parents pX9_parents_26 pX9_parents_25 pM_parents_22 pM_parents_27
  simp only [jlit, jN1]
  rcases jcase_n N9 x1 with ⟨d, hd, rfl, h1, h2⟩ | ⟨h1, h2⟩
  · rcases jcase_a N9 (a := 1) (by omega) x2 with ⟨k, hk, rfl, h3, h4⟩ | ⟨h3, h4⟩
    · rw [h1, jb1, if_neg j10, h3, jb1, if_neg j10, jnA1, jb2, if_pos rfl, h2, jb1, if_neg j10, h4, jb1, if_neg j10, jbadO, jb3, if_pos rfl, jx_parents hN hs _ _ (by omega), jm_parents hN hs _ _ _ (by omega)]
      exact ⟨_, _, _, _, _, _, rfl, rfl, Or.inl ⟨rfl, rfl, rfl⟩, hR⟩
    · rw [h1, jb1, if_neg j10, h3, jb1, if_pos rfl, jnA0, jb2, if_neg j20, h2, jb1, if_neg j10, h4, jb1, if_pos rfl, jbadA, jb3, if_neg j10]
      exact ⟨_, _, _, _, _, _, rfl, rfl, Or.inr ⟨rfl, rfl⟩, hR.arg⟩
  · rw [h1, jb1, if_pos rfl, jnA0, jb2, if_neg j20, h2, jb1, if_pos rfl, jbadA, jb3, if_neg j10]
    exact ⟨_, _, _, _, _, _, rfl, rfl, Or.inr ⟨rfl, rfl⟩, hR.arg⟩
end C4
