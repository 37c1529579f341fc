/-! span -/
def jbn (p : Nat → Bool) : Nat → Nat | 0 => 0 | k + 1 => if p k then jbn p k + 2 ^ k else jbn p k
theorem jbn_lt (p : Nat → Bool) : ∀ k, jbn p k < 2 ^ k := by
  intro k
  induction k with
  | zero => exact Nat.one_pos
  | succ k ih =>
    rw [jbn, Nat.pow_succ]
    split <;> omega
theorem jbn_or : ∀ k, k < 8 → ∀ a, a < 128 → a < 2 ^ k → nI a ||| nI (2 ^ k) = nI (a + 2 ^ k) := by decide +kernel
theorem jbn_b1 : ∀ k, k < 8 → ∀ a, a < 128 → a < 2 ^ k → ∀ b, b < k → (a + 2 ^ k) / 2 ^ b % 2 = a / 2 ^ b % 2 := by decide +kernel
theorem jbn_b2 : ∀ k, k < 8 → ∀ a, a < 128 → a < 2 ^ k → (a + 2 ^ k) / 2 ^ k % 2 = 1 := by decide +kernel
theorem jbn_b3 : ∀ k, k < 8 → ∀ a, a < 128 → a < 2 ^ k → a / 2 ^ k % 2 = 0 := by decide +kernel
theorem jp128 {k : Nat} (h : k < 8) : 2 ^ k ≤ 128 := Nat.pow_le_pow_right (n := 2) (by omega) (by omega : k ≤ 7)
theorem jbits_n (p : Nat → Bool) : ∀ k, k ≤ 8 → jbits p k = nI (jbn p k) := by
  intro k
  induction k with
  | zero => intro _; rfl
  | succ k ih =>
    intro h
    have h1 := jbn_lt p k
    have h2 := jp128 (k := k) (by omega)
    rw [jbits, jbn, ih (by omega), jshl k (by omega)]
    cases p k
    · rfl
    · exact jbn_or k (by omega) _ (by omega) h1
theorem jbn_bit (p : Nat → Bool) : ∀ k, k ≤ 8 → ∀ b, b < k → decide (jbn p k / 2 ^ b % 2 = 1) = p b := by
  intro k
  induction k with
  | zero => intro _ b hb; exact absurd hb (Nat.not_lt_zero b)
  | succ k ih =>
    intro h b hb
    have h1 := jbn_lt p k
    have h2 := jp128 (k := k) (by omega)
    rw [jbn]
    by_cases hbk : b = k
    · subst hbk
      cases hp : p b
      · simp only [Bool.false_eq_true, if_false]
        rw [jbn_b3 b (by omega) _ (by omega) h1]
        rfl
      · simp only [if_true]
        rw [jbn_b2 b (by omega) _ (by omega) h1]
        rfl
    · cases hp : p k
      · simp only [Bool.false_eq_true, if_false]
        exact ih (by omega) b (by omega)
      · simp only [if_true]
        rw [jbn_b1 k (by omega) _ (by omega) h1 b (by omega)]
        exact ih (by omega) b (by omega)
theorem jbits_has (N9 : Nat) (p : Nat → Bool) {k b : Nat} (hk : k ≤ 8) (hb : b < k) : pM_has N9 (jbits p k) (nI b) = some (jB (p b)) := by
  have h1 := jbn_lt p k
  have h2 : 2 ^ k ≤ 256 := Nat.pow_le_pow_right (n := 2) (by omega) hk
  rw [jbits_n p k hk, jmhas (by omega) (by omega), jbn_bit p k hk b hb]
theorem jle_anti {a b : Int32} (h1 : a ≤ b) (h2 : ¬ a < b) : a = b := by
  rw [Int32.le_iff_toInt_le] at h1
  rw [Int32.lt_iff_toInt_lt] at h2
  exact Int32.toInt_inj.mp (by omega)
theorem jnlt' {a b : Int32} (h : ¬ a ≤ b) : ¬ a < b := by
  rw [Int32.le_iff_toInt_le] at h
  rw [Int32.lt_iff_toInt_lt]
  omega
theorem jmore {N9 : Nat} (a b : Int32) : pM_more N9 a b = some (zmax a b) := by
  unfold pM_more pM_more_10 zmax
  by_cases h : a ≤ b
  · rw [if_pos h]
    by_cases h2 : a < b
    · rw [if_pos h2]
    · rw [if_neg h2, jle_anti h h2]
  · rw [if_neg h, if_neg (jnlt' h)]
theorem jless2 {N9 : Nat} (a b : Int32) : pM_less N9 a b = some (zmin a b) := by
  unfold pM_less pM_less_10 zmin
  by_cases h : b ≤ a
  · rw [if_pos h]
    by_cases h2 : b < a
    · rw [if_pos h2]
    · rw [if_neg h2, jle_anti h h2]
  · rw [if_neg h, if_neg (jnlt' h)]
section C7
variable {N9 G L B c n : Nat} {gt nu fo kk vv no bo tk : Nat → Nat} {bk_forgives bk_tolls bk_lengths : Nat → Int32} {bk_numbers : Nat → Nat → Int32} {m_told : Nat → Int32} {m_gate m_list : Nat → Nat → Int32}
variable {lw_kinds lw_values : Nat → Int32} {lw_length m_lawMany : Int32} {m_law : Nat → Nat → Int32} {st_now st_born st_age st_passed st_gone st_took : Nat → Int32} {st_year re ra : Int32} {m_now m_refused : Nat → Int32}
theorem jcase_w (h : m_now 42 = nI B) (hB : B ≤ 8) (x : Int32) :
    (∃ b, b < B ∧ x = nI b ∧ pX9_isWithin N9 x (nI 0) (nI B - nI 1) = some (nI 1) ∧ pM_isBeast N9 m_now x = some (nI 1)) ∨ (pX9_isWithin N9 x (nI 0) (nI B - nI 1) = some (nI 0) ∧ pM_isBeast N9 m_now x = some (nI 0)) := by
  rw [jxin, jisBeast h]
  rcases jin_pred (x := x) (B := B) (by omega) with ⟨b, h1, h2, h3⟩ | h3
  · rw [h3]; exact Or.inl ⟨b, h1, h2, rfl, rfl⟩
  · rw [h3]; exact Or.inr ⟨rfl, rfl⟩
theorem jspan_loop (hN : 70000 < N9) (hk : jBk G L gt nu fo bk_forgives bk_tolls bk_lengths bk_numbers m_told m_gate m_list) (hl : jLw n kk vv lw_kinds lw_values lw_length m_lawMany m_law) (hs : jSt G B no bo c tk st_now st_born st_age st_passed st_gone st_took (nI B) st_year (nI c) m_now) {D N2 k6 b : Nat} (hD : D ≤ 96) (hN2 : 1 ≤ N2) (hN20 : N2 ≤ 20) (h6 : k6 ≤ 2) (hb : b < B) (x1 x4 x5 ra' th : Int32) (rf : Nat → Int32) : ∀ e i n m, i + e = N2 → e < n → e < m → ∀ (lw ru tn tb ta tp tg tt stk kn trl : Nat → Int32) (te ty tc sd dp dt lo mt a q q' w : Int32), (q = q' ∨ (i = 0 ∧ q = -nI 1 ∧ q' = nI 0)) →
    ∃ v lw' ru' n1 b1 a1 p1 g1 t1 e1 y1 c1 sd1 dp1 dt1 stk1 kn1 trl1 lo1 mt1, pX9_span_70 N9 bk_forgives bk_tolls bk_lengths bk_numbers (nI G) lw_kinds lw_values lw_length st_now st_born st_age st_passed st_gone st_took (nI B) st_year (nI c) x1 (nI N2) (nI D) x4 x5 (nI k6) (nI b) n lw ru tn tb ta tp tg tt te ty tc sd dp dt ra' a q w (nI i) = some (nI 0, v, lw', ru', n1, b1, a1, p1, g1, t1, e1, y1, c1, sd1, dp1, dt1, ra') ∧ pM_span_73 N9 m_told m_gate m_list m_lawMany m_law m_now x1 (nI N2) (nI D) x4 x5 (nI k6) (nI b) m th rf stk kn trl lo mt a q' w (nI i) = some (v, th, rf, stk1, kn1, trl1, lo1, mt1) := by
  have hB8 := hs.1
  intro e
  induction e with
  | zero =>
    intro i n m h1 h2 h3 lw ru tn tb ta tp tg tt stk kn trl te ty tc sd dp dt lo mt a q q' w hq
    obtain ⟨n, rfl⟩ : ∃ q, n = q + 1 := ⟨n - 1, by omega⟩
    obtain ⟨m, rfl⟩ : ∃ q, m = q + 1 := ⟨m - 1, by omega⟩
    have hq' : q = q' := by
      rcases hq with hq | ⟨hq, -⟩
      · exact hq
      · omega
    subst hq'
    simp only [pX9_span_70, pX9_span_215, pM_span_73, pM_span_192, jlit]
    rw [if_pos (nI_le (by omega : N2 ≤ i) (by omega)), if_pos (nI_le (by omega : N2 ≤ i) (by omega))]
    have hk : k6 = 0 ∨ k6 = 1 ∨ k6 = 2 := by omega
    rcases hk with rfl | rfl | rfl
    all_goals
      simp (disch := omega) only [jb1, jb2, jb3, jb4, jb5, jb6, jb7, jb8, jb9, jb10, jb11, jb12, jb13, jb14, jb15, jb16, jb17, jb18, jb19, jb20, jb21, jb22, jb23, jb24, jb25, jb26, jb27, jb28, jb29, jb30, jb31, jb32, jb33, jb34, jb35, jb36, jb37, jb38, jb39, jb40, jb41, jb42, jb43, jb44, jb45, jb46, jb47, jb48, jb49, jb50, zlet, jlit, jle_t, jle_f, jlt_t, jlt_f, jeq_t, jeq_f, jeqN_f, jNeq_f, jNN, jN1, jadd, jsub, jzin, jcl, if_true, if_false, ite_true, ite_false, not_true, not_false_iff, not_true_eq_false, not_false_eq_true, jB_t, jB_f, jB0_t, jB0_f, jBa, jand11, jand00, ↓reduceIte, Nat.reduceEqDiff, Nat.reduceAdd, Nat.reduceSub]
      exact ⟨_, _, _, _, _, _, _, _, _, _, _, _, _, _, _, _, _, _, _, _, rfl, rfl⟩
  | succ e ih =>
    intro i n m h1 h2 h3 lw ru tn tb ta tp tg tt stk kn trl te ty tc sd dp dt lo mt a q q' w hq
    obtain ⟨n, rfl⟩ : ∃ q, n = q + 1 := ⟨n - 1, by omega⟩
    obtain ⟨m, rfl⟩ : ∃ q, m = q + 1 := ⟨m - 1, by omega⟩
    obtain ⟨tn', tb', ta', tp', tg', tt', w1, lw', ru', now', age', ps', go', to', ye', co', seed', p', tars', stk', kn', row', no', c', tk', w2, w3, w4, w5, w6⟩ := jlive hN hk hl hs tn tb ta tp tg tt trl lw ru stk kn te ty tc hD (x1 + nI i) x4 x5 sd dp dt lo mt
    have w7 := w4.2.2.2.1
    subst w7
    have hmc := jmchg hN w4
    obtain ⟨v1, v2, v3, v4, v5, -⟩ := w4.2.2.2.2.2.2.2.1 b hb
    have hzm : zmax q (nI p') = zmax q' (nI p') := by
      rcases hq with hq | ⟨-, hq1, hq2⟩
      · rw [hq]
      · rw [hq1, hq2]
        unfold zmax
        rw [if_pos (jneg_lt (by omega))]
        by_cases hp0 : p' = 0
        · subst hp0; rfl
        · rw [if_pos (nI_lt (by omega : 0 < p') (by omega))]
    simp only [pX9_span_70, pX9_span_139, pX9_span_185, pM_span_73, pM_span_127, pM_span_160, jlit, jm_i7]
    rw [if_neg (nI_ge (by omega : i < N2) (by omega)), if_neg (nI_ge (by omega : i < N2) (by omega)), w1, jb9, w2, jb12, w3, jb5]
    simp (disch := omega) only [jb1, jb2, jb3, jb4, jb5, jb6, jb7, jb8, jb9, jb10, jb11, jb12, jb13, jb14, jb15, jb16, jb17, jb18, jb19, jb20, jb21, jb22, jb23, jb24, jb25, jb26, jb27, jb28, jb29, jb30, jb31, jb32, jb33, jb34, jb35, jb36, jb37, jb38, jb39, jb40, jb41, jb42, jb43, jb44, jb45, jb46, jb47, jb48, jb49, jb50, zlet, jlit, jle_t, jle_f, jlt_t, jlt_f, jeq_t, jeq_f, jeqN_f, jNeq_f, jNN, jN1, jadd, jsub, jzin, jcl, if_true, if_false, ite_true, ite_false, not_true, not_false_iff, not_true_eq_false, not_false_eq_true, jB_t, jB_f, jB0_t, jB0_f, jBa, jand11, jand00, ↓reduceIte, Nat.reduceEqDiff, Nat.reduceAdd, Nat.reduceSub, w5, jmore, jless2, hmc, jbits_has, v3, v5]
    rw [hzm]
    cases hcc : decide (no' b = bo b)
    · have hcc' : ¬ no' b = bo b := of_decide_eq_false hcc
      simp (disch := omega) only [jb1, jb2, jb3, jb4, jb5, jb6, jb7, jb8, jb9, jb10, jb11, jb12, jb13, jb14, jb15, jb16, jb17, jb18, jb19, jb20, jb21, jb22, jb23, jb24, jb25, jb26, jb27, jb28, jb29, jb30, jb31, jb32, jb33, jb34, jb35, jb36, jb37, jb38, jb39, jb40, jb41, jb42, jb43, jb44, jb45, jb46, jb47, jb48, jb49, jb50, zlet, jlit, jle_t, jle_f, jlt_t, jlt_f, jeq_t, jeq_f, jeqN_f, jNeq_f, jNN, jN1, jadd, jsub, jzin, jcl, if_true, if_false, ite_true, ite_false, not_true, not_false_iff, not_true_eq_false, not_false_eq_true, jB_t, jB_f, jB0_t, jB0_f, jBa, jand11, jand00, ↓reduceIte, Nat.reduceEqDiff, Nat.reduceAdd, Nat.reduceSub, hcc', Bool.not_false, jor0]
      by_cases ha : a = -nI 1
      · rw [if_pos ha, if_pos ha]
        exact ih (i + 1) n m (by omega) (by omega) (by omega) _ _ _ _ _ _ _ _ _ _ _ _ _ _ _ _ _ _ _ _ _ _ _ (Or.inl rfl)
      · rw [if_neg ha, if_neg ha]
        exact ih (i + 1) n m (by omega) (by omega) (by omega) _ _ _ _ _ _ _ _ _ _ _ _ _ _ _ _ _ _ _ _ _ _ _ (Or.inl rfl)
    · have hcc' : no' b = bo b := of_decide_eq_true hcc
      simp (disch := omega) only [jb1, jb2, jb3, jb4, jb5, jb6, jb7, jb8, jb9, jb10, jb11, jb12, jb13, jb14, jb15, jb16, jb17, jb18, jb19, jb20, jb21, jb22, jb23, jb24, jb25, jb26, jb27, jb28, jb29, jb30, jb31, jb32, jb33, jb34, jb35, jb36, jb37, jb38, jb39, jb40, jb41, jb42, jb43, jb44, jb45, jb46, jb47, jb48, jb49, jb50, zlet, jlit, jle_t, jle_f, jlt_t, jlt_f, jeq_t, jeq_f, jeqN_f, jNeq_f, jNN, jN1, jadd, jsub, jzin, jcl, if_true, if_false, ite_true, ite_false, not_true, not_false_iff, not_true_eq_false, not_false_eq_true, jB_t, jB_f, jB0_t, jB0_f, jBa, jand11, jand00, ↓reduceIte, Nat.reduceEqDiff, Nat.reduceAdd, Nat.reduceSub, hcc', Bool.not_true]
      by_cases ha : a = -nI 1
      · rw [if_pos ha, if_pos ha]
        exact ih (i + 1) n m (by omega) (by omega) (by omega) _ _ _ _ _ _ _ _ _ _ _ _ _ _ _ _ _ _ _ _ _ _ _ (Or.inl rfl)
      · rw [if_neg ha, if_neg ha]
        exact ih (i + 1) n m (by omega) (by omega) (by omega) _ _ _ _ _ _ _ _ _ _ _ _ _ _ _ _ _ _ _ _ _ _ _ (Or.inl rfl)
theorem jop_span (hN : 70000 < N9) (hk : jBk G L gt nu fo bk_forgives bk_tolls bk_lengths bk_numbers m_told m_gate m_list) (hl : jLw n kk vv lw_kinds lw_values lw_length m_lawMany m_law) (hs : jSt G B no bo c tk st_now st_born st_age st_passed st_gone st_took (nI B) st_year (nI c) m_now) (hR : jRf re ra m_refused) (lw_stack : Nat → Int32) (ru_facts : Nat → Int32) (tr_now : Nat → Int32) (tr_born : Nat → Int32) (tr_age : Nat → Int32) (tr_passed : Nat → Int32) (tr_gone : Nat → Int32) (tr_took : Nat → Int32) (tr_beasts : Int32) (tr_year : Int32) (tr_coins : Int32) (dy_seed : Int32) (dy_passings : Int32) (dy_tars : Int32) (m_thrown : Int32) (m_stack : Nat → Int32) (m_known : Nat → Int32) (m_trial : Nat → Int32) (m_lots : Int32) (m_tars : Int32) (x1 : Int32) (x2 : Int32) (x3 : Int32) (x4 : Int32) (x5 : Int32) (x6 : Int32) (x7 : Int32): ∃ z r lw_stack1 ru_facts1 tr_now1 tr_born1 tr_age1 tr_passed1 tr_gone1 tr_took1 tr_beasts1 tr_year1 tr_coins1 dy_seed1 dy_passings1 dy_tars1 ra1 q th rf1 m_stack1 m_known1 m_trial1 m_lots1 m_tars1, pX9_span N9 bk_forgives bk_tolls bk_lengths bk_numbers (nI G) lw_kinds lw_values lw_stack lw_length ru_facts st_now st_born st_age st_passed st_gone st_took (nI B) st_year (nI c) tr_now tr_born tr_age tr_passed tr_gone tr_took tr_beasts tr_year tr_coins dy_seed dy_passings dy_tars ra x1 x2 x3 x4 x5 x6 x7 = some (z, r, lw_stack1, ru_facts1, tr_now1, tr_born1, tr_age1, tr_passed1, tr_gone1, tr_took1, tr_beasts1, tr_year1, tr_coins1, dy_seed1, dy_passings1, dy_tars1, ra1) ∧ pM_span N9 m_thrown m_refused m_told m_gate m_list m_lawMany m_law m_stack m_known m_now m_trial m_lots m_tars x1 x2 x3 x4 x5 x6 x7 = some (q, th, rf1, m_stack1, m_known1, m_trial1, m_lots1, m_tars1) ∧ jOutA z th r q ∧ jRf re ra1 rf1 := by
  unfold pX9_span pM_span pX9_span_54 pM_span_46
  simp only [jlit]
  have hB8 := hs.1
  have h42 := hs.2.2.1
  rcases jcase_1 N9 (a := 20) (by omega) x2 with ⟨N2, hn1, hn2, rfl, h1, h2⟩ | ⟨h1, h2⟩
  · rcases jdays N9 x3 x4 x5 with ⟨D, -, hD, rfl, h3, h4⟩ | ⟨h3, h4⟩
    · rcases jcase_a N9 (a := 2) (by omega) x6 with ⟨k6, hk6, rfl, h5, h6⟩ | ⟨h5, h6⟩
      · rcases jcase_w (N9 := N9) h42 hB8 x7 with ⟨b, hb, rfl, h7, h8⟩ | ⟨h7, h8⟩
        · rw [h1, jb1, if_neg j10, h3, jb1, if_neg j10, h5, jb1, if_neg j10, h7, jb1, if_neg j10, h2, jb1, if_neg j10, h4, jb1, if_neg j10, h6, jb1, if_neg j10, h8, jb1, if_neg j10]
          unfold pX9_span_55 pM_span_51
          simp only [jlit, jN1]
          rw [jnA1, jb2, if_pos rfl, jbadO, jb3, if_pos rfl]
          obtain ⟨v, lw', ru', n1, b1, a1, p1, g1, t1, e1, y1, c1, sd1, dp1, dt1, stk1, kn1, trl1, lo1, mt1, e2, e3⟩ := jspan_loop hN hk hl hs hD hn1 hn2 hk6 hb x1 x4 x5 ra (nI 0) m_refused N2 0 N9 N9 (by omega) (by omega) (by omega) lw_stack ru_facts tr_now tr_born tr_age tr_passed tr_gone tr_took m_stack m_known m_trial tr_beasts tr_year tr_coins dy_seed dy_passings dy_tars m_lots m_tars (-nI 1) (-nI 1) (nI 0) (nI 0) (Or.inr ⟨rfl, rfl, rfl⟩)
          rw [e2, e3]
          exact ⟨_, _, _, _, _, _, _, _, _, _, _, _, _, _, _, _, _, _, _, _, _, _, _, _, _, rfl, rfl, Or.inl ⟨rfl, rfl, rfl⟩, hR⟩
        · rw [h1, jb1, if_neg j10, h3, jb1, if_neg j10, h5, jb1, if_neg j10, h7, jb1, if_pos rfl, h2, jb1, if_neg j10, h4, jb1, if_neg j10, h6, jb1, if_neg j10, h8, jb1, if_pos rfl]
          unfold pX9_span_55 pM_span_51
          simp only [jlit]
          rw [jnA0, jb2, if_neg j20, jbadA, jb3, if_neg j10]
          exact ⟨_, _, _, _, _, _, _, _, _, _, _, _, _, _, _, _, _, _, _, _, _, _, _, _, _, rfl, rfl, Or.inr ⟨rfl, rfl⟩, hR.arg⟩
      · rw [h1, jb1, if_neg j10, h3, jb1, if_neg j10, h5, jb1, if_pos rfl, h2, jb1, if_neg j10, h4, jb1, if_neg j10, h6, jb1, if_pos rfl]
        unfold pX9_span_55 pM_span_51
        simp only [jlit]
        rw [jnA0, jb2, if_neg j20, jbadA, jb3, if_neg j10]
        exact ⟨_, _, _, _, _, _, _, _, _, _, _, _, _, _, _, _, _, _, _, _, _, _, _, _, _, rfl, rfl, Or.inr ⟨rfl, rfl⟩, hR.arg⟩
    · rw [h1, jb1, if_neg j10, h3, jb1, if_pos rfl, h2, jb1, if_neg j10, h4, jb1, if_pos rfl]
      unfold pX9_span_55 pM_span_51
      simp only [jlit]
      rw [jnA0, jb2, if_neg j20, jbadA, jb3, if_neg j10]
      exact ⟨_, _, _, _, _, _, _, _, _, _, _, _, _, _, _, _, _, _, _, _, _, _, _, _, _, rfl, rfl, Or.inr ⟨rfl, rfl⟩, hR.arg⟩
  · rw [h1, jb1, if_pos rfl, h2, jb1, if_pos rfl]
    unfold pX9_span_55 pM_span_51
    simp only [jlit]
    rw [jnA0, jb2, if_neg j20, jbadA, jb3, if_neg j10]
    exact ⟨_, _, _, _, _, _, _, _, _, _, _, _, _, _, _, _, _, _, _, _, _, _, _, _, _, rfl, rfl, Or.inr ⟨rfl, rfl⟩, hR.arg⟩
end C7
