/-! the plain calls -/
theorem j10 : ¬ (nI 1 = nI 0) := by decide
theorem j20 : ¬ (nI 2 = nI 0) := by decide
section C1
variable {N9 G L B c n : Nat} {gt nu fo kk vv no bo tk : Nat → Nat} {bk_forgives bk_tolls bk_lengths : Nat → Int32} {bk_numbers : Nat → Nat → Int32} {m_told : Nat → Int32} {m_gate m_list : Nat → Nat → Int32}
variable {lw_kinds lw_values : Nat → Int32} {lw_length m_lawMany : Int32} {m_law : Nat → Nat → Int32} {st_now st_born st_age st_passed st_gone st_took : Nat → Int32} {st_year re ra : Int32} {m_now m_refused : Nat → Int32}
theorem jop_told (hN : 70000 < N9) (hk : jBk G L gt nu fo bk_forgives bk_tolls bk_lengths bk_numbers m_told m_gate m_list) (hs : jSt G B no bo c tk st_now st_born st_age st_passed st_gone st_took (nI B) st_year (nI c) m_now) (hR : jRf re ra m_refused) (xx_refusedSteps : Int32) (m_thrown : Int32) (m_refusedSteps : Int32) (x1 : Int32) (h6 : xx_refusedSteps = m_refusedSteps) : ∃ z r ra1 q th rf1, pX9_told N9 (nI G) (nI L) st_now st_born st_gone st_took (nI B) st_year (nI c) xx_refusedSteps ra x1 = some (z, r, ra1) ∧ pM_told N9 m_thrown m_refused m_told m_now m_refusedSteps x1 = some (q, th, rf1) ∧ jOutA z th r q ∧ jRf re ra1 rf1 := by
  have ht := jxtook hN hs
  have hm := jmtook hN hk hs
  have h7 := jxgone (st_gone := st_gone) hN
  have h8 := jxchg hN hs
  have h9 := jmchg hN hs
  obtain ⟨hB, -, h42, -, h43, h44, h45, -⟩ := hs
  obtain ⟨hG, hL, hg1, hg2, -⟩ := hk
  unfold pX9_told pM_told pM_told_21
  simp only [jlit]
  rcases jcase_a N9 (a := 8) (by omega) x1 with ⟨k, hk8, rfl, h1, h2⟩ | ⟨h1, h2⟩
  · rw [h1, jb1, jnA1, jb2, if_pos rfl, h2, jb1, if_neg j10, jbadO, jb3, if_pos rfl]
    have hk9 : k = 0 ∨ k = 1 ∨ k = 2 ∨ k = 3 ∨ k = 4 ∨ k = 5 ∨ k = 6 ∨ k = 7 ∨ k = 8 := by omega
    rcases hk9 with rfl | rfl | rfl | rfl | rfl | rfl | rfl | rfl | rfl
    all_goals
      simp (disch := omega) only [jb1, jb2, jb3, jb4, jb5, jb6, jb7, jb8, jb9, jb10, jb11, jb12, jb13, jb14, jb15, jb16, jb17, jb18, jb19, jb20, jb21, jb22, jb23, jb24, jb25, jb26, jb27, jb28, jb29, jb30, jb31, jb32, jb33, jb34, jb35, jb36, jb37, jb38, jb39, jb40, jb41, jb42, jb43, jb44, jb45, jb46, jb47, jb48, jb49, jb50, zlet, jlit, jle_t, jle_f, jlt_t, jlt_f, jeq_t, jeq_f, jeqN_f, jNeq_f, jNN, jN1, jadd, jsub, jzin, jcl, if_true, if_false, ite_true, ite_false, not_true, not_false_iff, not_true_eq_false, not_false_eq_true, jB_t, jB_f, jB0_t, jB0_f, jBa, jand11, jand00, ↓reduceIte, Nat.reduceEqDiff, Nat.reduceAdd, Nat.reduceSub, ht, hm, h7, h8, h9, h42, h43, h44, h45, hg1, hg2, h6]
      exact ⟨_, _, _, _, _, _, rfl, rfl, Or.inl ⟨rfl, rfl, rfl⟩, hR⟩
  · rw [h1, jb1, jnA0, jb2, if_neg j20, h2, jb1, if_pos rfl, jbadA, jb3, if_neg j10]
    exact ⟨_, _, _, _, _, _, rfl, rfl, Or.inr ⟨rfl, rfl⟩, hR.arg⟩
/-- the reference's beast call walks the gates first -/
theorem jmbeast (hN : 70000 < N9) (hk : jBk G L gt nu fo bk_forgives bk_tolls bk_lengths bk_numbers m_told m_gate m_list) (hs : jSt G B no bo c tk st_now st_born st_age st_passed st_gone st_took (nI B) st_year (nI c) m_now) (m_thrown : Int32) (m_refused : Nat → Int32) {b k : Nat} (hb : b < B) (hk5 : k ≤ 5) :
    pM_beast_57 N9 m_told m_gate m_list m_now (nI b) (nI k) N9 m_thrown m_refused (nI 0) (nI 0) = some (if k = 0 then nI (no b) else if k = 1 then nI (bo b) else if k = 2 then st_age b else if k = 3 then st_passed b else if k = 4 then nI (jpop (no b)) else jbits (fun g => jopen gt nu fo L g (no b)) G, m_thrown, m_refused) := by
  obtain ⟨hB, -, h42, -, -, -, -, hno, -⟩ := hs
  have hG := hk.1
  have hg1 := hk.2.2.1
  obtain ⟨h1, h2, -, h3, -, h4, h5, h6⟩ := hno b hb
  refine jloop0 (fun n a i => pM_beast_57 N9 m_told m_gate m_list m_now (nI b) (nI k) n m_thrown m_refused a i) G (fun k => jbits (fun g => jopen gt nu fo L g (no b)) k) (fun n g hg => ?_) (fun n => ?_) (by omega) rfl
  · show pM_beast_57 N9 m_told m_gate m_list m_now (nI b) (nI k) (n + 1) _ _ _ _ = _
    simp only [pM_beast_57, pM_beast_94]
    cases hc : jopen gt nu fo L g (no b)
    · simp (disch := omega) only [jb1, jb2, jb3, jb4, jb5, jb6, jb7, jb8, jb9, jb10, jb11, jb12, jb13, jb14, jb15, jb16, jb17, jb18, jb19, jb20, jb21, jb22, jb23, jb24, jb25, jb26, jb27, jb28, jb29, jb30, jb31, jb32, jb33, jb34, jb35, jb36, jb37, jb38, jb39, jb40, jb41, jb42, jb43, jb44, jb45, jb46, jb47, jb48, jb49, jb50, zlet, jlit, jle_t, jle_f, jlt_t, jlt_f, jeq_t, jeq_f, jeqN_f, jNeq_f, jNN, jN1, jadd, jsub, jzin, jcl, if_true, if_false, ite_true, ite_false, not_true, not_false_iff, not_true_eq_false, not_false_eq_true, jB_t, jB_f, jB0_t, jB0_f, jBa, jand11, jand00, ↓reduceIte, Nat.reduceEqDiff, Nat.reduceAdd, Nat.reduceSub, hg1, Nat.zero_add, h3, jmopen hN hk h1 hg, hc, jbits, Bool.false_eq_true, jor0]
    · simp (disch := omega) only [jb1, jb2, jb3, jb4, jb5, jb6, jb7, jb8, jb9, jb10, jb11, jb12, jb13, jb14, jb15, jb16, jb17, jb18, jb19, jb20, jb21, jb22, jb23, jb24, jb25, jb26, jb27, jb28, jb29, jb30, jb31, jb32, jb33, jb34, jb35, jb36, jb37, jb38, jb39, jb40, jb41, jb42, jb43, jb44, jb45, jb46, jb47, jb48, jb49, jb50, zlet, jlit, jle_t, jle_f, jlt_t, jlt_f, jeq_t, jeq_f, jeqN_f, jNeq_f, jNN, jN1, jadd, jsub, jzin, jcl, if_true, if_false, ite_true, ite_false, not_true, not_false_iff, not_true_eq_false, not_false_eq_true, jB_t, jB_f, jB0_t, jB0_f, jBa, jand11, jand00, ↓reduceIte, Nat.reduceEqDiff, Nat.reduceAdd, Nat.reduceSub, hg1, Nat.zero_add, h3, jmopen hN hk h1 hg, hc, jbits]
  · show pM_beast_57 N9 m_told m_gate m_list m_now (nI b) (nI k) (n + 1) _ _ _ _ = _
    simp only [pM_beast_57]
    have hk9 : k = 0 ∨ k = 1 ∨ k = 2 ∨ k = 3 ∨ k = 4 ∨ k = 5 := by omega
    rcases hk9 with rfl | rfl | rfl | rfl | rfl | rfl <;> simp (disch := omega) only [jb1, jb2, jb3, jb4, jb5, jb6, jb7, jb8, jb9, jb10, jb11, jb12, jb13, jb14, jb15, jb16, jb17, jb18, jb19, jb20, jb21, jb22, jb23, jb24, jb25, jb26, jb27, jb28, jb29, jb30, jb31, jb32, jb33, jb34, jb35, jb36, jb37, jb38, jb39, jb40, jb41, jb42, jb43, jb44, jb45, jb46, jb47, jb48, jb49, jb50, zlet, jlit, jle_t, jle_f, jlt_t, jlt_f, jeq_t, jeq_f, jeqN_f, jNeq_f, jNN, jN1, jadd, jsub, jzin, jcl, if_true, if_false, ite_true, ite_false, not_true, not_false_iff, not_true_eq_false, not_false_eq_true, jB_t, jB_f, jB0_t, jB0_f, jBa, jand11, jand00, ↓reduceIte, Nat.reduceEqDiff, Nat.reduceAdd, Nat.reduceSub, hg1, Nat.zero_add, h3, h4, h5, h6, jo hN h1]
theorem jop_beast (hN : 70000 < N9) (hk : jBk G L gt nu fo bk_forgives bk_tolls bk_lengths bk_numbers m_told m_gate m_list) (hs : jSt G B no bo c tk st_now st_born st_age st_passed st_gone st_took (nI B) st_year (nI c) m_now) (hR : jRf re ra m_refused) (m_thrown : Int32) (x1 : Int32) (x2 : Int32): ∃ z r re1 ra1 q th rf1, pX9_beast N9 bk_forgives bk_lengths bk_numbers (nI G) st_now st_born st_age st_passed (nI B) re ra x1 x2 = some (z, r, re1, ra1) ∧ pM_beast N9 m_thrown m_refused m_told m_gate m_list m_now x1 x2 = some (q, th, rf1) ∧ jOutB z th r q ∧ jRf re1 ra1 rf1 := by
  have hmb := fun (th : Int32) (rf : Nat → Int32) (b k : Nat) (hb : b < B) (hk5 : k ≤ 5) => jmbeast hN hk hs th rf hb hk5
  obtain ⟨hB, -, h42, -, -, -, -, hno, -⟩ := hs
  unfold pX9_beast pM_beast pM_beast_19 pM_beast_42 pM_beast_50
  simp only [jlit]
  rcases jcase_b (N9 := N9) (re := re) h42 hB x1 with ⟨b, hb, rfl, h1, h2⟩ | ⟨h1, h2⟩
  · obtain ⟨n1, n2, n3, -, n4, -⟩ := hno b hb
    rcases jcase_a N9 (a := 5) (by omega) x2 with ⟨k, hk5, rfl, h3, h4⟩ | ⟨h3, h4⟩
    · rw [h1, jb2, if_pos rfl, h3, jb1, jnA1, jb2, if_pos rfl, h2, jb1, if_neg j10, jbadO, jb3, if_pos rfl, h4, jb1, if_neg j10, jbadO, jb3, if_pos rfl, hmb _ _ b k hb hk5]
      have hk9 : k = 0 ∨ k = 1 ∨ k = 2 ∨ k = 3 ∨ k = 4 ∨ k = 5 := by omega
      rcases hk9 with rfl | rfl | rfl | rfl | rfl | rfl
      all_goals
        simp (disch := omega) only [jb1, jb2, jb3, jb4, jb5, jb6, jb7, jb8, jb9, jb10, jb11, jb12, jb13, jb14, jb15, jb16, jb17, jb18, jb19, jb20, jb21, jb22, jb23, jb24, jb25, jb26, jb27, jb28, jb29, jb30, jb31, jb32, jb33, jb34, jb35, jb36, jb37, jb38, jb39, jb40, jb41, jb42, jb43, jb44, jb45, jb46, jb47, jb48, jb49, jb50, zlet, jlit, jle_t, jle_f, jlt_t, jlt_f, jeq_t, jeq_f, jeqN_f, jNeq_f, jNN, jN1, jadd, jsub, jzin, jcl, if_true, if_false, ite_true, ite_false, not_true, not_false_iff, not_true_eq_false, not_false_eq_true, jB_t, jB_f, jB0_t, jB0_f, jBa, jand11, jand00, ↓reduceIte, Nat.reduceEqDiff, Nat.reduceAdd, Nat.reduceSub, n3, n4, jbc n1, jxgates hN hk n1]
        exact ⟨_, _, _, _, _, _, _, rfl, rfl, Or.inl ⟨rfl, rfl, rfl⟩, hR⟩
    · rw [h1, jb2, if_pos rfl, h3, jb1, jnA0, jb2, if_neg j20, h2, jb1, if_neg j10, jbadO, jb3, if_pos rfl, h4, jb1, if_pos rfl, jbadB, jb3, if_neg j10]
      exact ⟨_, _, _, _, _, _, _, rfl, rfl, Or.inr (Or.inr ⟨rfl, rfl⟩), hR.arg⟩
  · rw [h1, jb2, if_neg j10, h2, jb1, if_pos rfl, jbadE, jb3, if_neg j10]
    exact ⟨_, _, _, _, _, _, _, rfl, rfl, Or.inr (Or.inl ⟨rfl, rfl⟩), hR.elem⟩
theorem jop_gate (hN : 70000 < N9) (hk : jBk G L gt nu fo bk_forgives bk_tolls bk_lengths bk_numbers m_told m_gate m_list) (hs : jSt G B no bo c tk st_now st_born st_age st_passed st_gone st_took (nI B) st_year (nI c) m_now) (hR : jRf re ra m_refused) (m_thrown : Int32) (x1 : Int32) (x2 : Int32): ∃ z r re1 ra1 q th rf1, pX9_gate N9 bk_forgives bk_tolls bk_lengths bk_numbers (nI G) st_now st_gone st_took (nI B) re ra x1 x2 = some (z, r, re1, ra1) ∧ pM_gate N9 m_thrown m_refused m_told m_gate m_list m_now x1 x2 = some (q, th, rf1) ∧ jOutB z th r q ∧ jRf re1 ra1 rf1 := by
  have hs' := hs
  obtain ⟨hB, -, h42, -, -, -, -, -, hgo, -⟩ := hs
  have hG := hk.1
  have hlen := hk.2.2.2.2.2.2.1
  have hfo := hk.2.2.2.2.1
  have hto := hk.2.2.2.2.2.1
  unfold pX9_gate pM_gate pM_gate_19 pM_gate_42 pM_gate_50
  simp only [jlit]
  rcases jcase_g (N9 := N9) (re := re) hk.2.2.1 hG x1 with ⟨g, hg, rfl, h1, h2⟩ | ⟨h1, h2⟩
  · obtain ⟨n1, n2, n3⟩ := hgo g (by omega)
    rcases jcase_a N9 (a := 5) (by omega) x2 with ⟨k, hk5, rfl, h3, h4⟩ | ⟨h3, h4⟩
    · rw [h1, jb2, if_pos rfl, h3, jb1, jnA1, jb2, if_pos rfl, h2, jb1, if_neg j10, jbadO, jb3, if_pos rfl, h4, jb1, if_neg j10, jbadO, jb3, if_pos rfl]
      have hk9 : k = 0 ∨ k = 1 ∨ k = 2 ∨ k = 3 ∨ k = 4 ∨ k = 5 := by omega
      rcases hk9 with rfl | rfl | rfl | rfl | rfl | rfl
      all_goals
        simp (disch := omega) only [jb1, jb2, jb3, jb4, jb5, jb6, jb7, jb8, jb9, jb10, jb11, jb12, jb13, jb14, jb15, jb16, jb17, jb18, jb19, jb20, jb21, jb22, jb23, jb24, jb25, jb26, jb27, jb28, jb29, jb30, jb31, jb32, jb33, jb34, jb35, jb36, jb37, jb38, jb39, jb40, jb41, jb42, jb43, jb44, jb45, jb46, jb47, jb48, jb49, jb50, zlet, jlit, jle_t, jle_f, jlt_t, jlt_f, jeq_t, jeq_f, jeqN_f, jNeq_f, jNN, jN1, jadd, jsub, jzin, jcl, if_true, if_false, ite_true, ite_false, not_true, not_false_iff, not_true_eq_false, not_false_eq_true, jB_t, jB_f, jB0_t, jB0_f, jBa, jand11, jand00, ↓reduceIte, Nat.reduceEqDiff, Nat.reduceAdd, Nat.reduceSub, n1, n2, n3, hlen g hg, (hfo g hg).2.1, (hfo g hg).2.2, hto g hg, jmlistOf hN hk hg, jxthru hN hk hs' hg, jmthru hN hk hs' hg]
        exact ⟨_, _, _, _, _, _, _, rfl, rfl, Or.inl ⟨rfl, rfl, rfl⟩, hR⟩
    · rw [h1, jb2, if_pos rfl, h3, jb1, jnA0, jb2, if_neg j20, h2, jb1, if_neg j10, jbadO, jb3, if_pos rfl, h4, jb1, if_pos rfl, jbadB, jb3, if_neg j10]
      exact ⟨_, _, _, _, _, _, _, rfl, rfl, Or.inr (Or.inr ⟨rfl, rfl⟩), hR.arg⟩
  · rw [h1, jb2, if_neg j10, h2, jb1, if_pos rfl, jbadE, jb3, if_neg j10]
    exact ⟨_, _, _, _, _, _, _, rfl, rfl, Or.inr (Or.inl ⟨rfl, rfl⟩), hR.elem⟩
theorem jop_slips (hN : 70000 < N9) (hR : jRf re ra m_refused) (m_thrown : Int32) (x1 : Int32) (x2 : Int32): ∃ z r ra1 q th rf1, pX9_slips N9 ra x1 x2 = some (z, r, ra1) ∧ pM_slips N9 m_thrown m_refused x1 x2 = some (q, th, rf1) ∧ jOutA z th r q ∧ jRf re ra1 rf1 := by
  unfold pX9_slips pM_slips pX9_slips_27 pX9_slips_28 pM_slips_20 pM_slips_25
  simp only [jlit]
  rcases jcase_n N9 x1 with ⟨a, ha, rfl, h1, h2⟩ | ⟨h1, h2⟩
  · rcases jcase_n N9 x2 with ⟨b, hb, rfl, h3, h4⟩ | ⟨h3, h4⟩
    · have h5 := jxor_lt ha hb
      rw [h1, jb1, if_neg j10, h3, jb1, if_neg j10, jnA1, jb2, if_pos rfl, h2, jb1, if_neg j10, h4, jb1, if_neg j10, jbadO, jb3, if_pos rfl, jxor, jbc h5, jb1, jo hN h5, jb1]
      exact ⟨_, _, _, _, _, _, rfl, rfl, Or.inl ⟨rfl, rfl, rfl⟩, hR⟩
    · rw [h1, jb1, if_neg j10, h3, jb1, if_pos rfl, jnA0, jb2, if_neg j20, h2, jb1, if_neg j10, h4, jb1, if_pos rfl, jbadA, jb3, if_neg j10]
      exact ⟨_, _, _, _, _, _, rfl, rfl, Or.inr ⟨rfl, rfl⟩, hR.arg⟩
  · rw [h1, jb1, if_pos rfl, jnA0, jb2, if_neg j20, h2, jb1, if_pos rfl, jbadA, jb3, if_neg j10]
    exact ⟨_, _, _, _, _, _, rfl, rfl, Or.inr ⟨rfl, rfl⟩, hR.arg⟩
theorem jop_near (hN : 70000 < N9) (hk : jBk G L gt nu fo bk_forgives bk_tolls bk_lengths bk_numbers m_told m_gate m_list) (hs : jSt G B no bo c tk st_now st_born st_age st_passed st_gone st_took (nI B) st_year (nI c) m_now) (hR : jRf re ra m_refused) (m_thrown : Int32) (x1 : Int32) (x2 : Int32): ∃ z r re1 q th rf1, pX9_near N9 bk_lengths bk_numbers (nI G) st_now (nI B) re x1 x2 = some (z, r, re1) ∧ pM_near N9 m_thrown m_refused m_told m_list m_now x1 x2 = some (q, th, rf1) ∧ jOutE z th r q ∧ jRf re1 ra rf1 := by
  obtain ⟨hB, -, h42, -, -, -, -, hno, -⟩ := hs
  unfold pX9_near pM_near pM_near_22 pM_near_27
  simp only [jlit]
  rcases jcase_bg (N9 := N9) (re := re) h42 hB hk.2.2.1 hk.1 x1 x2 with ⟨b, g, hb, hg, rfl, rfl, h1, h2, h3⟩ | ⟨h1, h2 | ⟨h2, h3⟩⟩
  · rw [h1, jb2, if_pos rfl, h2, jb1, if_neg j10, h3, jb1, if_neg j10, jbadO, jb3, if_pos rfl]
    obtain ⟨n1, n2, n3, n5, n4, -⟩ := hno b hb
    simp (disch := omega) only [jb1, jb2, jb3, jb4, jb5, jb6, jb7, jb8, jb9, jb10, jb11, jb12, jb13, jb14, jb15, jb16, jb17, jb18, jb19, jb20, jb21, jb22, jb23, jb24, jb25, jb26, jb27, jb28, jb29, jb30, jb31, jb32, jb33, jb34, jb35, jb36, jb37, jb38, jb39, jb40, jb41, jb42, jb43, jb44, jb45, jb46, jb47, jb48, jb49, jb50, zlet, jlit, jle_t, jle_f, jlt_t, jlt_f, jeq_t, jeq_f, jeqN_f, jNeq_f, jNN, jN1, jadd, jsub, jzin, jcl, if_true, if_false, ite_true, ite_false, not_true, not_false_iff, not_true_eq_false, not_false_eq_true, jB_t, jB_f, jB0_t, jB0_f, jBa, jand11, jand00, ↓reduceIte, Nat.reduceEqDiff, Nat.reduceAdd, Nat.reduceSub, n3, n5, Nat.zero_add, jxnear hN hk n1 hg, jmnear hN hk n1 hg]
    exact ⟨_, _, _, _, _, _, rfl, rfl, Or.inl ⟨rfl, rfl, rfl⟩, hR⟩
  · rw [h1, jb2, if_neg j10, h2, jb1, if_pos rfl, jbadE, jb3, if_neg j10]
    exact ⟨_, _, _, _, _, _, rfl, rfl, Or.inr ⟨rfl, rfl⟩, hR.elem⟩
  · rw [h1, jb2, if_neg j10, h2, jb1, if_neg j10, h3, jb1, if_pos rfl, jbadE, jb3, if_neg j10]
    exact ⟨_, _, _, _, _, _, rfl, rfl, Or.inr ⟨rfl, rfl⟩, hR.elem⟩
theorem jop_fee (hN : 70000 < N9) (hk : jBk G L gt nu fo bk_forgives bk_tolls bk_lengths bk_numbers m_told m_gate m_list) (hl : jLw n kk vv lw_kinds lw_values lw_length m_lawMany m_law) (hs : jSt G B no bo c tk st_now st_born st_age st_passed st_gone st_took (nI B) st_year (nI c) m_now) (hR : jRf re ra m_refused) (lw_stack : Nat → Int32) (ru_facts : Nat → Int32) (m_thrown : Int32) (m_stack : Nat → Int32) (m_known : Nat → Int32) (x1 : Int32) (x2 : Int32): ∃ z r lw_stack1 ru_facts1 re1 q th rf1 m_stack1 m_known1, pX9_fee N9 bk_tolls bk_lengths bk_numbers (nI G) lw_kinds lw_values lw_stack lw_length ru_facts st_now st_age st_passed st_gone (nI B) re x1 x2 = some (z, r, lw_stack1, ru_facts1, re1) ∧ pM_fee N9 m_thrown m_refused m_told m_gate m_list m_lawMany m_law m_stack m_known m_now x1 x2 = some (q, th, rf1, m_stack1, m_known1) ∧ jOutE z th r q ∧ jRf re1 ra rf1 := by
  have hs' := hs
  obtain ⟨hB, -, h42, -, -, -, -, hno, -⟩ := hs
  have hG := hk.1
  have hL := hk.2.1
  unfold pX9_fee pM_fee pM_fee_22 pM_fee_27 pM_fee_60
  simp only [jlit]
  rcases jcase_bg (N9 := N9) (re := re) h42 hB hk.2.2.1 hk.1 x1 x2 with ⟨b, g, hb, hg, rfl, rfl, h1, h2, h3⟩ | ⟨h1, h2 | ⟨h2, h3⟩⟩
  · rw [h1, jb2, if_pos rfl, h2, jb1, if_neg j10, h3, jb1, if_neg j10, jbadO, jb3, if_pos rfl]
    obtain ⟨st, ru, q1⟩ := jxfeeOf hN hk hl hs' hb hg lw_stack ru_facts (st_gone g)
    obtain ⟨st', kn, q2⟩ := jmfeeOf hN hk hl hs' hb hg m_stack m_known (nI 0)
    have q3 := jnear_none gt nu g (no b) L
    have q4 := jcnt_le gt g L
    rw [jadd0] at q2
    simp (disch := omega) only [jb1, jb2, jb3, jb4, jb5, jb6, jb7, jb8, jb9, jb10, jb11, jb12, jb13, jb14, jb15, jb16, jb17, jb18, jb19, jb20, jb21, jb22, jb23, jb24, jb25, jb26, jb27, jb28, jb29, jb30, jb31, jb32, jb33, jb34, jb35, jb36, jb37, jb38, jb39, jb40, jb41, jb42, jb43, jb44, jb45, jb46, jb47, jb48, jb49, jb50, zlet, jlit, jle_t, jle_f, jlt_t, jlt_f, jeq_t, jeq_f, jeqN_f, jNeq_f, jNN, jN1, jadd, jsub, jzin, jcl, if_true, if_false, ite_true, ite_false, not_true, not_false_iff, not_true_eq_false, not_false_eq_true, jB_t, jB_f, jB0_t, jB0_f, jBa, jand11, jand00, ↓reduceIte, Nat.reduceEqDiff, Nat.reduceAdd, Nat.reduceSub, q1, q2, jmlistOf hN hk hg]
    by_cases hc : jcnt gt g L = 0
    · rw [if_pos (q3.mpr hc)]
      simp (disch := omega) only [jb1, jb2, jb3, jb4, jb5, jb6, jb7, jb8, jb9, jb10, jb11, jb12, jb13, jb14, jb15, jb16, jb17, jb18, jb19, jb20, jb21, jb22, jb23, jb24, jb25, jb26, jb27, jb28, jb29, jb30, jb31, jb32, jb33, jb34, jb35, jb36, jb37, jb38, jb39, jb40, jb41, jb42, jb43, jb44, jb45, jb46, jb47, jb48, jb49, jb50, zlet, jlit, jle_t, jle_f, jlt_t, jlt_f, jeq_t, jeq_f, jeqN_f, jNeq_f, jNN, jN1, jadd, jsub, jzin, jcl, if_true, if_false, ite_true, ite_false, not_true, not_false_iff, not_true_eq_false, not_false_eq_true, jB_t, jB_f, jB0_t, jB0_f, jBa, jand11, jand00, ↓reduceIte, Nat.reduceEqDiff, Nat.reduceAdd, Nat.reduceSub, hc]
      exact ⟨_, _, _, _, _, _, _, _, _, _, rfl, rfl, Or.inl ⟨rfl, rfl, rfl⟩, hR⟩
    · rw [if_neg (fun q => hc (q3.mp q))]
      simp (disch := omega) only [jb1, jb2, jb3, jb4, jb5, jb6, jb7, jb8, jb9, jb10, jb11, jb12, jb13, jb14, jb15, jb16, jb17, jb18, jb19, jb20, jb21, jb22, jb23, jb24, jb25, jb26, jb27, jb28, jb29, jb30, jb31, jb32, jb33, jb34, jb35, jb36, jb37, jb38, jb39, jb40, jb41, jb42, jb43, jb44, jb45, jb46, jb47, jb48, jb49, jb50, zlet, jlit, jle_t, jle_f, jlt_t, jlt_f, jeq_t, jeq_f, jeqN_f, jNeq_f, jNN, jN1, jadd, jsub, jzin, jcl, if_true, if_false, ite_true, ite_false, not_true, not_false_iff, not_true_eq_false, not_false_eq_true, jB_t, jB_f, jB0_t, jB0_f, jBa, jand11, jand00, ↓reduceIte, Nat.reduceEqDiff, Nat.reduceAdd, Nat.reduceSub, hc]
      exact ⟨_, _, _, _, _, _, _, _, _, _, rfl, rfl, Or.inl ⟨rfl, rfl, rfl⟩, hR⟩
  · rw [h1, jb2, if_neg j10, h2, jb1, if_pos rfl, jbadE, jb3, if_neg j10]
    exact ⟨_, _, _, _, _, _, _, _, _, _, rfl, rfl, Or.inr ⟨rfl, rfl⟩, hR.elem⟩
  · rw [h1, jb2, if_neg j10, h2, jb1, if_neg j10, h3, jb1, if_pos rfl, jbadE, jb3, if_neg j10]
    exact ⟨_, _, _, _, _, _, _, _, _, _, rfl, rfl, Or.inr ⟨rfl, rfl⟩, hR.elem⟩
theorem jop_can (hN : 70000 < N9) (hk : jBk G L gt nu fo bk_forgives bk_tolls bk_lengths bk_numbers m_told m_gate m_list) (hl : jLw n kk vv lw_kinds lw_values lw_length m_lawMany m_law) (hs : jSt G B no bo c tk st_now st_born st_age st_passed st_gone st_took (nI B) st_year (nI c) m_now) (hR : jRf re ra m_refused) (lw_stack : Nat → Int32) (ru_facts : Nat → Int32) (m_thrown : Int32) (m_stack : Nat → Int32) (m_known : Nat → Int32) (x1 : Int32) (x2 : Int32): ∃ z r lw_stack1 ru_facts1 re1 q th rf1 m_stack1 m_known1, pX9_can N9 bk_forgives bk_tolls bk_lengths bk_numbers (nI G) lw_kinds lw_values lw_stack lw_length ru_facts st_now st_age st_passed st_gone (nI B) (nI c) re x1 x2 = some (z, r, lw_stack1, ru_facts1, re1) ∧ pM_can N9 m_thrown m_refused m_told m_gate m_list m_lawMany m_law m_stack m_known m_now x1 x2 = some (q, th, rf1, m_stack1, m_known1) ∧ jOutE z th r q ∧ jRf re1 ra rf1 := by
  have hs' := hs
  obtain ⟨hB, -, h42, -, -, -, -, hno, -⟩ := hs
  unfold pX9_can pM_can pM_can_22 pM_can_27 pX9_can_28
  simp only [jlit]
  rcases jcase_bg (N9 := N9) (re := re) h42 hB hk.2.2.1 hk.1 x1 x2 with ⟨b, g, hb, hg, rfl, rfl, h1, h2, h3⟩ | ⟨h1, h2 | ⟨h2, h3⟩⟩
  · rw [h1, jb2, if_pos rfl, h2, jb1, if_neg j10, h3, jb1, if_neg j10, jbadO, jb3, if_pos rfl]
    obtain ⟨z, st, ru, st', kn, f, q1, q2, q3, -⟩ := jprice hN hk hl hs' hb hg lw_stack ru_facts m_stack m_known
    simp (disch := omega) only [jb1, jb2, jb3, jb4, jb5, jb6, jb7, jb8, jb9, jb10, jb11, jb12, jb13, jb14, jb15, jb16, jb17, jb18, jb19, jb20, jb21, jb22, jb23, jb24, jb25, jb26, jb27, jb28, jb29, jb30, jb31, jb32, jb33, jb34, jb35, jb36, jb37, jb38, jb39, jb40, jb41, jb42, jb43, jb44, jb45, jb46, jb47, jb48, jb49, jb50, zlet, jlit, jle_t, jle_f, jlt_t, jlt_f, jeq_t, jeq_f, jeqN_f, jNeq_f, jNN, jN1, jadd, jsub, jzin, jcl, if_true, if_false, ite_true, ite_false, not_true, not_false_iff, not_true_eq_false, not_false_eq_true, jB_t, jB_f, jB0_t, jB0_f, jBa, jand11, jand00, ↓reduceIte, Nat.reduceEqDiff, Nat.reduceAdd, Nat.reduceSub, q1, q2]
    cases z
    · simp (disch := omega) only [jb1, jb2, jb3, jb4, jb5, jb6, jb7, jb8, jb9, jb10, jb11, jb12, jb13, jb14, jb15, jb16, jb17, jb18, jb19, jb20, jb21, jb22, jb23, jb24, jb25, jb26, jb27, jb28, jb29, jb30, jb31, jb32, jb33, jb34, jb35, jb36, jb37, jb38, jb39, jb40, jb41, jb42, jb43, jb44, jb45, jb46, jb47, jb48, jb49, jb50, zlet, jlit, jle_t, jle_f, jlt_t, jlt_f, jeq_t, jeq_f, jeqN_f, jNeq_f, jNN, jN1, jadd, jsub, jzin, jcl, if_true, if_false, ite_true, ite_false, not_true, not_false_iff, not_true_eq_false, not_false_eq_true, jB_t, jB_f, jB0_t, jB0_f, jBa, jand11, jand00, ↓reduceIte, Nat.reduceEqDiff, Nat.reduceAdd, Nat.reduceSub, Bool.false_eq_true]
      exact ⟨_, _, _, _, _, _, _, _, _, _, rfl, rfl, Or.inl ⟨rfl, rfl, rfl⟩, hR⟩
    · simp (disch := omega) only [jb1, jb2, jb3, jb4, jb5, jb6, jb7, jb8, jb9, jb10, jb11, jb12, jb13, jb14, jb15, jb16, jb17, jb18, jb19, jb20, jb21, jb22, jb23, jb24, jb25, jb26, jb27, jb28, jb29, jb30, jb31, jb32, jb33, jb34, jb35, jb36, jb37, jb38, jb39, jb40, jb41, jb42, jb43, jb44, jb45, jb46, jb47, jb48, jb49, jb50, zlet, jlit, jle_t, jle_f, jlt_t, jlt_f, jeq_t, jeq_f, jeqN_f, jNeq_f, jNN, jN1, jadd, jsub, jzin, jcl, if_true, if_false, ite_true, ite_false, not_true, not_false_iff, not_true_eq_false, not_false_eq_true, jB_t, jB_f, jB0_t, jB0_f, jBa, jand11, jand00, ↓reduceIte, Nat.reduceEqDiff, Nat.reduceAdd, Nat.reduceSub]
      exact ⟨_, _, _, _, _, _, _, _, _, _, rfl, rfl, Or.inl ⟨rfl, rfl, rfl⟩, hR⟩
  · rw [h1, jb2, if_neg j10, h2, jb1, if_pos rfl, jbadE, jb3, if_neg j10]
    exact ⟨_, _, _, _, _, _, _, _, _, _, rfl, rfl, Or.inr ⟨rfl, rfl⟩, hR.elem⟩
  · rw [h1, jb2, if_neg j10, h2, jb1, if_neg j10, h3, jb1, if_pos rfl, jbadE, jb3, if_neg j10]
    exact ⟨_, _, _, _, _, _, _, _, _, _, rfl, rfl, Or.inr ⟨rfl, rfl⟩, hR.elem⟩
theorem jop_would (hN : 70000 < N9) (hl : jLw n kk vv lw_kinds lw_values lw_length m_lawMany m_law) (hR : jRf re ra m_refused) (lw_stack : Nat → Int32) (ru_facts : Nat → Int32) (m_thrown : Int32) (m_stack : Nat → Int32) (m_known : Nat → Int32) (x1 : Int32) (x2 : Int32) (x3 : Int32) (x4 : Int32) (x5 : Int32) (x6 : Int32) (x7 : Int32) (x8 : Int32): ∃ z r lw_stack1 ru_facts1 ra1 q th rf1 m_stack1 m_known1, pX9_would N9 lw_kinds lw_values lw_stack lw_length ru_facts ra x1 x2 x3 x4 x5 x6 x7 x8 = some (z, r, lw_stack1, ru_facts1, ra1) ∧ pM_would N9 m_thrown m_refused m_lawMany m_law m_stack m_known x1 x2 x3 x4 x5 x6 x7 x8 = some (q, th, rf1, m_stack1, m_known1) ∧ jOutA z th r q ∧ jRf re ra1 rf1 := by
  unfold pX9_would pM_would pX9_would_93 pX9_would_94 pM_would_90 pM_would_95
  simp only [jlit]
  rcases jcase_a N9 (a := 40) (by omega) x1 with ⟨k1, b1, rfl, p1, q1⟩ | ⟨p1, q1⟩
  · rw [p1, jb1, if_neg j10, q1, jb1, if_neg j10]
    rcases jcase_a N9 (a := 8) (by omega) x2 with ⟨k2, b2, rfl, p2, q2⟩ | ⟨p2, q2⟩
    · rw [p2, jb1, if_neg j10, q2, jb1, if_neg j10]
      rcases jcase_a N9 (a := 8) (by omega) x3 with ⟨k3, b3, rfl, p3, q3⟩ | ⟨p3, q3⟩
      · rw [p3, jb1, if_neg j10, q3, jb1, if_neg j10]
        rcases jcase_a N9 (a := 400) (by omega) x4 with ⟨k4, b4, rfl, p4, q4⟩ | ⟨p4, q4⟩
        · rw [p4, jb1, if_neg j10, q4, jb1, if_neg j10]
          rcases jcase_a N9 (a := 999) (by omega) x5 with ⟨k5, b5, rfl, p5, q5⟩ | ⟨p5, q5⟩
          · rw [p5, jb1, if_neg j10, q5, jb1, if_neg j10]
            rcases jcase_a N9 (a := 999) (by omega) x6 with ⟨k6, b6, rfl, p6, q6⟩ | ⟨p6, q6⟩
            · rw [p6, jb1, if_neg j10, q6, jb1, if_neg j10]
              rcases jcase_n N9 x7 with ⟨k7, b7, rfl, p7, q7⟩ | ⟨p7, q7⟩
              · rw [p7, jb1, if_neg j10, q7, jb1, if_neg j10]
                rcases jcase_a N9 (a := 4) (by omega) x8 with ⟨k8, b8, rfl, p8, q8⟩ | ⟨p8, q8⟩
                · rw [p8, jb1, if_neg j10, q8, jb1, if_neg j10]
                  obtain ⟨st, w1⟩ := jxfee hN hl lw_stack (upd (upd (upd (upd (upd (upd (upd (upd ru_facts 0 (nI k1)) 1 (nI k2)) 2 (nI k3)) 3 (nI k4)) 4 (nI k5)) 5 (nI k6)) 6 (nI k7)) 7 (nI k8))
                  obtain ⟨st2, kn2, w2⟩ := jmfeeBy hN hl m_stack m_known (nI k1) (nI k2) (nI k3) (nI k4) (nI k5) (nI k6) (nI k7) (nI k8)
                  rw [jfee_congr hl.2.2.2.1 (jF_upd ru_facts _ _ _ _ _ _ _ _)] at w1
                  rw [jnA1, jb2, if_pos rfl, jbadO, jb3, if_pos rfl, w2, jb3]
                  simp (disch := omega) only [jb1, jb2, jb3, jb4, jb5, jb6, jb7, jb8, jb9, jb10, jb11, jb12, jb13, jb14, jb15, jb16, jb17, jb18, jb19, jb20, jb21, jb22, jb23, jb24, jb25, jb26, jb27, jb28, jb29, jb30, jb31, jb32, jb33, jb34, jb35, jb36, jb37, jb38, jb39, jb40, jb41, jb42, jb43, jb44, jb45, jb46, jb47, jb48, jb49, jb50, zlet, jlit, jle_t, jle_f, jlt_t, jlt_f, jeq_t, jeq_f, jeqN_f, jNeq_f, jNN, jN1, jadd, jsub, jzin, jcl, if_true, if_false, ite_true, ite_false, not_true, not_false_iff, not_true_eq_false, not_false_eq_true, jB_t, jB_f, jB0_t, jB0_f, jBa, jand11, jand00, ↓reduceIte, Nat.reduceEqDiff, Nat.reduceAdd, Nat.reduceSub, w1]
                  exact ⟨_, _, _, _, _, _, _, _, _, _, rfl, rfl, Or.inl ⟨rfl, rfl, rfl⟩, hR⟩
                · rw [p8, jb1, if_pos rfl, q8, jb1, if_pos rfl, jnA0, jb2, if_neg j20, jbadA, jb3, if_neg j10]
                  exact ⟨_, _, _, _, _, _, _, _, _, _, rfl, rfl, Or.inr ⟨rfl, rfl⟩, hR.arg⟩
              · rw [p7, jb1, if_pos rfl, q7, jb1, if_pos rfl, jnA0, jb2, if_neg j20, jbadA, jb3, if_neg j10]
                exact ⟨_, _, _, _, _, _, _, _, _, _, rfl, rfl, Or.inr ⟨rfl, rfl⟩, hR.arg⟩
            · rw [p6, jb1, if_pos rfl, q6, jb1, if_pos rfl, jnA0, jb2, if_neg j20, jbadA, jb3, if_neg j10]
              exact ⟨_, _, _, _, _, _, _, _, _, _, rfl, rfl, Or.inr ⟨rfl, rfl⟩, hR.arg⟩
          · rw [p5, jb1, if_pos rfl, q5, jb1, if_pos rfl, jnA0, jb2, if_neg j20, jbadA, jb3, if_neg j10]
            exact ⟨_, _, _, _, _, _, _, _, _, _, rfl, rfl, Or.inr ⟨rfl, rfl⟩, hR.arg⟩
        · rw [p4, jb1, if_pos rfl, q4, jb1, if_pos rfl, jnA0, jb2, if_neg j20, jbadA, jb3, if_neg j10]
          exact ⟨_, _, _, _, _, _, _, _, _, _, rfl, rfl, Or.inr ⟨rfl, rfl⟩, hR.arg⟩
      · rw [p3, jb1, if_pos rfl, q3, jb1, if_pos rfl, jnA0, jb2, if_neg j20, jbadA, jb3, if_neg j10]
        exact ⟨_, _, _, _, _, _, _, _, _, _, rfl, rfl, Or.inr ⟨rfl, rfl⟩, hR.arg⟩
    · rw [p2, jb1, if_pos rfl, q2, jb1, if_pos rfl, jnA0, jb2, if_neg j20, jbadA, jb3, if_neg j10]
      exact ⟨_, _, _, _, _, _, _, _, _, _, rfl, rfl, Or.inr ⟨rfl, rfl⟩, hR.arg⟩
  · rw [p1, jb1, if_pos rfl, q1, jb1, if_pos rfl, jnA0, jb2, if_neg j20, jbadA, jb3, if_neg j10]
    exact ⟨_, _, _, _, _, _, _, _, _, _, rfl, rfl, Or.inr ⟨rfl, rfl⟩, hR.arg⟩
end C1
