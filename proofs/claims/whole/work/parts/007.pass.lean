theorem jadd0 (x : Int32) : x + nI 0 = x := Int32.add_zero x
theorem jfo_rng (kk vv : Nat → Nat) (n : Nat) (gt nu : Nat → Nat) (L : Nat) (toll : Nat → Int32) (no : Nat → Nat) (age passed : Nat → Int32) (b g : Nat) (gone : Int32) : ∃ f, f ≤ 99 ∧ jfo kk vv n gt nu L toll no age passed b g gone = nI f := jclamp_rng _
section PS
variable {G L B n c : Nat} {gt nu fo kk vv no bo tk : Nat → Nat} {bk_forgives bk_tolls bk_lengths : Nat → Int32} {bk_numbers : Nat → Nat → Int32} {m_told : Nat → Int32} {m_gate m_list : Nat → Nat → Int32} {N9 : Nat}
variable {lw_kinds lw_values : Nat → Int32} {lw_length m_lawMany : Int32} {m_law : Nat → Nat → Int32}
variable {st_now st_born st_age st_passed st_gone st_took : Nat → Int32} {st_beasts st_year st_coins : Int32} {row : Nat → Int32}
theorem jprice (hN : 70000 < N9) (hk : jBk G L gt nu fo bk_forgives bk_tolls bk_lengths bk_numbers m_told m_gate m_list) (hl : jLw n kk vv lw_kinds lw_values lw_length m_lawMany m_law) (hs : jSt G B no bo c tk st_now st_born st_age st_passed st_gone st_took st_beasts st_year st_coins row) {b g : Nat} (hb : b < B) (hg : g < G) (lw_stack ru_facts m_stack m_known : Nat → Int32) :
    ∃ z st ru st' kn f, pX5_priceOf N9 bk_forgives bk_tolls bk_lengths bk_numbers lw_kinds lw_values lw_stack lw_length ru_facts st_now st_age st_passed st_gone st_coins (nI b) (nI g) = some (if z = true then nI f else -nI 1, st, ru) ∧
      pM_canPass N9 m_told m_gate m_list m_lawMany m_law m_stack m_known row (nI b) (nI g) = some (jB z, st', kn) ∧ f ≤ 99 ∧ (z = true → f ≤ c) ∧ jfo kk vv n gt nu L bk_tolls no st_age st_passed b g (st_gone g) = nI f := by
  have hs' := hs
  obtain ⟨hB, -, -, hc, hc2, -, -, hno, hgo, hm, -⟩ := hs
  have hG := hk.1
  obtain ⟨h1, -, h2, h3, -⟩ := hno b hb
  obtain ⟨hf1, hf2, -⟩ := hk.2.2.2.2.1 g hg
  obtain ⟨f, hf3, hf4⟩ := jfo_rng kk vv n gt nu L bk_tolls no st_age st_passed b g (st_gone g)
  have hop := jmopen hN hk h1 hg
  have hnear := jxnear hN hk h1 hg
  unfold jopen at hop
  unfold pX5_priceOf pX5_priceOf_33 pX5_priceOf_78 pM_canPass pM_canPass_32 pM_canPass_33
  simp (disch := omega) only [jb1, jb2, jb3, jb4, jb5, jb6, jb7, jb8, jb9, jb10, jb11, jb12, jb13, jb14, jb15, jb16, jb17, jb18, jb19, jb20, jb21, jb22, jb23, jb24, jb25, jb26, jb27, jb28, jb29, jb30, jb31, jb32, jb33, jb34, jb35, jb36, jb37, jb38, jb39, jb40, jb41, jb42, jb43, jb44, jb45, jb46, jb47, jb48, jb49, jb50, zlet, jlit, jle_t, jle_f, jlt_t, jlt_f, jeq_t, jeq_f, jeqN_f, jNeq_f, jNN, jN1, jadd, jsub, jzin, jcl, if_true, if_false, ite_true, ite_false, not_true, not_false_iff, not_true_eq_false, not_false_eq_true, jB_t, jB_f, jB0_t, jB0_f, jBa, jand11, jand00, ↓reduceIte, Nat.reduceEqDiff, Nat.reduceAdd, Nat.reduceSub, h2, h3, hnear, hop, Nat.zero_add, hc, hc2, hf2]
  rcases jnear_rng gt nu g L (no b) with hn | ⟨q, hq, hn⟩
  · rw [hn]
    exact ⟨false, _, _, _, _, f, rfl, rfl, hf3, fun h => Bool.noConfusion h, hf4⟩
  · by_cases hqf : q ≤ fo g
    · obtain ⟨F, h6, h7⟩ := jxnote (N9 := N9) (bk_tolls := bk_tolls) (st_age := st_age) (st_passed := st_passed) hB (fun b hb => ⟨(hno b hb).1, (hno b hb).2.2.1⟩) hb (by omega : g < 5) ru_facts (jnear gt nu g L (no b)) (st_gone g)
      obtain ⟨st, h8⟩ := jxfee hN hl lw_stack F
      have h8' : jfee kk vv n F = nI f := by rw [jfee_congr hl.2.2.2.1 h7]; exact hf4
      obtain ⟨st', kn, h9⟩ := jmfeeOf hN hk hl hs' hb hg m_stack m_known (nI 0)
      rw [jadd0, hf4] at h9
      rw [h8'] at h8
      rw [hn] at h6 ⊢
      simp (disch := omega) only [jb1, jb2, jb3, jb4, jb5, jb6, jb7, jb8, jb9, jb10, jb11, jb12, jb13, jb14, jb15, jb16, jb17, jb18, jb19, jb20, jb21, jb22, jb23, jb24, jb25, jb26, jb27, jb28, jb29, jb30, jb31, jb32, jb33, jb34, jb35, jb36, jb37, jb38, jb39, jb40, jb41, jb42, jb43, jb44, jb45, jb46, jb47, jb48, jb49, jb50, zlet, jlit, jle_t, jle_f, jlt_t, jlt_f, jeq_t, jeq_f, jeqN_f, jNeq_f, jNN, jN1, jadd, jsub, jzin, jcl, if_true, if_false, ite_true, ite_false, not_true, not_false_iff, not_true_eq_false, not_false_eq_true, jB_t, jB_f, jB0_t, jB0_f, jBa, jand11, jand00, ↓reduceIte, Nat.reduceEqDiff, Nat.reduceAdd, Nat.reduceSub, h6, h8, h9, ne_eq, not_false_eq_true, decide_true, Bool.and_true]
      by_cases hfc : f ≤ c
      · simp (disch := omega) only [jb1, jb2, jb3, jb4, jb5, jb6, jb7, jb8, jb9, jb10, jb11, jb12, jb13, jb14, jb15, jb16, jb17, jb18, jb19, jb20, jb21, jb22, jb23, jb24, jb25, jb26, jb27, jb28, jb29, jb30, jb31, jb32, jb33, jb34, jb35, jb36, jb37, jb38, jb39, jb40, jb41, jb42, jb43, jb44, jb45, jb46, jb47, jb48, jb49, jb50, zlet, jlit, jle_t, jle_f, jlt_t, jlt_f, jeq_t, jeq_f, jeqN_f, jNeq_f, jNN, jN1, jadd, jsub, jzin, jcl, if_true, if_false, ite_true, ite_false, not_true, not_false_iff, not_true_eq_false, not_false_eq_true, jB_t, jB_f, jB0_t, jB0_f, jBa, jand11, jand00, ↓reduceIte, Nat.reduceEqDiff, Nat.reduceAdd, Nat.reduceSub]
        exact ⟨true, _, _, _, _, f, rfl, rfl, hf3, fun _ => hfc, hf4⟩
      · simp (disch := omega) only [jb1, jb2, jb3, jb4, jb5, jb6, jb7, jb8, jb9, jb10, jb11, jb12, jb13, jb14, jb15, jb16, jb17, jb18, jb19, jb20, jb21, jb22, jb23, jb24, jb25, jb26, jb27, jb28, jb29, jb30, jb31, jb32, jb33, jb34, jb35, jb36, jb37, jb38, jb39, jb40, jb41, jb42, jb43, jb44, jb45, jb46, jb47, jb48, jb49, jb50, zlet, jlit, jle_t, jle_f, jlt_t, jlt_f, jeq_t, jeq_f, jeqN_f, jNeq_f, jNN, jN1, jadd, jsub, jzin, jcl, if_true, if_false, ite_true, ite_false, not_true, not_false_iff, not_true_eq_false, not_false_eq_true, jB_t, jB_f, jB0_t, jB0_f, jBa, jand11, jand00, ↓reduceIte, Nat.reduceEqDiff, Nat.reduceAdd, Nat.reduceSub]
        exact ⟨false, _, _, _, _, f, rfl, rfl, hf3, fun h => Bool.noConfusion h, hf4⟩
    · rw [hn]
      simp (disch := omega) only [jb1, jb2, jb3, jb4, jb5, jb6, jb7, jb8, jb9, jb10, jb11, jb12, jb13, jb14, jb15, jb16, jb17, jb18, jb19, jb20, jb21, jb22, jb23, jb24, jb25, jb26, jb27, jb28, jb29, jb30, jb31, jb32, jb33, jb34, jb35, jb36, jb37, jb38, jb39, jb40, jb41, jb42, jb43, jb44, jb45, jb46, jb47, jb48, jb49, jb50, zlet, jlit, jle_t, jle_f, jlt_t, jlt_f, jeq_t, jeq_f, jeqN_f, jNeq_f, jNN, jN1, jadd, jsub, jzin, jcl, if_true, if_false, ite_true, ite_false, not_true, not_false_iff, not_true_eq_false, not_false_eq_true, jB_t, jB_f, jB0_t, jB0_f, jBa, jand11, jand00, ↓reduceIte, Nat.reduceEqDiff, Nat.reduceAdd, Nat.reduceSub, ne_eq, not_false_eq_true, decide_true, decide_false, Bool.and_false]
      exact ⟨false, _, _, _, _, f, rfl, rfl, hf3, fun h => Bool.noConfusion h, hf4⟩
theorem jsum5 {tk : Nat → Nat} {g f : Nat} (hg : g < 5) : (if 0 = g then tk g + f else tk 0) + (if 1 = g then tk g + f else tk 1) + (if 2 = g then tk g + f else tk 2) + (if 3 = g then tk g + f else tk 3) + (if 4 = g then tk g + f else tk 4) = tk 0 + tk 1 + tk 2 + tk 3 + tk 4 + f := by
  have : g = 0 ∨ g = 1 ∨ g = 2 ∨ g = 3 ∨ g = 4 := by omega
  rcases this with rfl | rfl | rfl | rfl | rfl <;> simp <;> omega
theorem jpass (hN : 70000 < N9) (hk : jBk G L gt nu fo bk_forgives bk_tolls bk_lengths bk_numbers m_told m_gate m_list) (hl : jLw n kk vv lw_kinds lw_values lw_length m_lawMany m_law) (hs : jSt G B no bo c tk st_now st_born st_age st_passed st_gone st_took st_beasts st_year st_coins row) {b g : Nat} (hb : b < B) (hg : g < G) (lw_stack ru_facts m_stack m_known : Nat → Int32) :
    ∃ z st ru ps go to co st' kn row' c' tk', pX5_tryPass N9 bk_forgives bk_tolls bk_lengths bk_numbers lw_kinds lw_values lw_stack lw_length ru_facts st_now st_age st_passed st_gone st_took st_coins (nI b) (nI g) = some (jB z, st, ru, ps, go, to, co) ∧
      pM_passes N9 m_told m_gate m_list m_lawMany m_law m_stack m_known row (nI b) (nI g) = some (jB z, st', kn, row') ∧ jSt G B no bo c' tk' st_now st_born st_age ps go to st_beasts st_year co row' ∧ row' 45 = row 45 + jB z := by
  obtain ⟨z, st, ru, st', kn, f, h1, h2, h3, h4, h5⟩ := jprice hN hk hl hs hb hg lw_stack ru_facts m_stack m_known
  have hs' := hs
  obtain ⟨hB, hbe, hr42, hc, hc2, hy, h45, hno, hgo, hm, htk⟩ := hs
  have hG := hk.1
  unfold pX5_tryPass pM_passes
  rw [h1, h2, jb3, jb3]
  cases z with
  | false =>
    simp (disch := omega) only [jb1, jb2, jb3, jb4, jb5, jb6, jb7, jb8, jb9, jb10, jb11, jb12, jb13, jb14, jb15, jb16, jb17, jb18, jb19, jb20, jb21, jb22, jb23, jb24, jb25, jb26, jb27, jb28, jb29, jb30, jb31, jb32, jb33, jb34, jb35, jb36, jb37, jb38, jb39, jb40, jb41, jb42, jb43, jb44, jb45, jb46, jb47, jb48, jb49, jb50, zlet, jlit, jle_t, jle_f, jlt_t, jlt_f, jeq_t, jeq_f, jeqN_f, jNeq_f, jNN, jN1, jadd, jsub, jzin, jcl, if_true, if_false, ite_true, ite_false, not_true, not_false_iff, not_true_eq_false, not_false_eq_true, jB_t, jB_f, jB0_t, jB0_f, jBa, jand11, jand00, ↓reduceIte, Nat.reduceEqDiff, Nat.reduceAdd, Nat.reduceSub]
    exact ⟨false, _, _, _, _, _, _, _, _, _, c, tk, rfl, rfl, hs', (jadd0 _).symm⟩
  | true =>
    obtain ⟨st2, kn2, h6⟩ := jmfeeOf hN hk hl hs' hb hg st' kn (nI 0)
    rw [jadd0, h5] at h6
    have hfc := h4 rfl
    obtain ⟨g1, g2, g3⟩ := hgo g (by omega)
    simp (disch := omega) only [jb1, jb2, jb3, jb4, jb5, jb6, jb7, jb8, jb9, jb10, jb11, jb12, jb13, jb14, jb15, jb16, jb17, jb18, jb19, jb20, jb21, jb22, jb23, jb24, jb25, jb26, jb27, jb28, jb29, jb30, jb31, jb32, jb33, jb34, jb35, jb36, jb37, jb38, jb39, jb40, jb41, jb42, jb43, jb44, jb45, jb46, jb47, jb48, jb49, jb50, zlet, jlit, jle_t, jle_f, jlt_t, jlt_f, jeq_t, jeq_f, jeqN_f, jNeq_f, jNN, jN1, jadd, jsub, jzin, jcl, if_true, if_false, ite_true, ite_false, not_true, not_false_iff, not_true_eq_false, not_false_eq_true, jB_t, jB_f, jB0_t, jB0_f, jBa, jand11, jand00, ↓reduceIte, Nat.reduceEqDiff, Nat.reduceAdd, Nat.reduceSub, h6, hc, hc2, g2, g3, g1, pk_us, pk_un]
    refine ⟨true, _, _, _, _, _, _, _, _, _, c - f, fun i => if i = g then tk g + f else tk i, rfl, rfl, ⟨hB, hbe, ?_, rfl, ?_, ?_, ?_, fun q hq => ?_, fun q hq => ?_, ?_, fun q h7 h8 => ?_⟩, ?_⟩
    all_goals try (simp (disch := omega) only [jb1, jb2, jb3, jb4, jb5, jb6, jb7, jb8, jb9, jb10, jb11, jb12, jb13, jb14, jb15, jb16, jb17, jb18, jb19, jb20, jb21, jb22, jb23, jb24, jb25, jb26, jb27, jb28, jb29, jb30, jb31, jb32, jb33, jb34, jb35, jb36, jb37, jb38, jb39, jb40, jb41, jb42, jb43, jb44, jb45, jb46, jb47, jb48, jb49, jb50, zlet, jlit, jle_t, jle_f, jlt_t, jlt_f, jeq_t, jeq_f, jeqN_f, jNeq_f, jNN, jN1, jadd, jsub, jzin, jcl, if_true, if_false, ite_true, ite_false, not_true, not_false_iff, not_true_eq_false, not_false_eq_true, jB_t, jB_f, jB0_t, jB0_f, jBa, jand11, jand00, ↓reduceIte, Nat.reduceEqDiff, Nat.reduceAdd, Nat.reduceSub, pk_un, pk_us])
    · exact hr42
    · exact hy
    · rw [h45, ← jS_upd (by omega : g < 5)]
    · obtain ⟨e1, e2, e3, e4, e5, e6, e7, e8⟩ := hno q hq
      by_cases hqb : q = b
      · subst hqb
        simp (disch := omega) only [jb1, jb2, jb3, jb4, jb5, jb6, jb7, jb8, jb9, jb10, jb11, jb12, jb13, jb14, jb15, jb16, jb17, jb18, jb19, jb20, jb21, jb22, jb23, jb24, jb25, jb26, jb27, jb28, jb29, jb30, jb31, jb32, jb33, jb34, jb35, jb36, jb37, jb38, jb39, jb40, jb41, jb42, jb43, jb44, jb45, jb46, jb47, jb48, jb49, jb50, zlet, jlit, jle_t, jle_f, jlt_t, jlt_f, jeq_t, jeq_f, jeqN_f, jNeq_f, jNN, jN1, jadd, jsub, jzin, jcl, if_true, if_false, ite_true, ite_false, not_true, not_false_iff, not_true_eq_false, not_false_eq_true, jB_t, jB_f, jB0_t, jB0_f, jBa, jand11, jand00, ↓reduceIte, Nat.reduceEqDiff, Nat.reduceAdd, Nat.reduceSub, pk_un, pk_us, e8]
        exact ⟨e1, e2, e3, e4, e5, e6, e7, True.intro⟩
      · simp (disch := omega) only [jb1, jb2, jb3, jb4, jb5, jb6, jb7, jb8, jb9, jb10, jb11, jb12, jb13, jb14, jb15, jb16, jb17, jb18, jb19, jb20, jb21, jb22, jb23, jb24, jb25, jb26, jb27, jb28, jb29, jb30, jb31, jb32, jb33, jb34, jb35, jb36, jb37, jb38, jb39, jb40, jb41, jb42, jb43, jb44, jb45, jb46, jb47, jb48, jb49, jb50, zlet, jlit, jle_t, jle_f, jlt_t, jlt_f, jeq_t, jeq_f, jeqN_f, jNeq_f, jNN, jN1, jadd, jsub, jzin, jcl, if_true, if_false, ite_true, ite_false, not_true, not_false_iff, not_true_eq_false, not_false_eq_true, jB_t, jB_f, jB0_t, jB0_f, jBa, jand11, jand00, ↓reduceIte, Nat.reduceEqDiff, Nat.reduceAdd, Nat.reduceSub, pk_un, pk_us, e8]
        exact ⟨e1, e2, e3, e4, e5, e6, e7, True.intro⟩
    · obtain ⟨e1, e2, e3⟩ := hgo q hq
      by_cases hqg : q = g
      · subst hqg
        simp (disch := omega) only [jb1, jb2, jb3, jb4, jb5, jb6, jb7, jb8, jb9, jb10, jb11, jb12, jb13, jb14, jb15, jb16, jb17, jb18, jb19, jb20, jb21, jb22, jb23, jb24, jb25, jb26, jb27, jb28, jb29, jb30, jb31, jb32, jb33, jb34, jb35, jb36, jb37, jb38, jb39, jb40, jb41, jb42, jb43, jb44, jb45, jb46, jb47, jb48, jb49, jb50, zlet, jlit, jle_t, jle_f, jlt_t, jlt_f, jeq_t, jeq_f, jeqN_f, jNeq_f, jNN, jN1, jadd, jsub, jzin, jcl, if_true, if_false, ite_true, ite_false, not_true, not_false_iff, not_true_eq_false, not_false_eq_true, jB_t, jB_f, jB0_t, jB0_f, jBa, jand11, jand00, ↓reduceIte, Nat.reduceEqDiff, Nat.reduceAdd, Nat.reduceSub, pk_un, pk_us, e1, e2, e3]
        exact ⟨True.intro, True.intro, True.intro⟩
      · simp (disch := omega) only [jb1, jb2, jb3, jb4, jb5, jb6, jb7, jb8, jb9, jb10, jb11, jb12, jb13, jb14, jb15, jb16, jb17, jb18, jb19, jb20, jb21, jb22, jb23, jb24, jb25, jb26, jb27, jb28, jb29, jb30, jb31, jb32, jb33, jb34, jb35, jb36, jb37, jb38, jb39, jb40, jb41, jb42, jb43, jb44, jb45, jb46, jb47, jb48, jb49, jb50, zlet, jlit, jle_t, jle_f, jlt_t, jlt_f, jeq_t, jeq_f, jeqN_f, jNeq_f, jNN, jN1, jadd, jsub, jzin, jcl, if_true, if_false, ite_true, ite_false, not_true, not_false_iff, not_true_eq_false, not_false_eq_true, jB_t, jB_f, jB0_t, jB0_f, jBa, jand11, jand00, ↓reduceIte, Nat.reduceEqDiff, Nat.reduceAdd, Nat.reduceSub, pk_un, pk_us, e1, e2, e3, if_neg hqg]
        exact ⟨True.intro, True.intro, True.intro⟩
    · rw [jsum5 (by omega)]; omega
    · rw [if_neg (by omega)]; exact htk q h7 h8
end PS
