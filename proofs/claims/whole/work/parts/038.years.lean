/-! years -/
section C6
variable {N9 G L B c n : Nat} {gt nu fo kk vv no bo tk : Nat → Nat} {bk_forgives bk_tolls bk_lengths : Nat → Int32} {bk_numbers : Nat → Nat → Int32} {m_told : Nat → Int32} {m_gate m_list : Nat → Nat → Int32}
variable {lw_kinds lw_values : Nat → Int32} {lw_length m_lawMany : Int32} {m_law : Nat → Nat → Int32} {st_now st_born st_age st_passed st_gone st_took : Nat → Int32} {st_year re ra : Int32} {m_now m_refused : Nat → Int32}
theorem jcase_1 (N9 : Nat) {a : Nat} (ha : a < 2147483648) (x : Int32) : (∃ k, 1 ≤ k ∧ k ≤ a ∧ x = nI k ∧ pX9_isWithin N9 x (nI 1) (nI a) = some (nI 1) ∧ pM_in N9 x (nI 1) (nI a) = some (nI 1)) ∨ (pX9_isWithin N9 x (nI 1) (nI a) = some (nI 0) ∧ pM_in N9 x (nI 1) (nI a) = some (nI 0)) := by
  rw [jxin, jmin_]
  cases h : jin x (nI 1) (nI a) with
  | false => exact Or.inr ⟨rfl, rfl⟩
  | true =>
    left
    unfold jin at h
    rw [Bool.and_eq_true, decide_eq_true_eq, decide_eq_true_eq] at h
    have h0 : ¬ x < 0 := by
      have h1 := h.1
      rw [Int32.le_iff_toInt_le, show (nI 1).toInt = 1 by decide] at h1
      rw [Int32.lt_iff_toInt_lt, show (0 : Int32).toInt = 0 by decide]
      omega
    obtain ⟨j, hj, rfl⟩ := nI_of (x := x) h0
    have h1 := (nI_leI (by omega) (by omega)).mp h.1
    have h2 := (nI_leI (by omega) (by omega)).mp h.2
    exact ⟨j, h1, h2, rfl, rfl, rfl⟩
theorem jdays (N9 : Nat) (x y z : Int32) : (∃ D, 1 ≤ D ∧ D ≤ 96 ∧ x = nI D ∧ pX9_areDays N9 x y z = some (nI 1) ∧ pM_areYears N9 x y z = some (nI 1)) ∨ (pX9_areDays N9 x y z = some (nI 0) ∧ pM_areYears N9 x y z = some (nI 0)) := by
  unfold pX9_areDays pM_areYears pX9_areDays_34 pX9_areDays_35 pM_areYears_34 pM_areYears_35
  simp only [jlit]
  rcases jcase_1 N9 (a := 96) (by omega) x with ⟨D, h1, h2, rfl, h3, h4⟩ | ⟨h3, h4⟩
  · rcases jcase_a N9 (a := 16) (by omega) y with ⟨e, -, -, h5, h6⟩ | ⟨h5, h6⟩
    · rcases jcase_a N9 (a := 16) (by omega) z with ⟨f, -, -, h7, h8⟩ | ⟨h7, h8⟩
      · rw [h3, h4, h5, h6, h7, h8]
        exact Or.inl ⟨D, h1, h2, rfl, rfl, rfl⟩
      · rw [h3, h4, h5, h6, h7, h8]
        exact Or.inr ⟨rfl, rfl⟩
    · rw [h3, h4, h5, h6]
      exact Or.inr ⟨rfl, rfl⟩
  · rw [h3, h4]
    exact Or.inr ⟨rfl, rfl⟩
theorem jasc (a : Int32) (p : Nat) : a + nI p - a = nI p := by grind
theorem jpz (p : Nat) (z : Bool) : nI p + jB z = nI (p + (if z = true then 1 else 0)) := by
  cases z
  · rw [jB_f, jadd]; rfl
  · rw [jB_t, jadd]; rfl
theorem jlive_loop (hN : 70000 < N9) (hk : jBk G L gt nu fo bk_forgives bk_tolls bk_lengths bk_numbers m_told m_gate m_list) (hl : jLw n kk vv lw_kinds lw_values lw_length m_lawMany m_law) (h42 : m_now 42 = nI B) (hB : 0 < B) (hG : 0 < G) {D : Nat} (hD : D ≤ 96) (x5 x6 m45 : Int32) : ∀ e i n m, 1 ≤ i → i + e = D + 1 → e < n → e < m → ∀ (lw ru stk kn now age ps go to row : Nat → Int32) (ye co seed tars : Int32) (p c : Nat) (no tk : Nat → Nat), p < i → jSt G B no bo c tk now st_born age ps go to (nI B) ye co row → row 45 = m45 + nI p →
    ∃ lw' ru' now' age' ps' go' to' ye' co' seed' p' tars' stk' kn' row' no' c' tk',  pX1_live_36 N9 bk_forgives bk_tolls bk_lengths bk_numbers (nI G) lw_kinds lw_values lw_length st_born (nI B) (nI D) x5 x6 n lw ru now age ps go to ye co seed (nI p) tars (nI i) = some (lw', ru', now', age', ps', go', to', ye', co', seed', nI p', tars') ∧ pM_yearsBy_44 N9 m_told m_gate m_list m_lawMany m_law m_now (nI D) x5 x6 m stk kn row seed tars (nI i) = some (stk', kn', row', seed', tars') ∧ jSt G B no' bo c' tk' now' st_born age' ps' go' to' (nI B) ye' co' row' ∧ row' 45 = m45 + nI p' ∧ p' ≤ 96 := by
  intro e
  induction e with
  | zero =>
    intro i n m h1 h2 h3 h4 lw ru stk kn now age ps go to row ye co seed tars p c no tk hp hs h45
    obtain ⟨n, rfl⟩ : ∃ q, n = q + 1 := ⟨n - 1, by omega⟩
    obtain ⟨m, rfl⟩ : ∃ q, m = q + 1 := ⟨m - 1, by omega⟩
    simp only [pX1_live_36, pM_yearsBy_44, jlit]
    rw [if_pos (nI_lt (by omega : D < i) (by omega)), if_pos (nI_lt (by omega : D < i) (by omega))]
    exact ⟨_, _, _, _, _, _, _, _, _, _, _, _, _, _, _, _, _, _, rfl, rfl, hs, h45, by omega⟩
  | succ e ih =>
    intro i n m h1 h2 h3 h4 lw ru stk kn now age ps go to row ye co seed tars p c no tk hp hs h45
    obtain ⟨n, rfl⟩ : ∃ q, n = q + 1 := ⟨n - 1, by omega⟩
    obtain ⟨m, rfl⟩ : ∃ q, m = q + 1 := ⟨m - 1, by omega⟩
    obtain ⟨z, lw1, ru1, now1, ps1, go1, to1, co1, seed1, tars1, no1, c1, tk1, stk1, kn1, row1, w1, w2, w3, w4⟩ := jday hN hk hl hs h42 hB hG (i := i) (D := D) (by omega) hD lw ru stk kn (nI p) x5 x6 seed tars
    rw [w2 m]
    simp only [pX1_live_36, pX1_live_64, pM_yearsBy_152, pM_yearsBy_166, jlit, jx_i7, jm_i6]
    rw [if_neg (nI_nlt (by omega : i ≤ D) (by omega)), w1, jb10, jrem (by omega) (by omega), jpz]
    have h45' : row1 45 = m45 + nI (p + (if z = true then 1 else 0)) := by
      rw [w4, h45, ← jpz]; grind
    have hp' : p + (if z = true then 1 else 0) < i + 1 := by
      split <;> omega
    by_cases hm : i % 4 = 0
    · obtain ⟨age', row', y1, y2, y3, y4⟩ := jolder hN w3
      rw [hm, if_pos rfl, if_pos rfl, y1, y2, jb1, jb2, jadd]
      exact ih (i + 1) n m (by omega) (by omega) (by omega) (by omega) _ _ _ _ _ _ _ _ _ _ _ _ _ _ _ _ _ _ hp' y3 (by rw [y4]; exact h45')
    · have hm' : ¬ nI (i % 4) = nI 0 := (jeq_f (a := i % 4) (b := 0) hm (by omega) (by omega)).mp
      rw [if_neg hm', if_neg hm', jadd]
      exact ih (i + 1) n m (by omega) (by omega) (by omega) (by omega) _ _ _ _ _ _ _ _ _ _ _ _ _ _ _ _ _ _ hp' w3 h45'
/-- the days of a trial -/
theorem jlive (hN : 70000 < N9) (hk : jBk G L gt nu fo bk_forgives bk_tolls bk_lengths bk_numbers m_told m_gate m_list) (hl : jLw n kk vv lw_kinds lw_values lw_length m_lawMany m_law) (hs : jSt G B no bo c tk st_now st_born st_age st_passed st_gone st_took (nI B) st_year (nI c) m_now) (tr_now tr_born tr_age tr_passed tr_gone tr_took m_trial lw ru stk kn : Nat → Int32) (tr_beasts tr_year tr_coins : Int32) {D : Nat} (hD : D ≤ 96) (x1 x5 x6 sd dp dt lo mt : Int32) :
    ∃ tn tb ta tp tg tt, pX7_copyFrom_i1 N9 st_now st_born st_age st_passed st_gone st_took (nI B) st_year (nI c) tr_now tr_born tr_age tr_passed tr_gone tr_took tr_beasts tr_year tr_coins = some (tn, tb, ta, tp, tg, tt, nI B, st_year, nI c) ∧ ∃ lw' ru' now' age' ps' go' to' ye' co' seed' p' tars' stk' kn' row' no' c' tk', 
      pX1_live N9 bk_forgives bk_tolls bk_lengths bk_numbers (nI G) lw_kinds lw_values lw lw_length ru tn tb ta tp tg tt (nI B) st_year (nI c) sd dp dt x1 (nI D) x5 x6 = some (lw', ru', now', age', ps', go', to', ye', co', seed', nI p', tars') ∧
      pM_yearsBy N9 m_told m_gate m_list m_lawMany m_law stk kn m_now m_trial lo mt x1 (nI D) x5 x6 = some (stk', kn', row', seed', tars') ∧ jSt G B no' bo c' tk' now' tb age' ps' go' to' (nI B) ye' co' row' ∧ row' 45 - m_now 45 = nI p' ∧ p' ≤ 96 := by
  obtain ⟨tn, tb, ta, tp, tg, tt, row, w1, w2, w3, w4, w5⟩ := jtrial hN hs tr_now tr_born tr_age tr_passed tr_gone tr_took m_trial tr_beasts tr_year tr_coins
  refine ⟨tn, tb, ta, tp, tg, tt, w1, ?_⟩
  have hB8 := hs.1
  have hG5 := hk.1
  have h42 := hs.2.2.1
  have hg1 := hk.2.2.1
  unfold pX1_live pM_yearsBy pX1_live_32 pM_yearsBy_40
  simp only [jlit]
  rw [w2, jb1]
  simp (disch := omega) only [jb1, jb2, jb3, jb4, jb5, jb6, jb7, jb8, jb9, jb10, jb11, jb12, jb13, jb14, jb15, jb16, jb17, jb18, jb19, jb20, jb21, jb22, jb23, jb24, jb25, jb26, jb27, jb28, jb29, jb30, jb31, jb32, jb33, jb34, jb35, jb36, jb37, jb38, jb39, jb40, jb41, jb42, jb43, jb44, jb45, jb46, jb47, jb48, jb49, jb50, zlet, jlit, jle_t, jle_f, jlt_t, jlt_f, jeq_t, jeq_f, jeqN_f, jNeq_f, jNN, jN1, jadd, jsub, jzin, jcl, if_true, if_false, ite_true, ite_false, not_true, not_false_iff, not_true_eq_false, not_false_eq_true, jB_t, jB_f, jB0_t, jB0_f, jBa, jand11, jand00, ↓reduceIte, Nat.reduceEqDiff, Nat.reduceAdd, Nat.reduceSub, h42, hg1]
  have h45 : row 45 = m_now 45 + nI 0 := by rw [w4]; exact (Int32.add_zero _).symm
  by_cases hB : B = 0
  · simp (disch := omega) only [jb1, jb2, jb3, jb4, jb5, jb6, jb7, jb8, jb9, jb10, jb11, jb12, jb13, jb14, jb15, jb16, jb17, jb18, jb19, jb20, jb21, jb22, jb23, jb24, jb25, jb26, jb27, jb28, jb29, jb30, jb31, jb32, jb33, jb34, jb35, jb36, jb37, jb38, jb39, jb40, jb41, jb42, jb43, jb44, jb45, jb46, jb47, jb48, jb49, jb50, zlet, jlit, jle_t, jle_f, jlt_t, jlt_f, jeq_t, jeq_f, jeqN_f, jNeq_f, jNN, jN1, jadd, jsub, jzin, jcl, if_true, if_false, ite_true, ite_false, not_true, not_false_iff, not_true_eq_false, not_false_eq_true, jB_t, jB_f, jB0_t, jB0_f, jBa, jand11, jand00, ↓reduceIte, Nat.reduceEqDiff, Nat.reduceAdd, Nat.reduceSub, hB]
    subst hB
    exact ⟨_, _, _, _, _, _, _, _, _, _, 0, _, _, _, _, _, _, _, rfl, rfl, w3, by rw [h45, jasc], by omega⟩
  · by_cases hG : G = 0
    · simp (disch := omega) only [jb1, jb2, jb3, jb4, jb5, jb6, jb7, jb8, jb9, jb10, jb11, jb12, jb13, jb14, jb15, jb16, jb17, jb18, jb19, jb20, jb21, jb22, jb23, jb24, jb25, jb26, jb27, jb28, jb29, jb30, jb31, jb32, jb33, jb34, jb35, jb36, jb37, jb38, jb39, jb40, jb41, jb42, jb43, jb44, jb45, jb46, jb47, jb48, jb49, jb50, zlet, jlit, jle_t, jle_f, jlt_t, jlt_f, jeq_t, jeq_f, jeqN_f, jNeq_f, jNN, jN1, jadd, jsub, jzin, jcl, if_true, if_false, ite_true, ite_false, not_true, not_false_iff, not_true_eq_false, not_false_eq_true, jB_t, jB_f, jB0_t, jB0_f, jBa, jand11, jand00, ↓reduceIte, Nat.reduceEqDiff, Nat.reduceAdd, Nat.reduceSub, hB, hG]
      subst hG
      exact ⟨_, _, _, _, _, _, _, _, _, _, 0, _, _, _, _, _, _, _, rfl, rfl, w3, by rw [h45, jasc], by omega⟩
    · simp (disch := omega) only [jb1, jb2, jb3, jb4, jb5, jb6, jb7, jb8, jb9, jb10, jb11, jb12, jb13, jb14, jb15, jb16, jb17, jb18, jb19, jb20, jb21, jb22, jb23, jb24, jb25, jb26, jb27, jb28, jb29, jb30, jb31, jb32, jb33, jb34, jb35, jb36, jb37, jb38, jb39, jb40, jb41, jb42, jb43, jb44, jb45, jb46, jb47, jb48, jb49, jb50, zlet, jlit, jle_t, jle_f, jlt_t, jlt_f, jeq_t, jeq_f, jeqN_f, jNeq_f, jNN, jN1, jadd, jsub, jzin, jcl, if_true, if_false, ite_true, ite_false, not_true, not_false_iff, not_true_eq_false, not_false_eq_true, jB_t, jB_f, jB0_t, jB0_f, jBa, jand11, jand00, ↓reduceIte, Nat.reduceEqDiff, Nat.reduceAdd, Nat.reduceSub, hB, hG]
      obtain ⟨lw', ru', now', age', ps', go', to', ye', co', seed', p', tars', stk', kn', row', no', c', tk', e1, e2, e3, e4, e5⟩ := jlive_loop hN hk hl h42 (by omega) (by omega) hD x5 x6 (m_now 45) D 1 N9 N9 (by omega) (by omega) (by omega) (by omega) lw ru stk kn tn ta tp tg tt row st_year (nI c) x1 (nI 0) 0 c no tk (by omega) w3 h45
      exact ⟨lw', ru', now', age', ps', go', to', ye', co', seed', p', tars', stk', kn', row', no', c', tk', e1, e2, e3, by rw [e4, jasc], e5⟩
theorem jop_years (hN : 70000 < N9) (hk : jBk G L gt nu fo bk_forgives bk_tolls bk_lengths bk_numbers m_told m_gate m_list) (hl : jLw n kk vv lw_kinds lw_values lw_length m_lawMany m_law) (hs : jSt G B no bo c tk st_now st_born st_age st_passed st_gone st_took (nI B) st_year (nI c) m_now) (hR : jRf re ra m_refused) (lw_stack : Nat → Int32) (ru_facts : Nat → Int32) (tr_now : Nat → Int32) (tr_born : Nat → Int32) (tr_age : Nat → Int32) (tr_passed : Nat → Int32) (tr_gone : Nat → Int32) (tr_took : Nat → Int32) (tr_beasts : Int32) (tr_year : Int32) (tr_coins : Int32) (dy_seed : Int32) (dy_passings : Int32) (dy_tars : Int32) (m_thrown : Int32) (m_stack : Nat → Int32) (m_known : Nat → Int32) (m_trial : Nat → Int32) (m_lots : Int32) (m_tars : Int32) (x1 : Int32) (x2 : Int32) (x3 : Int32) (x4 : Int32) (x5 : Int32): ∃ z r lw_stack1 ru_facts1 tr_now1 tr_born1 tr_age1 tr_passed1 tr_gone1 tr_took1 tr_beasts1 tr_year1 tr_coins1 dy_seed1 dy_passings1 dy_tars1 ra1 q th rf1 m_stack1 m_known1 m_trial1 m_lots1 m_tars1, pX9_years N9 bk_forgives bk_tolls bk_lengths bk_numbers (nI G) lw_kinds lw_values lw_stack lw_length ru_facts st_now st_born st_age st_passed st_gone st_took (nI B) st_year (nI c) tr_now tr_born tr_age tr_passed tr_gone tr_took tr_beasts tr_year tr_coins dy_seed dy_passings dy_tars ra x1 x2 x3 x4 x5 = some (z, r, lw_stack1, ru_facts1, tr_now1, tr_born1, tr_age1, tr_passed1, tr_gone1, tr_took1, tr_beasts1, tr_year1, tr_coins1, dy_seed1, dy_passings1, dy_tars1, ra1) ∧ pM_years N9 m_thrown m_refused m_told m_gate m_list m_lawMany m_law m_stack m_known m_now m_trial m_lots m_tars x1 x2 x3 x4 x5 = some (q, th, rf1, m_stack1, m_known1, m_trial1, m_lots1, m_tars1) ∧ jOutA z th r q ∧ jRf re ra1 rf1 := by
  unfold pX9_years pM_years pX9_years_25 pM_years_26
  simp only [jlit]
  rcases jdays N9 x2 x3 x4 with ⟨D, -, hD, rfl, h1, h2⟩ | ⟨h1, h2⟩
  · rcases jcase_a N9 (a := 3) (by omega) x5 with ⟨k, hk3, rfl, h3, h4⟩ | ⟨h3, h4⟩
    · obtain ⟨tn, tb, ta, tp, tg, tt, w1, lw', ru', now', age', ps', go', to', ye', co', seed', p', tars', stk', kn', row', no', c', tk', w2, w3, w4, w5, w6⟩ := jlive hN hk hl hs tr_now tr_born tr_age tr_passed tr_gone tr_took m_trial lw_stack ru_facts m_stack m_known tr_beasts tr_year tr_coins hD x1 x3 x4 dy_seed dy_passings dy_tars m_lots m_tars
      rw [h1, jb1, if_neg j10, h3, jb1, if_neg j10, h2, jb1, if_neg j10, h4, jb1, if_neg j10]
      unfold pX9_years_26 pM_years_31
      simp only [jlit, jx_i8, jm_i7]
      rw [jnA1, jb2, if_pos rfl, w1, jb9, w2, jb12, jbadO, jb3, if_pos rfl, w3, jb5]
      obtain ⟨c', rfl⟩ : ∃ q, c' = q := ⟨c', rfl⟩
      have w7 := w4.2.2.2.1
      subst w7
      have hch := jxchg hN w4
      have hmc := jmchg hN w4
      have w43 := w4.2.2.2.2.1
      have hk9 : k = 0 ∨ k = 1 ∨ k = 2 ∨ k = 3 := by omega
      rcases hk9 with rfl | rfl | rfl | rfl
      all_goals
        simp (disch := omega) only [jb1, jb2, jb3, jb4, jb5, jb6, jb7, jb8, jb9, jb10, jb11, jb12, jb13, jb14, jb15, jb16, jb17, jb18, jb19, jb20, jb21, jb22, jb23, jb24, jb25, jb26, jb27, jb28, jb29, jb30, jb31, jb32, jb33, jb34, jb35, jb36, jb37, jb38, jb39, jb40, jb41, jb42, jb43, jb44, jb45, jb46, jb47, jb48, jb49, jb50, zlet, jlit, jle_t, jle_f, jlt_t, jlt_f, jeq_t, jeq_f, jeqN_f, jNeq_f, jNN, jN1, jadd, jsub, jzin, jcl, if_true, if_false, ite_true, ite_false, not_true, not_false_iff, not_true_eq_false, not_false_eq_true, jB_t, jB_f, jB0_t, jB0_f, jBa, jand11, jand00, ↓reduceIte, Nat.reduceEqDiff, Nat.reduceAdd, Nat.reduceSub, w5, w43, hch, hmc]
        exact ⟨_, _, _, _, _, _, _, _, _, _, _, _, _, _, _, _, _, _, _, _, _, _, _, _, _, rfl, rfl, Or.inl ⟨rfl, rfl, rfl⟩, hR⟩
    · rw [h1, jb1, if_neg j10, h3, jb1, if_pos rfl, h2, jb1, if_neg j10, h4, jb1, if_pos rfl]
      unfold pX9_years_26 pM_years_31
      simp only [jlit]
      rw [jnA0, jb2, if_neg j20, jbadA, jb3, if_neg j10]
      exact ⟨_, _, _, _, _, _, _, _, _, _, _, _, _, _, _, _, _, _, _, _, _, _, _, _, _, rfl, rfl, Or.inr ⟨rfl, rfl⟩, hR.arg⟩
  · rw [h1, jb1, if_pos rfl, h2, jb1, if_pos rfl]
    unfold pX9_years_26 pM_years_31
    simp only [jlit]
    rw [jnA0, jb2, if_neg j20, jbadA, jb3, if_neg j10]
    exact ⟨_, _, _, _, _, _, _, _, _, _, _, _, _, _, _, _, _, _, _, _, _, _, _, _, _, rfl, rfl, Or.inr ⟨rfl, rfl⟩, hR.arg⟩
end C6
