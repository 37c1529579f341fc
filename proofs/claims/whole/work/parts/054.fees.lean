/-! the fees of a file, by the class -/
section FE
variable {N9 G L B c n : Nat} {gt nu fo kk vv no bo tk : Nat → Nat} {bk_forgives bk_tolls bk_lengths : Nat → Int32} {bk_numbers : Nat → Nat → Int32} {m_told : Nat → Int32} {m_gate m_list : Nat → Nat → Int32}
variable {lw_kinds lw_values : Nat → Int32} {lw_length m_lawMany : Int32} {m_law : Nat → Nat → Int32} {st_now st_born st_age st_passed st_gone st_took : Nat → Int32} {st_year re ra : Int32} {m_now m_refused : Nat → Int32}
theorem jxfee_row (hN : 70000 < N9) (hk : jBk G L gt nu fo bk_forgives bk_tolls bk_lengths bk_numbers m_told m_gate m_list) (hl : jLw n kk vv lw_kinds lw_values lw_length m_lawMany m_law) (hs : jSt G B no bo c tk st_now st_born st_age st_passed st_gone st_took (nI B) st_year (nI c) m_now) {b g q : Nat} (hb : b < B) (hg : g < G) (hq : q ≤ 8) (hL : jcnt gt g L ≠ 0) (x4 : Int32) (k10 : (Nat → Int32) → (Nat → Int32) → (Nat → Int32) → Int32 → Int32 → Option (Int32 × (Nat → Int32) × (Nat → Int32) × (Nat → Int32) × (Nat → Int32))) :
    ∀ e j m (lw ru fees : Nat → Int32), j + e = q → e < m → (∀ i, i < j → fees (b * 8 + i) = jfo kk vv n gt nu L bk_tolls no st_age st_passed b g (st_gone g + nI i)) →
      ∃ lw' ru' fees', pX6_leastFees_22 N9 bk_tolls bk_lengths bk_numbers lw_kinds lw_values lw_length st_now st_age st_passed st_gone (nI g) x4 (nI q) k10 m lw ru fees (nI b) (nI j) = k10 lw' ru' fees' (nI q) (nI (b + 1)) ∧ (∀ i, i < q → fees' (b * 8 + i) = jfo kk vv n gt nu L bk_tolls no st_age st_passed b g (st_gone g + nI i)) ∧ ∀ p, p < b * 8 → fees' p = fees p := by
  have hB := hs.1
  have hG := hk.1
  intro e
  induction e with
  | zero =>
    intro j m lw ru fees h1 h2 h3
    obtain ⟨m, rfl⟩ : ∃ q, m = q + 1 := ⟨m - 1, by omega⟩
    obtain rfl : j = q := by omega
    refine ⟨lw, ru, fees, ?_, h3, fun p _ => rfl⟩
    simp only [pX6_leastFees_22, jlit]
    rw [if_pos (nI_le (Nat.le_refl j) (by omega)), jadd]
  | succ e ih =>
    intro j m lw ru fees h1 h2 h3
    obtain ⟨m, rfl⟩ : ∃ q, m = q + 1 := ⟨m - 1, by omega⟩
    obtain ⟨st, ru1, w1⟩ := jxfeeOf hN hk hl hs hb hg lw ru (st_gone g + nI j)
    rw [if_neg (fun z => hL ((jnear_none gt nu g (no b) L).mp z))] at w1
    obtain ⟨lw', ru', fees', a1, a2, a3⟩ := ih (j + 1) m st ru1 (upd fees (b * 8 + j) (jfo kk vv n gt nu L bk_tolls no st_age st_passed b g (st_gone g + nI j))) (by omega) (by omega) (fun i hi => by
      by_cases hij : i = j
      · subst hij; exact pk_us
      · rw [pk_un (by omega)]; exact h3 i (by omega))
    refine ⟨lw', ru', fees', ?_, a2, fun p hp => by rw [a3 p hp, pk_un (by omega)]⟩
    rw [← a1]
    simp only [pX6_leastFees_22, jlit]
    rw [if_neg (nI_ge (by omega) (by omega))]
    simp (disch := omega) only [jb1, jb2, jb3, jb4, jb5, jb6, jb7, jb8, jb9, jb10, jb11, jb12, jb13, jb14, jb15, jb16, jb17, jb18, jb19, jb20, jb21, jb22, jb23, jb24, jb25, jb26, jb27, jb28, jb29, jb30, jb31, jb32, jb33, jb34, jb35, jb36, jb37, jb38, jb39, jb40, jb41, jb42, jb43, jb44, jb45, jb46, jb47, jb48, jb49, jb50, zlet, jlit, jle_t, jle_f, jlt_t, jlt_f, jeq_t, jeq_f, jeqN_f, jNeq_f, jNN, jN1, jadd, jsub, jzin, jcl, if_true, if_false, ite_true, ite_false, not_true, not_false_iff, not_true_eq_false, not_false_eq_true, jB_t, jB_f, jB0_t, jB0_f, jBa, jand11, jand00, ↓reduceIte, Nat.reduceEqDiff, Nat.reduceAdd, Nat.reduceSub, w1, jmul]
theorem jxfee_all (hN : 70000 < N9) (hk : jBk G L gt nu fo bk_forgives bk_tolls bk_lengths bk_numbers m_told m_gate m_list) (hl : jLw n kk vv lw_kinds lw_values lw_length m_lawMany m_law) (hs : jSt G B no bo c tk st_now st_born st_age st_passed st_gone st_took (nI B) st_year (nI c) m_now) {g q : Nat} (hg : g < G) (hq : q ≤ 8) (hL : jcnt gt g L ≠ 0) (x4 : Int32) (least : Nat → Int32) :
    ∀ e b m (lw ru fees : Nat → Int32), b + e = B → e < m → (∀ b', b' < b → ∀ i, i < q → fees (b' * 8 + i) = jfo kk vv n gt nu L bk_tolls no st_age st_passed b' g (st_gone g + nI i)) →
      ∃ lw' ru' fees', pX6_leastFees_10 N9 bk_tolls bk_lengths bk_numbers lw_kinds lw_values lw_length st_now st_age st_passed st_gone (nI B) least (nI g) x4 m lw ru fees (nI q) (nI b) = pX6_leastFees_81 N9 x4 (nI q) N9 lw' ru' (upd least 0 (nI 0)) fees' (nI 1) ∧ ∀ b', b' < B → ∀ i, i < q → fees' (b' * 8 + i) = jfo kk vv n gt nu L bk_tolls no st_age st_passed b' g (st_gone g + nI i) := by
  have hB := hs.1
  intro e
  induction e with
  | zero =>
    intro b m lw ru fees h1 h2 h3
    obtain ⟨m, rfl⟩ : ∃ q, m = q + 1 := ⟨m - 1, by omega⟩
    obtain rfl : b = B := by omega
    refine ⟨lw, ru, fees, ?_, h3⟩
    simp only [pX6_leastFees_10, jlit]
    simp (disch := omega) only [jb1, jb2, jb3, jb4, jb5, jb6, jb7, jb8, jb9, jb10, jb11, jb12, jb13, jb14, jb15, jb16, jb17, jb18, jb19, jb20, jb21, jb22, jb23, jb24, jb25, jb26, jb27, jb28, jb29, jb30, jb31, jb32, jb33, jb34, jb35, jb36, jb37, jb38, jb39, jb40, jb41, jb42, jb43, jb44, jb45, jb46, jb47, jb48, jb49, jb50, zlet, jlit, jle_t, jle_f, jlt_t, jlt_f, jeq_t, jeq_f, jeqN_f, jNeq_f, jNN, jN1, jadd, jsub, jzin, jcl, if_true, if_false, ite_true, ite_false, not_true, not_false_iff, not_true_eq_false, not_false_eq_true, jB_t, jB_f, jB0_t, jB0_f, jBa, jand11, jand00, ↓reduceIte, Nat.reduceEqDiff, Nat.reduceAdd, Nat.reduceSub]
  | succ e ih =>
    intro b m lw ru fees h1 h2 h3
    obtain ⟨m, rfl⟩ : ∃ q, m = q + 1 := ⟨m - 1, by omega⟩
    obtain ⟨lw1, ru1, fees1, a1, a2, a3⟩ := jxfee_row hN hk hl hs (by omega : b < B) hg hq hL x4 (pX6_leastFees_10 N9 bk_tolls bk_lengths bk_numbers lw_kinds lw_values lw_length st_now st_age st_passed st_gone (nI B) least (nI g) x4 m) q 0 N9 lw ru fees (by omega) (by omega) (fun i hi => absurd hi (Nat.not_lt_zero i))
    obtain ⟨lw', ru', fees', b1, b2⟩ := ih (b + 1) m lw1 ru1 fees1 (by omega) (by omega) (fun b' hb' i hi => by
      by_cases hbb : b' = b
      · subst hbb; exact a2 i hi
      · rw [a3 _ (by omega)]; exact h3 b' (by omega) i hi)
    refine ⟨lw', ru', fees', ?_, b2⟩
    rw [← b1, ← a1]
    simp only [pX6_leastFees_10, jlit]
    rw [if_neg (nI_ge (by omega) (by omega))]
end FE
