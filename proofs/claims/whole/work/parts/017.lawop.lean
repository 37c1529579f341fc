theorem jz0' : (0 : Int32) = nI 0 := rfl
section LWO
variable {N9 : Nat}
theorem jin_bool {v : Int32} {a : Nat} (ha : a < 2147483648) : (∃ k, k ≤ a ∧ v = nI k ∧ jin v (nI 0) (nI a) = true) ∨ jin v (nI 0) (nI a) = false := by
  cases h : jin v (nI 0) (nI a) with
  | false => exact Or.inr rfl
  | true =>
    obtain ⟨k, h1, h2⟩ := (jin_nI ha).mp h
    exact Or.inl ⟨k, h1, h2, rfl⟩
theorem jin_t {k a : Nat} (hk : k ≤ a) (ha : a < 2147483648) : jin (nI k) (nI 0) (nI a) = true := (jin_nI ha).mpr ⟨k, hk, rfl⟩
theorem jin_f {k a : Nat} (hk : a < k) (ha : k < 2147483648) : jin (nI k) (nI 0) (nI a) = false := by
  cases h : jin (nI k) (nI 0) (nI a) with
  | false => rfl
  | true =>
    obtain ⟨j, h1, h2⟩ := (jin_nI (by omega)).mp h
    have := (nI_eq ha (by omega)).mp h2
    omega
theorem jop_law (hN : 70000 < N9) (tp_bytes : Nat → Int32) (tp_many tp_end tp_place tp_wordPlace tp_numberPlace tp_faultKind tp_faultPlace : Int32) (lw_kinds lw_values : Nat → Int32) (lw_length : Int32) (dl_kinds dl_values : Nat → Int32) (dl_length xx_refusedArguments x1 : Int32) (m_thrown m_tape m_size m_place m_at m_fault m_faultAt m_clauses m_open : Int32) (m_fed m_refused : Nat → Int32) (m_lawMany m_readLawMany : Int32) (m_law m_readLaw : Nat → Nat → Int32) {re : Int32} (hT : jTape tp_bytes m_fed tp_many m_tape) (hF : tp_faultPlace = m_place) (hL : ∃ n kk vv, jLw n kk vv lw_kinds lw_values lw_length m_lawMany m_law) (hR : jRf re xx_refusedArguments m_refused) :
    ∃ z r many en pl wp np fk fp kd vl ln dk dv dn ra r' th ta sz pc at' f fa cl op rf lm rm la rl, pX9_law N9 tp_bytes tp_many tp_end tp_place tp_wordPlace tp_numberPlace tp_faultKind tp_faultPlace lw_kinds lw_values lw_length dl_kinds dl_values dl_length xx_refusedArguments x1 = some (z, r, many, en, pl, wp, np, fk, fp, kd, vl, ln, dk, dv, dn, ra) ∧ pM_law N9 m_thrown m_tape m_size m_place m_at m_fault m_faultAt m_clauses m_open m_fed m_refused m_lawMany m_readLawMany m_law m_readLaw x1 = some (r', th, ta, sz, pc, at', f, fa, cl, op, rf, lm, rm, la, rl) ∧ jOutA z th r r' ∧ jTape tp_bytes m_fed many ta ∧ fp = pc ∧ (∃ n kk vv, jLw n kk vv kd vl ln lm la) ∧ jRf re ra rf := by
  obtain ⟨by', n, hn, rfl, rfl, hby⟩ := hT
  unfold pX9_law pM_law pM_law_25
  rw [show (0 : Int32) = nI 0 from rfl, show (150 : Int32) = nI 150 from rfl, jzmin (by omega) (by omega), jxin, jb1, jneedA, jmin_, jb1]
  by_cases hv : ∃ k, k ≤ n ∧ k ≤ 150 ∧ x1 = nI k
  · obtain ⟨k, hk1, hk2, rfl⟩ := hv
    have ht := jtext hby (n := k) (by omega)
    rw [jin_t (by split <;> omega) (by split <;> omega), jin_t hk1 (by omega), if_pos rfl, jb2, if_pos jz0', jopenX N9 hk1 hn, jb4, if_neg (show ¬ jB true = nI 0 by decide), if_pos (nI_le hk2 (by omega))]
    unfold pX2_clear_i1 pM_law_30
    rw [jb1, show pM_bad N9 (nI 0) m_refused (nI 0) 1 1 = some (0, 0, m_refused) from rfl, jb3, if_pos (show (0 : Int32) = 0 from rfl), jstarts hN ht, jb7]
    obtain ⟨⟨r0, pl, wp1, np1, fk, fp, kd1, vl1, ln1⟩, ⟨at1, f1, fa1, op1, mn1, lw1⟩, e1, e2, hP⟩ := jlaw_read hN ht hk2 tp_wordPlace tp_numberPlace dl_kinds dl_values m_readLaw
    rw [show pX2_readSum N9 tp_bytes (nI k) (nI 0) tp_wordPlace tp_numberPlace (nI 0) (-nI 1) dl_kinds dl_values 0 (nI 0) = _ from e1, jb9, show pM_sum N9 (nI k) (nI (jsk k by' 0)) (nI 0) (-nI 1) (nI 0) m_fed 0 m_readLaw = _ from e2, jb6]
    unfold pX9_law_66 pX9_law_67 pM_law_85 pM_faulty pX8_drop
    rcases hP with ⟨a2, m2, kk2, vv2, p1, p2, p3, p4, rfl, rfl, rfl, rfl, rfl, rfl, rfl, rfl, hc1, hd1⟩ | ⟨q, ff, a2, m2, p1, p2, p3, p4, p5, rfl, rfl, rfl, rfl, rfl, rfl, rfl⟩
    · have hj := jsk_rng (by' := by') p2
      unfold pX8_readEnd pX8_readEnd_24 pX8_readEnd_19 pX8_isAtEnd pX8_isAtEnd_13 pX8_refuse
      by_cases hend : jsk k by' a2 < k
      · have hne : ¬ jby k by' (jsk k by' a2) = -1 := by
          unfold jby
          rw [if_pos hend, jN1, jeqN_f (by have := (hby _ (show jsk k by' a2 < 600 by omega)).1; omega)]
          exact id
        unfold pM_wrong pM_wrong_17
        simp (disch := omega) only [jb1, jb2, jb3, jb4, jb5, jb6, jb7, jb8, jb9, jb10, jb11, jb12, jb13, jb14, jb15, jb16, jb17, jb18, jb19, jb20, jb21, jb22, jb23, jb24, jb25, jb26, jb27, jb28, jb29, jb30, jb31, jb32, jb33, jb34, jb35, jb36, jb37, jb38, jb39, jb40, jb41, jb42, jb43, jb44, jb45, jb46, jb47, jb48, jb49, jb50, zlet, jlit, jle_t, jle_f, jlt_t, jlt_f, jeq_t, jeq_f, jeqN_f, jNeq_f, jNN, jN1, jadd, jsub, jzin, jcl, if_true, if_false, ite_true, ite_false, not_true, not_false_iff, not_true_eq_false, not_false_eq_true, jB_t, jB_f, jB0_t, jB0_f, jBa, jand11, jand00, ↓reduceIte, Nat.reduceEqDiff, Nat.reduceAdd, Nat.reduceSub, jblankM hN ht p2, jsignX hN ht p2, if_neg (show ¬ jby k by' (jsk k by' a2) = -nI 1 from hne)]
        exact ⟨_, _, _, _, _, _, _, _, _, _, _, _, _, _, _, _, _, _, _, _, _, _, _, _, _, _, _, _, _, _, _, rfl, rfl, Or.inl ⟨rfl, rfl, rfl⟩, ⟨by', 0, by omega, rfl, rfl, hby⟩, rfl, hL, hR⟩
      · have hee : jby k by' (jsk k by' a2) = -1 := by
          unfold jby
          rw [if_neg hend]
          rfl
        obtain ⟨t, l1, l2⟩ := jlays_i3 hN lw1 m_law (m := m2) (by omega)
        obtain ⟨rfl, rfl, hc2, hc3⟩ := hc1
        unfold pX2_copyFrom
        simp (disch := omega) only [jb1, jb2, jb3, jb4, jb5, jb6, jb7, jb8, jb9, jb10, jb11, jb12, jb13, jb14, jb15, jb16, jb17, jb18, jb19, jb20, jb21, jb22, jb23, jb24, jb25, jb26, jb27, jb28, jb29, jb30, jb31, jb32, jb33, jb34, jb35, jb36, jb37, jb38, jb39, jb40, jb41, jb42, jb43, jb44, jb45, jb46, jb47, jb48, jb49, jb50, zlet, jlit, jle_t, jle_f, jlt_t, jlt_f, jeq_t, jeq_f, jeqN_f, jNeq_f, jNN, jN1, jadd, jsub, jzin, jcl, if_true, if_false, ite_true, ite_false, not_true, not_false_iff, not_true_eq_false, not_false_eq_true, jB_t, jB_f, jB0_t, jB0_f, jBa, jand11, jand00, ↓reduceIte, Nat.reduceEqDiff, Nat.reduceAdd, Nat.reduceSub, jblankM hN ht p2, jsignX hN ht p2, show jby k by' (jsk k by' a2) = -nI 1 from hee, l1]
        rw [if_pos (show zcp (nI 0) (nI 0) (nI 150) 150 150 = true by decide), if_pos (show zcp (nI 0) (nI 0) (nI 150) 150 150 = true by decide)]
        simp (disch := omega) only [jb1, jb2, jb3, jb4, jb5, jb6, jb7, jb8, jb9, jb10, jb11, jb12, jb13, jb14, jb15, jb16, jb17, jb18, jb19, jb20, jb21, jb22, jb23, jb24, jb25, jb26, jb27, jb28, jb29, jb30, jb31, jb32, jb33, jb34, jb35, jb36, jb37, jb38, jb39, jb40, jb41, jb42, jb43, jb44, jb45, jb46, jb47, jb48, jb49, jb50, zlet, jlit, jle_t, jle_f, jlt_t, jlt_f, jeq_t, jeq_f, jeqN_f, jNeq_f, jNN, jN1, jadd, jsub, jzin, jcl, if_true, if_false, ite_true, ite_false, not_true, not_false_iff, not_true_eq_false, not_false_eq_true, jB_t, jB_f, jB0_t, jB0_f, jBa, jand11, jand00, ↓reduceIte, Nat.reduceEqDiff, Nat.reduceAdd, Nat.reduceSub]
        refine ⟨_, _, _, _, _, _, _, _, _, _, _, _, _, _, _, _, _, _, _, _, _, _, _, _, _, _, _, _, _, _, _, rfl, rfl, Or.inl ⟨rfl, rfl, rfl⟩, ⟨by', 0, by omega, rfl, rfl, hby⟩, rfl, ⟨m2, kk2, vv2, by omega, rfl, fun i hi => ?_, ⟨hc3, by omega⟩, Or.inl ⟨rfl, fun i hi => ?_⟩⟩, hR⟩
        · obtain ⟨g1, g2, g3, g4⟩ := hc2 i hi
          exact ⟨by rw [jcpy (by omega), g1], by rw [jcpy (by omega), g2]⟩
        · obtain ⟨g1, g2, g3, g4⟩ := hc2 i hi
          obtain ⟨g5, g6⟩ := l2 i hi
          rw [g5, g6, g3, g4]
          exact ⟨rfl, rfl⟩
    · have hfq : ¬ nI q = nI 0 := jhfz q p1 p2
      simp (disch := omega) only [jb1, jb2, jb3, jb4, jb5, jb6, jb7, jb8, jb9, jb10, jb11, jb12, jb13, jb14, jb15, jb16, jb17, jb18, jb19, jb20, jb21, jb22, jb23, jb24, jb25, jb26, jb27, jb28, jb29, jb30, jb31, jb32, jb33, jb34, jb35, jb36, jb37, jb38, jb39, jb40, jb41, jb42, jb43, jb44, jb45, jb46, jb47, jb48, jb49, jb50, zlet, jlit, jle_t, jle_f, jlt_t, jlt_f, jeq_t, jeq_f, jeqN_f, jNeq_f, jNN, jN1, jadd, jsub, jzin, jcl, if_true, if_false, ite_true, ite_false, not_true, not_false_iff, not_true_eq_false, not_false_eq_true, jB_t, jB_f, jB0_t, jB0_f, jBa, jand11, jand00, ↓reduceIte, Nat.reduceEqDiff, Nat.reduceAdd, Nat.reduceSub, jblankM hN ht p4, if_neg hfq]
      exact ⟨_, _, _, _, _, _, _, _, _, _, _, _, _, _, _, _, _, _, _, _, _, _, _, _, _, _, _, _, _, _, _, rfl, rfl, Or.inl ⟨rfl, rfl, rfl⟩, ⟨by', 0, by omega, rfl, rfl, hby⟩, rfl, hL, hR⟩
  · have hx : jin x1 (nI 0) (nI (if 150 < n then 150 else n)) = false := by
      cases h : jin x1 (nI 0) (nI (if 150 < n then 150 else n)) with
      | false => rfl
      | true =>
        obtain ⟨j, h1, h2⟩ := (jin_nI (by split <;> omega)).mp h
        exact absurd ⟨j, by split at h1 <;> omega, by split at h1 <;> omega, h2⟩ hv
    rw [hx, if_neg (show ¬ false = true by decide), jb2, if_neg (show ¬ (2 : Int32) = nI 0 by decide)]
    have hM : ∀ y, (if jB y = nI 0 then pM_law_30 N9 (nI n) m_size m_place m_at m_fault m_faultAt m_clauses m_open m_fed m_refused m_lawMany m_readLawMany m_law m_readLaw x1 (nI 0) 1 else if x1 ≤ nI 150 then pM_law_30 N9 (nI n) m_size m_place m_at m_fault m_faultAt m_clauses m_open m_fed m_refused m_lawMany m_readLawMany m_law m_readLaw x1 (nI 0) (nI 0) else pM_law_30 N9 (nI n) m_size m_place m_at m_fault m_faultAt m_clauses m_open m_fed m_refused m_lawMany m_readLawMany m_law m_readLaw x1 (nI 0) 1) = pM_law_30 N9 (nI n) m_size m_place m_at m_fault m_faultAt m_clauses m_open m_fed m_refused m_lawMany m_readLawMany m_law m_readLaw x1 (nI 0) 1 ∨ (y = true ∧ x1 ≤ nI 150) := by
      intro y
      cases y
      · exact Or.inl rfl
      · by_cases h : x1 ≤ nI 150
        · exact Or.inr ⟨rfl, h⟩
        · rw [if_neg (show ¬ jB true = nI 0 by decide), if_neg h]; exact Or.inl rfl
    rcases hM (jin x1 (nI 0) (nI n)) with h | ⟨h, h150⟩
    · rw [h]
      unfold pM_law_30
      rw [show pM_bad N9 (nI 0) m_refused 1 1 1 = some (1, 1, upd m_refused 1 (m_refused 1 + 1)) from rfl, jb3, if_neg (show ¬ (1 : Int32) = 0 by decide)]
      exact ⟨_, _, _, _, _, _, _, _, _, _, _, _, _, _, _, _, _, _, _, _, _, _, _, _, _, _, _, _, _, _, _, rfl, rfl, Or.inr ⟨rfl, rfl⟩, ⟨by', n, hn, rfl, rfl, hby⟩, hF, hL, hR.arg⟩
    · obtain ⟨j, h1, rfl⟩ := (jin_nI (by omega)).mp h
      exact absurd ⟨j, h1, (nI_leI (by omega) (by omega)).mp h150, rfl⟩ hv
end LWO
