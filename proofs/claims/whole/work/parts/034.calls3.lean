/-! oldest, richest, cheapest, affords, twins, parents -/
section C3
variable {N9 G L B c n : Nat} {gt nu fo kk vv no bo tk : Nat → Nat} {bk_forgives bk_tolls bk_lengths : Nat → Int32} {bk_numbers : Nat → Nat → Int32} {m_told : Nat → Int32} {m_gate m_list : Nat → Nat → Int32}
variable {lw_kinds lw_values : Nat → Int32} {lw_length m_lawMany : Int32} {m_law : Nat → Nat → Int32} {st_now st_born st_age st_passed st_gone st_took : Nat → Int32} {st_year re ra : Int32} {m_now m_refused : Nat → Int32}
theorem jop_oldest (hN : 70000 < N9) (hs : jSt G B no bo c tk st_now st_born st_age st_passed st_gone st_took (nI B) st_year (nI c) m_now) (hR : jRf re ra m_refused) (m_thrown : Int32) (x1 : Int32): ∃ z r ra1 q th rf1, pX9_oldest N9 st_age (nI B) ra x1 = some (z, r, ra1) ∧ pM_oldest N9 m_thrown m_refused m_now x1 = some (q, th, rf1) ∧ jOutA z th r q ∧ jRf re ra1 rf1 := by
  obtain ⟨hB, -, h42, -, -, -, -, hno, -⟩ := hs
  have key : ∀ (x1 : Int32), jev (fun r r' => ∃ v, r = (nI 0, v, ra) ∧ r' = (v, nI 0, m_refused)) (pX9_oldest_17 N9 st_age (nI B) x1 N9 ra (-nI 1) (-nI 1) (nI 0)) (pM_oldest_37 N9 m_now x1 N9 (nI 0) m_refused (-nI 1) (-nI 1) (nI 0)) := by
    intro x1
    refine jev_loop (fun n (s : Int32 × Int32) i => pX9_oldest_17 N9 st_age (nI B) x1 n ra s.1 s.2 i) (fun n (t : Int32 × Int32) i => pM_oldest_37 N9 m_now x1 n (nI 0) m_refused t.1 t.2 i) B (fun i s t => s = t) (fun n m i s t hi hst => ?_) (fun n m s t hst => ?_) B 0 (-nI 1, (-nI 1)) (-nI 1, (-nI 1)) N9 N9 (by omega) (by omega) (by omega) rfl
    · subst hst
      obtain ⟨-, -, -, -, -, -, h5, -⟩ := hno i hi
      by_cases hc : st_age i ≤ s.2
      · have hc' : ¬ s.2 < st_age i := jnle.mpr hc
        refine ⟨s, s, ?_, ?_, rfl⟩
        · show pX9_oldest_17 N9 st_age (nI B) x1 (n + 1) ra s.1 s.2 (nI i) = pX9_oldest_17 N9 st_age (nI B) x1 n ra s.1 s.2 (nI (i + 1))
          simp only [pX9_oldest_17, pX9_oldest_57, jlit]
          simp (disch := omega) only [jb1, jb2, jb3, jb4, jb5, jb6, jb7, jb8, jb9, jb10, jb11, jb12, jb13, jb14, jb15, jb16, jb17, jb18, jb19, jb20, jb21, jb22, jb23, jb24, jb25, jb26, jb27, jb28, jb29, jb30, jb31, jb32, jb33, jb34, jb35, jb36, jb37, jb38, jb39, jb40, jb41, jb42, jb43, jb44, jb45, jb46, jb47, jb48, jb49, jb50, zlet, jlit, jle_t, jle_f, jlt_t, jlt_f, jeq_t, jeq_f, jeqN_f, jNeq_f, jNN, jN1, jadd, jsub, jzin, jcl, if_true, if_false, ite_true, ite_false, not_true, not_false_iff, not_true_eq_false, not_false_eq_true, jB_t, jB_f, jB0_t, jB0_f, jBa, jand11, jand00, ↓reduceIte, Nat.reduceEqDiff, Nat.reduceAdd, Nat.reduceSub, h5, hc]
        · show pM_oldest_37 N9 m_now x1 (m + 1) (nI 0) m_refused s.1 s.2 (nI i) = pM_oldest_37 N9 m_now x1 m (nI 0) m_refused s.1 s.2 (nI (i + 1))
          simp only [pM_oldest_37, pM_oldest_80, jlit]
          simp (disch := omega) only [jb1, jb2, jb3, jb4, jb5, jb6, jb7, jb8, jb9, jb10, jb11, jb12, jb13, jb14, jb15, jb16, jb17, jb18, jb19, jb20, jb21, jb22, jb23, jb24, jb25, jb26, jb27, jb28, jb29, jb30, jb31, jb32, jb33, jb34, jb35, jb36, jb37, jb38, jb39, jb40, jb41, jb42, jb43, jb44, jb45, jb46, jb47, jb48, jb49, jb50, zlet, jlit, jle_t, jle_f, jlt_t, jlt_f, jeq_t, jeq_f, jeqN_f, jNeq_f, jNN, jN1, jadd, jsub, jzin, jcl, if_true, if_false, ite_true, ite_false, not_true, not_false_iff, not_true_eq_false, not_false_eq_true, jB_t, jB_f, jB0_t, jB0_f, jBa, jand11, jand00, ↓reduceIte, Nat.reduceEqDiff, Nat.reduceAdd, Nat.reduceSub, h42, h5, hc']
      · have hc' : s.2 < st_age i := jnlt.mp hc
        refine ⟨(nI i, st_age i), (nI i, st_age i), ?_, ?_, rfl⟩
        · show pX9_oldest_17 N9 st_age (nI B) x1 (n + 1) ra s.1 s.2 (nI i) = pX9_oldest_17 N9 st_age (nI B) x1 n ra (nI i) (st_age i) (nI (i + 1))
          simp only [pX9_oldest_17, pX9_oldest_57, jlit]
          simp (disch := omega) only [jb1, jb2, jb3, jb4, jb5, jb6, jb7, jb8, jb9, jb10, jb11, jb12, jb13, jb14, jb15, jb16, jb17, jb18, jb19, jb20, jb21, jb22, jb23, jb24, jb25, jb26, jb27, jb28, jb29, jb30, jb31, jb32, jb33, jb34, jb35, jb36, jb37, jb38, jb39, jb40, jb41, jb42, jb43, jb44, jb45, jb46, jb47, jb48, jb49, jb50, zlet, jlit, jle_t, jle_f, jlt_t, jlt_f, jeq_t, jeq_f, jeqN_f, jNeq_f, jNN, jN1, jadd, jsub, jzin, jcl, if_true, if_false, ite_true, ite_false, not_true, not_false_iff, not_true_eq_false, not_false_eq_true, jB_t, jB_f, jB0_t, jB0_f, jBa, jand11, jand00, ↓reduceIte, Nat.reduceEqDiff, Nat.reduceAdd, Nat.reduceSub, h5, hc]
        · show pM_oldest_37 N9 m_now x1 (m + 1) (nI 0) m_refused s.1 s.2 (nI i) = pM_oldest_37 N9 m_now x1 m (nI 0) m_refused (nI i) (st_age i) (nI (i + 1))
          simp only [pM_oldest_37, pM_oldest_80, jlit]
          simp (disch := omega) only [jb1, jb2, jb3, jb4, jb5, jb6, jb7, jb8, jb9, jb10, jb11, jb12, jb13, jb14, jb15, jb16, jb17, jb18, jb19, jb20, jb21, jb22, jb23, jb24, jb25, jb26, jb27, jb28, jb29, jb30, jb31, jb32, jb33, jb34, jb35, jb36, jb37, jb38, jb39, jb40, jb41, jb42, jb43, jb44, jb45, jb46, jb47, jb48, jb49, jb50, zlet, jlit, jle_t, jle_f, jlt_t, jlt_f, jeq_t, jeq_f, jeqN_f, jNeq_f, jNN, jN1, jadd, jsub, jzin, jcl, if_true, if_false, ite_true, ite_false, not_true, not_false_iff, not_true_eq_false, not_false_eq_true, jB_t, jB_f, jB0_t, jB0_f, jBa, jand11, jand00, ↓reduceIte, Nat.reduceEqDiff, Nat.reduceAdd, Nat.reduceSub, h42, h5, hc']
    · subst hst
      show jev _ (pX9_oldest_17 N9 st_age (nI B) x1 (n + 1) ra s.1 s.2 (nI B)) (pM_oldest_37 N9 m_now x1 (m + 1) (nI 0) m_refused s.1 s.2 (nI B))
      simp only [pX9_oldest_17, pX9_oldest_72, pM_oldest_37, pM_oldest_95, jlit]
      simp (disch := omega) only [jb1, jb2, jb3, jb4, jb5, jb6, jb7, jb8, jb9, jb10, jb11, jb12, jb13, jb14, jb15, jb16, jb17, jb18, jb19, jb20, jb21, jb22, jb23, jb24, jb25, jb26, jb27, jb28, jb29, jb30, jb31, jb32, jb33, jb34, jb35, jb36, jb37, jb38, jb39, jb40, jb41, jb42, jb43, jb44, jb45, jb46, jb47, jb48, jb49, jb50, zlet, jlit, jle_t, jle_f, jlt_t, jlt_f, jeq_t, jeq_f, jeqN_f, jNeq_f, jNN, jN1, jadd, jsub, jzin, jcl, if_true, if_false, ite_true, ite_false, not_true, not_false_iff, not_true_eq_false, not_false_eq_true, jB_t, jB_f, jB0_t, jB0_f, jBa, jand11, jand00, ↓reduceIte, Nat.reduceEqDiff, Nat.reduceAdd, Nat.reduceSub, h42]
      by_cases h1 : x1 = nI 0
      · rw [if_pos h1, if_pos h1]
        exact ⟨_, _, rfl, rfl, _, rfl, rfl⟩
      · rw [if_neg h1, if_neg h1]
        exact ⟨_, _, rfl, rfl, _, rfl, rfl⟩
  unfold pX9_oldest pM_oldest pM_oldest_20
  simp only [jlit, jN1]
  rcases jcase_a N9 (a := 1) (by omega) x1 with ⟨k, hk8, rfl, h1, h2⟩ | ⟨h1, h2⟩
  · obtain ⟨r, r', q1, q2, v, rfl, rfl⟩ := key (nI k)
    rw [h1, jb1, jnA1, jb2, if_pos rfl, h2, jb1, if_neg j10, jbadO, jb3, if_pos rfl, q1, q2]
    exact ⟨_, _, _, _, _, _, rfl, rfl, Or.inl ⟨rfl, rfl, rfl⟩, hR⟩
  · rw [h1, jb1, jnA0, jb2, if_neg j20, h2, jb1, if_pos rfl, jbadA, jb3, if_neg j10]
    exact ⟨_, _, _, _, _, _, rfl, rfl, Or.inr ⟨rfl, rfl⟩, hR.arg⟩
theorem jop_richest (hN : 70000 < N9) (hk : jBk G L gt nu fo bk_forgives bk_tolls bk_lengths bk_numbers m_told m_gate m_list) (hs : jSt G B no bo c tk st_now st_born st_age st_passed st_gone st_took (nI B) st_year (nI c) m_now) (hR : jRf re ra m_refused) (m_thrown : Int32) (x1 : Int32): ∃ z r ra1 q th rf1, pX9_richest N9 (nI G) st_took ra x1 = some (z, r, ra1) ∧ pM_richest N9 m_thrown m_refused m_told m_now x1 = some (q, th, rf1) ∧ jOutA z th r q ∧ jRf re ra1 rf1 := by
  obtain ⟨hB, -, h42, -, -, -, -, hno, hgo, -⟩ := hs
  have hG := hk.1
  have hg1 := hk.2.2.1
  have key : ∀ (x1 : Int32), jev (fun r r' => ∃ v, r = (nI 0, v, ra) ∧ r' = (v, nI 0, m_refused)) (pX9_richest_17 N9 (nI G) st_took x1 N9 ra (-nI 1) (nI 0) (nI 0)) (pM_richest_37 N9 m_told m_now x1 N9 (nI 0) m_refused (-nI 1) (nI 0) (nI 0)) := by
    intro x1
    refine jev_loop (fun n (s : Int32 × Int32) i => pX9_richest_17 N9 (nI G) st_took x1 n ra s.1 s.2 i) (fun n (t : Int32 × Int32) i => pM_richest_37 N9 m_told m_now x1 n (nI 0) m_refused t.1 t.2 i) G (fun i s t => s = t) (fun n m i s t hi hst => ?_) (fun n m s t hst => ?_) G 0 (-nI 1, (nI 0)) (-nI 1, (nI 0)) N9 N9 (by omega) (by omega) (by omega) rfl
    · subst hst
      obtain ⟨-, h6, h5⟩ := hgo i (by omega)
      by_cases hc : nI (tk i) ≤ s.2
      · have hc' : ¬ s.2 < nI (tk i) := jnle.mpr hc
        refine ⟨s, s, ?_, ?_, rfl⟩
        · show pX9_richest_17 N9 (nI G) st_took x1 (n + 1) ra s.1 s.2 (nI i) = pX9_richest_17 N9 (nI G) st_took x1 n ra s.1 s.2 (nI (i + 1))
          simp only [pX9_richest_17, pX9_richest_60, jlit]
          simp (disch := omega) only [jb1, jb2, jb3, jb4, jb5, jb6, jb7, jb8, jb9, jb10, jb11, jb12, jb13, jb14, jb15, jb16, jb17, jb18, jb19, jb20, jb21, jb22, jb23, jb24, jb25, jb26, jb27, jb28, jb29, jb30, jb31, jb32, jb33, jb34, jb35, jb36, jb37, jb38, jb39, jb40, jb41, jb42, jb43, jb44, jb45, jb46, jb47, jb48, jb49, jb50, zlet, jlit, jle_t, jle_f, jlt_t, jlt_f, jeq_t, jeq_f, jeqN_f, jNeq_f, jNN, jN1, jadd, jsub, jzin, jcl, if_true, if_false, ite_true, ite_false, not_true, not_false_iff, not_true_eq_false, not_false_eq_true, jB_t, jB_f, jB0_t, jB0_f, jBa, jand11, jand00, ↓reduceIte, Nat.reduceEqDiff, Nat.reduceAdd, Nat.reduceSub, h6, hc]
        · show pM_richest_37 N9 m_told m_now x1 (m + 1) (nI 0) m_refused s.1 s.2 (nI i) = pM_richest_37 N9 m_told m_now x1 m (nI 0) m_refused s.1 s.2 (nI (i + 1))
          simp only [pM_richest_37, pM_richest_79, jlit]
          simp (disch := omega) only [jb1, jb2, jb3, jb4, jb5, jb6, jb7, jb8, jb9, jb10, jb11, jb12, jb13, jb14, jb15, jb16, jb17, jb18, jb19, jb20, jb21, jb22, jb23, jb24, jb25, jb26, jb27, jb28, jb29, jb30, jb31, jb32, jb33, jb34, jb35, jb36, jb37, jb38, jb39, jb40, jb41, jb42, jb43, jb44, jb45, jb46, jb47, jb48, jb49, jb50, zlet, jlit, jle_t, jle_f, jlt_t, jlt_f, jeq_t, jeq_f, jeqN_f, jNeq_f, jNN, jN1, jadd, jsub, jzin, jcl, if_true, if_false, ite_true, ite_false, not_true, not_false_iff, not_true_eq_false, not_false_eq_true, jB_t, jB_f, jB0_t, jB0_f, jBa, jand11, jand00, ↓reduceIte, Nat.reduceEqDiff, Nat.reduceAdd, Nat.reduceSub, hg1, h5, hc']
      · have hc' : s.2 < nI (tk i) := jnlt.mp hc
        refine ⟨(nI i, nI (tk i)), (nI i, nI (tk i)), ?_, ?_, rfl⟩
        · show pX9_richest_17 N9 (nI G) st_took x1 (n + 1) ra s.1 s.2 (nI i) = pX9_richest_17 N9 (nI G) st_took x1 n ra (nI i) (nI (tk i)) (nI (i + 1))
          simp only [pX9_richest_17, pX9_richest_60, jlit]
          simp (disch := omega) only [jb1, jb2, jb3, jb4, jb5, jb6, jb7, jb8, jb9, jb10, jb11, jb12, jb13, jb14, jb15, jb16, jb17, jb18, jb19, jb20, jb21, jb22, jb23, jb24, jb25, jb26, jb27, jb28, jb29, jb30, jb31, jb32, jb33, jb34, jb35, jb36, jb37, jb38, jb39, jb40, jb41, jb42, jb43, jb44, jb45, jb46, jb47, jb48, jb49, jb50, zlet, jlit, jle_t, jle_f, jlt_t, jlt_f, jeq_t, jeq_f, jeqN_f, jNeq_f, jNN, jN1, jadd, jsub, jzin, jcl, if_true, if_false, ite_true, ite_false, not_true, not_false_iff, not_true_eq_false, not_false_eq_true, jB_t, jB_f, jB0_t, jB0_f, jBa, jand11, jand00, ↓reduceIte, Nat.reduceEqDiff, Nat.reduceAdd, Nat.reduceSub, h6, hc]
        · show pM_richest_37 N9 m_told m_now x1 (m + 1) (nI 0) m_refused s.1 s.2 (nI i) = pM_richest_37 N9 m_told m_now x1 m (nI 0) m_refused (nI i) (nI (tk i)) (nI (i + 1))
          simp only [pM_richest_37, pM_richest_79, jlit]
          simp (disch := omega) only [jb1, jb2, jb3, jb4, jb5, jb6, jb7, jb8, jb9, jb10, jb11, jb12, jb13, jb14, jb15, jb16, jb17, jb18, jb19, jb20, jb21, jb22, jb23, jb24, jb25, jb26, jb27, jb28, jb29, jb30, jb31, jb32, jb33, jb34, jb35, jb36, jb37, jb38, jb39, jb40, jb41, jb42, jb43, jb44, jb45, jb46, jb47, jb48, jb49, jb50, zlet, jlit, jle_t, jle_f, jlt_t, jlt_f, jeq_t, jeq_f, jeqN_f, jNeq_f, jNN, jN1, jadd, jsub, jzin, jcl, if_true, if_false, ite_true, ite_false, not_true, not_false_iff, not_true_eq_false, not_false_eq_true, jB_t, jB_f, jB0_t, jB0_f, jBa, jand11, jand00, ↓reduceIte, Nat.reduceEqDiff, Nat.reduceAdd, Nat.reduceSub, hg1, h5, hc']
    · subst hst
      show jev _ (pX9_richest_17 N9 (nI G) st_took x1 (n + 1) ra s.1 s.2 (nI G)) (pM_richest_37 N9 m_told m_now x1 (m + 1) (nI 0) m_refused s.1 s.2 (nI G))
      simp only [pX9_richest_17, pX9_richest_75, pX9_richest_80, pM_richest_37, pM_richest_94, pM_richest_99, jlit]
      simp (disch := omega) only [jb1, jb2, jb3, jb4, jb5, jb6, jb7, jb8, jb9, jb10, jb11, jb12, jb13, jb14, jb15, jb16, jb17, jb18, jb19, jb20, jb21, jb22, jb23, jb24, jb25, jb26, jb27, jb28, jb29, jb30, jb31, jb32, jb33, jb34, jb35, jb36, jb37, jb38, jb39, jb40, jb41, jb42, jb43, jb44, jb45, jb46, jb47, jb48, jb49, jb50, zlet, jlit, jle_t, jle_f, jlt_t, jlt_f, jeq_t, jeq_f, jeqN_f, jNeq_f, jNN, jN1, jadd, jsub, jzin, jcl, if_true, if_false, ite_true, ite_false, not_true, not_false_iff, not_true_eq_false, not_false_eq_true, jB_t, jB_f, jB0_t, jB0_f, jBa, jand11, jand00, ↓reduceIte, Nat.reduceEqDiff, Nat.reduceAdd, Nat.reduceSub, hg1]
      by_cases h1 : x1 = nI 0
      · rw [if_pos h1, if_pos h1]
        exact ⟨_, _, rfl, rfl, _, rfl, rfl⟩
      · rw [if_neg h1, if_neg h1]
        by_cases h2 : s.1 = -nI 1
        · rw [if_pos h2, if_pos h2]
          exact ⟨_, _, rfl, rfl, _, rfl, rfl⟩
        · rw [if_neg h2, if_neg h2]
          exact ⟨_, _, rfl, rfl, _, rfl, rfl⟩
  unfold pX9_richest pM_richest pM_richest_20
  simp only [jlit, jN1]
  rcases jcase_a N9 (a := 1) (by omega) x1 with ⟨k, hk8, rfl, h1, h2⟩ | ⟨h1, h2⟩
  · obtain ⟨r, r', q1, q2, v, rfl, rfl⟩ := key (nI k)
    rw [h1, jb1, jnA1, jb2, if_pos rfl, h2, jb1, if_neg j10, jbadO, jb3, if_pos rfl, q1, q2]
    exact ⟨_, _, _, _, _, _, rfl, rfl, Or.inl ⟨rfl, rfl, rfl⟩, hR⟩
  · rw [h1, jb1, jnA0, jb2, if_neg j20, h2, jb1, if_pos rfl, jbadA, jb3, if_neg j10]
    exact ⟨_, _, _, _, _, _, rfl, rfl, Or.inr ⟨rfl, rfl⟩, hR.arg⟩
theorem jtrial (hN : 70000 < N9) (hs : jSt G B no bo c tk st_now st_born st_age st_passed st_gone st_took (nI B) st_year (nI c) m_now) (tr_now tr_born tr_age tr_passed tr_gone tr_took m_trial : Nat → Int32) (tr_beasts tr_year tr_coins : Int32) :
    ∃ tn tb ta tp tg tt row, pX7_copyFrom_i1 N9 st_now st_born st_age st_passed st_gone st_took (nI B) st_year (nI c) tr_now tr_born tr_age tr_passed tr_gone tr_took tr_beasts tr_year tr_coins = some (tn, tb, ta, tp, tg, tt, nI B, st_year, nI c) ∧ pM_copies_i2 N9 m_now m_trial = some row ∧
      jSt G B no bo c tk tn tb ta tp tg tt (nI B) st_year (nI c) row ∧ row 45 = m_now 45 ∧ ∀ b, b < B → tb b = nI (bo b) := by
  obtain ⟨t, h1, h2⟩ := jcopies_i2 hN m_now m_trial
  unfold pX7_copyFrom_i1
  simp (disch := omega) only [jb1, jb2, jb3, jb4, jb5, jb6, jb7, jb8, jb9, jb10, jb11, jb12, jb13, jb14, jb15, jb16, jb17, jb18, jb19, jb20, jb21, jb22, jb23, jb24, jb25, jb26, jb27, jb28, jb29, jb30, jb31, jb32, jb33, jb34, jb35, jb36, jb37, jb38, jb39, jb40, jb41, jb42, jb43, jb44, jb45, jb46, jb47, jb48, jb49, jb50, zlet, jlit, jle_t, jle_f, jlt_t, jlt_f, jeq_t, jeq_f, jeqN_f, jNeq_f, jNN, jN1, jadd, jsub, jzin, jcl, if_true, if_false, ite_true, ite_false, not_true, not_false_iff, not_true_eq_false, not_false_eq_true, jB_t, jB_f, jB0_t, jB0_f, jBa, jand11, jand00, ↓reduceIte, Nat.reduceEqDiff, Nat.reduceAdd, Nat.reduceSub, jzcp, h1]
  exact ⟨_, _, _, _, _, _, _, rfl, rfl, jSt_congr hs (fun b hb => ⟨jcpy hb, jcpy hb, jcpy hb, jcpy hb⟩) (fun g hg => ⟨jcpy hg, jcpy hg⟩) h2, h2 45 (by omega), fun b hb => by
    have := hs.1
    rw [jcpy (by omega)]; exact (hs.2.2.2.2.2.2.2.1 b hb).2.2.2.2.1⟩
theorem jaffords (hN : 70000 < N9) (hk : jBk G L gt nu fo bk_forgives bk_tolls bk_lengths bk_numbers m_told m_gate m_list) (hl : jLw n kk vv lw_kinds lw_values lw_length m_lawMany m_law) {b g : Nat} (hb : b < B) (hg : g < G) {tn tb ta : Nat → Int32} {ye re' : Int32} (th : Int32) (rf : Nat → Int32) : ∀ d i n m, i + d = 200 → d < n → d < m → ∀ (lw ru tp tg tt stk kn row : Nat → Int32) (co : Int32) (c' : Nat) (tk' : Nat → Nat), jSt G B no bo c' tk' tn tb ta tp tg tt (nI B) ye co row →
    ∃ v lw' ru' tp' tg' tt' co' stk' kn' row', pX9_affords_19 N9 bk_forgives bk_tolls bk_lengths bk_numbers lw_kinds lw_values lw_length (nI b) (nI g) n lw ru tn tb ta tp tg tt (nI B) ye co re' (nI i) = some (nI 0, v, lw', ru', tn, tb, ta, tp', tg', tt', nI B, ye, co', re') ∧
      pM_affords_50 N9 m_told m_gate m_list m_lawMany m_law (nI b) (nI g) m th rf stk kn row (nI i) = some (v, th, rf, stk', kn', row') := by
  intro d
  induction d with
  | zero =>
    intro i n m h1 h2 h3 lw ru tp tg tt stk kn row co c' tk' hst
    obtain ⟨n, rfl⟩ : ∃ q, n = q + 1 := ⟨n - 1, by omega⟩
    obtain ⟨m, rfl⟩ : ∃ q, m = q + 1 := ⟨m - 1, by omega⟩
    obtain rfl : i = 200 := by omega
    simp only [pX9_affords_19, pX9_affords_48, pM_affords_50, pM_affords_76, jlit]
    simp (disch := omega) only [jb1, jb2, jb3, jb4, jb5, jb6, jb7, jb8, jb9, jb10, jb11, jb12, jb13, jb14, jb15, jb16, jb17, jb18, jb19, jb20, jb21, jb22, jb23, jb24, jb25, jb26, jb27, jb28, jb29, jb30, jb31, jb32, jb33, jb34, jb35, jb36, jb37, jb38, jb39, jb40, jb41, jb42, jb43, jb44, jb45, jb46, jb47, jb48, jb49, jb50, zlet, jlit, jle_t, jle_f, jlt_t, jlt_f, jeq_t, jeq_f, jeqN_f, jNeq_f, jNN, jN1, jadd, jsub, jzin, jcl, if_true, if_false, ite_true, ite_false, not_true, not_false_iff, not_true_eq_false, not_false_eq_true, jB_t, jB_f, jB0_t, jB0_f, jBa, jand11, jand00, ↓reduceIte, Nat.reduceEqDiff, Nat.reduceAdd, Nat.reduceSub]
    exact ⟨_, _, _, _, _, _, _, _, _, _, rfl, rfl⟩
  | succ d ih =>
    intro i n m h1 h2 h3 lw ru tp tg tt stk kn row co c' tk' hst
    obtain ⟨n, rfl⟩ : ∃ q, n = q + 1 := ⟨n - 1, by omega⟩
    obtain ⟨m, rfl⟩ : ∃ q, m = q + 1 := ⟨m - 1, by omega⟩
    obtain ⟨z, s1, r1, p1, g1, t1, c1, s2, k2, row2, c2, tk2, q1, q2, q3, q4⟩ := jpass hN hk hl hst hb hg lw ru stk kn
    simp only [pX9_affords_19, pX9_affords_48, pM_affords_50, pM_affords_76, jlit, jx_i3, jm_i3]
    rw [if_neg (nI_ge (by omega) (by omega)), if_neg (nI_ge (by omega) (by omega)), q1, q2, jb7, jb4]
    cases z
    · rw [if_pos (show jB false = nI 0 from rfl), if_pos (show jB false = nI 0 from rfl)]
      exact ⟨_, _, _, _, _, _, _, _, _, _, rfl, rfl⟩
    · rw [if_neg (show ¬ jB true = nI 0 by decide), if_neg (show ¬ jB true = nI 0 by decide), jadd]
      exact ih (i + 1) n m (by omega) (by omega) (by omega) _ _ _ _ _ _ _ _ _ _ _ q3
theorem jop_affords (hN : 70000 < N9) (hk : jBk G L gt nu fo bk_forgives bk_tolls bk_lengths bk_numbers m_told m_gate m_list) (hl : jLw n kk vv lw_kinds lw_values lw_length m_lawMany m_law) (hs : jSt G B no bo c tk st_now st_born st_age st_passed st_gone st_took (nI B) st_year (nI c) m_now) (hR : jRf re ra m_refused) (lw_stack : Nat → Int32) (ru_facts : Nat → Int32) (tr_now : Nat → Int32) (tr_born : Nat → Int32) (tr_age : Nat → Int32) (tr_passed : Nat → Int32) (tr_gone : Nat → Int32) (tr_took : Nat → Int32) (tr_beasts : Int32) (tr_year : Int32) (tr_coins : Int32) (m_thrown : Int32) (m_stack : Nat → Int32) (m_known : Nat → Int32) (m_trial : Nat → Int32) (x1 : Int32) (x2 : Int32): ∃ z r lw_stack1 ru_facts1 tr_now1 tr_born1 tr_age1 tr_passed1 tr_gone1 tr_took1 tr_beasts1 tr_year1 tr_coins1 re1 q th rf1 m_stack1 m_known1 m_trial1, pX9_affords N9 bk_forgives bk_tolls bk_lengths bk_numbers (nI G) lw_kinds lw_values lw_stack lw_length ru_facts st_now st_born st_age st_passed st_gone st_took (nI B) st_year (nI c) tr_now tr_born tr_age tr_passed tr_gone tr_took tr_beasts tr_year tr_coins re x1 x2 = some (z, r, lw_stack1, ru_facts1, tr_now1, tr_born1, tr_age1, tr_passed1, tr_gone1, tr_took1, tr_beasts1, tr_year1, tr_coins1, re1) ∧ pM_affords N9 m_thrown m_refused m_told m_gate m_list m_lawMany m_law m_stack m_known m_now m_trial x1 x2 = some (q, th, rf1, m_stack1, m_known1, m_trial1) ∧ jOutE z th r q ∧ jRf re1 ra rf1 := by
  obtain ⟨tn, tb, ta, tp, tg, tt, row, w1, w2, w3, -⟩ := jtrial hN hs tr_now tr_born tr_age tr_passed tr_gone tr_took m_trial tr_beasts tr_year tr_coins
  have hs' := hs
  obtain ⟨hB, -, h42, -, -, -, -, hno, -⟩ := hs
  unfold pX9_affords pM_affords pM_affords_22 pM_affords_27
  simp only [jlit]
  rcases jcase_bg (N9 := N9) (re := re) h42 hB hk.2.2.1 hk.1 x1 x2 with ⟨b, g, hb, hg, rfl, rfl, h1, h2, h3⟩ | ⟨h1, h2 | ⟨h2, h3⟩⟩
  · rw [h1, jb2, if_pos rfl, h2, jb1, if_neg j10, h3, jb1, if_neg j10, jbadO, jb3, if_pos rfl]
    obtain ⟨v, lw', ru', tp', tg', tt', co', stk', kn', row', e1, e2⟩ := jaffords hN hk hl hb hg (nI 0) m_refused (re' := re) 200 0 N9 N9 (by omega) (by omega) (by omega) lw_stack ru_facts tp tg tt m_stack m_known row _ _ _ w3
    rw [w1, jb9, w2, jb1, e1, e2]
    exact ⟨_, _, _, _, _, _, _, _, _, _, _, _, _, _, _, _, _, _, _, _, rfl, rfl, Or.inl ⟨rfl, rfl, rfl⟩, hR⟩
  · rw [h1, jb2, if_neg j10, h2, jb1, if_pos rfl, jbadE, jb3, if_neg j10]
    exact ⟨_, _, _, _, _, _, _, _, _, _, _, _, _, _, _, _, _, _, _, _, rfl, rfl, Or.inr ⟨rfl, rfl⟩, hR.elem⟩
  · rw [h1, jb2, if_neg j10, h2, jb1, if_neg j10, h3, jb1, if_pos rfl, jbadE, jb3, if_neg j10]
    exact ⟨_, _, _, _, _, _, _, _, _, _, _, _, _, _, _, _, _, _, _, _, rfl, rfl, Or.inr ⟨rfl, rfl⟩, hR.elem⟩
end C3
