/-! ask -/
section C12
variable {N9 G L B c n : Nat} {gt nu fo kk vv no bo tk : Nat → Nat} {bk_forgives bk_tolls bk_lengths : Nat → Int32} {bk_numbers : Nat → Nat → Int32} {m_told : Nat → Int32} {m_gate m_list : Nat → Nat → Int32}
variable {lw_kinds lw_values : Nat → Int32} {lw_length m_lawMany : Int32} {m_law : Nat → Nat → Int32} {st_now st_born st_age st_passed st_gone st_took : Nat → Int32} {st_year re ra : Int32} {m_now m_refused : Nat → Int32}
theorem jmaskin (hN : 70000 < N9) (hs : jSt G B no bo c tk st_now st_born st_age st_passed st_gone st_took (nI B) st_year (nI c) m_now) {t i : Nat} (ht : t ≤ 2040) (hi : i < B) (x2 th : Int32) (rf : Nat → Int32) (k : Int32 → (Nat → Int32) → Int32 → Int32 → Int32 → Option (Int32 × Int32 × (Nat → Int32))) (a d : Int32) :
    pM_ask_70 N9 th rf m_now (nI t) x2 k N9 a d (nI i) (nI 0) (nI 0) (nI 0) = if a = -nI 1 then k th rf (nI i) (zmax (nI (jct (fun s => decide (jhs no s B = t) && decide (s / 2 ^ i % 2 = 1)) (2 ^ B))) (nI (jct (fun s => decide (jhs no s B = t) && !decide (s / 2 ^ i % 2 = 1)) (2 ^ B)))) (nI (i + 1)) else if zmax (nI (jct (fun s => decide (jhs no s B = t) && decide (s / 2 ^ i % 2 = 1)) (2 ^ B))) (nI (jct (fun s => decide (jhs no s B = t) && !decide (s / 2 ^ i % 2 = 1)) (2 ^ B))) < d then k th rf (nI i) (zmax (nI (jct (fun s => decide (jhs no s B = t) && decide (s / 2 ^ i % 2 = 1)) (2 ^ B))) (nI (jct (fun s => decide (jhs no s B = t) && !decide (s / 2 ^ i % 2 = 1)) (2 ^ B)))) (nI (i + 1)) else k th rf a d (nI (i + 1)) := by
  have hB := hs.1
  have h42 := hs.2.2.1
  have hno := hs.2.2.2.2.2.2.2.1
  have hp2 : 2 ^ B ≤ 256 := Nat.pow_le_pow_right (n := 2) (by omega) hB
  refine jloop0 (fun n (x : Int32 × Int32) j => pM_ask_70 N9 th rf m_now (nI t) x2 k n a d (nI i) x.1 x.2 j) (2 ^ B) (fun n => (nI (jct (fun s => decide (jhs no s B = t) && decide (s / 2 ^ i % 2 = 1)) n), nI (jct (fun s => decide (jhs no s B = t) && !decide (s / 2 ^ i % 2 = 1)) n))) (fun n s hs' => ?_) (fun n => ?_) (by omega) rfl
  · have hb := jmhas (n := s) (s := i) (by omega) (by omega) N9
    have hsl := jhs_le (no := no) s B (fun b hb => (hno b hb).1)
    show pM_ask_70 N9 th rf m_now (nI t) x2 k (n + 1) a d (nI i) (nI (jct (fun s => decide (jhs no s B = t) && decide (s / 2 ^ i % 2 = 1)) s)) (nI (jct (fun s => decide (jhs no s B = t) && !decide (s / 2 ^ i % 2 = 1)) s)) (nI s) = pM_ask_70 N9 th rf m_now (nI t) x2 k n a d (nI i) (nI (jct (fun s => decide (jhs no s B = t) && decide (s / 2 ^ i % 2 = 1)) (s + 1))) (nI (jct (fun s => decide (jhs no s B = t) && !decide (s / 2 ^ i % 2 = 1)) (s + 1))) (nI (s + 1))
    simp only [pM_ask_70, pM_ask_116, jlit]
    rw [jct, jct]
    generalize jct (fun s => decide (jhs no s B = t) && decide (s / 2 ^ i % 2 = 1)) s = c1
    generalize jct (fun s => decide (jhs no s B = t) && !decide (s / 2 ^ i % 2 = 1)) s = c2
    by_cases hq : jhs no s B = t
    · by_cases hbit : s / 2 ^ i % 2 = 1
      · simp (disch := omega) only [jb1, jb2, jb3, jb4, jb5, jb6, jb7, jb8, jb9, jb10, jb11, jb12, jb13, jb14, jb15, jb16, jb17, jb18, jb19, jb20, jb21, jb22, jb23, jb24, jb25, jb26, jb27, jb28, jb29, jb30, jb31, jb32, jb33, jb34, jb35, jb36, jb37, jb38, jb39, jb40, jb41, jb42, jb43, jb44, jb45, jb46, jb47, jb48, jb49, jb50, zlet, jlit, jle_t, jle_f, jlt_t, jlt_f, jeq_t, jeq_f, jeqN_f, jNeq_f, jNN, jN1, jadd, jsub, jzin, jcl, if_true, if_false, ite_true, ite_false, not_true, not_false_iff, not_true_eq_false, not_false_eq_true, jB_t, jB_f, jB0_t, jB0_f, jBa, jand11, jand00, ↓reduceIte, Nat.reduceEqDiff, Nat.reduceAdd, Nat.reduceSub, h42, jshl, jmsum hN hs (by omega : s < 256), hq, hb, hbit, decide_true, Bool.and_true, Bool.not_true, Bool.and_false, Bool.false_eq_true, Nat.add_zero]
      · simp (disch := omega) only [jb1, jb2, jb3, jb4, jb5, jb6, jb7, jb8, jb9, jb10, jb11, jb12, jb13, jb14, jb15, jb16, jb17, jb18, jb19, jb20, jb21, jb22, jb23, jb24, jb25, jb26, jb27, jb28, jb29, jb30, jb31, jb32, jb33, jb34, jb35, jb36, jb37, jb38, jb39, jb40, jb41, jb42, jb43, jb44, jb45, jb46, jb47, jb48, jb49, jb50, zlet, jlit, jle_t, jle_f, jlt_t, jlt_f, jeq_t, jeq_f, jeqN_f, jNeq_f, jNN, jN1, jadd, jsub, jzin, jcl, if_true, if_false, ite_true, ite_false, not_true, not_false_iff, not_true_eq_false, not_false_eq_true, jB_t, jB_f, jB0_t, jB0_f, jBa, jand11, jand00, ↓reduceIte, Nat.reduceEqDiff, Nat.reduceAdd, Nat.reduceSub, h42, jshl, jmsum hN hs (by omega : s < 256), hq, hb, hbit, decide_true, decide_false, Bool.and_true, Bool.not_false, Bool.and_false, Bool.false_eq_true, Nat.add_zero]
    · simp (disch := omega) only [jb1, jb2, jb3, jb4, jb5, jb6, jb7, jb8, jb9, jb10, jb11, jb12, jb13, jb14, jb15, jb16, jb17, jb18, jb19, jb20, jb21, jb22, jb23, jb24, jb25, jb26, jb27, jb28, jb29, jb30, jb31, jb32, jb33, jb34, jb35, jb36, jb37, jb38, jb39, jb40, jb41, jb42, jb43, jb44, jb45, jb46, jb47, jb48, jb49, jb50, zlet, jlit, jle_t, jle_f, jlt_t, jlt_f, jeq_t, jeq_f, jeqN_f, jNeq_f, jNN, jN1, jadd, jsub, jzin, jcl, if_true, if_false, ite_true, ite_false, not_true, not_false_iff, not_true_eq_false, not_false_eq_true, jB_t, jB_f, jB0_t, jB0_f, jBa, jand11, jand00, ↓reduceIte, Nat.reduceEqDiff, Nat.reduceAdd, Nat.reduceSub, h42, jshl, jmsum hN hs (by omega : s < 256), hq, decide_false, Bool.false_and, Bool.false_eq_true, Nat.add_zero]
  · show pM_ask_70 N9 th rf m_now (nI t) x2 k (n + 1) a d (nI i) (nI (jct (fun s => decide (jhs no s B = t) && decide (s / 2 ^ i % 2 = 1)) (2 ^ B))) (nI (jct (fun s => decide (jhs no s B = t) && !decide (s / 2 ^ i % 2 = 1)) (2 ^ B))) (nI (2 ^ B)) = _
    simp only [pM_ask_70, pM_ask_146, pM_ask_153, jlit, jN1]
    simp (disch := omega) only [jb1, jb2, jb3, jb4, jb5, jb6, jb7, jb8, jb9, jb10, jb11, jb12, jb13, jb14, jb15, jb16, jb17, jb18, jb19, jb20, jb21, jb22, jb23, jb24, jb25, jb26, jb27, jb28, jb29, jb30, jb31, jb32, jb33, jb34, jb35, jb36, jb37, jb38, jb39, jb40, jb41, jb42, jb43, jb44, jb45, jb46, jb47, jb48, jb49, jb50, zlet, jlit, jle_t, jle_f, jlt_t, jlt_f, jeq_t, jeq_f, jeqN_f, jNeq_f, jNN, jN1, jadd, jsub, jzin, jcl, if_true, if_false, ite_true, ite_false, not_true, not_false_iff, not_true_eq_false, not_false_eq_true, jB_t, jB_f, jB0_t, jB0_f, jBa, jand11, jand00, ↓reduceIte, Nat.reduceEqDiff, Nat.reduceAdd, Nat.reduceSub, h42, jshl, jmore]
theorem jask (hN : 70000 < N9) (hs : jSt G B no bo c tk st_now st_born st_age st_passed st_gone st_took (nI B) st_year (nI c) m_now) {t : Nat} (ht : t ≤ 2040) (x2 th a1 a2 a3 ra' : Int32) (rf hw : Nat → Int32) (hhw : ∀ i, i < 8 → hw i = nI (jct (fun s => decide (jhs no s B = t) && decide (s / 2 ^ i % 2 = 1)) (2 ^ B))) :
    ∃ v, pX9_ask_49 N9 (nI B) x2 N9 hw (nI (jct (fun s => decide (jhs no s B = t)) (2 ^ B))) a2 a3 ra' (-nI 1) (-nI 1) (nI 0) = some (nI 0, v, hw, nI (jct (fun s => decide (jhs no s B = t)) (2 ^ B)), a2, a3, ra') ∧ pM_ask_49 N9 m_now (nI t) x2 N9 th rf (-nI 1) (-nI 1) (nI 0) = some (v, th, rf) := by
  have hB := hs.1
  have h42 := hs.2.2.1
  have hp2 : 2 ^ B ≤ 256 := Nat.pow_le_pow_right (n := 2) (by omega) hB
  have h := jev_loop (P := fun r r' => ∃ v, r = (nI 0, v, hw, nI (jct (fun s => decide (jhs no s B = t)) (2 ^ B)), a2, a3, ra') ∧ r' = (v, th, rf)) (fun n (s : Int32 × Int32) i => pX9_ask_49 N9 (nI B) x2 n hw (nI (jct (fun s => decide (jhs no s B = t)) (2 ^ B))) a2 a3 ra' s.1 s.2 i) (fun n (s : Int32 × Int32) i => pM_ask_49 N9 m_now (nI t) x2 n th rf s.1 s.2 i) B (fun i s t => s = t) (fun n m i s s' hi hst => ?_) (fun n m s s' hst => ?_) B 0 (-nI 1, -nI 1) (-nI 1, -nI 1) N9 N9 (by omega) (by omega) (by omega) rfl
  · obtain ⟨r, r', q1, q2, v, rfl, rfl⟩ := h
    exact ⟨v, q1, q2⟩
  · subst hst
    obtain ⟨a, d⟩ := s
    have hin := jmaskin hN hs ht hi x2 th rf (pM_ask_49 N9 m_now (nI t) x2 m) a d
    have hsp := jct_split (fun s => decide (jhs no s B = t)) (fun s => decide (s / 2 ^ i % 2 = 1)) (2 ^ B)
    have hw1 := hhw i (by omega)
    have hc2 : jct (fun s => decide (jhs no s B = t)) (2 ^ B) - jct (fun s => decide (jhs no s B = t) && decide (s / 2 ^ i % 2 = 1)) (2 ^ B) = jct (fun s => decide (jhs no s B = t) && !decide (s / 2 ^ i % 2 = 1)) (2 ^ B) := by omega
    show ∃ s' t', pX9_ask_49 N9 (nI B) x2 (n + 1) hw (nI (jct (fun s => decide (jhs no s B = t)) (2 ^ B))) a2 a3 ra' a d (nI i) = _ ∧ pM_ask_49 N9 m_now (nI t) x2 (m + 1) th rf a d (nI i) = _ ∧ _
    simp only [pX9_ask_49, pX9_ask_106, pX9_ask_113, pM_ask_49, jlit, jN1]
    simp (disch := omega) only [jb1, jb2, jb3, jb4, jb5, jb6, jb7, jb8, jb9, jb10, jb11, jb12, jb13, jb14, jb15, jb16, jb17, jb18, jb19, jb20, jb21, jb22, jb23, jb24, jb25, jb26, jb27, jb28, jb29, jb30, jb31, jb32, jb33, jb34, jb35, jb36, jb37, jb38, jb39, jb40, jb41, jb42, jb43, jb44, jb45, jb46, jb47, jb48, jb49, jb50, zlet, jlit, jle_t, jle_f, jlt_t, jlt_f, jeq_t, jeq_f, jeqN_f, jNeq_f, jNN, jN1, jadd, jsub, jzin, jcl, if_true, if_false, ite_true, ite_false, not_true, not_false_iff, not_true_eq_false, not_false_eq_true, jB_t, jB_f, jB0_t, jB0_f, jBa, jand11, jand00, ↓reduceIte, Nat.reduceEqDiff, Nat.reduceAdd, Nat.reduceSub, h42, hw1]
    rw [hin, hc2]
    generalize zmax (nI (jct (fun s => decide (jhs no s B = t) && decide (s / 2 ^ i % 2 = 1)) (2 ^ B))) (nI (jct (fun s => decide (jhs no s B = t) && !decide (s / 2 ^ i % 2 = 1)) (2 ^ B))) = v
    by_cases ha : a = -nI 1
    · rw [if_pos ha, if_pos ha]
      exact ⟨(nI i, v), (nI i, v), rfl, rfl, rfl⟩
    · rw [if_neg ha, if_neg ha]
      by_cases hd : d ≤ v
      · rw [if_pos hd, if_neg (jnle.mpr hd)]
        exact ⟨(a, d), (a, d), rfl, rfl, rfl⟩
      · rw [if_neg hd, if_pos (jnlt.mp hd)]
        exact ⟨(nI i, v), (nI i, v), rfl, rfl, rfl⟩
  · subst hst
    show jev _ (pX9_ask_49 N9 (nI B) x2 (n + 1) hw (nI (jct (fun s => decide (jhs no s B = t)) (2 ^ B))) a2 a3 ra' s.1 s.2 (nI B)) (pM_ask_49 N9 m_now (nI t) x2 (m + 1) th rf s.1 s.2 (nI B))
    simp only [pX9_ask_49, pX9_ask_129, pM_ask_49, pM_ask_169, jlit]
    simp (disch := omega) only [jb1, jb2, jb3, jb4, jb5, jb6, jb7, jb8, jb9, jb10, jb11, jb12, jb13, jb14, jb15, jb16, jb17, jb18, jb19, jb20, jb21, jb22, jb23, jb24, jb25, jb26, jb27, jb28, jb29, jb30, jb31, jb32, jb33, jb34, jb35, jb36, jb37, jb38, jb39, jb40, jb41, jb42, jb43, jb44, jb45, jb46, jb47, jb48, jb49, jb50, zlet, jlit, jle_t, jle_f, jlt_t, jlt_f, jeq_t, jeq_f, jeqN_f, jNeq_f, jNN, jN1, jadd, jsub, jzin, jcl, if_true, if_false, ite_true, ite_false, not_true, not_false_iff, not_true_eq_false, not_false_eq_true, jB_t, jB_f, jB0_t, jB0_f, jBa, jand11, jand00, ↓reduceIte, Nat.reduceEqDiff, Nat.reduceAdd, Nat.reduceSub, h42]
    by_cases h1 : x2 = nI 0
    · rw [if_pos h1, if_pos h1]
      exact ⟨_, _, rfl, rfl, _, rfl, rfl⟩
    · rw [if_neg h1, if_neg h1]
      exact ⟨_, _, rfl, rfl, _, rfl, rfl⟩
theorem jop_ask (hN : 70000 < N9) (hs : jSt G B no bo c tk st_now st_born st_age st_passed st_gone st_took (nI B) st_year (nI c) m_now) (hR : jRf re ra m_refused) (se_herdsWith : Nat → Int32) (se_herds : Int32) (se_firstHerd : Int32) (se_sureBeasts : Int32) (m_thrown : Int32) (x1 : Int32) (x2 : Int32): ∃ z r se_herdsWith1 se_herds1 se_firstHerd1 se_sureBeasts1 ra1 q th rf1, pX9_ask N9 st_now (nI B) se_herdsWith se_herds se_firstHerd se_sureBeasts ra x1 x2 = some (z, r, se_herdsWith1, se_herds1, se_firstHerd1, se_sureBeasts1, ra1) ∧ pM_ask N9 m_thrown m_refused m_now x1 x2 = some (q, th, rf1) ∧ jOutA z th r q ∧ jRf re ra1 rf1 := by
  unfold pX9_ask pM_ask pX9_ask_25 pM_ask_26
  simp only [jlit]
  rcases jcase_a N9 (a := 2040) (by omega) x1 with ⟨t, ht, rfl, h1, h2⟩ | ⟨h1, h2⟩
  · rcases jcase_a N9 (a := 1) (by omega) x2 with ⟨k2, hk2, rfl, h3, h4⟩ | ⟨h3, h4⟩
    · rw [h1, jb1, if_neg j10, h3, jb1, if_neg j10, h2, jb1, if_neg j10, h4, jb1, if_neg j10]
      unfold pX9_ask_26 pM_ask_31
      simp only [jlit, jN1]
      obtain ⟨hw, e1, e2⟩ := jxherds hN hs se_herdsWith se_herds se_firstHerd se_sureBeasts ht
      obtain ⟨v, e3, e4⟩ := jask hN hs ht (nI k2) (nI 0) (nI 0) (jfi (fun s => decide (jhs no s B = t)) (2 ^ B)) (jsu (fun s => decide (jhs no s B = t)) (2 ^ B)) ra m_refused hw e2
      rw [jnA1, jb2, if_pos rfl, jbadO, jb3, if_pos rfl, e1, jb4, e3, e4]
      exact ⟨_, _, _, _, _, _, _, _, _, _, rfl, rfl, Or.inl ⟨rfl, rfl, rfl⟩, hR⟩
    · rw [h1, jb1, if_neg j10, h3, jb1, if_pos rfl, h2, jb1, if_neg j10, h4, jb1, if_pos rfl]
      unfold pX9_ask_26 pM_ask_31
      simp only [jlit]
      rw [jnA0, jb2, if_neg j20, jbadA, jb3, if_neg j10]
      exact ⟨_, _, _, _, _, _, _, _, _, _, rfl, rfl, Or.inr ⟨rfl, rfl⟩, hR.arg⟩
  · rw [h1, jb1, if_pos rfl, h2, jb1, if_pos rfl]
    unfold pX9_ask_26 pM_ask_31
    simp only [jlit]
    rw [jnA0, jb2, if_neg j20, jbadA, jb3, if_neg j10]
    exact ⟨_, _, _, _, _, _, _, _, _, _, rfl, rfl, Or.inr ⟨rfl, rfl⟩, hR.arg⟩
end C12
