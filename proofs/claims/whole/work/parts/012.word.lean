theorem jzsl : ∀ w, w ≤ 20 → 1 ≤ w → zsl w = nI (jw w).length ∧ zslen.getD w 0 = (jw w).length ∧ (jw w).length ≤ 6 := by decide +kernel
theorem jzsc : ∀ w, w ≤ 20 → 1 ≤ w → ∀ i, i < (jw w).length → zsc w (nI i) = nI ((jw w).getD i 0) ∧ 97 ≤ (jw w).getD i 0 ∧ (jw w).getD i 0 ≤ 122 := by decide +kernel
section WD
variable {n : Nat} {by' : Nat → Nat} {tp_bytes m_fed : Nat → Int32} {N9 : Nat}
theorem jisX (hN : 70000 < N9) (ht : jTx n by' tp_bytes m_fed) {k e w : Nat} (hk : k ≤ e) (he : e ≤ n) (hw : w ≤ 20) (hw1 : 1 ≤ w) : pX8_isWord N9 tp_bytes (nI e) (nI k) w = some (jB (jisw by' k (e - k) w)) := by
  have hn := ht.1
  obtain ⟨h1, h2, h3⟩ := jzsl w hw hw1
  have h4 := jzsc w hw hw1
  unfold pX8_isWord
  rw [if_pos (by omega : w < 22), h1, jsub hk]
  by_cases hl : e - k = (jw w).length
  · rw [if_pos (by rw [hl])]
    have key : ∀ u i q, i + u = (jw w).length → u < q → pX8_isWord_20 N9 tp_bytes (nI k) w q (nI i) = some (jB (decide (∀ j, j < (jw w).length → i ≤ j → by' (k + j) = (jw w).getD j 0))) := by
      intro u
      induction u with
      | zero =>
        intro i q hi hq
        obtain ⟨q, rfl⟩ : ∃ z, q = z + 1 := ⟨q - 1, by omega⟩
        simp only [pX8_isWord_20]
        rw [if_pos (by omega : w < 22), h1, if_pos (nI_le (by omega) (by omega)), decide_eq_true (fun j h5 h6 => by omega)]
        rfl
      | succ u ih =>
        intro i q hi hq
        obtain ⟨q, rfl⟩ : ∃ z, q = z + 1 := ⟨q - 1, by omega⟩
        obtain ⟨h7, h8, h9⟩ := h4 i (by omega)
        obtain ⟨b1, b2, -⟩ := ht.2 (k + i) (by omega)
        simp only [pX8_isWord_20]
        simp (disch := omega) only [jb1, jb2, jb3, jb4, jb5, jb6, jb7, jb8, jb9, jb10, jb11, jb12, jb13, jb14, jb15, jb16, jb17, jb18, jb19, jb20, jb21, jb22, jb23, jb24, jb25, jb26, jb27, jb28, jb29, jb30, jb31, jb32, jb33, jb34, jb35, jb36, jb37, jb38, jb39, jb40, jb41, jb42, jb43, jb44, jb45, jb46, jb47, jb48, jb49, jb50, zlet, jlit, jle_t, jle_f, jlt_t, jlt_f, jeq_t, jeq_f, jeqN_f, jNeq_f, jNN, jN1, jadd, jsub, jzin, jcl, if_true, if_false, ite_true, ite_false, not_true, not_false_iff, not_true_eq_false, not_false_eq_true, jB_t, jB_f, jB0_t, jB0_f, jBa, jand11, jand00, ↓reduceIte, Nat.reduceEqDiff, Nat.reduceAdd, Nat.reduceSub, jn1, jn2, jn3, jn4, jn5, jn6, h1, h2, h7, b2]
        by_cases hb : by' (k + i) = (jw w).getD i 0
        · rw [if_pos (by rw [hb]), ih (i + 1) q (by omega) (by omega)]
          congr 2
          apply decide_eq_decide.mpr
          constructor
          · intro h j hj2 hj1
            by_cases hji : j = i
            · rw [hji]; exact hb
            · exact h j hj2 (by omega)
          · intro h j hj2 hj1
            exact h j hj2 (by omega)
        · rw [if_neg (by rw [nI_eq (by omega) (by omega)]; exact hb), decide_eq_false (fun h => hb (h i (by omega) (Nat.le_refl i)))]
          rfl
    rw [show (0 : Int32) = nI 0 from rfl, key (jw w).length 0 N9 (by omega) (by omega)]
    unfold jisw
    rw [decide_eq_true hl, Bool.true_and, hl]
    congr 2
    apply decide_eq_decide.mpr
    exact ⟨fun h j hj => h j hj (Nat.zero_le j), fun h j hj _ => h j hj⟩
  · rw [if_neg (by rw [nI_eq (by omega) (by omega)]; exact hl)]
    unfold jisw
    rw [decide_eq_false hl, Bool.false_and]
    rfl
theorem jletters {a : Nat} {i : Nat} (h : i < jle n by' a - a) : 97 ≤ by' (a + i) ∧ by' (a + i) ≤ 122 := by
  have := jwh_in (fun k => jletter (by' k)) (n - a) a (a + i) (by omega) (by unfold jle at h; omega)
  unfold jletter at this
  rw [Bool.and_eq_true, decide_eq_true_eq, decide_eq_true_eq] at this
  exact this
theorem jhere (hN : 70000 < N9) (ht : jTx n by' tp_bytes m_fed) {a : Nat} (ha : a ≤ n) : pM_wordHere N9 (nI n) (nI a) m_fed = some (if jle n by' (jsk n by' a) - jsk n by' a ≤ 6 then nI (jpk (fun i => by' (jsk n by' a + i)) (jle n by' (jsk n by' a) - jsk n by' a)) else -nI 1, nI (jsk n by' a)) := by
  have hn := ht.1
  have hb : ∀ i, i < n → by' i < 256 := fun i hi => (ht.2 i hi).1
  have hk := jsk_rng (by' := by') ha
  unfold pM_wordHere
  rw [jblankM hN ht ha, jb1]
  generalize jsk n by' a = k at hk
  have key := jwhile2 (fun q e => pM_wordHere_8 N9 (nI n) m_fed q (nI k) (nI (jpk (fun i => by' (k + i)) (if e - k ≤ 6 then e - k else 6))) (nI (e - k))) (fun i => jletter (by' i)) (fun e => some (if e - k ≤ 6 then nI (jpk (fun i => by' (k + i)) (e - k)) else -nI 1, nI k)) k n ?_ ?_ (n - k) k N9 (Nat.le_refl k) (by omega) (by omega)
  · rw [Nat.sub_self] at key
    exact key
  · intro q e h0 h1 h2
    have h3 := hb e h1
    simp only [pM_wordHere_8, pM_wordHere_54]
    have e1 : nI k + nI (e - k) = nI e := by rw [jadd, Nat.add_sub_cancel' h0]
    rw [e1, jbyteAt ht (by omega), jb1, jsmallM, jsmallB hb, h2, decide_eq_true h1]
    have e2 : e + 1 - k = e - k + 1 := by omega
    rw [e2]
    unfold jletter at h2
    rw [Bool.and_eq_true, decide_eq_true_eq, decide_eq_true_eq] at h2
    by_cases h4 : 6 ≤ e - k
    · simp (disch := omega) only [jb1, jb2, jb3, jb4, jb5, jb6, jb7, jb8, jb9, jb10, jb11, jb12, jb13, jb14, jb15, jb16, jb17, jb18, jb19, jb20, jb21, jb22, jb23, jb24, jb25, jb26, jb27, jb28, jb29, jb30, jb31, jb32, jb33, jb34, jb35, jb36, jb37, jb38, jb39, jb40, jb41, jb42, jb43, jb44, jb45, jb46, jb47, jb48, jb49, jb50, zlet, jlit, jle_t, jle_f, jlt_t, jlt_f, jeq_t, jeq_f, jeqN_f, jNeq_f, jNN, jN1, jadd, jsub, jzin, jcl, if_true, if_false, ite_true, ite_false, not_true, not_false_iff, not_true_eq_false, not_false_eq_true, jB_t, jB_f, jB0_t, jB0_f, jBa, jand11, jand00, ↓reduceIte, Nat.reduceEqDiff, Nat.reduceAdd, Nat.reduceSub, jn1, jn2, jn3, jn4, jn5, jn6, Bool.true_and]
      by_cases h5 : e - k = 6
      · rw [if_pos (by omega), h5]
      · rw [if_neg (by omega)]
    · simp (disch := omega) only [jb1, jb2, jb3, jb4, jb5, jb6, jb7, jb8, jb9, jb10, jb11, jb12, jb13, jb14, jb15, jb16, jb17, jb18, jb19, jb20, jb21, jb22, jb23, jb24, jb25, jb26, jb27, jb28, jb29, jb30, jb31, jb32, jb33, jb34, jb35, jb36, jb37, jb38, jb39, jb40, jb41, jb42, jb43, jb44, jb45, jb46, jb47, jb48, jb49, jb50, zlet, jlit, jle_t, jle_f, jlt_t, jlt_f, jeq_t, jeq_f, jeqN_f, jNeq_f, jNN, jN1, jadd, jsub, jzin, jcl, if_true, if_false, ite_true, ite_false, not_true, not_false_iff, not_true_eq_false, not_false_eq_true, jB_t, jB_f, jB0_t, jB0_f, jBa, jand11, jand00, ↓reduceIte, Nat.reduceEqDiff, Nat.reduceAdd, Nat.reduceSub, jn1, jn2, jn3, jn4, jn5, jn6, Bool.true_and, jby]
      rw [jmul, jadd, jsub (by omega), jadd, jpk]
      rw [Nat.add_sub_cancel' h0]
      congr 1
      congr 1
      omega
  · intro q e h0 h1 h2
    simp only [pM_wordHere_8, pM_wordHere_72]
    have e1 : nI k + nI (e - k) = nI e := by rw [jadd, Nat.add_sub_cancel' h0]
    have h5 : (decide (e < n) && jletter (by' e)) = false := by
      by_cases h : e < n
      · rw [h2 h, Bool.and_false]
      · rw [decide_eq_false h, Bool.false_and]
    rw [e1, jbyteAt ht h1, jb1, jsmallM, jsmallB hb, h5]
    by_cases h4 : e - k ≤ 6
    · simp (disch := omega) only [jb1, jb2, jb3, jb4, jb5, jb6, jb7, jb8, jb9, jb10, jb11, jb12, jb13, jb14, jb15, jb16, jb17, jb18, jb19, jb20, jb21, jb22, jb23, jb24, jb25, jb26, jb27, jb28, jb29, jb30, jb31, jb32, jb33, jb34, jb35, jb36, jb37, jb38, jb39, jb40, jb41, jb42, jb43, jb44, jb45, jb46, jb47, jb48, jb49, jb50, zlet, jlit, jle_t, jle_f, jlt_t, jlt_f, jeq_t, jeq_f, jeqN_f, jNeq_f, jNN, jN1, jadd, jsub, jzin, jcl, if_true, if_false, ite_true, ite_false, not_true, not_false_iff, not_true_eq_false, not_false_eq_true, jB_t, jB_f, jB0_t, jB0_f, jBa, jand11, jand00, ↓reduceIte, Nat.reduceEqDiff, Nat.reduceAdd, Nat.reduceSub, jn1, jn2, jn3, jn4, jn5, jn6]
    · simp (disch := omega) only [jb1, jb2, jb3, jb4, jb5, jb6, jb7, jb8, jb9, jb10, jb11, jb12, jb13, jb14, jb15, jb16, jb17, jb18, jb19, jb20, jb21, jb22, jb23, jb24, jb25, jb26, jb27, jb28, jb29, jb30, jb31, jb32, jb33, jb34, jb35, jb36, jb37, jb38, jb39, jb40, jb41, jb42, jb43, jb44, jb45, jb46, jb47, jb48, jb49, jb50, zlet, jlit, jle_t, jle_f, jlt_t, jlt_f, jeq_t, jeq_f, jeqN_f, jNeq_f, jNN, jN1, jadd, jsub, jzin, jcl, if_true, if_false, ite_true, ite_false, not_true, not_false_iff, not_true_eq_false, not_false_eq_true, jB_t, jB_f, jB0_t, jB0_f, jBa, jand11, jand00, ↓reduceIte, Nat.reduceEqDiff, Nat.reduceAdd, Nat.reduceSub, jn1, jn2, jn3, jn4, jn5, jn6]
theorem jisM (hN : 70000 < N9) (ht : jTx n by' tp_bytes m_fed) {a w : Nat} (ha : a ≤ n) (hw : w ≤ 20) (hw1 : 1 ≤ w) {x1 x2 x3 x4 x5 x6 : Int32} (h6 : pM_six N9 x1 x2 x3 x4 x5 x6 = some (nI (jpk (fun i => (jw w).getD i 0) (jw w).length))) :
    pM_isWord N9 (nI n) (nI a) (nI 0) m_fed x1 x2 x3 x4 x5 x6 = some (jB (jisw by' (jsk n by' a) (jle n by' (jsk n by' a) - jsk n by' a) w), nI (jsk n by' a)) := by
  have hk := jsk_rng (by' := by') ha
  obtain ⟨h1, h2, h3⟩ := jzsl w hw hw1
  have h4 := jzsc w hw hw1
  unfold pM_isWord pM_isWord_30 pM_isWord_31
  rw [if_pos (show nI 0 = 0 from rfl), jhere hN ht ha, jb2, h6, jb1]
  have hl := @jletters n by' (jsk n by' a)
  generalize jsk n by' a = k at hk hl
  generalize jle n by' k - k = m at hl
  have hwl := jpk_lt (f := fun i => (jw w).getD i 0) (jw w).length (fun i hi => (h4 i hi).2.2)
  have hw6 : 27 ^ (jw w).length ≤ 27 ^ 6 := Nat.pow_le_pow_right (by decide) h3
  unfold jisw
  by_cases hm : m ≤ 6
  · rw [if_pos hm]
    have hml := jpk_lt (f := fun i => by' (k + i)) m (fun i hi => (hl hi).2)
    have hm6 : 27 ^ m ≤ 27 ^ 6 := Nat.pow_le_pow_right (by decide) hm
    by_cases hp : jpk (fun i => by' (k + i)) m = jpk (fun i => (jw w).getD i 0) (jw w).length
    · obtain ⟨h7, h8⟩ := jpk_inj m (jw w).length (fun i hi => hl hi) (fun i hi => (h4 i hi).2) hp
      rw [if_pos (by rw [hp]), decide_eq_true h7, decide_eq_true h8]
      rfl
    · rw [if_neg (by rw [nI_eq (by omega) (by omega)]; exact hp)]
      have : (decide (m = (jw w).length) && decide (∀ i, i < m → by' (k + i) = (jw w).getD i 0)) = false := by
        apply Bool.eq_false_iff.mpr
        intro h
        rw [Bool.and_eq_true, decide_eq_true_eq, decide_eq_true_eq] at h
        apply hp
        rw [← h.1]
        have cg : ∀ j, j ≤ m → jpk (fun i => by' (k + i)) j = jpk (fun i => (jw w).getD i 0) j := by
          intro j
          induction j with
          | zero => intro _; rfl
          | succ j ih => intro hj; rw [jpk, jpk, ih (by omega), h.2 j (by omega)]
        exact cg m (Nat.le_refl m)
      rw [this]
      rfl
  · rw [if_neg hm, if_neg (by rw [jNeq_f (by omega)]; exact id), decide_eq_false (by omega), Bool.false_and]
    rfl
theorem jisMf {N9 : Nat} {sz a f : Int32} {fed : Nat → Int32} {x1 x2 x3 x4 x5 x6 : Int32} (hf : f ≠ nI 0) : pM_isWord N9 sz a f fed x1 x2 x3 x4 x5 x6 = some (nI 0, a) := by
  unfold pM_isWord pM_isWord_30 pM_isWord_31
  rw [if_neg (show ¬ f = 0 from hf)]
  rfl
end WD
