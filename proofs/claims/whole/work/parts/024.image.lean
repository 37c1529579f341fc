section IM
variable {N9 G B c : Nat} {no bo tk : Nat → Nat} {st_now st_born st_age st_passed st_gone st_took : Nat → Int32} {st_beasts st_year st_coins : Int32} {row : Nat → Int32}
theorem jputs0 (kp : Nat → Nat → Int32) {s r : Nat} (hs : s < 783) (hr : r < 3) (v : Int32) : pM_puts N9 kp (nI s) (nI r) v 0 = some (v, va_up kp r (upd (kp r) s v), nI (s + 1)) := by
  unfold pM_puts pM_puts_11
  simp (disch := omega) only [jb1, jb2, jb3, jb4, jb5, jb6, jb7, jb8, jb9, jb10, jb11, jb12, jb13, jb14, jb15, jb16, jb17, jb18, jb19, jb20, jb21, jb22, jb23, jb24, jb25, jb26, jb27, jb28, jb29, jb30, jb31, jb32, jb33, jb34, jb35, jb36, jb37, jb38, jb39, jb40, jb41, jb42, jb43, jb44, jb45, jb46, jb47, jb48, jb49, jb50, zlet, jlit, jle_t, jle_f, jlt_t, jlt_f, jeq_t, jeq_f, jeqN_f, jNeq_f, jNN, jN1, jadd, jsub, jzin, jcl, if_true, if_false, ite_true, ite_false, not_true, not_false_iff, not_true_eq_false, not_false_eq_true, jB_t, jB_f, jB0_t, jB0_f, jBa, jand11, jand00, ↓reduceIte, Nat.reduceEqDiff, Nat.reduceAdd, Nat.reduceSub, Nat.add_sub_cancel, jva, pk_us]
theorem jputs1 (kp : Nat → Nat → Int32) {s r : Nat} (hs : s < 783) (hr : r < 3) (v : Int32) : pM_puts N9 kp (nI s) (nI r) v 1 = some (kp r s, kp, nI (s + 1)) := by
  unfold pM_puts pM_puts_11
  simp (disch := omega) only [jb1, jb2, jb3, jb4, jb5, jb6, jb7, jb8, jb9, jb10, jb11, jb12, jb13, jb14, jb15, jb16, jb17, jb18, jb19, jb20, jb21, jb22, jb23, jb24, jb25, jb26, jb27, jb28, jb29, jb30, jb31, jb32, jb33, jb34, jb35, jb36, jb37, jb38, jb39, jb40, jb41, jb42, jb43, jb44, jb45, jb46, jb47, jb48, jb49, jb50, zlet, jlit, jle_t, jle_f, jlt_t, jlt_f, jeq_t, jeq_f, jeqN_f, jNeq_f, jNN, jN1, jadd, jsub, jzin, jcl, if_true, if_false, ite_true, ite_false, not_true, not_false_iff, not_true_eq_false, not_false_eq_true, jB_t, jB_f, jB0_t, jB0_f, jBa, jand11, jand00, ↓reduceIte, Nat.reduceEqDiff, Nat.reduceAdd, Nat.reduceSub, Nat.add_sub_cancel]
theorem jput62s0 (hN : 70000 < N9) {r : Nat} (hr : r < 3) (kp0 : Nat → Nat → Int32) (kp1 : Nat → Int32) (bf0 : Nat → Nat → Int32) (now : Nat → Int32) (k53 : (Nat → Int32) → (Nat → Nat → Int32) → (Nat → Nat → Int32) → Int32 → Int32 → Option ((Nat → Int32) × (Nat → Nat → Int32) × (Nat → Nat → Int32) × Int32 × Int32)) {w : Nat} (hw : w < 16) (bf kp : Nat → Nat → Int32)
    (h : (∀ j l, j < 16 → l < 46 → bf j l = bf0 j l) ∧ (∀ q, q ≠ r → kp q = kp0 q) ∧ (∀ s, s < 47 → kp r s = kp1 s) ∧ (∀ j l, l < 46 → (j < w ∨ j = w ∧ l < 0) → kp r (47 + 46 * j + l) = bf0 j l)) : ∃ bf' kp', pM_putsAll_62 N9 now (nI r) 0 k53 N9 bf kp (nI (47 + 46 * w)) (nI w) 0 = k53 now bf' kp' (nI (47 + 46 * (w + 1))) (nI (w + 1)) ∧ (∀ j l, j < 16 → l < 46 → bf' j l = bf0 j l) ∧ (∀ q, q ≠ r → kp' q = kp0 q) ∧ (∀ s, s < 47 → kp' r s = kp1 s) ∧ (∀ j l, l < 46 → (j < (w + 1) ∨ j = (w + 1) ∧ l < 0) → kp' r (47 + 46 * j + l) = bf0 j l) := by
  have key : ∀ u i n (bf kp : Nat → Nat → Int32), i + u = 46 → u < n → ((∀ j l, j < 16 → l < 46 → bf j l = bf0 j l) ∧ (∀ q, q ≠ r → kp q = kp0 q) ∧ (∀ s, s < 47 → kp r s = kp1 s) ∧ (∀ j l, l < 46 → (j < w ∨ j = w ∧ l < i) → kp r (47 + 46 * j + l) = bf0 j l)) → ∃ bf' kp', pM_putsAll_62 N9 now (nI r) 0 k53 n bf kp (nI (47 + 46 * w + i)) (nI w) (nI i) = k53 now bf' kp' (nI (47 + 46 * (w + 1))) (nI (w + 1)) ∧ (∀ j l, j < 16 → l < 46 → bf' j l = bf0 j l) ∧ (∀ q, q ≠ r → kp' q = kp0 q) ∧ (∀ s, s < 47 → kp' r s = kp1 s) ∧ (∀ j l, l < 46 → (j < (w + 1) ∨ j = (w + 1) ∧ l < 0) → kp' r (47 + 46 * j + l) = bf0 j l) := by
    intro u
    induction u with
    | zero =>
      intro i n bf kp hi hn hI
      obtain ⟨n, rfl⟩ : ∃ z, n = z + 1 := ⟨n - 1, by omega⟩
      obtain rfl : i = 46 := by omega
      refine ⟨bf, kp, ?_, ?_⟩
      · simp only [pM_putsAll_62]
        simp (disch := omega) only [jb1, jb2, jb3, jb4, jb5, jb6, jb7, jb8, jb9, jb10, jb11, jb12, jb13, jb14, jb15, jb16, jb17, jb18, jb19, jb20, jb21, jb22, jb23, jb24, jb25, jb26, jb27, jb28, jb29, jb30, jb31, jb32, jb33, jb34, jb35, jb36, jb37, jb38, jb39, jb40, jb41, jb42, jb43, jb44, jb45, jb46, jb47, jb48, jb49, jb50, zlet, jlit, jle_t, jle_f, jlt_t, jlt_f, jeq_t, jeq_f, jeqN_f, jNeq_f, jNN, jN1, jadd, jsub, jzin, jcl, if_true, if_false, ite_true, ite_false, not_true, not_false_iff, not_true_eq_false, not_false_eq_true, jB_t, jB_f, jB0_t, jB0_f, jBa, jand11, jand00, ↓reduceIte, Nat.reduceEqDiff, Nat.reduceAdd, Nat.reduceSub]
        rw [show 47 + 46 * w + 46 = 47 + 46 * (w + 1) by omega]
      · refine ⟨hI.1, hI.2.1, hI.2.2.1, fun j l hl hj => hI.2.2.2 j l hl (by omega)⟩
    | succ u ih =>
      intro i n bf kp hi hn hI
      obtain ⟨n, rfl⟩ : ∃ z, n = z + 1 := ⟨n - 1, by omega⟩
      simp only [pM_putsAll_62]
      rw [if_neg (show ¬ (46 : Int32) ≤ nI i from nI_ge (b := 46) (by omega) (by omega)), if_pos (of_eq_true (jzin (by omega : w < 16) (by omega))), if_pos (of_eq_true (jzin (by omega : i < 46) (by omega))), jcl (by omega), jcl (by omega), jputs0 kp (by omega) hr, jb3, nI_1 i, show 47 + 46 * w + i + 1 = 47 + 46 * w + (i + 1) from rfl]
      refine ih (i + 1) n _ _ (by omega) (by omega) ?_
      exact (by
        obtain ⟨h1, h2, h3, h4⟩ := hI
        refine ⟨fun j l hj hl => ?_, fun q hq => ?_, fun s hs => ?_, fun j l hl hj => ?_⟩
        · by_cases hjw : j = w
          · subst hjw
            rw [jva]
            by_cases hli : l = i
            · subst hli; rw [pk_us]; exact h1 j l hj hl
            · rw [pk_un hli]; exact h1 j l hj hl
          · simp only [va_up, if_neg hjw]; exact h1 j l hj hl
        · simp only [va_up, if_neg hq]; exact h2 q hq
        · rw [jva, pk_un (by omega)]; exact h3 s hs
        · rw [jva]
          by_cases hjl : j = w ∧ l = i
          · obtain ⟨rfl, rfl⟩ := hjl
            rw [pk_us]; exact h1 j l hw (by omega)
          · rw [pk_un (by omega)]; exact h4 j l hl (by omega))
  have := key 46 0 N9 bf kp (by omega) (by omega) h
  rw [Nat.add_zero] at this
  exact this
theorem jput53s0 (hN : 70000 < N9) {r : Nat} (hr : r < 3) (kp0 : Nat → Nat → Int32) (kp1 : Nat → Int32) (bf0 : Nat → Nat → Int32) (now : Nat → Int32) (m_works : Int32) : ∀ u w n (bf kp : Nat → Nat → Int32), w + u = 16 → u < n → ((∀ j l, j < 16 → l < 46 → bf j l = bf0 j l) ∧ (∀ q, q ≠ r → kp q = kp0 q) ∧ (∀ s, s < 47 → kp r s = kp1 s) ∧ (∀ j l, l < 46 → (j < w ∨ j = w ∧ l < 0) → kp r (47 + 46 * j + l) = bf0 j l)) → ∃ bf' kp', pM_putsAll_53 N9 m_works (nI r) 0 n now bf kp (nI (47 + 46 * w)) (nI w) = some (now, bf', kp', m_works, nI 783) ∧ (∀ j l, j < 16 → l < 46 → bf' j l = bf0 j l) ∧ (∀ q, q ≠ r → kp' q = kp0 q) ∧ (∀ s, s < 47 → kp' r s = kp1 s) ∧ (∀ j l, l < 46 → (j < 16 ∨ j = 16 ∧ l < 0) → kp' r (47 + 46 * j + l) = bf0 j l) := by
  intro u
  induction u with
  | zero =>
    intro w n bf kp hw hn hI
    obtain ⟨n, rfl⟩ : ∃ z, n = z + 1 := ⟨n - 1, by omega⟩
    obtain rfl : w = 16 := by omega
    refine ⟨bf, kp, ?_, hI⟩
    simp only [pM_putsAll_53]
    simp (disch := omega) only [jb1, jb2, jb3, jb4, jb5, jb6, jb7, jb8, jb9, jb10, jb11, jb12, jb13, jb14, jb15, jb16, jb17, jb18, jb19, jb20, jb21, jb22, jb23, jb24, jb25, jb26, jb27, jb28, jb29, jb30, jb31, jb32, jb33, jb34, jb35, jb36, jb37, jb38, jb39, jb40, jb41, jb42, jb43, jb44, jb45, jb46, jb47, jb48, jb49, jb50, zlet, jlit, jle_t, jle_f, jlt_t, jlt_f, jeq_t, jeq_f, jeqN_f, jNeq_f, jNN, jN1, jadd, jsub, jzin, jcl, if_true, if_false, ite_true, ite_false, not_true, not_false_iff, not_true_eq_false, not_false_eq_true, jB_t, jB_f, jB0_t, jB0_f, jBa, jand11, jand00, ↓reduceIte, Nat.reduceEqDiff, Nat.reduceAdd, Nat.reduceSub]
  | succ u ih =>
    intro w n bf kp hw hn hI
    obtain ⟨n, rfl⟩ : ∃ z, n = z + 1 := ⟨n - 1, by omega⟩
    simp only [pM_putsAll_53]
    rw [if_neg (show ¬ (16 : Int32) ≤ nI w from nI_ge (b := 16) (by omega) (by omega))]
    obtain ⟨bf1, kp1', e1, hI1⟩ := jput62s0 hN hr kp0 kp1 bf0 now (pM_putsAll_53 N9 m_works (nI r) 0 n) (by omega : w < 16) bf kp hI
    rw [e1]
    exact ih (w + 1) n bf1 kp1' (by omega) (by omega) hI1
theorem jput62s1 (hN : 70000 < N9) {r : Nat} (hr : r < 3) (kp0 : Nat → Nat → Int32) (now : Nat → Int32) (k53 : (Nat → Int32) → (Nat → Nat → Int32) → (Nat → Nat → Int32) → Int32 → Int32 → Option ((Nat → Int32) × (Nat → Nat → Int32) × (Nat → Nat → Int32) × Int32 × Int32)) {w : Nat} (hw : w < 16) (bf kp : Nat → Nat → Int32)
    (h : (kp = kp0) ∧ (∀ j l, l < 46 → (j < w ∨ j = w ∧ l < 0) → bf j l = kp0 r (47 + 46 * j + l))) : ∃ bf' kp', pM_putsAll_62 N9 now (nI r) 1 k53 N9 bf kp (nI (47 + 46 * w)) (nI w) 0 = k53 now bf' kp' (nI (47 + 46 * (w + 1))) (nI (w + 1)) ∧ (kp' = kp0) ∧ (∀ j l, l < 46 → (j < (w + 1) ∨ j = (w + 1) ∧ l < 0) → bf' j l = kp0 r (47 + 46 * j + l)) := by
  have key : ∀ u i n (bf kp : Nat → Nat → Int32), i + u = 46 → u < n → ((kp = kp0) ∧ (∀ j l, l < 46 → (j < w ∨ j = w ∧ l < i) → bf j l = kp0 r (47 + 46 * j + l))) → ∃ bf' kp', pM_putsAll_62 N9 now (nI r) 1 k53 n bf kp (nI (47 + 46 * w + i)) (nI w) (nI i) = k53 now bf' kp' (nI (47 + 46 * (w + 1))) (nI (w + 1)) ∧ (kp' = kp0) ∧ (∀ j l, l < 46 → (j < (w + 1) ∨ j = (w + 1) ∧ l < 0) → bf' j l = kp0 r (47 + 46 * j + l)) := by
    intro u
    induction u with
    | zero =>
      intro i n bf kp hi hn hI
      obtain ⟨n, rfl⟩ : ∃ z, n = z + 1 := ⟨n - 1, by omega⟩
      obtain rfl : i = 46 := by omega
      refine ⟨bf, kp, ?_, ?_⟩
      · simp only [pM_putsAll_62]
        simp (disch := omega) only [jb1, jb2, jb3, jb4, jb5, jb6, jb7, jb8, jb9, jb10, jb11, jb12, jb13, jb14, jb15, jb16, jb17, jb18, jb19, jb20, jb21, jb22, jb23, jb24, jb25, jb26, jb27, jb28, jb29, jb30, jb31, jb32, jb33, jb34, jb35, jb36, jb37, jb38, jb39, jb40, jb41, jb42, jb43, jb44, jb45, jb46, jb47, jb48, jb49, jb50, zlet, jlit, jle_t, jle_f, jlt_t, jlt_f, jeq_t, jeq_f, jeqN_f, jNeq_f, jNN, jN1, jadd, jsub, jzin, jcl, if_true, if_false, ite_true, ite_false, not_true, not_false_iff, not_true_eq_false, not_false_eq_true, jB_t, jB_f, jB0_t, jB0_f, jBa, jand11, jand00, ↓reduceIte, Nat.reduceEqDiff, Nat.reduceAdd, Nat.reduceSub]
        rw [show 47 + 46 * w + 46 = 47 + 46 * (w + 1) by omega]
      · exact ⟨hI.1, fun j l hl hj => hI.2 j l hl (by omega)⟩
    | succ u ih =>
      intro i n bf kp hi hn hI
      obtain ⟨n, rfl⟩ : ∃ z, n = z + 1 := ⟨n - 1, by omega⟩
      simp only [pM_putsAll_62]
      rw [if_neg (show ¬ (46 : Int32) ≤ nI i from nI_ge (b := 46) (by omega) (by omega)), if_pos (of_eq_true (jzin (by omega : w < 16) (by omega))), if_pos (of_eq_true (jzin (by omega : i < 46) (by omega))), jcl (by omega), jcl (by omega), jputs1 kp (by omega) hr, jb3, nI_1 i, show 47 + 46 * w + i + 1 = 47 + 46 * w + (i + 1) from rfl]
      refine ih (i + 1) n _ _ (by omega) (by omega) ?_
      exact (by
        obtain ⟨h1, h2⟩ := hI
        refine ⟨h1, fun j l hl hj => ?_⟩
        by_cases hjw : j = w
        · subst hjw
          rw [jva]
          by_cases hli : l = i
          · subst hli; rw [pk_us, h1]
          · rw [pk_un hli]; exact h2 j l hl (by omega)
        · simp only [va_up, if_neg hjw]; exact h2 j l hl (by omega))
  have := key 46 0 N9 bf kp (by omega) (by omega) h
  rw [Nat.add_zero] at this
  exact this
theorem jput53s1 (hN : 70000 < N9) {r : Nat} (hr : r < 3) (kp0 : Nat → Nat → Int32) (now : Nat → Int32) (m_works : Int32) : ∀ u w n (bf kp : Nat → Nat → Int32), w + u = 16 → u < n → ((kp = kp0) ∧ (∀ j l, l < 46 → (j < w ∨ j = w ∧ l < 0) → bf j l = kp0 r (47 + 46 * j + l))) → ∃ bf' kp', pM_putsAll_53 N9 m_works (nI r) 1 n now bf kp (nI (47 + 46 * w)) (nI w) = some (now, bf', kp', m_works, nI 783) ∧ (kp' = kp0) ∧ (∀ j l, l < 46 → (j < 16 ∨ j = 16 ∧ l < 0) → bf' j l = kp0 r (47 + 46 * j + l)) := by
  intro u
  induction u with
  | zero =>
    intro w n bf kp hw hn hI
    obtain ⟨n, rfl⟩ : ∃ z, n = z + 1 := ⟨n - 1, by omega⟩
    obtain rfl : w = 16 := by omega
    refine ⟨bf, kp, ?_, hI⟩
    simp only [pM_putsAll_53]
    simp (disch := omega) only [jb1, jb2, jb3, jb4, jb5, jb6, jb7, jb8, jb9, jb10, jb11, jb12, jb13, jb14, jb15, jb16, jb17, jb18, jb19, jb20, jb21, jb22, jb23, jb24, jb25, jb26, jb27, jb28, jb29, jb30, jb31, jb32, jb33, jb34, jb35, jb36, jb37, jb38, jb39, jb40, jb41, jb42, jb43, jb44, jb45, jb46, jb47, jb48, jb49, jb50, zlet, jlit, jle_t, jle_f, jlt_t, jlt_f, jeq_t, jeq_f, jeqN_f, jNeq_f, jNN, jN1, jadd, jsub, jzin, jcl, if_true, if_false, ite_true, ite_false, not_true, not_false_iff, not_true_eq_false, not_false_eq_true, jB_t, jB_f, jB0_t, jB0_f, jBa, jand11, jand00, ↓reduceIte, Nat.reduceEqDiff, Nat.reduceAdd, Nat.reduceSub]
  | succ u ih =>
    intro w n bf kp hw hn hI
    obtain ⟨n, rfl⟩ : ∃ z, n = z + 1 := ⟨n - 1, by omega⟩
    simp only [pM_putsAll_53]
    rw [if_neg (show ¬ (16 : Int32) ≤ nI w from nI_ge (b := 16) (by omega) (by omega))]
    obtain ⟨bf1, kp1', e1, hI1⟩ := jput62s1 hN hr kp0 now (pM_putsAll_53 N9 m_works (nI r) 1 n) (by omega : w < 16) bf kp hI
    rw [e1]
    exact ih (w + 1) n bf1 kp1' (by omega) (by omega) hI1
theorem jputall0 (hN : 70000 < N9) {r : Nat} (hr : r < 3) (now : Nat → Int32) (bf kp : Nat → Nat → Int32) (mw spot : Int32) : ∃ now' bf' kp', pM_putsAll N9 now bf kp mw spot (nI r) 0 = some (now', bf', kp', mw, nI 783) ∧ (∀ k, k < 46 → now' k = now k) ∧ (∀ j l, j < 16 → l < 46 → bf' j l = bf j l) ∧ (∀ q, q ≠ r → kp' q = kp q) ∧ kp' r 0 = mw ∧ (∀ k, k < 46 → kp' r (1 + k) = now k) ∧ ∀ j l, j < 16 → l < 46 → kp' r (47 + 46 * j + l) = bf j l := by
  have key : ∀ u i n (nw : Nat → Int32) (kq : Nat → Nat → Int32), i + u = 46 → u < n → ((∀ k, k < 46 → nw k = now k) ∧ (∀ q, q ≠ r → kq q = kp q) ∧ kq r 0 = mw ∧ ∀ k, k < i → kq r (1 + k) = now k) → ∃ now' bf' kp', pM_putsAll_21 N9 bf (nI r) 0 n nw kq mw (nI (1 + i)) (nI i) = some (now', bf', kp', mw, nI 783) ∧ (∀ k, k < 46 → now' k = now k) ∧ (∀ j l, j < 16 → l < 46 → bf' j l = bf j l) ∧ (∀ q, q ≠ r → kp' q = kp q) ∧ kp' r 0 = mw ∧ (∀ k, k < 46 → kp' r (1 + k) = now k) ∧ ∀ j l, j < 16 → l < 46 → kp' r (47 + 46 * j + l) = bf j l := by
    intro u
    induction u with
    | zero =>
      intro i n nw kq hi hn hI
      obtain ⟨n, rfl⟩ : ∃ z, n = z + 1 := ⟨n - 1, by omega⟩
      obtain rfl : i = 46 := by omega
      obtain ⟨h1, h2, h3, h4⟩ := hI
      obtain ⟨bf', kp', e1, g1, g2, g3, g4⟩ := jput53s0 hN hr kp (kq r) bf nw mw 16 0 N9 bf kq (by omega) (by omega) ⟨fun j l _ _ => rfl, h2, fun s _ => rfl, fun j l hl hj => absurd hj (by omega)⟩
      refine ⟨nw, bf', kp', ?_, h1, g1, g2, by rw [g3 0 (by omega), h3], fun k hk => by rw [g3 (1 + k) (by omega), h4 k hk], fun j l hj hl => g4 j l hl (Or.inl hj)⟩
      simp only [pM_putsAll_21]
      rw [if_pos (show (46 : Int32) ≤ nI 46 by decide)]
      exact e1
    | succ u ih =>
      intro i n nw kq hi hn hI
      obtain ⟨n, rfl⟩ : ∃ z, n = z + 1 := ⟨n - 1, by omega⟩
      obtain ⟨h1, h2, h3, h4⟩ := hI
      simp only [pM_putsAll_21]
      rw [if_neg (show ¬ (46 : Int32) ≤ nI i from nI_ge (b := 46) (by omega) (by omega)), if_pos (of_eq_true (jzin (by omega : i < 46) (by omega))), jcl (by omega), jputs0 kq (by omega) hr, jb3, nI_1 i, show 1 + i + 1 = 1 + (i + 1) from rfl]
      refine ih (i + 1) n _ _ (by omega) (by omega) ⟨fun k hk => ?_, fun q hq => ?_, ?_, fun k hk => ?_⟩
      · by_cases hki : k = i
        · subst hki; rw [pk_us]; exact h1 k hk
        · rw [pk_un hki]; exact h1 k hk
      · simp only [va_up, if_neg hq]; exact h2 q hq
      · rw [jva, pk_un (by omega)]; exact h3
      · rw [jva]
        by_cases hki : k = i
        · subst hki; rw [pk_us]; exact h1 k (by omega)
        · rw [pk_un (by omega)]; exact h4 k (by omega)
  unfold pM_putsAll
  rw [show (0 : Int32) = nI 0 from rfl, show pM_puts N9 kp (nI 0) (nI r) mw (nI 0) = _ from jputs0 kp (by omega : 0 < 783) hr mw, jb3]
  exact key 46 0 N9 now _ (by omega) (by omega) ⟨fun k _ => rfl, fun q hq => by simp only [va_up, if_neg hq], by rw [jva, pk_us], fun k hk => absurd hk (by omega)⟩
theorem jputall1 (hN : 70000 < N9) {r : Nat} (hr : r < 3) (now : Nat → Int32) (bf kp : Nat → Nat → Int32) (mw spot : Int32) : ∃ now' bf' kp', pM_putsAll N9 now bf kp mw spot (nI r) 1 = some (now', bf', kp', kp r 0, nI 783) ∧ kp' = kp ∧ (∀ k, k < 46 → now' k = kp r (1 + k)) ∧ ∀ j l, j < 16 → l < 46 → bf' j l = kp r (47 + 46 * j + l) := by
  have key : ∀ u i n (nw : Nat → Int32) (kq : Nat → Nat → Int32), i + u = 46 → u < n → (kq = kp ∧ ∀ k, k < i → nw k = kp r (1 + k)) → ∃ now' bf' kp', pM_putsAll_21 N9 bf (nI r) 1 n nw kq (kp r 0) (nI (1 + i)) (nI i) = some (now', bf', kp', kp r 0, nI 783) ∧ kp' = kp ∧ (∀ k, k < 46 → now' k = kp r (1 + k)) ∧ ∀ j l, j < 16 → l < 46 → bf' j l = kp r (47 + 46 * j + l) := by
    intro u
    induction u with
    | zero =>
      intro i n nw kq hi hn hI
      obtain ⟨n, rfl⟩ : ∃ z, n = z + 1 := ⟨n - 1, by omega⟩
      obtain rfl : i = 46 := by omega
      obtain ⟨h1, h2⟩ := hI
      obtain ⟨bf', kp', e1, g1, g2⟩ := jput53s1 hN hr kp nw (kp r 0) 16 0 N9 bf kq (by omega) (by omega) ⟨h1, fun j l hl hj => absurd hj (by omega)⟩
      refine ⟨nw, bf', kp', ?_, g1, h2, fun j l hj hl => g2 j l hl (Or.inl hj)⟩
      simp only [pM_putsAll_21]
      rw [if_pos (show (46 : Int32) ≤ nI 46 by decide)]
      exact e1
    | succ u ih =>
      intro i n nw kq hi hn hI
      obtain ⟨n, rfl⟩ : ∃ z, n = z + 1 := ⟨n - 1, by omega⟩
      obtain ⟨h1, h2⟩ := hI
      subst h1
      simp only [pM_putsAll_21]
      rw [if_neg (show ¬ (46 : Int32) ≤ nI i from nI_ge (b := 46) (by omega) (by omega)), if_pos (of_eq_true (jzin (by omega : i < 46) (by omega))), jcl (by omega), jputs1 kq (by omega) hr, jb3, nI_1 i, show 1 + i + 1 = 1 + (i + 1) from rfl]
      refine ih (i + 1) n _ _ (by omega) (by omega) ⟨rfl, fun k hk => ?_⟩
      by_cases hki : k = i
      · subst hki; rw [pk_us]
      · rw [pk_un hki]; exact h2 k (by omega)
  unfold pM_putsAll
  rw [show (0 : Int32) = nI 0 from rfl, jputs1 kp (by omega : 0 < 783) hr mw, jb3]
  exact key 46 0 N9 now kp (by omega) (by omega) ⟨rfl, fun k hk => absurd hk (by omega)⟩
theorem jop_image (hN : 70000 < N9) {me_past : Nat → Int32} {me_works : Int32} {m_before : Nat → Nat → Int32} {m_works : Int32} (hm : jMe G me_past me_works m_before m_works) (hs : jSt G B no bo c tk st_now st_born st_age st_passed st_gone st_took st_beasts st_year st_coins row) {me_images : Nat → Nat → Int32} {me_kept : Int32} {m_kept : Nat → Nat → Int32} {m_images : Int32} (hi : jIms G me_images me_kept m_kept m_images) (m_thrown m_spot : Int32) :
    ∃ r im kt th row' bf kp mw ims sp, pX9_image N9 st_now st_born st_age st_passed st_gone st_took st_beasts st_year st_coins me_past me_images me_works me_kept = some (r, im, kt) ∧ pM_image N9 m_thrown row m_before m_kept m_works m_images m_spot = some (r, th, row', bf, kp, mw, ims, sp) ∧ jSt G B no bo c tk st_now st_born st_age st_passed st_gone st_took st_beasts st_year st_coins row' ∧ jMe G me_past me_works bf mw ∧ jIms G im kt kp ims := by
  have hmm := hm
  have hii := hi
  obtain ⟨w, hw, rfl, rfl, hpa⟩ := hm
  obtain ⟨k, hk, rfl, rfl, him⟩ := hi
  unfold pX9_image pX9_image_25 pX3_keepImage pM_image
  by_cases h3 : k = 3
  · subst h3
    simp (disch := omega) only [jb1, jb2, jb3, jb4, jb5, jb6, jb7, jb8, jb9, jb10, jb11, jb12, jb13, jb14, jb15, jb16, jb17, jb18, jb19, jb20, jb21, jb22, jb23, jb24, jb25, jb26, jb27, jb28, jb29, jb30, jb31, jb32, jb33, jb34, jb35, jb36, jb37, jb38, jb39, jb40, jb41, jb42, jb43, jb44, jb45, jb46, jb47, jb48, jb49, jb50, zlet, jlit, jle_t, jle_f, jlt_t, jlt_f, jeq_t, jeq_f, jeqN_f, jNeq_f, jNN, jN1, jadd, jsub, jzin, jcl, if_true, if_false, ite_true, ite_false, not_true, not_false_iff, not_true_eq_false, not_false_eq_true, jB_t, jB_f, jB0_t, jB0_f, jBa, jand11, jand00, ↓reduceIte, Nat.reduceEqDiff, Nat.reduceAdd, Nat.reduceSub]
    exact ⟨_, _, _, _, _, _, _, _, _, _, rfl, rfl, hs, hmm, hii⟩
  · obtain ⟨im1, e1, e2, e3, e4⟩ := jwrite_i1 (N9 := N9) (st_now := st_now) (st_born := st_born) (st_age := st_age) (st_passed := st_passed) (st_gone := st_gone) (st_took := st_took) (st_beasts := st_beasts) (st_year := st_year) (st_coins := st_coins) (va_up me_images k (va_cpy me_past (me_images k) 0 0 720)) (r := k) (o := 720) (by omega) (by omega)
    obtain ⟨now', bf', kp', f1, f2, f3, f4, f5, f6, f7⟩ := jputall0 hN (r := k) (by omega) row m_before m_kept (nI w) m_spot
    rw [show (0 : Int32) = nI 0 from rfl] at f1
    simp (disch := omega) only [jb1, jb2, jb3, jb4, jb5, jb6, jb7, jb8, jb9, jb10, jb11, jb12, jb13, jb14, jb15, jb16, jb17, jb18, jb19, jb20, jb21, jb22, jb23, jb24, jb25, jb26, jb27, jb28, jb29, jb30, jb31, jb32, jb33, jb34, jb35, jb36, jb37, jb38, jb39, jb40, jb41, jb42, jb43, jb44, jb45, jb46, jb47, jb48, jb49, jb50, zlet, jlit, jle_t, jle_f, jlt_t, jlt_f, jeq_t, jeq_f, jeqN_f, jNeq_f, jNN, jN1, jadd, jsub, jzin, jcl, if_true, if_false, ite_true, ite_false, not_true, not_false_iff, not_true_eq_false, not_false_eq_true, jB_t, jB_f, jB0_t, jB0_f, jBa, jand11, jand00, ↓reduceIte, Nat.reduceEqDiff, Nat.reduceAdd, Nat.reduceSub, jzcp, e1, f1]
    refine ⟨_, _, _, _, _, _, _, _, _, _, rfl, rfl, jSt_congr hs (fun b hb => ⟨rfl, rfl, rfl, rfl⟩) (fun g hg => ⟨rfl, rfl⟩) f2, ⟨w, hw, rfl, rfl, fun i hi => (hpa i hi).congr (fun k hk => rfl) (fun l hl => f3 i l (by omega) hl)⟩, ⟨k + 1, by omega, rfl, rfl, fun i hi => ?_⟩⟩
    by_cases hik : i = k
    · subst hik
      rw [jva] at e3
      rw [jva]
      refine ⟨w, hw, pk_us, f5, fun j hj => ?_, ?_⟩
      · refine (hpa j hj).congr (fun l hl => ?_) (fun l hl => f7 j l (by omega) hl)
        rw [pk_un (by omega), e3 _ (Or.inl (by omega)), jcpy (by omega)]
      · refine (e2.past hs (row' := fun k => kp' i (1 + k)) (fun l hl => f6 l hl)).congr (fun l hl => ?_) (fun l hl => rfl)
        rw [pk_un (by omega)]
    · have q1 : va_up im1 k (upd (im1 k) 765 (nI w)) i = me_images i := by
        simp only [va_up, if_neg hik]
        rw [e4 i hik]
        simp only [va_up, if_neg hik]
      rw [q1, f4 i hik]
      exact him i (by omega)
theorem jop_restore (hN : 70000 < N9) {me_past : Nat → Int32} {me_works : Int32} {m_before : Nat → Nat → Int32} {m_works : Int32} (hm : jMe G me_past me_works m_before m_works) (hs : jSt G B no bo c tk st_now st_born st_age st_passed st_gone st_took st_beasts st_year st_coins row) {me_images : Nat → Nat → Int32} {me_kept : Int32} {m_kept : Nat → Nat → Int32} {m_images : Int32} (hi : jIms G me_images me_kept m_kept m_images) (xs m_thrown m_refusedSteps m_spot : Int32) (hrs : xs = m_refusedSteps) :
    ∃ r now born age ps go to be ye co past wk kt rs th row' bf kp mw mrs ims sp, pX9_restore N9 st_now st_born st_age st_passed st_gone st_took st_beasts st_year st_coins me_past me_images me_works me_kept xs = some (r, now, born, age, ps, go, to, be, ye, co, past, wk, kt, rs) ∧ pM_restore N9 m_thrown row m_before m_kept m_works m_refusedSteps m_images m_spot = some (r, th, row', bf, kp, mw, mrs, ims, sp) ∧ (∃ B no bo c tk, jSt G B no bo c tk now born age ps go to be ye co row') ∧ jMe G past wk bf mw ∧ jIms G me_images kt kp ims ∧ rs = mrs := by
  have hmm := hm
  have hii := hi
  obtain ⟨k, hk, rfl, rfl, him⟩ := hi
  unfold pX9_restore pX3_takeImage pM_restore
  by_cases h0 : k = 0
  · subst h0
    simp (disch := omega) only [jb1, jb2, jb3, jb4, jb5, jb6, jb7, jb8, jb9, jb10, jb11, jb12, jb13, jb14, jb15, jb16, jb17, jb18, jb19, jb20, jb21, jb22, jb23, jb24, jb25, jb26, jb27, jb28, jb29, jb30, jb31, jb32, jb33, jb34, jb35, jb36, jb37, jb38, jb39, jb40, jb41, jb42, jb43, jb44, jb45, jb46, jb47, jb48, jb49, jb50, zlet, jlit, jle_t, jle_f, jlt_t, jlt_f, jeq_t, jeq_f, jeqN_f, jNeq_f, jNN, jN1, jadd, jsub, jzin, jcl, if_true, if_false, ite_true, ite_false, not_true, not_false_iff, not_true_eq_false, not_false_eq_true, jB_t, jB_f, jB0_t, jB0_f, jBa, jand11, jand00, ↓reduceIte, Nat.reduceEqDiff, Nat.reduceAdd, Nat.reduceSub]
    exact ⟨_, _, _, _, _, _, _, _, _, _, _, _, _, _, _, _, _, _, _, _, _, _, rfl, rfl, ⟨B, no, bo, c, tk, hs⟩, hmm, hii, hrs⟩
  · obtain ⟨w, hw, i1, i2, i3, i4⟩ := him (k - 1) (by omega)
    obtain ⟨now, born, age, ps, go, to, be, ye, co, B', no', bo', c', tk', h3, h4⟩ := jread_i1 (N9 := N9) (st_now := st_now) (st_born := st_born) (st_age := st_age) (st_passed := st_passed) (st_gone := st_gone) (st_took := st_took) (st_beasts := st_beasts) (st_year := st_year) (st_coins := st_coins) me_images (r := k - 1) (by omega) i4
    obtain ⟨now', bf', kp', f1, rfl, f3, f4⟩ := jputall1 hN (r := k - 1) (by omega) row m_before m_kept m_works m_spot
    rw [show (1 : Int32) = nI 1 from rfl, i2] at f1
    simp (disch := omega) only [jb1, jb2, jb3, jb4, jb5, jb6, jb7, jb8, jb9, jb10, jb11, jb12, jb13, jb14, jb15, jb16, jb17, jb18, jb19, jb20, jb21, jb22, jb23, jb24, jb25, jb26, jb27, jb28, jb29, jb30, jb31, jb32, jb33, jb34, jb35, jb36, jb37, jb38, jb39, jb40, jb41, jb42, jb43, jb44, jb45, jb46, jb47, jb48, jb49, jb50, zlet, jlit, jle_t, jle_f, jlt_t, jlt_f, jeq_t, jeq_f, jeqN_f, jNeq_f, jNN, jN1, jadd, jsub, jzin, jcl, if_true, if_false, ite_true, ite_false, not_true, not_false_iff, not_true_eq_false, not_false_eq_true, jB_t, jB_f, jB0_t, jB0_f, jBa, jand11, jand00, ↓reduceIte, Nat.reduceEqDiff, Nat.reduceAdd, Nat.reduceSub, jzcp, h3, f1, i1]
    exact ⟨_, _, _, _, _, _, _, _, _, _, _, _, _, _, _, _, _, _, _, _, _, _, rfl, rfl, ⟨B', no', bo', c', tk', jSt_congr h4 (fun b hb => ⟨rfl, rfl, rfl, rfl⟩) (fun g hg => ⟨rfl, rfl⟩) f3⟩, ⟨w, hw, rfl, rfl, fun i hi => (i3 i hi).congr (fun l hl => by rw [jcpy (by omega)]) (fun l hl => f4 i l (by omega) hl)⟩, ⟨k - 1, by omega, rfl, rfl, fun i hi => him i (by omega)⟩, rfl⟩
end IM
