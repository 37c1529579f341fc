/-! the tests of the calls' arguments -/
theorem jbadE {N9 : Nat} {rf : Nat → Int32} : pM_bad N9 (nI 0) rf (nI 1) (nI 1) (nI 0) = some (nI 1, nI 1, upd rf 0 (rf 0 + nI 1)) := rfl
theorem jbadA {N9 : Nat} {rf : Nat → Int32} : pM_bad N9 (nI 0) rf (nI 1) (nI 1) (nI 1) = some (nI 1, nI 1, upd rf 1 (rf 1 + nI 1)) := rfl
theorem jbadB {N9 : Nat} {rf : Nat → Int32} : pM_bad N9 (nI 0) rf (nI 1) (nI 2) (nI 1) = some (nI 1, nI 2, upd rf 1 (rf 1 + nI 1)) := rfl
theorem jbadO {N9 : Nat} {rf : Nat → Int32} {w r : Int32} : pM_bad N9 (nI 0) rf (nI 0) w r = some (nI 0, nI 0, rf) := rfl
theorem jnA0 {N9 : Nat} {c : Int32} : pX9_needArgument N9 c (nI 0) = some (nI 2, c + nI 1) := rfl
theorem jnA1 {N9 : Nat} {c : Int32} : pX9_needArgument N9 c (nI 1) = some (nI 0, c) := rfl
theorem jxin' (N9 : Nat) (v lo hi : Int32) : pX9_isWithin N9 v lo hi = some (jB (jin v lo hi)) := jxin N9 v lo hi
theorem jin_pred {x : Int32} {B : Nat} (hB : B ≤ 100) : (∃ b, b < B ∧ x = nI b ∧ jin x (nI 0) (nI B - nI 1) = true) ∨ jin x (nI 0) (nI B - nI 1) = false := by
  cases h : jin x (nI 0) (nI B - nI 1) with
  | false => exact Or.inr rfl
  | true =>
    left
    have h' := h
    unfold jin at h
    rw [Bool.and_eq_true, decide_eq_true_eq, decide_eq_true_eq] at h
    obtain ⟨j, h3, rfl⟩ := nI_of (x := x) (jnle.mpr h.1)
    have hB1 : 1 ≤ B := by
      by_cases hb : 1 ≤ B
      · exact hb
      · have : B = 0 := by omega
        subst this
        have h5 : nI 0 - nI 1 = -nI 1 := by decide
        rw [h5] at h
        exact absurd h.2 (jnlt.mpr (jneg_lt (by omega)))
    rw [jsub hB1] at h
    have := (nI_leI h3 (by omega)).mp h.2
    exact ⟨j, by omega, rfl, rfl⟩
theorem jin_pred_t {b B : Nat} (hb : b < B) (hB : B ≤ 100) : jin (nI b) (nI 0) (nI B - nI 1) = true := by
  rw [jsub (by omega)]
  exact jin_t (by omega) (by omega)
section AR
variable {N9 G B : Nat} {re : Int32} {m_now m_told : Nat → Int32}
theorem jisBeast (h : m_now 42 = nI B) (x : Int32) : pM_isBeast N9 m_now x = some (jB (jin x (nI 0) (nI B - nI 1))) := by
  unfold pM_isBeast
  have h2 := jmin_ N9 x (nI 0) (nI B - nI 1)
  cases hj : jin x (nI 0) (nI B - nI 1)
  · rw [hj] at h2; simp (disch := omega) only [jb1, jb2, jb3, jb4, jb5, jb6, jb7, jb8, jb9, jb10, jb11, jb12, jb13, jb14, jb15, jb16, jb17, jb18, jb19, jb20, jb21, jb22, jb23, jb24, jb25, jb26, jb27, jb28, jb29, jb30, jb31, jb32, jb33, jb34, jb35, jb36, jb37, jb38, jb39, jb40, jb41, jb42, jb43, jb44, jb45, jb46, jb47, jb48, jb49, jb50, zlet, jlit, jle_t, jle_f, jlt_t, jlt_f, jeq_t, jeq_f, jeqN_f, jNeq_f, jNN, jN1, jadd, jsub, jzin, jcl, if_true, if_false, ite_true, ite_false, not_true, not_false_iff, not_true_eq_false, not_false_eq_true, jB_t, jB_f, jB0_t, jB0_f, jBa, jand11, jand00, ↓reduceIte, Nat.reduceEqDiff, Nat.reduceAdd, Nat.reduceSub, h, h2]
  · rw [hj] at h2; simp (disch := omega) only [jb1, jb2, jb3, jb4, jb5, jb6, jb7, jb8, jb9, jb10, jb11, jb12, jb13, jb14, jb15, jb16, jb17, jb18, jb19, jb20, jb21, jb22, jb23, jb24, jb25, jb26, jb27, jb28, jb29, jb30, jb31, jb32, jb33, jb34, jb35, jb36, jb37, jb38, jb39, jb40, jb41, jb42, jb43, jb44, jb45, jb46, jb47, jb48, jb49, jb50, zlet, jlit, jle_t, jle_f, jlt_t, jlt_f, jeq_t, jeq_f, jeqN_f, jNeq_f, jNN, jN1, jadd, jsub, jzin, jcl, if_true, if_false, ite_true, ite_false, not_true, not_false_iff, not_true_eq_false, not_false_eq_true, jB_t, jB_f, jB0_t, jB0_f, jBa, jand11, jand00, ↓reduceIte, Nat.reduceEqDiff, Nat.reduceAdd, Nat.reduceSub, h, h2]
theorem jisGate (h : m_told 1 = nI G) (x : Int32) : pM_isGate N9 m_told x = some (jB (jin x (nI 0) (nI G - nI 1))) := by
  unfold pM_isGate
  have h2 := jmin_ N9 x (nI 0) (nI G - nI 1)
  cases hj : jin x (nI 0) (nI G - nI 1)
  · rw [hj] at h2; simp (disch := omega) only [jb1, jb2, jb3, jb4, jb5, jb6, jb7, jb8, jb9, jb10, jb11, jb12, jb13, jb14, jb15, jb16, jb17, jb18, jb19, jb20, jb21, jb22, jb23, jb24, jb25, jb26, jb27, jb28, jb29, jb30, jb31, jb32, jb33, jb34, jb35, jb36, jb37, jb38, jb39, jb40, jb41, jb42, jb43, jb44, jb45, jb46, jb47, jb48, jb49, jb50, zlet, jlit, jle_t, jle_f, jlt_t, jlt_f, jeq_t, jeq_f, jeqN_f, jNeq_f, jNN, jN1, jadd, jsub, jzin, jcl, if_true, if_false, ite_true, ite_false, not_true, not_false_iff, not_true_eq_false, not_false_eq_true, jB_t, jB_f, jB0_t, jB0_f, jBa, jand11, jand00, ↓reduceIte, Nat.reduceEqDiff, Nat.reduceAdd, Nat.reduceSub, h, h2]
  · rw [hj] at h2; simp (disch := omega) only [jb1, jb2, jb3, jb4, jb5, jb6, jb7, jb8, jb9, jb10, jb11, jb12, jb13, jb14, jb15, jb16, jb17, jb18, jb19, jb20, jb21, jb22, jb23, jb24, jb25, jb26, jb27, jb28, jb29, jb30, jb31, jb32, jb33, jb34, jb35, jb36, jb37, jb38, jb39, jb40, jb41, jb42, jb43, jb44, jb45, jb46, jb47, jb48, jb49, jb50, zlet, jlit, jle_t, jle_f, jlt_t, jlt_f, jeq_t, jeq_f, jeqN_f, jNeq_f, jNN, jN1, jadd, jsub, jzin, jcl, if_true, if_false, ite_true, ite_false, not_true, not_false_iff, not_true_eq_false, not_false_eq_true, jB_t, jB_f, jB0_t, jB0_f, jBa, jand11, jand00, ↓reduceIte, Nat.reduceEqDiff, Nat.reduceAdd, Nat.reduceSub, h, h2]
theorem jneedB (x : Int32) : pX9_needBeast N9 (nI B) re x = some (if jin x (nI 0) (nI B - nI 1) = true then (nI 0, re) else (nI 1, re + nI 1)) := by
  unfold pX9_needBeast
  have h2 := jxin N9 x (nI 0) (nI B - nI 1)
  cases hj : jin x (nI 0) (nI B - nI 1)
  · rw [hj] at h2; simp (disch := omega) only [jb1, jb2, jb3, jb4, jb5, jb6, jb7, jb8, jb9, jb10, jb11, jb12, jb13, jb14, jb15, jb16, jb17, jb18, jb19, jb20, jb21, jb22, jb23, jb24, jb25, jb26, jb27, jb28, jb29, jb30, jb31, jb32, jb33, jb34, jb35, jb36, jb37, jb38, jb39, jb40, jb41, jb42, jb43, jb44, jb45, jb46, jb47, jb48, jb49, jb50, zlet, jlit, jle_t, jle_f, jlt_t, jlt_f, jeq_t, jeq_f, jeqN_f, jNeq_f, jNN, jN1, jadd, jsub, jzin, jcl, if_true, if_false, ite_true, ite_false, not_true, not_false_iff, not_true_eq_false, not_false_eq_true, jB_t, jB_f, jB0_t, jB0_f, jBa, jand11, jand00, ↓reduceIte, Nat.reduceEqDiff, Nat.reduceAdd, Nat.reduceSub, h2, pX9_needElement, Bool.false_eq_true]
  · rw [hj] at h2; simp (disch := omega) only [jb1, jb2, jb3, jb4, jb5, jb6, jb7, jb8, jb9, jb10, jb11, jb12, jb13, jb14, jb15, jb16, jb17, jb18, jb19, jb20, jb21, jb22, jb23, jb24, jb25, jb26, jb27, jb28, jb29, jb30, jb31, jb32, jb33, jb34, jb35, jb36, jb37, jb38, jb39, jb40, jb41, jb42, jb43, jb44, jb45, jb46, jb47, jb48, jb49, jb50, zlet, jlit, jle_t, jle_f, jlt_t, jlt_f, jeq_t, jeq_f, jeqN_f, jNeq_f, jNN, jN1, jadd, jsub, jzin, jcl, if_true, if_false, ite_true, ite_false, not_true, not_false_iff, not_true_eq_false, not_false_eq_true, jB_t, jB_f, jB0_t, jB0_f, jBa, jand11, jand00, ↓reduceIte, Nat.reduceEqDiff, Nat.reduceAdd, Nat.reduceSub, h2, pX9_needElement]
theorem jneedG (x : Int32) : pX9_needGate N9 (nI G) re x = some (if jin x (nI 0) (nI G - nI 1) = true then (nI 0, re) else (nI 1, re + nI 1)) := by
  unfold pX9_needGate
  have h2 := jxin N9 x (nI 0) (nI G - nI 1)
  cases hj : jin x (nI 0) (nI G - nI 1)
  · rw [hj] at h2; simp (disch := omega) only [jb1, jb2, jb3, jb4, jb5, jb6, jb7, jb8, jb9, jb10, jb11, jb12, jb13, jb14, jb15, jb16, jb17, jb18, jb19, jb20, jb21, jb22, jb23, jb24, jb25, jb26, jb27, jb28, jb29, jb30, jb31, jb32, jb33, jb34, jb35, jb36, jb37, jb38, jb39, jb40, jb41, jb42, jb43, jb44, jb45, jb46, jb47, jb48, jb49, jb50, zlet, jlit, jle_t, jle_f, jlt_t, jlt_f, jeq_t, jeq_f, jeqN_f, jNeq_f, jNN, jN1, jadd, jsub, jzin, jcl, if_true, if_false, ite_true, ite_false, not_true, not_false_iff, not_true_eq_false, not_false_eq_true, jB_t, jB_f, jB0_t, jB0_f, jBa, jand11, jand00, ↓reduceIte, Nat.reduceEqDiff, Nat.reduceAdd, Nat.reduceSub, h2, pX9_needElement, Bool.false_eq_true]
  · rw [hj] at h2; simp (disch := omega) only [jb1, jb2, jb3, jb4, jb5, jb6, jb7, jb8, jb9, jb10, jb11, jb12, jb13, jb14, jb15, jb16, jb17, jb18, jb19, jb20, jb21, jb22, jb23, jb24, jb25, jb26, jb27, jb28, jb29, jb30, jb31, jb32, jb33, jb34, jb35, jb36, jb37, jb38, jb39, jb40, jb41, jb42, jb43, jb44, jb45, jb46, jb47, jb48, jb49, jb50, zlet, jlit, jle_t, jle_f, jlt_t, jlt_f, jeq_t, jeq_f, jeqN_f, jNeq_f, jNN, jN1, jadd, jsub, jzin, jcl, if_true, if_false, ite_true, ite_false, not_true, not_false_iff, not_true_eq_false, not_false_eq_true, jB_t, jB_f, jB0_t, jB0_f, jBa, jand11, jand00, ↓reduceIte, Nat.reduceEqDiff, Nat.reduceAdd, Nat.reduceSub, h2, pX9_needElement]
theorem jcase_b (h : m_now 42 = nI B) (hB : B ≤ 8) (x : Int32) :
    (∃ b, b < B ∧ x = nI b ∧ pX9_needBeast N9 (nI B) re x = some (nI 0, re) ∧ pM_isBeast N9 m_now x = some (nI 1)) ∨ (pX9_needBeast N9 (nI B) re x = some (nI 1, re + nI 1) ∧ pM_isBeast N9 m_now x = some (nI 0)) := by
  rw [jneedB, jisBeast h]
  rcases jin_pred (x := x) (B := B) (by omega) with ⟨b, h1, h2, h3⟩ | h3
  · rw [h3]; exact Or.inl ⟨b, h1, h2, rfl, rfl⟩
  · rw [h3]; exact Or.inr ⟨rfl, rfl⟩
theorem jcase_g (h : m_told 1 = nI G) (hG : G ≤ 5) (x : Int32) :
    (∃ g, g < G ∧ x = nI g ∧ pX9_needGate N9 (nI G) re x = some (nI 0, re) ∧ pM_isGate N9 m_told x = some (nI 1)) ∨ (pX9_needGate N9 (nI G) re x = some (nI 1, re + nI 1) ∧ pM_isGate N9 m_told x = some (nI 0)) := by
  rw [jneedG, jisGate h]
  rcases jin_pred (x := x) (B := G) (by omega) with ⟨b, h1, h2, h3⟩ | h3
  · rw [h3]; exact Or.inl ⟨b, h1, h2, rfl, rfl⟩
  · rw [h3]; exact Or.inr ⟨rfl, rfl⟩
theorem jcase_bg (h : m_now 42 = nI B) (hB : B ≤ 8) (h' : m_told 1 = nI G) (hG : G ≤ 5) (x y : Int32) :
    (∃ b g, b < B ∧ g < G ∧ x = nI b ∧ y = nI g ∧ pX9_needBeastAndGate N9 (nI G) (nI B) re x y = some (nI 0, re) ∧ pM_isBeast N9 m_now x = some (nI 1) ∧ pM_isGate N9 m_told y = some (nI 1)) ∨
    (pX9_needBeastAndGate N9 (nI G) (nI B) re x y = some (nI 1, re + nI 1) ∧ (pM_isBeast N9 m_now x = some (nI 0) ∨ (pM_isBeast N9 m_now x = some (nI 1) ∧ pM_isGate N9 m_told y = some (nI 0)))) := by
  unfold pX9_needBeastAndGate
  rcases jcase_b (N9 := N9) (re := re) h hB x with ⟨b, h1, h2, h3, h4⟩ | ⟨h3, h4⟩
  · rcases jcase_g (N9 := N9) (re := re) h' hG y with ⟨g, g1, g2, g3, g4⟩ | ⟨g3, g4⟩
    · simp (disch := omega) only [jb1, jb2, jb3, jb4, jb5, jb6, jb7, jb8, jb9, jb10, jb11, jb12, jb13, jb14, jb15, jb16, jb17, jb18, jb19, jb20, jb21, jb22, jb23, jb24, jb25, jb26, jb27, jb28, jb29, jb30, jb31, jb32, jb33, jb34, jb35, jb36, jb37, jb38, jb39, jb40, jb41, jb42, jb43, jb44, jb45, jb46, jb47, jb48, jb49, jb50, zlet, jlit, jle_t, jle_f, jlt_t, jlt_f, jeq_t, jeq_f, jeqN_f, jNeq_f, jNN, jN1, jadd, jsub, jzin, jcl, if_true, if_false, ite_true, ite_false, not_true, not_false_iff, not_true_eq_false, not_false_eq_true, jB_t, jB_f, jB0_t, jB0_f, jBa, jand11, jand00, ↓reduceIte, Nat.reduceEqDiff, Nat.reduceAdd, Nat.reduceSub, h3, g3]
      exact Or.inl ⟨b, g, h1, g1, h2, g2, trivial, h4, g4⟩
    · simp (disch := omega) only [jb1, jb2, jb3, jb4, jb5, jb6, jb7, jb8, jb9, jb10, jb11, jb12, jb13, jb14, jb15, jb16, jb17, jb18, jb19, jb20, jb21, jb22, jb23, jb24, jb25, jb26, jb27, jb28, jb29, jb30, jb31, jb32, jb33, jb34, jb35, jb36, jb37, jb38, jb39, jb40, jb41, jb42, jb43, jb44, jb45, jb46, jb47, jb48, jb49, jb50, zlet, jlit, jle_t, jle_f, jlt_t, jlt_f, jeq_t, jeq_f, jeqN_f, jNeq_f, jNN, jN1, jadd, jsub, jzin, jcl, if_true, if_false, ite_true, ite_false, not_true, not_false_iff, not_true_eq_false, not_false_eq_true, jB_t, jB_f, jB0_t, jB0_f, jBa, jand11, jand00, ↓reduceIte, Nat.reduceEqDiff, Nat.reduceAdd, Nat.reduceSub, h3, g3]
      exact Or.inr ⟨trivial, Or.inr ⟨h4, g4⟩⟩
  · simp (disch := omega) only [jb1, jb2, jb3, jb4, jb5, jb6, jb7, jb8, jb9, jb10, jb11, jb12, jb13, jb14, jb15, jb16, jb17, jb18, jb19, jb20, jb21, jb22, jb23, jb24, jb25, jb26, jb27, jb28, jb29, jb30, jb31, jb32, jb33, jb34, jb35, jb36, jb37, jb38, jb39, jb40, jb41, jb42, jb43, jb44, jb45, jb46, jb47, jb48, jb49, jb50, zlet, jlit, jle_t, jle_f, jlt_t, jlt_f, jeq_t, jeq_f, jeqN_f, jNeq_f, jNN, jN1, jadd, jsub, jzin, jcl, if_true, if_false, ite_true, ite_false, not_true, not_false_iff, not_true_eq_false, not_false_eq_true, jB_t, jB_f, jB0_t, jB0_f, jBa, jand11, jand00, ↓reduceIte, Nat.reduceEqDiff, Nat.reduceAdd, Nat.reduceSub, h3]
    exact Or.inr ⟨trivial, Or.inl h4⟩
/-- an argument within 0 to a -/
theorem jcase_a (N9 : Nat) {a : Nat} (ha : a < 2147483648) (x : Int32) : (∃ k, k ≤ a ∧ x = nI k ∧ pX9_isWithin N9 x (nI 0) (nI a) = some (nI 1) ∧ pM_in N9 x (nI 0) (nI a) = some (nI 1)) ∨ (pX9_isWithin N9 x (nI 0) (nI a) = some (nI 0) ∧ pM_in N9 x (nI 0) (nI a) = some (nI 0)) := by
  rw [jxin, jmin_]
  rcases jin_bool (v := x) ha with ⟨k, h1, h2, h3⟩ | h3
  · rw [h3]; exact Or.inl ⟨k, h1, h2, rfl, rfl⟩
  · rw [h3]; exact Or.inr ⟨rfl, rfl⟩
end AR
