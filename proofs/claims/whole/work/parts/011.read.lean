theorem jwhile2 {R : Type} (Lp : Nat → Nat → Option R) (p : Nat → Bool) (r : Nat → Option R) (lo n : Nat) (hs : ∀ q a, lo ≤ a → a < n → p a = true → Lp (q + 1) a = Lp q (a + 1)) (hx : ∀ q a, lo ≤ a → a ≤ n → (a < n → p a = false) → Lp (q + 1) a = r a) :
    ∀ u a q, lo ≤ a → a + u = n → u < q → Lp q a = r (jwh p u a) := by
  intro u
  induction u with
  | zero =>
    intro a q h0 h1 h2
    obtain ⟨q, rfl⟩ : ∃ z, q = z + 1 := ⟨q - 1, by omega⟩
    exact hx q a h0 (by omega) (fun h => absurd h (by omega))
  | succ u ih =>
    intro a q h0 h1 h2
    obtain ⟨q, rfl⟩ : ∃ z, q = z + 1 := ⟨q - 1, by omega⟩
    rw [jwh]
    by_cases hp : p a = true
    · rw [if_pos hp, hs q a h0 (by omega) hp]
      exact ih (a + 1) q (by omega) (by omega) (by omega)
    · rw [if_neg hp]
      exact hx q a h0 (by omega) (fun _ => Bool.eq_false_iff.mpr hp)
section RD
variable {n : Nat} {by' : Nat → Nat} {tp_bytes m_fed : Nat → Int32} {N9 : Nat}
/-- signs -/
theorem jtakeX (hN : 70000 < N9) (ht : jTx n by' tp_bytes m_fed) {a : Nat} (ha : a ≤ n) (fk fp s : Int32) : pX8_takeSign N9 tp_bytes (nI n) (nI a) fk fp s = some (if jby n by' (jsk n by' a) = s then (nI 1, nI (jsk n by' a + 1), fk, fp) else (nI 0, nI (jsk n by' a), nI 1, nI (jsk n by' a))) := by
  unfold pX8_takeSign pX8_refuse
  rw [jsignX hN ht ha]
  simp (disch := omega) only [jb1, jb2, jb3, jb4, jb5, jb6, jb7, jb8, jb9, jb10, jb11, jb12, jb13, jb14, jb15, jb16, jb17, jb18, jb19, jb20, jb21, jb22, jb23, jb24, jb25, jb26, jb27, jb28, jb29, jb30, jb31, jb32, jb33, jb34, jb35, jb36, jb37, jb38, jb39, jb40, jb41, jb42, jb43, jb44, jb45, jb46, jb47, jb48, jb49, jb50, zlet, jlit, jle_t, jle_f, jlt_t, jlt_f, jeq_t, jeq_f, jeqN_f, jNeq_f, jNN, jN1, jadd, jsub, jzin, jcl, if_true, if_false, ite_true, ite_false, not_true, not_false_iff, not_true_eq_false, not_false_eq_true, jB_t, jB_f, jB0_t, jB0_f, jBa, jand11, jand00, ↓reduceIte, Nat.reduceEqDiff, Nat.reduceAdd, Nat.reduceSub]
  split <;> rfl
theorem jsignM (hN : 70000 < N9) (ht : jTx n by' tp_bytes m_fed) {a : Nat} (ha : a ≤ n) (fp s : Int32) : pM_sign N9 (nI n) (nI a) (nI 0) fp m_fed s = some (if jby n by' (jsk n by' a) = s then (nI (jsk n by' a + 1), nI 0, fp) else (nI (jsk n by' a), nI 1, nI (jsk n by' a))) := by
  have hk := jsk_rng (by' := by') ha
  unfold pM_sign pM_sign_46 pM_wrong pM_wrong_17
  simp (disch := omega) only [jb1, jb2, jb3, jb4, jb5, jb6, jb7, jb8, jb9, jb10, jb11, jb12, jb13, jb14, jb15, jb16, jb17, jb18, jb19, jb20, jb21, jb22, jb23, jb24, jb25, jb26, jb27, jb28, jb29, jb30, jb31, jb32, jb33, jb34, jb35, jb36, jb37, jb38, jb39, jb40, jb41, jb42, jb43, jb44, jb45, jb46, jb47, jb48, jb49, jb50, zlet, jlit, jle_t, jle_f, jlt_t, jlt_f, jeq_t, jeq_f, jeqN_f, jNeq_f, jNN, jN1, jadd, jsub, jzin, jcl, if_true, if_false, ite_true, ite_false, not_true, not_false_iff, not_true_eq_false, not_false_eq_true, jB_t, jB_f, jB0_t, jB0_f, jBa, jand11, jand00, ↓reduceIte, Nat.reduceEqDiff, Nat.reduceAdd, Nat.reduceSub, jblankM hN ht ha, jbyteAt ht hk.2]
  split <;> rfl
theorem jsignMf {N9 : Nat} {sz a f fp s : Int32} {fed : Nat → Int32} (hf : f ≠ nI 0) : pM_sign N9 sz a f fp fed s = some (a, f, fp) := by
  unfold pM_sign
  rw [if_neg (show ¬ f = 0 from hf)]
theorem jtakesM (hN : 70000 < N9) (ht : jTx n by' tp_bytes m_fed) {a : Nat} (ha : a ≤ n) (s : Int32) : pM_takesSign N9 (nI n) (nI a) (nI 0) m_fed s = some (if jby n by' (jsk n by' a) = s then (nI 1, nI (jsk n by' a + 1)) else (nI 0, nI (jsk n by' a))) := by
  have hk := jsk_rng (by' := by') ha
  unfold pM_takesSign pM_takesSign_30 pM_takesSign_45
  simp (disch := omega) only [jb1, jb2, jb3, jb4, jb5, jb6, jb7, jb8, jb9, jb10, jb11, jb12, jb13, jb14, jb15, jb16, jb17, jb18, jb19, jb20, jb21, jb22, jb23, jb24, jb25, jb26, jb27, jb28, jb29, jb30, jb31, jb32, jb33, jb34, jb35, jb36, jb37, jb38, jb39, jb40, jb41, jb42, jb43, jb44, jb45, jb46, jb47, jb48, jb49, jb50, zlet, jlit, jle_t, jle_f, jlt_t, jlt_f, jeq_t, jeq_f, jeqN_f, jNeq_f, jNN, jN1, jadd, jsub, jzin, jcl, if_true, if_false, ite_true, ite_false, not_true, not_false_iff, not_true_eq_false, not_false_eq_true, jB_t, jB_f, jB0_t, jB0_f, jBa, jand11, jand00, ↓reduceIte, Nat.reduceEqDiff, Nat.reduceAdd, Nat.reduceSub, jblankM hN ht ha, jbyteAt ht hk.2]
  split <;> rfl
theorem jby_lt {a : Nat} {s : Nat} (h : jby n by' a = nI s) (hs : s < 2147483648) : a < n := by
  unfold jby at h
  split at h
  · assumption
  · rw [jNeq_f hs] at h; exact h.elim
/-- numbers -/
theorem jval_step {k m : Nat} (hd : jdigit (by' (k + m)) = true) : zmin (nI (jval by' k m) * nI 10 + nI (by' (k + m)) - nI 48) (nI 100000) = nI (jval by' k (m + 1)) := by
  have h1 := jval_le by' k m
  unfold jdigit at hd
  rw [Bool.and_eq_true, decide_eq_true_eq, decide_eq_true_eq] at hd
  rw [jmul, jadd, jsub (by omega), zmin, jval]
  by_cases h : 10 * jval by' k m + (by' (k + m) - 48) ≤ 100000
  · rw [if_pos h]
    by_cases h2 : 100000 < jval by' k m * 10 + by' (k + m) - 48
    · omega
    · rw [if_neg (nI_nlt (by omega) (by omega))]
      congr 1
      omega
  · rw [if_neg h]
    rw [if_pos (nI_lt (by omega) (by omega))]
theorem jnumX (hN : 70000 < N9) (ht : jTx n by' tp_bytes m_fed) {a : Nat} (ha : a ≤ n) (np fk fp hi : Int32) : pX8_readNumber N9 tp_bytes (nI n) (nI a) np fk fp hi =
    some (if jdi n by' (jsk n by' a) = jsk n by' a then (-nI 1, nI (jsk n by' a), nI (jsk n by' a), nI 1, nI (jsk n by' a))
      else if nI (jval by' (jsk n by' a) (jdi n by' (jsk n by' a) - jsk n by' a)) ≤ hi then (nI (jval by' (jsk n by' a) (jdi n by' (jsk n by' a) - jsk n by' a)), nI (jdi n by' (jsk n by' a)), nI (jsk n by' a), fk, fp)
      else (-nI 1, nI (jdi n by' (jsk n by' a)), nI (jsk n by' a), nI 2, nI (jsk n by' a))) := by
  have hn := ht.1
  have hk := jsk_rng (by' := by') ha
  unfold pX8_readNumber
  rw [jsignX hN ht ha, jb2]
  generalize jsk n by' a = k at hk
  have key := jwhile2 (fun q a' => pX8_readNumber_15 N9 tp_bytes (nI n) fk fp hi q (nI a') (nI k) (nI (jval by' k (a' - k)))) (fun i => jdigit (by' i)) (fun e => some (if e = k then (-nI 1, nI k, nI k, nI 1, nI k) else if nI (jval by' k (e - k)) ≤ hi then (nI (jval by' k (e - k)), nI e, nI k, fk, fp) else (-nI 1, nI e, nI k, nI 2, nI k))) k n ?_ ?_ (n - k) k N9 (Nat.le_refl k) (by omega) (by omega)
  · rw [Nat.sub_self] at key
    exact key
  · intro q a' h0 h1 h2
    obtain ⟨h0', h3, -⟩ := ht.2 a' h1
    have h5 : pX8_isDigit N9 (nI (by' a')) = some (jB true) := by rw [jdigN h0', h2]
    simp only [pX8_readNumber_15]
    have h4 := jval_step (by' := by') (k := k) (m := a' - k) (by rw [Nat.add_sub_cancel' h0]; exact h2)
    rw [Nat.add_sub_cancel' h0] at h4
    simp (disch := omega) only [jb1, jb2, jb3, jb4, jb5, jb6, jb7, jb8, jb9, jb10, jb11, jb12, jb13, jb14, jb15, jb16, jb17, jb18, jb19, jb20, jb21, jb22, jb23, jb24, jb25, jb26, jb27, jb28, jb29, jb30, jb31, jb32, jb33, jb34, jb35, jb36, jb37, jb38, jb39, jb40, jb41, jb42, jb43, jb44, jb45, jb46, jb47, jb48, jb49, jb50, zlet, jlit, jle_t, jle_f, jlt_t, jlt_f, jeq_t, jeq_f, jeqN_f, jNeq_f, jNN, jN1, jadd, jsub, jzin, jcl, if_true, if_false, ite_true, ite_false, not_true, not_false_iff, not_true_eq_false, not_false_eq_true, jB_t, jB_f, jB0_t, jB0_f, jBa, jand11, jand00, ↓reduceIte, Nat.reduceEqDiff, Nat.reduceAdd, Nat.reduceSub, h3, h5, h4]
    rw [show a' + 1 - k = a' - k + 1 by omega]
  · intro q a' h0 h1 h2
    have h5 : pX8_readNumber_15 N9 tp_bytes (nI n) fk fp hi (q + 1) (nI a') (nI k) (nI (jval by' k (a' - k))) = pX8_readNumber_77 N9 (nI k) fk fp hi (nI a') (nI (jval by' k (a' - k))) := by
      simp only [pX8_readNumber_15]
      by_cases h : a' < n
      · obtain ⟨h3, h4, -⟩ := ht.2 a' h
        have h5 : pX8_isDigit N9 (nI (by' a')) = some (jB false) := by rw [jdigN h3, h2 h]
        simp (disch := omega) only [jb1, jb2, jb3, jb4, jb5, jb6, jb7, jb8, jb9, jb10, jb11, jb12, jb13, jb14, jb15, jb16, jb17, jb18, jb19, jb20, jb21, jb22, jb23, jb24, jb25, jb26, jb27, jb28, jb29, jb30, jb31, jb32, jb33, jb34, jb35, jb36, jb37, jb38, jb39, jb40, jb41, jb42, jb43, jb44, jb45, jb46, jb47, jb48, jb49, jb50, zlet, jlit, jle_t, jle_f, jlt_t, jlt_f, jeq_t, jeq_f, jeqN_f, jNeq_f, jNN, jN1, jadd, jsub, jzin, jcl, if_true, if_false, ite_true, ite_false, not_true, not_false_iff, not_true_eq_false, not_false_eq_true, jB_t, jB_f, jB0_t, jB0_f, jBa, jand11, jand00, ↓reduceIte, Nat.reduceEqDiff, Nat.reduceAdd, Nat.reduceSub, h4, h5]
      · simp (disch := omega) only [jb1, jb2, jb3, jb4, jb5, jb6, jb7, jb8, jb9, jb10, jb11, jb12, jb13, jb14, jb15, jb16, jb17, jb18, jb19, jb20, jb21, jb22, jb23, jb24, jb25, jb26, jb27, jb28, jb29, jb30, jb31, jb32, jb33, jb34, jb35, jb36, jb37, jb38, jb39, jb40, jb41, jb42, jb43, jb44, jb45, jb46, jb47, jb48, jb49, jb50, zlet, jlit, jle_t, jle_f, jlt_t, jlt_f, jeq_t, jeq_f, jeqN_f, jNeq_f, jNN, jN1, jadd, jsub, jzin, jcl, if_true, if_false, ite_true, ite_false, not_true, not_false_iff, not_true_eq_false, not_false_eq_true, jB_t, jB_f, jB0_t, jB0_f, jBa, jand11, jand00, ↓reduceIte, Nat.reduceEqDiff, Nat.reduceAdd, Nat.reduceSub]
    show pX8_readNumber_15 N9 tp_bytes (nI n) fk fp hi (q + 1) (nI a') (nI k) (nI (jval by' k (a' - k))) = _
    rw [h5]
    simp only [pX8_readNumber_77, pX8_refuse]
    by_cases h6 : a' = k
    · subst h6
      simp (disch := omega) only [jb1, jb2, jb3, jb4, jb5, jb6, jb7, jb8, jb9, jb10, jb11, jb12, jb13, jb14, jb15, jb16, jb17, jb18, jb19, jb20, jb21, jb22, jb23, jb24, jb25, jb26, jb27, jb28, jb29, jb30, jb31, jb32, jb33, jb34, jb35, jb36, jb37, jb38, jb39, jb40, jb41, jb42, jb43, jb44, jb45, jb46, jb47, jb48, jb49, jb50, zlet, jlit, jle_t, jle_f, jlt_t, jlt_f, jeq_t, jeq_f, jeqN_f, jNeq_f, jNN, jN1, jadd, jsub, jzin, jcl, if_true, if_false, ite_true, ite_false, not_true, not_false_iff, not_true_eq_false, not_false_eq_true, jB_t, jB_f, jB0_t, jB0_f, jBa, jand11, jand00, ↓reduceIte, Nat.reduceEqDiff, Nat.reduceAdd, Nat.reduceSub]
    · simp (disch := omega) only [jb1, jb2, jb3, jb4, jb5, jb6, jb7, jb8, jb9, jb10, jb11, jb12, jb13, jb14, jb15, jb16, jb17, jb18, jb19, jb20, jb21, jb22, jb23, jb24, jb25, jb26, jb27, jb28, jb29, jb30, jb31, jb32, jb33, jb34, jb35, jb36, jb37, jb38, jb39, jb40, jb41, jb42, jb43, jb44, jb45, jb46, jb47, jb48, jb49, jb50, zlet, jlit, jle_t, jle_f, jlt_t, jlt_f, jeq_t, jeq_f, jeqN_f, jNeq_f, jNN, jN1, jadd, jsub, jzin, jcl, if_true, if_false, ite_true, ite_false, not_true, not_false_iff, not_true_eq_false, not_false_eq_true, jB_t, jB_f, jB0_t, jB0_f, jBa, jand11, jand00, ↓reduceIte, Nat.reduceEqDiff, Nat.reduceAdd, Nat.reduceSub]
      rw [if_neg h6]
      split <;> rfl
theorem jdig0 {k : Nat} (hk : k ≤ n) : (decide (k < n) && jdigit (by' k)) = false ↔ jdi n by' k = k := by
  constructor
  · intro h
    unfold jdi
    cases hq : n - k with
    | zero => rfl
    | succ q =>
      rw [decide_eq_true (by omega), Bool.true_and] at h
      rw [jwh, h]
      rfl
  · intro h
    by_cases hk2 : k < n
    · rw [decide_eq_true hk2, Bool.true_and]
      have := jwh_out (fun i => jdigit (by' i)) (n - k) k (by unfold jdi at h; omega)
      unfold jdi at h
      rw [h] at this
      exact this
    · rw [decide_eq_false hk2, Bool.false_and]
theorem jnumM (hN : 70000 < N9) (ht : jTx n by' tp_bytes m_fed) {a : Nat} (ha : a ≤ n) (fp hi : Int32) : pM_number N9 (nI n) (nI a) (nI 0) fp m_fed (nI 0) hi =
    some (if jdi n by' (jsk n by' a) = jsk n by' a then (nI 0, nI (jsk n by' a), nI 1, nI (jsk n by' a))
      else if nI (jval by' (jsk n by' a) (jdi n by' (jsk n by' a) - jsk n by' a)) ≤ hi then (nI (jval by' (jsk n by' a) (jdi n by' (jsk n by' a) - jsk n by' a)), nI (jdi n by' (jsk n by' a)), nI 0, fp)
      else (nI 0, nI (jdi n by' (jsk n by' a)), nI 2, nI (jsk n by' a))) := by
  have hn := ht.1
  have hb : ∀ i, i < n → by' i < 256 := fun i hi => (ht.2 i hi).1
  have hk := jsk_rng (by' := by') ha
  unfold pM_number
  rw [if_pos (show nI 0 = 0 from rfl), jblankM hN ht ha, jb1]
  generalize jsk n by' a = k at hk
  rw [jbyteAt ht hk.2, jb1, jdigM, jdigB hb, jb1]
  have loop : ∀ (f g : Int32), ∀ u a' q, k ≤ a' → a' + u = n → u < q → pM_number_44 N9 (nI n) m_fed (nI 0) hi q (nI a') f g (nI k) (nI (jval by' k (a' - k))) = zb2 (if nI (jval by' k (jwh (fun i => jdigit (by' i)) u a' - k)) ≤ hi then some (f, g) else pM_wrong N9 f g (nI 2) (nI k)) (fun f' g' => pM_number_122 N9 (nI (jwh (fun i => jdigit (by' i)) u a')) f' g' (nI (jval by' k (jwh (fun i => jdigit (by' i)) u a' - k)))) := by
    intro f g
    refine jwhile2 (fun q a' => pM_number_44 N9 (nI n) m_fed (nI 0) hi q (nI a') f g (nI k) (nI (jval by' k (a' - k)))) (fun i => jdigit (by' i)) (fun e => zb2 (if nI (jval by' k (e - k)) ≤ hi then some (f, g) else pM_wrong N9 f g (nI 2) (nI k)) (fun f' g' => pM_number_122 N9 (nI e) f' g' (nI (jval by' k (e - k))))) k n ?_ ?_
    · intro q a' h0 h1 h2
      simp only [pM_number_44, pM_number_91]
      rw [jbyteAt ht (by omega), jb1, jdigM, jdigB hb, h2, decide_eq_true h1]
      have h4 := jval_step (by' := by') (k := k) (m := a' - k) (by rw [Nat.add_sub_cancel' h0]; exact h2)
      rw [Nat.add_sub_cancel' h0] at h4
      have h6 : nI 10 * nI (jval by' k (a' - k)) = nI (jval by' k (a' - k)) * nI 10 := by rw [jmul, jmul, Nat.mul_comm]
      unfold zmin at h4
      rw [show a' + 1 - k = a' - k + 1 by omega, ← h4]
      simp (disch := omega) only [jb1, jb2, jb3, jb4, jb5, jb6, jb7, jb8, jb9, jb10, jb11, jb12, jb13, jb14, jb15, jb16, jb17, jb18, jb19, jb20, jb21, jb22, jb23, jb24, jb25, jb26, jb27, jb28, jb29, jb30, jb31, jb32, jb33, jb34, jb35, jb36, jb37, jb38, jb39, jb40, jb41, jb42, jb43, jb44, jb45, jb46, jb47, jb48, jb49, jb50, zlet, jlit, jle_t, jle_f, jlt_t, jlt_f, jeq_t, jeq_f, jeqN_f, jNeq_f, jNN, jN1, jadd, jsub, jzin, jcl, if_true, if_false, ite_true, ite_false, not_true, not_false_iff, not_true_eq_false, not_false_eq_true, jB_t, jB_f, jB0_t, jB0_f, jBa, jand11, jand00, ↓reduceIte, Nat.reduceEqDiff, Nat.reduceAdd, Nat.reduceSub, jn1, jn2, jn3, jn4, jn5, jn6, Bool.true_and, jby, h6]
      by_cases h7 : nI (jval by' k (a' - k)) * nI 10 + nI (by' a') - nI 48 ≤ nI 100000
      · rw [if_pos h7, if_neg (jnle.mpr h7)]
      · rw [if_neg h7, if_pos (jnlt.mp h7)]
    · intro q a' h0 h1 h2
      simp only [pM_number_44]
      have h5 : (decide (a' < n) && jdigit (by' a')) = false := by
        by_cases h : a' < n
        · rw [h2 h, Bool.and_false]
        · rw [decide_eq_false h, Bool.false_and]
      have hv := jval_le by' k (a' - k)
      rw [jbyteAt ht h1, jb1, jdigM, jdigB hb, h5, jb1, jmin_]
      have h8 : jin (nI (jval by' k (a' - k))) (nI 0) hi = decide (nI (jval by' k (a' - k)) ≤ hi) := by
        unfold jin
        rw [decide_eq_true (show nI 0 ≤ nI (jval by' k (a' - k)) from nI_pos' (by omega)), Bool.true_and]
      rw [h8]
      by_cases h7 : nI (jval by' k (a' - k)) ≤ hi
      · rw [if_pos h7, decide_eq_true h7]
        simp (disch := omega) only [jb1, jb2, jb3, jb4, jb5, jb6, jb7, jb8, jb9, jb10, jb11, jb12, jb13, jb14, jb15, jb16, jb17, jb18, jb19, jb20, jb21, jb22, jb23, jb24, jb25, jb26, jb27, jb28, jb29, jb30, jb31, jb32, jb33, jb34, jb35, jb36, jb37, jb38, jb39, jb40, jb41, jb42, jb43, jb44, jb45, jb46, jb47, jb48, jb49, jb50, zlet, jlit, jle_t, jle_f, jlt_t, jlt_f, jeq_t, jeq_f, jeqN_f, jNeq_f, jNN, jN1, jadd, jsub, jzin, jcl, if_true, if_false, ite_true, ite_false, not_true, not_false_iff, not_true_eq_false, not_false_eq_true, jB_t, jB_f, jB0_t, jB0_f, jBa, jand11, jand00, ↓reduceIte, Nat.reduceEqDiff, Nat.reduceAdd, Nat.reduceSub]
      · rw [if_neg h7, decide_eq_false h7]
        simp (disch := omega) only [jb1, jb2, jb3, jb4, jb5, jb6, jb7, jb8, jb9, jb10, jb11, jb12, jb13, jb14, jb15, jb16, jb17, jb18, jb19, jb20, jb21, jb22, jb23, jb24, jb25, jb26, jb27, jb28, jb29, jb30, jb31, jb32, jb33, jb34, jb35, jb36, jb37, jb38, jb39, jb40, jb41, jb42, jb43, jb44, jb45, jb46, jb47, jb48, jb49, jb50, zlet, jlit, jle_t, jle_f, jlt_t, jlt_f, jeq_t, jeq_f, jeqN_f, jNeq_f, jNN, jN1, jadd, jsub, jzin, jcl, if_true, if_false, ite_true, ite_false, not_true, not_false_iff, not_true_eq_false, not_false_eq_true, jB_t, jB_f, jB0_t, jB0_f, jBa, jand11, jand00, ↓reduceIte, Nat.reduceEqDiff, Nat.reduceAdd, Nat.reduceSub]
  have l1 := fun f g => loop f g (n - k) k N9 (Nat.le_refl k) (by omega) (by omega)
  simp only [Nat.sub_self] at l1
  have e0 : (nI (jval by' k 0)) = nI 0 := rfl
  rw [e0] at l1
  by_cases hd : jdi n by' k = k
  · rw [if_pos hd, (jdig0 hk.2).mpr hd]
    have h3 : jwh (fun i => jdigit (by' i)) (n - k) k = k := hd
    simp (disch := omega) only [jb1, jb2, jb3, jb4, jb5, jb6, jb7, jb8, jb9, jb10, jb11, jb12, jb13, jb14, jb15, jb16, jb17, jb18, jb19, jb20, jb21, jb22, jb23, jb24, jb25, jb26, jb27, jb28, jb29, jb30, jb31, jb32, jb33, jb34, jb35, jb36, jb37, jb38, jb39, jb40, jb41, jb42, jb43, jb44, jb45, jb46, jb47, jb48, jb49, jb50, zlet, jlit, jle_t, jle_f, jlt_t, jlt_f, jeq_t, jeq_f, jeqN_f, jNeq_f, jNN, jN1, jadd, jsub, jzin, jcl, if_true, if_false, ite_true, ite_false, not_true, not_false_iff, not_true_eq_false, not_false_eq_true, jB_t, jB_f, jB0_t, jB0_f, jBa, jand11, jand00, ↓reduceIte, Nat.reduceEqDiff, Nat.reduceAdd, Nat.reduceSub, pM_wrong, pM_wrong_17, l1]
    rw [h3]
    unfold pM_number_122 pM_number_135
    split <;> rfl
  · rw [if_neg hd]
    have h9 : (decide (k < n) && jdigit (by' k)) = true := by
      by_cases h : (decide (k < n) && jdigit (by' k)) = true
      · exact h
      · exact absurd ((jdig0 hk.2).mp (Bool.eq_false_iff.mpr h)) hd
    rw [h9]
    have h3 : jwh (fun i => jdigit (by' i)) (n - k) k = jdi n by' k := rfl
    rw [h3] at l1
    simp (disch := omega) only [jb1, jb2, jb3, jb4, jb5, jb6, jb7, jb8, jb9, jb10, jb11, jb12, jb13, jb14, jb15, jb16, jb17, jb18, jb19, jb20, jb21, jb22, jb23, jb24, jb25, jb26, jb27, jb28, jb29, jb30, jb31, jb32, jb33, jb34, jb35, jb36, jb37, jb38, jb39, jb40, jb41, jb42, jb43, jb44, jb45, jb46, jb47, jb48, jb49, jb50, zlet, jlit, jle_t, jle_f, jlt_t, jlt_f, jeq_t, jeq_f, jeqN_f, jNeq_f, jNN, jN1, jadd, jsub, jzin, jcl, if_true, if_false, ite_true, ite_false, not_true, not_false_iff, not_true_eq_false, not_false_eq_true, jB_t, jB_f, jB0_t, jB0_f, jBa, jand11, jand00, ↓reduceIte, Nat.reduceEqDiff, Nat.reduceAdd, Nat.reduceSub, l1]
    by_cases h7 : nI (jval by' k (jdi n by' k - k)) ≤ hi
    · rw [if_pos h7, if_pos h7]
      rfl
    · rw [if_neg h7, if_neg h7]
      rfl
theorem jnumMf {N9 : Nat} {sz a f fp lo hi : Int32} {fed : Nat → Int32} (hf : f ≠ nI 0) : pM_number N9 sz a f fp fed lo hi = some (nI 0, a, f, fp) := by
  unfold pM_number
  rw [if_neg (show ¬ f = 0 from hf)]
  rfl
end RD
