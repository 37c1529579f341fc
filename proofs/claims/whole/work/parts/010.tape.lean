/-! the tape: bytes by places, blanks, numbers, words, signs -/
/-- so many places on, as long as p holds -/
def jwh (p : Nat → Bool) : Nat → Nat → Nat | 0, a => a | k + 1, a => if p a = true then jwh p k (a + 1) else a
theorem jwh_rng (p : Nat → Bool) : ∀ k a, a ≤ jwh p k a ∧ jwh p k a ≤ a + k := by
  intro k
  induction k with
  | zero => intro a; exact ⟨Nat.le_refl a, Nat.le_refl a⟩
  | succ k ih =>
    intro a
    rw [jwh]
    split
    · have := ih (a + 1); omega
    · omega
theorem jwh_in (p : Nat → Bool) : ∀ k a i, a ≤ i → i < jwh p k a → p i = true := by
  intro k
  induction k with
  | zero => intro a i h1 h2; rw [jwh] at h2; omega
  | succ k ih =>
    intro a i h1 h2
    rw [jwh] at h2
    split at h2
    · rename_i hp
      by_cases hi : i = a
      · rw [hi]; exact hp
      · exact ih (a + 1) i (by omega) h2
    · omega
theorem jwh_out (p : Nat → Bool) : ∀ k a, jwh p k a < a + k → p (jwh p k a) = false := by
  intro k
  induction k with
  | zero => intro a h; rw [jwh] at h; omega
  | succ k ih =>
    intro a h
    rw [jwh] at h ⊢
    split at h
    · rename_i hp
      rw [if_pos hp]
      exact ih (a + 1) (by omega)
    · rename_i hp
      rw [if_neg hp]
      exact Bool.eq_false_iff.mpr hp
def jblank (b : Nat) : Bool := b == 32
def jletter (b : Nat) : Bool := decide (97 ≤ b) && decide (b ≤ 122)
def jdigit (b : Nat) : Bool := decide (48 ≤ b) && decide (b ≤ 57)
/-- first place behind blanks; behind letters; behind digits; n: the length -/
def jsk (n : Nat) (by' : Nat → Nat) (a : Nat) : Nat := jwh (fun k => jblank (by' k)) (n - a) a
def jle (n : Nat) (by' : Nat → Nat) (a : Nat) : Nat := jwh (fun k => jletter (by' k)) (n - a) a
def jdi (n : Nat) (by' : Nat → Nat) (a : Nat) : Nat := jwh (fun k => jdigit (by' k)) (n - a) a
/-- the byte at a place, none: -1 -/
def jby (n : Nat) (by' : Nat → Nat) (a : Nat) : Int32 := if a < n then nI (by' a) else -nI 1
def jTx (n : Nat) (by' : Nat → Nat) (tp_bytes m_fed : Nat → Int32) : Prop := n ≤ 600 ∧ ∀ i, i < n → by' i < 256 ∧ tp_bytes i = nI (by' i) ∧ m_fed i = nI (by' i)
/-- the value of m digits from k on, on top of v -/
def jval (by' : Nat → Nat) (k : Nat) : Nat → Nat | 0 => 0 | m + 1 => if 10 * jval by' k m + (by' (k + m) - 48) ≤ 100000 then 10 * jval by' k m + (by' (k + m) - 48) else 100000
theorem jval_le (by' : Nat → Nat) (k : Nat) : ∀ m, jval by' k m ≤ 100000 := by
  intro m
  cases m with
  | zero => exact Nat.zero_le _
  | succ m => rw [jval]; split <;> omega
def jw : Nat → List Nat
  | 1 => [98, 101, 97, 115, 116] | 2 => [103, 97, 116, 101] | 3 => [108, 105, 115, 116] | 4 => [112, 117, 114, 115, 101] | 5 => [108, 101, 97, 115, 116] | 6 => [109, 111, 115, 116] | 7 => [116, 111, 108, 108] | 8 => [97, 112, 97, 114, 116]
  | 9 => [109, 97, 114, 107, 115] | 10 => [97, 103, 101] | 11 => [103, 111, 110, 101] | 12 => [112, 97, 115, 115, 101, 100] | 13 => [110, 117, 109, 98, 101, 114] | 14 => [116, 97, 114] | 15 => [114, 117, 98] | 16 => [119, 97, 115, 104]
  | 17 => [112, 97, 115, 115] | 18 => [102, 111, 97, 108] | 19 => [121, 101, 97, 114] | 20 => [97, 103, 97, 105, 110] | _ => []
/-- letters packed by 27s -/
def jpk (f : Nat → Nat) : Nat → Nat | 0 => 0 | m + 1 => 27 * jpk f m + (f m - 96)
/-- m letters from k on are word w -/
def jisw (by' : Nat → Nat) (k m w : Nat) : Bool := decide (m = (jw w).length) && decide (∀ i, i < m → by' (k + i) = (jw w).getD i 0)
theorem jpk_inj {f g : Nat → Nat} : ∀ m j, (∀ i, i < m → 97 ≤ f i ∧ f i ≤ 122) → (∀ i, i < j → 97 ≤ g i ∧ g i ≤ 122) → jpk f m = jpk g j → m = j ∧ ∀ i, i < m → f i = g i := by
  intro m
  induction m with
  | zero =>
    intro j hf hg h
    cases j with
    | zero => exact ⟨rfl, fun i hi => absurd hi (Nat.not_lt_zero i)⟩
    | succ j => have := hg j (by omega); rw [jpk, jpk] at h; omega
  | succ m ih =>
    intro j hf hg h
    have h1 := hf m (by omega)
    cases j with
    | zero => rw [jpk, jpk] at h; omega
    | succ j =>
      have h2 := hg j (by omega)
      rw [jpk, jpk] at h
      obtain ⟨rfl, h4⟩ := ih j (fun i hi => hf i (by omega)) (fun i hi => hg i (by omega)) (by omega)
      refine ⟨rfl, fun i hi => ?_⟩
      by_cases him : i = m
      · subst him; omega
      · exact h4 i (by omega)
theorem jpk_lt {f : Nat → Nat} : ∀ m, (∀ i, i < m → f i ≤ 122) → jpk f m < 27 ^ m := by
  intro m
  induction m with
  | zero => intro _; exact Nat.zero_lt_one
  | succ m ih =>
    intro hf
    have h1 := ih (fun i hi => hf i (by omega))
    have h2 := hf m (by omega)
    rw [jpk, Nat.pow_succ]
    omega
section TP
variable {n : Nat} {by' : Nat → Nat} {tp_bytes m_fed : Nat → Int32} {N9 : Nat}
theorem jsk_rng {a : Nat} (h : a ≤ n) : a ≤ jsk n by' a ∧ jsk n by' a ≤ n := by
  have := jwh_rng (fun k => jblank (by' k)) (n - a) a
  unfold jsk; omega
theorem jle_rng {a : Nat} (h : a ≤ n) : a ≤ jle n by' a ∧ jle n by' a ≤ n := by
  have := jwh_rng (fun k => jletter (by' k)) (n - a) a
  unfold jle; omega
theorem jdi_rng {a : Nat} (h : a ≤ n) : a ≤ jdi n by' a ∧ jdi n by' a ≤ n := by
  have := jwh_rng (fun k => jdigit (by' k)) (n - a) a
  unfold jdi; omega
theorem jbyteAt (ht : jTx n by' tp_bytes m_fed) {a : Nat} (ha : a ≤ n) : pM_byteAt N9 (nI n) m_fed (nI a) = some (jby n by' a) := by
  obtain ⟨hn, hb⟩ := ht
  unfold pM_byteAt pM_byteAt_18 jby
  by_cases h : a < n
  · simp (disch := omega) only [jb1, jb2, jb3, jb4, jb5, jb6, jb7, jb8, jb9, jb10, jb11, jb12, jb13, jb14, jb15, jb16, jb17, jb18, jb19, jb20, jb21, jb22, jb23, jb24, jb25, jb26, jb27, jb28, jb29, jb30, jb31, jb32, jb33, jb34, jb35, jb36, jb37, jb38, jb39, jb40, jb41, jb42, jb43, jb44, jb45, jb46, jb47, jb48, jb49, jb50, zlet, jlit, jle_t, jle_f, jlt_t, jlt_f, jeq_t, jeq_f, jeqN_f, jNeq_f, jNN, jN1, jadd, jsub, jzin, jcl, if_true, if_false, ite_true, ite_false, not_true, not_false_iff, not_true_eq_false, not_false_eq_true, jB_t, jB_f, jB0_t, jB0_f, jBa, jand11, jand00, ↓reduceIte, Nat.reduceEqDiff, Nat.reduceAdd, Nat.reduceSub, jn1, jn2, jn3, jn4, jn5, jn6, (hb a h).2.2]
  · simp (disch := omega) only [jb1, jb2, jb3, jb4, jb5, jb6, jb7, jb8, jb9, jb10, jb11, jb12, jb13, jb14, jb15, jb16, jb17, jb18, jb19, jb20, jb21, jb22, jb23, jb24, jb25, jb26, jb27, jb28, jb29, jb30, jb31, jb32, jb33, jb34, jb35, jb36, jb37, jb38, jb39, jb40, jb41, jb42, jb43, jb44, jb45, jb46, jb47, jb48, jb49, jb50, zlet, jlit, jle_t, jle_f, jlt_t, jlt_f, jeq_t, jeq_f, jeqN_f, jNeq_f, jNN, jN1, jadd, jsub, jzin, jcl, if_true, if_false, ite_true, ite_false, not_true, not_false_iff, not_true_eq_false, not_false_eq_true, jB_t, jB_f, jB0_t, jB0_f, jBa, jand11, jand00, ↓reduceIte, Nat.reduceEqDiff, Nat.reduceAdd, Nat.reduceSub, jn1, jn2, jn3, jn4, jn5, jn6]
theorem jdigM (b : Int32) : pM_isDigit N9 b = some (jB (decide (nI 48 ≤ b) && decide (b ≤ nI 57))) := by
  unfold pM_isDigit pM_isDigit_16 pM_isDigit_17
  simp (disch := omega) only [jb1, jb2, jb3, jb4, jb5, jb6, jb7, jb8, jb9, jb10, jb11, jb12, jb13, jb14, jb15, jb16, jb17, jb18, jb19, jb20, jb21, jb22, jb23, jb24, jb25, jb26, jb27, jb28, jb29, jb30, jb31, jb32, jb33, jb34, jb35, jb36, jb37, jb38, jb39, jb40, jb41, jb42, jb43, jb44, jb45, jb46, jb47, jb48, jb49, jb50, zlet, jlit, jle_t, jle_f, jlt_t, jlt_f, jeq_t, jeq_f, jeqN_f, jNeq_f, jNN, jN1, jadd, jsub, jzin, jcl, if_true, if_false, ite_true, ite_false, not_true, not_false_iff, not_true_eq_false, not_false_eq_true, jB_t, jB_f, jB0_t, jB0_f, jBa, jand11, jand00, ↓reduceIte, Nat.reduceEqDiff, Nat.reduceAdd, Nat.reduceSub]
  by_cases h1 : b < nI 48
  · rw [if_pos h1, decide_eq_false (jnlt.mpr h1)]; rfl
  · rw [if_neg h1, decide_eq_true (jnle.mp h1)]
    by_cases h2 : nI 57 < b
    · rw [if_pos h2, decide_eq_false (jnlt.mpr h2)]; rfl
    · rw [if_neg h2, decide_eq_true (jnle.mp h2)]; rfl
theorem jsmallM (b : Int32) : pM_isSmall N9 b = some (jB (decide (nI 97 ≤ b) && decide (b ≤ nI 122))) := by
  unfold pM_isSmall pM_isSmall_16 pM_isSmall_17
  simp (disch := omega) only [jb1, jb2, jb3, jb4, jb5, jb6, jb7, jb8, jb9, jb10, jb11, jb12, jb13, jb14, jb15, jb16, jb17, jb18, jb19, jb20, jb21, jb22, jb23, jb24, jb25, jb26, jb27, jb28, jb29, jb30, jb31, jb32, jb33, jb34, jb35, jb36, jb37, jb38, jb39, jb40, jb41, jb42, jb43, jb44, jb45, jb46, jb47, jb48, jb49, jb50, zlet, jlit, jle_t, jle_f, jlt_t, jlt_f, jeq_t, jeq_f, jeqN_f, jNeq_f, jNN, jN1, jadd, jsub, jzin, jcl, if_true, if_false, ite_true, ite_false, not_true, not_false_iff, not_true_eq_false, not_false_eq_true, jB_t, jB_f, jB0_t, jB0_f, jBa, jand11, jand00, ↓reduceIte, Nat.reduceEqDiff, Nat.reduceAdd, Nat.reduceSub]
  by_cases h1 : b < nI 97
  · rw [if_pos h1, decide_eq_false (jnlt.mpr h1)]; rfl
  · rw [if_neg h1, decide_eq_true (jnle.mp h1)]
    by_cases h2 : nI 122 < b
    · rw [if_pos h2, decide_eq_false (jnlt.mpr h2)]; rfl
    · rw [if_neg h2, decide_eq_true (jnle.mp h2)]; rfl
theorem jdecle {a b : Nat} (ha : a < 2147483648) (hb : b < 2147483648) : decide (nI a ≤ nI b) = decide (a ≤ b) := by
  by_cases h : a ≤ b
  · rw [decide_eq_true h, decide_eq_true ((nI_leI ha hb).mpr h)]
  · rw [decide_eq_false h, decide_eq_false (fun q => h ((nI_leI ha hb).mp q))]
theorem jdigB (hb : ∀ i, i < n → by' i < 256) (a : Nat) : (decide (nI 48 ≤ jby n by' a) && decide (jby n by' a ≤ nI 57)) = (decide (a < n) && jdigit (by' a)) := by
  unfold jby jdigit
  by_cases h : a < n
  · have := hb a h
    rw [if_pos h, jdecle (by omega) (by omega), jdecle (by omega) (by omega), decide_eq_true h, Bool.true_and]
  · rw [if_neg h, decide_eq_false h, Bool.false_and]; rfl
theorem jsmallB (hb : ∀ i, i < n → by' i < 256) (a : Nat) : (decide (nI 97 ≤ jby n by' a) && decide (jby n by' a ≤ nI 122)) = (decide (a < n) && jletter (by' a)) := by
  unfold jby jletter
  by_cases h : a < n
  · have := hb a h
    rw [if_pos h, jdecle (by omega) (by omega), jdecle (by omega) (by omega), decide_eq_true h, Bool.true_and]
  · rw [if_neg h, decide_eq_false h, Bool.false_and]; rfl
theorem jdigX (b : Int32) : pX8_isDigit N9 b = some (jB (decide (nI 48 ≤ b) && decide (b ≤ nI 57))) := by
  unfold pX8_isDigit pX8_isDigit_16 pX8_isDigit_17
  simp (disch := omega) only [jb1, jb2, jb3, jb4, jb5, jb6, jb7, jb8, jb9, jb10, jb11, jb12, jb13, jb14, jb15, jb16, jb17, jb18, jb19, jb20, jb21, jb22, jb23, jb24, jb25, jb26, jb27, jb28, jb29, jb30, jb31, jb32, jb33, jb34, jb35, jb36, jb37, jb38, jb39, jb40, jb41, jb42, jb43, jb44, jb45, jb46, jb47, jb48, jb49, jb50, zlet, jlit, jle_t, jle_f, jlt_t, jlt_f, jeq_t, jeq_f, jeqN_f, jNeq_f, jNN, jN1, jadd, jsub, jzin, jcl, if_true, if_false, ite_true, ite_false, not_true, not_false_iff, not_true_eq_false, not_false_eq_true, jB_t, jB_f, jB0_t, jB0_f, jBa, jand11, jand00, ↓reduceIte, Nat.reduceEqDiff, Nat.reduceAdd, Nat.reduceSub]
  by_cases h1 : b < nI 48
  · rw [if_pos h1, decide_eq_false (jnlt.mpr h1)]; rfl
  · rw [if_neg h1, decide_eq_true (jnle.mp h1)]
    by_cases h2 : nI 57 < b
    · rw [if_pos h2, decide_eq_false (jnlt.mpr h2)]; rfl
    · rw [if_neg h2, decide_eq_true (jnle.mp h2)]; rfl
theorem jletX (b : Int32) : pX8_isLetter N9 b = some (jB (decide (nI 97 ≤ b) && decide (b ≤ nI 122))) := by
  unfold pX8_isLetter pX8_isLetter_16 pX8_isLetter_17
  simp (disch := omega) only [jb1, jb2, jb3, jb4, jb5, jb6, jb7, jb8, jb9, jb10, jb11, jb12, jb13, jb14, jb15, jb16, jb17, jb18, jb19, jb20, jb21, jb22, jb23, jb24, jb25, jb26, jb27, jb28, jb29, jb30, jb31, jb32, jb33, jb34, jb35, jb36, jb37, jb38, jb39, jb40, jb41, jb42, jb43, jb44, jb45, jb46, jb47, jb48, jb49, jb50, zlet, jlit, jle_t, jle_f, jlt_t, jlt_f, jeq_t, jeq_f, jeqN_f, jNeq_f, jNN, jN1, jadd, jsub, jzin, jcl, if_true, if_false, ite_true, ite_false, not_true, not_false_iff, not_true_eq_false, not_false_eq_true, jB_t, jB_f, jB0_t, jB0_f, jBa, jand11, jand00, ↓reduceIte, Nat.reduceEqDiff, Nat.reduceAdd, Nat.reduceSub]
  by_cases h1 : b < nI 97
  · rw [if_pos h1, decide_eq_false (jnlt.mpr h1)]; rfl
  · rw [if_neg h1, decide_eq_true (jnle.mp h1)]
    by_cases h2 : nI 122 < b
    · rw [if_pos h2, decide_eq_false (jnlt.mpr h2)]; rfl
    · rw [if_neg h2, decide_eq_true (jnle.mp h2)]; rfl
theorem jdigN {b : Nat} (hb : b < 256) : pX8_isDigit N9 (nI b) = some (jB (jdigit b)) := by
  rw [jdigX, jdecle (by omega) (by omega), jdecle (by omega) (by omega)]; rfl
theorem jletN {b : Nat} (hb : b < 256) : pX8_isLetter N9 (nI b) = some (jB (jletter b)) := by
  rw [jletX, jdecle (by omega) (by omega), jdecle (by omega) (by omega)]; rfl
/-- a loop over places from a on while p holds -/
theorem jwhile {R : Type} (Lp : Nat → Nat → Option R) (p : Nat → Bool) (r : Nat → Option R) (n : Nat) (hs : ∀ q a, a < n → p a = true → Lp (q + 1) a = Lp q (a + 1)) (hx : ∀ q a, a ≤ n → (a < n → p a = false) → Lp (q + 1) a = r a) :
    ∀ u a q, a + u = n → u < q → Lp q a = r (jwh p u a) := by
  intro u
  induction u with
  | zero =>
    intro a q h1 h2
    obtain ⟨q, rfl⟩ : ∃ z, q = z + 1 := ⟨q - 1, by omega⟩
    exact hx q a (by omega) (fun h => absurd h (by omega))
  | succ u ih =>
    intro a q h1 h2
    obtain ⟨q, rfl⟩ : ∃ z, q = z + 1 := ⟨q - 1, by omega⟩
    rw [jwh]
    by_cases hp : p a = true
    · rw [if_pos hp, hs q a (by omega) hp]
      exact ih (a + 1) q (by omega) (by omega)
    · rw [if_neg hp]
      exact hx q a (by omega) (fun _ => Bool.eq_false_iff.mpr hp)
theorem jsignX (hN : 70000 < N9) (ht : jTx n by' tp_bytes m_fed) {a : Nat} (ha : a ≤ n) : pX8_nextSign N9 tp_bytes (nI n) (nI a) = some (jby n by' (jsk n by' a), nI (jsk n by' a)) := by
  obtain ⟨hn, hb⟩ := ht
  unfold pX8_nextSign
  refine jwhile (fun q a => pX8_nextSign_0 N9 tp_bytes (nI n) q (nI a)) (fun k => jblank (by' k)) (fun k => some (jby n by' k, nI k)) n (fun q a h1 h2 => ?_) (fun q a h1 h2 => ?_) (n - a) a N9 (by omega) (by omega)
  · obtain ⟨h3, h4, -⟩ := hb a h1
    have h5 : by' a = 32 := by unfold jblank at h2; exact eq_of_beq h2
    simp only [pX8_nextSign_0]
    simp (disch := omega) only [jb1, jb2, jb3, jb4, jb5, jb6, jb7, jb8, jb9, jb10, jb11, jb12, jb13, jb14, jb15, jb16, jb17, jb18, jb19, jb20, jb21, jb22, jb23, jb24, jb25, jb26, jb27, jb28, jb29, jb30, jb31, jb32, jb33, jb34, jb35, jb36, jb37, jb38, jb39, jb40, jb41, jb42, jb43, jb44, jb45, jb46, jb47, jb48, jb49, jb50, zlet, jlit, jle_t, jle_f, jlt_t, jlt_f, jeq_t, jeq_f, jeqN_f, jNeq_f, jNN, jN1, jadd, jsub, jzin, jcl, if_true, if_false, ite_true, ite_false, not_true, not_false_iff, not_true_eq_false, not_false_eq_true, jB_t, jB_f, jB0_t, jB0_f, jBa, jand11, jand00, ↓reduceIte, Nat.reduceEqDiff, Nat.reduceAdd, Nat.reduceSub, jn1, jn2, jn3, jn4, jn5, jn6, h4, h5]
  · simp only [pX8_nextSign_0, pX8_nextSign_38, pX8_nextSign_62]
    unfold jby
    by_cases h : a < n
    · obtain ⟨h3, h4, -⟩ := hb a h
      have h5 : ¬ by' a = 32 := by
        intro q
        have := h2 h
        unfold jblank at this
        rw [q] at this
        exact absurd this (by decide)
      simp (disch := omega) only [jb1, jb2, jb3, jb4, jb5, jb6, jb7, jb8, jb9, jb10, jb11, jb12, jb13, jb14, jb15, jb16, jb17, jb18, jb19, jb20, jb21, jb22, jb23, jb24, jb25, jb26, jb27, jb28, jb29, jb30, jb31, jb32, jb33, jb34, jb35, jb36, jb37, jb38, jb39, jb40, jb41, jb42, jb43, jb44, jb45, jb46, jb47, jb48, jb49, jb50, zlet, jlit, jle_t, jle_f, jlt_t, jlt_f, jeq_t, jeq_f, jeqN_f, jNeq_f, jNN, jN1, jadd, jsub, jzin, jcl, if_true, if_false, ite_true, ite_false, not_true, not_false_iff, not_true_eq_false, not_false_eq_true, jB_t, jB_f, jB0_t, jB0_f, jBa, jand11, jand00, ↓reduceIte, Nat.reduceEqDiff, Nat.reduceAdd, Nat.reduceSub, jn1, jn2, jn3, jn4, jn5, jn6, h4]
    · simp (disch := omega) only [jb1, jb2, jb3, jb4, jb5, jb6, jb7, jb8, jb9, jb10, jb11, jb12, jb13, jb14, jb15, jb16, jb17, jb18, jb19, jb20, jb21, jb22, jb23, jb24, jb25, jb26, jb27, jb28, jb29, jb30, jb31, jb32, jb33, jb34, jb35, jb36, jb37, jb38, jb39, jb40, jb41, jb42, jb43, jb44, jb45, jb46, jb47, jb48, jb49, jb50, zlet, jlit, jle_t, jle_f, jlt_t, jlt_f, jeq_t, jeq_f, jeqN_f, jNeq_f, jNN, jN1, jadd, jsub, jzin, jcl, if_true, if_false, ite_true, ite_false, not_true, not_false_iff, not_true_eq_false, not_false_eq_true, jB_t, jB_f, jB0_t, jB0_f, jBa, jand11, jand00, ↓reduceIte, Nat.reduceEqDiff, Nat.reduceAdd, Nat.reduceSub, jn1, jn2, jn3, jn4, jn5, jn6]
theorem jblankM (hN : 70000 < N9) (ht : jTx n by' tp_bytes m_fed) {a : Nat} (ha : a ≤ n) : pM_blanks N9 (nI n) (nI a) m_fed = some (nI (jsk n by' a)) := by
  have hn := ht.1
  unfold pM_blanks
  refine jwhile (fun q a => pM_blanks_0 N9 (nI n) m_fed q (nI a)) (fun k => jblank (by' k)) (fun k => some (nI k)) n (fun q a h1 h2 => ?_) (fun q a h1 h2 => ?_) (n - a) a N9 (by omega) (by omega)
  · have h5 : by' a = 32 := by unfold jblank at h2; exact eq_of_beq h2
    simp only [pM_blanks_0]
    simp (disch := omega) only [jb1, jb2, jb3, jb4, jb5, jb6, jb7, jb8, jb9, jb10, jb11, jb12, jb13, jb14, jb15, jb16, jb17, jb18, jb19, jb20, jb21, jb22, jb23, jb24, jb25, jb26, jb27, jb28, jb29, jb30, jb31, jb32, jb33, jb34, jb35, jb36, jb37, jb38, jb39, jb40, jb41, jb42, jb43, jb44, jb45, jb46, jb47, jb48, jb49, jb50, zlet, jlit, jle_t, jle_f, jlt_t, jlt_f, jeq_t, jeq_f, jeqN_f, jNeq_f, jNN, jN1, jadd, jsub, jzin, jcl, if_true, if_false, ite_true, ite_false, not_true, not_false_iff, not_true_eq_false, not_false_eq_true, jB_t, jB_f, jB0_t, jB0_f, jBa, jand11, jand00, ↓reduceIte, Nat.reduceEqDiff, Nat.reduceAdd, Nat.reduceSub, jn1, jn2, jn3, jn4, jn5, jn6, jbyteAt ht (by omega : a ≤ n), jby, h5]
  · simp only [pM_blanks_0]
    by_cases h : a < n
    · obtain ⟨h3, -⟩ := ht.2 a h
      have h5 : ¬ by' a = 32 := by
        intro q
        have := h2 h
        unfold jblank at this
        rw [q] at this
        exact absurd this (by decide)
      simp (disch := omega) only [jb1, jb2, jb3, jb4, jb5, jb6, jb7, jb8, jb9, jb10, jb11, jb12, jb13, jb14, jb15, jb16, jb17, jb18, jb19, jb20, jb21, jb22, jb23, jb24, jb25, jb26, jb27, jb28, jb29, jb30, jb31, jb32, jb33, jb34, jb35, jb36, jb37, jb38, jb39, jb40, jb41, jb42, jb43, jb44, jb45, jb46, jb47, jb48, jb49, jb50, zlet, jlit, jle_t, jle_f, jlt_t, jlt_f, jeq_t, jeq_f, jeqN_f, jNeq_f, jNN, jN1, jadd, jsub, jzin, jcl, if_true, if_false, ite_true, ite_false, not_true, not_false_iff, not_true_eq_false, not_false_eq_true, jB_t, jB_f, jB0_t, jB0_f, jBa, jand11, jand00, ↓reduceIte, Nat.reduceEqDiff, Nat.reduceAdd, Nat.reduceSub, jn1, jn2, jn3, jn4, jn5, jn6, jbyteAt ht h1, jby]
    · simp (disch := omega) only [jb1, jb2, jb3, jb4, jb5, jb6, jb7, jb8, jb9, jb10, jb11, jb12, jb13, jb14, jb15, jb16, jb17, jb18, jb19, jb20, jb21, jb22, jb23, jb24, jb25, jb26, jb27, jb28, jb29, jb30, jb31, jb32, jb33, jb34, jb35, jb36, jb37, jb38, jb39, jb40, jb41, jb42, jb43, jb44, jb45, jb46, jb47, jb48, jb49, jb50, zlet, jlit, jle_t, jle_f, jlt_t, jlt_f, jeq_t, jeq_f, jeqN_f, jNeq_f, jNN, jN1, jadd, jsub, jzin, jcl, if_true, if_false, ite_true, ite_false, not_true, not_false_iff, not_true_eq_false, not_false_eq_true, jB_t, jB_f, jB0_t, jB0_f, jBa, jand11, jand00, ↓reduceIte, Nat.reduceEqDiff, Nat.reduceAdd, Nat.reduceSub, jn1, jn2, jn3, jn4, jn5, jn6, jbyteAt ht h1, jby]
theorem jwordX (hN : 70000 < N9) (ht : jTx n by' tp_bytes m_fed) {a : Nat} (ha : a ≤ n) (wp : Int32) : pX8_readWord N9 tp_bytes (nI n) (nI a) wp = some (nI (jle n by' (jsk n by' a)), nI (jsk n by' a)) := by
  have hn := ht.1
  have hk := jsk_rng (by' := by') ha
  unfold pX8_readWord
  rw [jsignX hN ht ha, jb2]
  refine jwhile (fun q a' => pX8_readWord_13 N9 tp_bytes (nI n) q (nI a') (nI (jsk n by' a))) (fun k => jletter (by' k)) (fun k => some (nI k, nI (jsk n by' a))) n (fun q a' h1 h2 => ?_) (fun q a' h1 h2 => ?_) (n - jsk n by' a) (jsk n by' a) N9 (by omega) (by omega)
  · obtain ⟨h3, h4, -⟩ := ht.2 a' h1
    have h5 : pX8_isLetter N9 (nI (by' a')) = some (jB true) := by rw [jletN h3, h2]
    simp only [pX8_readWord_13]
    simp (disch := omega) only [jb1, jb2, jb3, jb4, jb5, jb6, jb7, jb8, jb9, jb10, jb11, jb12, jb13, jb14, jb15, jb16, jb17, jb18, jb19, jb20, jb21, jb22, jb23, jb24, jb25, jb26, jb27, jb28, jb29, jb30, jb31, jb32, jb33, jb34, jb35, jb36, jb37, jb38, jb39, jb40, jb41, jb42, jb43, jb44, jb45, jb46, jb47, jb48, jb49, jb50, zlet, jlit, jle_t, jle_f, jlt_t, jlt_f, jeq_t, jeq_f, jeqN_f, jNeq_f, jNN, jN1, jadd, jsub, jzin, jcl, if_true, if_false, ite_true, ite_false, not_true, not_false_iff, not_true_eq_false, not_false_eq_true, jB_t, jB_f, jB0_t, jB0_f, jBa, jand11, jand00, ↓reduceIte, Nat.reduceEqDiff, Nat.reduceAdd, Nat.reduceSub, h4, h5]
  · simp only [pX8_readWord_13, pX8_readWord_52]
    by_cases h : a' < n
    · obtain ⟨h3, h4, -⟩ := ht.2 a' h
      have h5 : pX8_isLetter N9 (nI (by' a')) = some (jB false) := by rw [jletN h3, h2 h]
      simp (disch := omega) only [jb1, jb2, jb3, jb4, jb5, jb6, jb7, jb8, jb9, jb10, jb11, jb12, jb13, jb14, jb15, jb16, jb17, jb18, jb19, jb20, jb21, jb22, jb23, jb24, jb25, jb26, jb27, jb28, jb29, jb30, jb31, jb32, jb33, jb34, jb35, jb36, jb37, jb38, jb39, jb40, jb41, jb42, jb43, jb44, jb45, jb46, jb47, jb48, jb49, jb50, zlet, jlit, jle_t, jle_f, jlt_t, jlt_f, jeq_t, jeq_f, jeqN_f, jNeq_f, jNN, jN1, jadd, jsub, jzin, jcl, if_true, if_false, ite_true, ite_false, not_true, not_false_iff, not_true_eq_false, not_false_eq_true, jB_t, jB_f, jB0_t, jB0_f, jBa, jand11, jand00, ↓reduceIte, Nat.reduceEqDiff, Nat.reduceAdd, Nat.reduceSub, h4, h5]
    · simp (disch := omega) only [jb1, jb2, jb3, jb4, jb5, jb6, jb7, jb8, jb9, jb10, jb11, jb12, jb13, jb14, jb15, jb16, jb17, jb18, jb19, jb20, jb21, jb22, jb23, jb24, jb25, jb26, jb27, jb28, jb29, jb30, jb31, jb32, jb33, jb34, jb35, jb36, jb37, jb38, jb39, jb40, jb41, jb42, jb43, jb44, jb45, jb46, jb47, jb48, jb49, jb50, zlet, jlit, jle_t, jle_f, jlt_t, jlt_f, jeq_t, jeq_f, jeqN_f, jNeq_f, jNN, jN1, jadd, jsub, jzin, jcl, if_true, if_false, ite_true, ite_false, not_true, not_false_iff, not_true_eq_false, not_false_eq_true, jB_t, jB_f, jB0_t, jB0_f, jBa, jand11, jand00, ↓reduceIte, Nat.reduceEqDiff, Nat.reduceAdd, Nat.reduceSub]
theorem jskipM (hN : 70000 < N9) (ht : jTx n by' tp_bytes m_fed) {a : Nat} (ha : a ≤ n) : pM_skipWord N9 (nI n) (nI a) m_fed = some (nI (jle n by' a)) := by
  have hn := ht.1
  have hb : ∀ i, i < n → by' i < 256 := fun i hi => (ht.2 i hi).1
  unfold pM_skipWord
  refine jwhile (fun q a' => pM_skipWord_0 N9 (nI n) m_fed q (nI a')) (fun k => jletter (by' k)) (fun k => some (nI k)) n (fun q a' h1 h2 => ?_) (fun q a' h1 h2 => ?_) (n - a) a N9 (by omega) (by omega)
  · simp only [pM_skipWord_0]
    rw [jbyteAt ht (by omega), jb1, jsmallM, jsmallB hb, h2, decide_eq_true h1]
    simp (disch := omega) only [jb1, jb2, jb3, jb4, jb5, jb6, jb7, jb8, jb9, jb10, jb11, jb12, jb13, jb14, jb15, jb16, jb17, jb18, jb19, jb20, jb21, jb22, jb23, jb24, jb25, jb26, jb27, jb28, jb29, jb30, jb31, jb32, jb33, jb34, jb35, jb36, jb37, jb38, jb39, jb40, jb41, jb42, jb43, jb44, jb45, jb46, jb47, jb48, jb49, jb50, zlet, jlit, jle_t, jle_f, jlt_t, jlt_f, jeq_t, jeq_f, jeqN_f, jNeq_f, jNN, jN1, jadd, jsub, jzin, jcl, if_true, if_false, ite_true, ite_false, not_true, not_false_iff, not_true_eq_false, not_false_eq_true, jB_t, jB_f, jB0_t, jB0_f, jBa, jand11, jand00, ↓reduceIte, Nat.reduceEqDiff, Nat.reduceAdd, Nat.reduceSub, Bool.true_and]
  · simp only [pM_skipWord_0]
    rw [jbyteAt ht h1, jb1, jsmallM, jsmallB hb]
    by_cases h : a' < n
    · rw [h2 h]
      simp (disch := omega) only [jb1, jb2, jb3, jb4, jb5, jb6, jb7, jb8, jb9, jb10, jb11, jb12, jb13, jb14, jb15, jb16, jb17, jb18, jb19, jb20, jb21, jb22, jb23, jb24, jb25, jb26, jb27, jb28, jb29, jb30, jb31, jb32, jb33, jb34, jb35, jb36, jb37, jb38, jb39, jb40, jb41, jb42, jb43, jb44, jb45, jb46, jb47, jb48, jb49, jb50, zlet, jlit, jle_t, jle_f, jlt_t, jlt_f, jeq_t, jeq_f, jeqN_f, jNeq_f, jNN, jN1, jadd, jsub, jzin, jcl, if_true, if_false, ite_true, ite_false, not_true, not_false_iff, not_true_eq_false, not_false_eq_true, jB_t, jB_f, jB0_t, jB0_f, jBa, jand11, jand00, ↓reduceIte, Nat.reduceEqDiff, Nat.reduceAdd, Nat.reduceSub, Bool.and_false]
    · rw [decide_eq_false h]
      simp (disch := omega) only [jb1, jb2, jb3, jb4, jb5, jb6, jb7, jb8, jb9, jb10, jb11, jb12, jb13, jb14, jb15, jb16, jb17, jb18, jb19, jb20, jb21, jb22, jb23, jb24, jb25, jb26, jb27, jb28, jb29, jb30, jb31, jb32, jb33, jb34, jb35, jb36, jb37, jb38, jb39, jb40, jb41, jb42, jb43, jb44, jb45, jb46, jb47, jb48, jb49, jb50, zlet, jlit, jle_t, jle_f, jlt_t, jlt_f, jeq_t, jeq_f, jeqN_f, jNeq_f, jNN, jN1, jadd, jsub, jzin, jcl, if_true, if_false, ite_true, ite_false, not_true, not_false_iff, not_true_eq_false, not_false_eq_true, jB_t, jB_f, jB0_t, jB0_f, jBa, jand11, jand00, ↓reduceIte, Nat.reduceEqDiff, Nat.reduceAdd, Nat.reduceSub, Bool.false_and]
end TP
