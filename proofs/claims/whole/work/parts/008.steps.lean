/-! the steps of a work -/
theorem jdiv {a b : Nat} (ha : a < 2147483648) (hb : b < 2147483648) : nI a / nI b = nI (a / b) := by
  apply Int32.toInt_inj.mp
  have h1 : a / b ≤ a := Nat.div_le_self a b
  rw [Int32.toInt_div, nI_toInt (by omega), nI_toInt (by omega), nI_toInt (by omega), ← Int.ofNat_tdiv]
  generalize a / b = q at h1 ⊢
  apply Int.bmod_eq_of_le <;> omega
theorem jmul (a b : Nat) : nI a * nI b = nI (a * b) := by
  apply Int32.toBitVec_inj.mp
  simp [nI, Int32.toBitVec_mul, BitVec.ofNat_mul]
theorem jrem {x k : Nat} (hx : x < 2147483648) (hk : k < 2147483648) : nI x - nI x / nI k * nI k = nI (x % k) := by
  have h1 : x / k * k ≤ x := Nat.div_mul_le_self x k
  rw [jdiv hx hk, jmul, jsub h1]
  congr 1
  have := Nat.div_add_mod x k
  rw [Nat.mul_comm] at this
  omega
theorem jshl : ∀ s, s < 31 → nI 1 <<< (nI s &&& nI 31) = nI (2 ^ s) := by decide +kernel
theorem jbit_sm : ∀ s, s < 31 → ((nI s &&& nI 31).toBitVec.smod 32).toNat = s := by decide +kernel
theorem jbit_nI {n s : Nat} (hn : n < 2147483648) (hs : s < 31) : jbit (nI n) s = nI (n / 2 ^ s % 2) := by
  unfold jbit
  have h1 : n / 2 ^ s ≤ n := Nat.div_le_self _ _
  rw [pk_shrN hn _ s (jbit_sm s hs), pk_andN (by omega) 1 (by decide)]
section SP
variable {G L B n c : Nat} {gt nu fo kk vv no bo tk : Nat → Nat} {bk_forgives bk_tolls bk_lengths : Nat → Int32} {bk_numbers : Nat → Nat → Int32} {m_told : Nat → Int32} {m_gate m_list : Nat → Nat → Int32} {N9 : Nat}
variable {lw_kinds lw_values : Nat → Int32} {lw_length m_lawMany : Int32} {m_law : Nat → Nat → Int32}
variable {st_now st_born st_age st_passed st_gone st_took : Nat → Int32} {st_beasts st_year st_coins : Int32} {row : Nat → Int32}
theorem jst_now (hs : jSt G B no bo c tk st_now st_born st_age st_passed st_gone st_took st_beasts st_year st_coins row) {b v : Nat} (hb : b < B) (hv : v < 256) : jSt G B (fun i => if i = b then v else no i) bo c tk (upd st_now b (nI v)) st_born st_age st_passed st_gone st_took st_beasts st_year st_coins (upd row b (nI v)) := by
  obtain ⟨hB, hbe, hr42, hc, hc2, hy, h45, hno, hgo, hm, htk⟩ := hs
  refine ⟨hB, hbe, ?_, hc, ?_, ?_, ?_, fun q hq => ?_, fun q hq => ?_, hm, htk⟩
  · rw [pk_un (by omega)]; exact hr42
  · rw [pk_un (by omega)]; exact hc2
  · rw [pk_un (by omega)]; exact hy
  · rw [pk_un (by omega)]; exact h45
  · obtain ⟨e1, e2, e3, e4, e5, e6, e7, e8⟩ := hno q hq
    rw [pk_un (by omega : 8 + q ≠ b), pk_un (by omega : 16 + q ≠ b), pk_un (by omega : 24 + q ≠ b)]
    dsimp only
    by_cases hqb : q = b
    · subst hqb
      rw [if_pos rfl, pk_us, pk_us]
      exact ⟨hv, e2, rfl, rfl, e5, e6, e7, e8⟩
    · rw [if_neg hqb, pk_un hqb, pk_un hqb]
      exact ⟨e1, e2, e3, e4, e5, e6, e7, e8⟩
  · rw [pk_un (by omega : 32 + q ≠ b), pk_un (by omega : 37 + q ≠ b)]
    exact hgo q hq
theorem jpaint (hs : jSt G B no bo c tk st_now st_born st_age st_passed st_gone st_took st_beasts st_year st_coins row) {b s : Nat} (hb : b < B) (h8 : s < 8) (w : Int32) :
    ∃ z now' row' no', pX7_setStripe N9 st_now (nI b) (nI s) w = some (jB z, now') ∧ pM_paints N9 row (nI b) (nI s) w = some (jB z, row') ∧ jSt G B no' bo c tk now' st_born st_age st_passed st_gone st_took st_beasts st_year st_coins row' ∧ row' 45 = row 45 := by
  have hs' := hs
  obtain ⟨hB, -, -, -, -, -, -, hno, -⟩ := hs
  obtain ⟨e1, -, e3, e4, -⟩ := hno b hb
  unfold pX7_setStripe pM_paints
  simp (disch := omega) only [jb1, jb2, jb3, jb4, jb5, jb6, jb7, jb8, jb9, jb10, jb11, jb12, jb13, jb14, jb15, jb16, jb17, jb18, jb19, jb20, jb21, jb22, jb23, jb24, jb25, jb26, jb27, jb28, jb29, jb30, jb31, jb32, jb33, jb34, jb35, jb36, jb37, jb38, jb39, jb40, jb41, jb42, jb43, jb44, jb45, jb46, jb47, jb48, jb49, jb50, zlet, jlit, jle_t, jle_f, jlt_t, jlt_f, jeq_t, jeq_f, jeqN_f, jNeq_f, jNN, jN1, jadd, jsub, jzin, jcl, if_true, if_false, ite_true, ite_false, not_true, not_false_iff, not_true_eq_false, not_false_eq_true, jB_t, jB_f, jB0_t, jB0_f, jBa, jand11, jand00, ↓reduceIte, Nat.reduceEqDiff, Nat.reduceAdd, Nat.reduceSub, e3, e4, Nat.zero_add]
  by_cases hw : (nI (no b) >>> (nI s &&& nI 31)) &&& nI 1 = w
  · rw [if_pos hw, if_pos hw]
    exact ⟨false, _, _, no, rfl, rfl, hs', rfl⟩
  · rw [if_neg hw, if_neg hw, jshl s (by omega), jxor]
    have h2 : no b ^^^ 2 ^ s < 256 := jxor_lt e1 (by
      have : s = 0 ∨ s = 1 ∨ s = 2 ∨ s = 3 ∨ s = 4 ∨ s = 5 ∨ s = 6 ∨ s = 7 := by omega
      rcases this with rfl | rfl | rfl | rfl | rfl | rfl | rfl | rfl <;> decide)
    exact ⟨true, _, _, _, rfl, rfl, jst_now hs' hb h2, pk_un (by omega)⟩
theorem jwash (hs : jSt G B no bo c tk st_now st_born st_age st_passed st_gone st_took st_beasts st_year st_coins row) {b : Nat} (hb : b < B) :
    ∃ z now' row' no', pX7_clean N9 st_now st_born (nI b) = some (jB z, now') ∧ pM_washes N9 row (nI b) = some (jB z, row') ∧ jSt G B no' bo c tk now' st_born st_age st_passed st_gone st_took st_beasts st_year st_coins row' ∧ row' 45 = row 45 := by
  have hs' := hs
  obtain ⟨hB, -, -, -, -, -, -, hno, -⟩ := hs
  obtain ⟨e1, e2, e3, e4, e5, e6, -⟩ := hno b hb
  unfold pX7_clean pM_washes pM_washes_19
  simp (disch := omega) only [jb1, jb2, jb3, jb4, jb5, jb6, jb7, jb8, jb9, jb10, jb11, jb12, jb13, jb14, jb15, jb16, jb17, jb18, jb19, jb20, jb21, jb22, jb23, jb24, jb25, jb26, jb27, jb28, jb29, jb30, jb31, jb32, jb33, jb34, jb35, jb36, jb37, jb38, jb39, jb40, jb41, jb42, jb43, jb44, jb45, jb46, jb47, jb48, jb49, jb50, zlet, jlit, jle_t, jle_f, jlt_t, jlt_f, jeq_t, jeq_f, jeqN_f, jNeq_f, jNN, jN1, jadd, jsub, jzin, jcl, if_true, if_false, ite_true, ite_false, not_true, not_false_iff, not_true_eq_false, not_false_eq_true, jB_t, jB_f, jB0_t, jB0_f, jBa, jand11, jand00, ↓reduceIte, Nat.reduceEqDiff, Nat.reduceAdd, Nat.reduceSub, e3, e4, e5, e6, Nat.zero_add]
  by_cases hw : nI (no b) = nI (bo b)
  · rw [if_pos hw, if_pos hw]
    refine ⟨false, _, _, no, rfl, rfl, ?_, pk_un (by omega)⟩
    have : upd row b (nI (bo b)) = row := by
      funext q
      by_cases hq : q = b
      · rw [hq, pk_us, e4, hw]
      · rw [pk_un hq]
    rw [this]
    exact hs'
  · rw [if_neg hw, if_neg hw]
    exact ⟨true, _, _, _, rfl, rfl, jst_now hs' hb e2, pk_un (by omega)⟩
theorem jfoal (hs : jSt G B no bo c tk st_now st_born st_age st_passed st_gone st_took st_beasts st_year st_coins row) {a b : Nat} (ha : a < B) (hb : b < B) :
    ∃ z now' born' age' ps' be' row' B' no' bo', (zb1 (pX7_foalNumber N9 st_born (nI a) (nI b)) fun r => pX7_addBeast N9 st_now st_born st_age st_passed st_beasts r (nI 0)) = some (jB z, now', born', age', ps', be') ∧ pM_foals N9 row (nI a) (nI b) = some (jB z, row') ∧ B ≤ B' ∧ jSt G B' no' bo' c tk now' born' age' ps' st_gone st_took be' st_year st_coins row' ∧ row' 45 = row 45 := by
  have hs' := hs
  obtain ⟨hB, hbe, hr42, hc, hc2, hy, h45, hno, hgo, hm, htk⟩ := hs
  obtain ⟨-, a2, -, -, a5, a6, -⟩ := hno a ha
  obtain ⟨-, b2, -, -, b5, b6, -⟩ := hno b hb
  unfold pX7_foalNumber pX7_addBeast pM_foals
  simp (disch := omega) only [jb1, jb2, jb3, jb4, jb5, jb6, jb7, jb8, jb9, jb10, jb11, jb12, jb13, jb14, jb15, jb16, jb17, jb18, jb19, jb20, jb21, jb22, jb23, jb24, jb25, jb26, jb27, jb28, jb29, jb30, jb31, jb32, jb33, jb34, jb35, jb36, jb37, jb38, jb39, jb40, jb41, jb42, jb43, jb44, jb45, jb46, jb47, jb48, jb49, jb50, zlet, jlit, jle_t, jle_f, jlt_t, jlt_f, jeq_t, jeq_f, jeqN_f, jNeq_f, jNN, jN1, jadd, jsub, jzin, jcl, if_true, if_false, ite_true, ite_false, not_true, not_false_iff, not_true_eq_false, not_false_eq_true, jB_t, jB_f, jB0_t, jB0_f, jBa, jand11, jand00, ↓reduceIte, Nat.reduceEqDiff, Nat.reduceAdd, Nat.reduceSub, a5, a6, b5, b6, hbe, hr42, jrem]
  by_cases h8 : B = 8
  · subst h8
    rw [hbe] at hs'
    simp (disch := omega) only [jb1, jb2, jb3, jb4, jb5, jb6, jb7, jb8, jb9, jb10, jb11, jb12, jb13, jb14, jb15, jb16, jb17, jb18, jb19, jb20, jb21, jb22, jb23, jb24, jb25, jb26, jb27, jb28, jb29, jb30, jb31, jb32, jb33, jb34, jb35, jb36, jb37, jb38, jb39, jb40, jb41, jb42, jb43, jb44, jb45, jb46, jb47, jb48, jb49, jb50, zlet, jlit, jle_t, jle_f, jlt_t, jlt_f, jeq_t, jeq_f, jeqN_f, jNeq_f, jNN, jN1, jadd, jsub, jzin, jcl, if_true, if_false, ite_true, ite_false, not_true, not_false_iff, not_true_eq_false, not_false_eq_true, jB_t, jB_f, jB0_t, jB0_f, jBa, jand11, jand00, ↓reduceIte, Nat.reduceEqDiff, Nat.reduceAdd, Nat.reduceSub]
    exact ⟨false, _, _, _, _, _, _, 8, no, bo, rfl, rfl, Nat.le_refl 8, hs', rfl⟩
  · simp (disch := omega) only [jb1, jb2, jb3, jb4, jb5, jb6, jb7, jb8, jb9, jb10, jb11, jb12, jb13, jb14, jb15, jb16, jb17, jb18, jb19, jb20, jb21, jb22, jb23, jb24, jb25, jb26, jb27, jb28, jb29, jb30, jb31, jb32, jb33, jb34, jb35, jb36, jb37, jb38, jb39, jb40, jb41, jb42, jb43, jb44, jb45, jb46, jb47, jb48, jb49, jb50, zlet, jlit, jle_t, jle_f, jlt_t, jlt_f, jeq_t, jeq_f, jeqN_f, jNeq_f, jNN, jN1, jadd, jsub, jzin, jcl, if_true, if_false, ite_true, ite_false, not_true, not_false_iff, not_true_eq_false, not_false_eq_true, jB_t, jB_f, jB0_t, jB0_f, jBa, jand11, jand00, ↓reduceIte, Nat.reduceEqDiff, Nat.reduceAdd, Nat.reduceSub, Nat.zero_add, pk_us, pk_un, hr42]
    refine ⟨true, _, _, _, _, _, _, B + 1, fun i => if i = B then (bo a + bo b) % 256 else no i, fun i => if i = B then (bo a + bo b) % 256 else bo i, rfl, rfl, by omega, ⟨by omega, rfl, ?_, hc, ?_, ?_, ?_, fun q hq => ?_, fun q hq => ?_, hm, htk⟩, ?_⟩
    · simp (disch := omega) only [jb1, jb2, jb3, jb4, jb5, jb6, jb7, jb8, jb9, jb10, jb11, jb12, jb13, jb14, jb15, jb16, jb17, jb18, jb19, jb20, jb21, jb22, jb23, jb24, jb25, jb26, jb27, jb28, jb29, jb30, jb31, jb32, jb33, jb34, jb35, jb36, jb37, jb38, jb39, jb40, jb41, jb42, jb43, jb44, jb45, jb46, jb47, jb48, jb49, jb50, zlet, jlit, jle_t, jle_f, jlt_t, jlt_f, jeq_t, jeq_f, jeqN_f, jNeq_f, jNN, jN1, jadd, jsub, jzin, jcl, if_true, if_false, ite_true, ite_false, not_true, not_false_iff, not_true_eq_false, not_false_eq_true, jB_t, jB_f, jB0_t, jB0_f, jBa, jand11, jand00, ↓reduceIte, Nat.reduceEqDiff, Nat.reduceAdd, Nat.reduceSub, pk_us]
    · simp (disch := omega) only [jb1, jb2, jb3, jb4, jb5, jb6, jb7, jb8, jb9, jb10, jb11, jb12, jb13, jb14, jb15, jb16, jb17, jb18, jb19, jb20, jb21, jb22, jb23, jb24, jb25, jb26, jb27, jb28, jb29, jb30, jb31, jb32, jb33, jb34, jb35, jb36, jb37, jb38, jb39, jb40, jb41, jb42, jb43, jb44, jb45, jb46, jb47, jb48, jb49, jb50, zlet, jlit, jle_t, jle_f, jlt_t, jlt_f, jeq_t, jeq_f, jeqN_f, jNeq_f, jNN, jN1, jadd, jsub, jzin, jcl, if_true, if_false, ite_true, ite_false, not_true, not_false_iff, not_true_eq_false, not_false_eq_true, jB_t, jB_f, jB0_t, jB0_f, jBa, jand11, jand00, ↓reduceIte, Nat.reduceEqDiff, Nat.reduceAdd, Nat.reduceSub, pk_un, hc2]
    · simp (disch := omega) only [jb1, jb2, jb3, jb4, jb5, jb6, jb7, jb8, jb9, jb10, jb11, jb12, jb13, jb14, jb15, jb16, jb17, jb18, jb19, jb20, jb21, jb22, jb23, jb24, jb25, jb26, jb27, jb28, jb29, jb30, jb31, jb32, jb33, jb34, jb35, jb36, jb37, jb38, jb39, jb40, jb41, jb42, jb43, jb44, jb45, jb46, jb47, jb48, jb49, jb50, zlet, jlit, jle_t, jle_f, jlt_t, jlt_f, jeq_t, jeq_f, jeqN_f, jNeq_f, jNN, jN1, jadd, jsub, jzin, jcl, if_true, if_false, ite_true, ite_false, not_true, not_false_iff, not_true_eq_false, not_false_eq_true, jB_t, jB_f, jB0_t, jB0_f, jBa, jand11, jand00, ↓reduceIte, Nat.reduceEqDiff, Nat.reduceAdd, Nat.reduceSub, pk_un, hy]
    · simp (disch := omega) only [jb1, jb2, jb3, jb4, jb5, jb6, jb7, jb8, jb9, jb10, jb11, jb12, jb13, jb14, jb15, jb16, jb17, jb18, jb19, jb20, jb21, jb22, jb23, jb24, jb25, jb26, jb27, jb28, jb29, jb30, jb31, jb32, jb33, jb34, jb35, jb36, jb37, jb38, jb39, jb40, jb41, jb42, jb43, jb44, jb45, jb46, jb47, jb48, jb49, jb50, zlet, jlit, jle_t, jle_f, jlt_t, jlt_f, jeq_t, jeq_f, jeqN_f, jNeq_f, jNN, jN1, jadd, jsub, jzin, jcl, if_true, if_false, ite_true, ite_false, not_true, not_false_iff, not_true_eq_false, not_false_eq_true, jB_t, jB_f, jB0_t, jB0_f, jBa, jand11, jand00, ↓reduceIte, Nat.reduceEqDiff, Nat.reduceAdd, Nat.reduceSub, pk_un, h45]
    · by_cases hqB : q = B
      · subst hqB
        simp (disch := omega) only [jb1, jb2, jb3, jb4, jb5, jb6, jb7, jb8, jb9, jb10, jb11, jb12, jb13, jb14, jb15, jb16, jb17, jb18, jb19, jb20, jb21, jb22, jb23, jb24, jb25, jb26, jb27, jb28, jb29, jb30, jb31, jb32, jb33, jb34, jb35, jb36, jb37, jb38, jb39, jb40, jb41, jb42, jb43, jb44, jb45, jb46, jb47, jb48, jb49, jb50, zlet, jlit, jle_t, jle_f, jlt_t, jlt_f, jeq_t, jeq_f, jeqN_f, jNeq_f, jNN, jN1, jadd, jsub, jzin, jcl, if_true, if_false, ite_true, ite_false, not_true, not_false_iff, not_true_eq_false, not_false_eq_true, jB_t, jB_f, jB0_t, jB0_f, jBa, jand11, jand00, ↓reduceIte, Nat.reduceEqDiff, Nat.reduceAdd, Nat.reduceSub, pk_us, pk_un]
        exact ⟨by omega, by omega, True.intro, True.intro, True.intro, True.intro, True.intro, True.intro⟩
      · obtain ⟨e1, e2, e3, e4, e5, e6, e7, e8⟩ := hno q (by omega)
        simp (disch := omega) only [jb1, jb2, jb3, jb4, jb5, jb6, jb7, jb8, jb9, jb10, jb11, jb12, jb13, jb14, jb15, jb16, jb17, jb18, jb19, jb20, jb21, jb22, jb23, jb24, jb25, jb26, jb27, jb28, jb29, jb30, jb31, jb32, jb33, jb34, jb35, jb36, jb37, jb38, jb39, jb40, jb41, jb42, jb43, jb44, jb45, jb46, jb47, jb48, jb49, jb50, zlet, jlit, jle_t, jle_f, jlt_t, jlt_f, jeq_t, jeq_f, jeqN_f, jNeq_f, jNN, jN1, jadd, jsub, jzin, jcl, if_true, if_false, ite_true, ite_false, not_true, not_false_iff, not_true_eq_false, not_false_eq_true, jB_t, jB_f, jB0_t, jB0_f, jBa, jand11, jand00, ↓reduceIte, Nat.reduceEqDiff, Nat.reduceAdd, Nat.reduceSub, pk_un, if_neg hqB, e3, e4, e5, e6, e7, e8]
        exact ⟨e1, e2, True.intro, True.intro, True.intro, True.intro, True.intro, True.intro⟩
    · obtain ⟨e1, e2, e3⟩ := hgo q hq
      simp (disch := omega) only [jb1, jb2, jb3, jb4, jb5, jb6, jb7, jb8, jb9, jb10, jb11, jb12, jb13, jb14, jb15, jb16, jb17, jb18, jb19, jb20, jb21, jb22, jb23, jb24, jb25, jb26, jb27, jb28, jb29, jb30, jb31, jb32, jb33, jb34, jb35, jb36, jb37, jb38, jb39, jb40, jb41, jb42, jb43, jb44, jb45, jb46, jb47, jb48, jb49, jb50, zlet, jlit, jle_t, jle_f, jlt_t, jlt_f, jeq_t, jeq_f, jeqN_f, jNeq_f, jNN, jN1, jadd, jsub, jzin, jcl, if_true, if_false, ite_true, ite_false, not_true, not_false_iff, not_true_eq_false, not_false_eq_true, jB_t, jB_f, jB0_t, jB0_f, jBa, jand11, jand00, ↓reduceIte, Nat.reduceEqDiff, Nat.reduceAdd, Nat.reduceSub, pk_un, e1, e2, e3]
      exact ⟨True.intro, True.intro, True.intro⟩
    · simp (disch := omega) only [jb1, jb2, jb3, jb4, jb5, jb6, jb7, jb8, jb9, jb10, jb11, jb12, jb13, jb14, jb15, jb16, jb17, jb18, jb19, jb20, jb21, jb22, jb23, jb24, jb25, jb26, jb27, jb28, jb29, jb30, jb31, jb32, jb33, jb34, jb35, jb36, jb37, jb38, jb39, jb40, jb41, jb42, jb43, jb44, jb45, jb46, jb47, jb48, jb49, jb50, zlet, jlit, jle_t, jle_f, jlt_t, jlt_f, jeq_t, jeq_f, jeqN_f, jNeq_f, jNN, jN1, jadd, jsub, jzin, jcl, if_true, if_false, ite_true, ite_false, not_true, not_false_iff, not_true_eq_false, not_false_eq_true, jB_t, jB_f, jB0_t, jB0_f, jBa, jand11, jand00, ↓reduceIte, Nat.reduceEqDiff, Nat.reduceAdd, Nat.reduceSub, pk_un]
theorem jolder (hN : 70000 < N9) (hs : jSt G B no bo c tk st_now st_born st_age st_passed st_gone st_took st_beasts st_year st_coins row) :
    ∃ age' row', pX7_growOlder N9 st_age st_beasts st_year = some (age', st_year + nI 1) ∧ pM_yearEnds N9 row = some row' ∧ jSt G B no bo c tk st_now st_born age' st_passed st_gone st_took st_beasts (st_year + nI 1) st_coins row' ∧ row' 45 = row 45 := by
  obtain ⟨hB, hbe, hr42, hc, hc2, hy, h45, hno, hgo, hm, htk⟩ := hs
  have hX : ∃ r, pX7_growOlder N9 st_age st_beasts st_year = some r ∧ (r.2 = st_year + nI 1 ∧ ∀ q, q < B → r.1 q = st_age q + nI 1) := by
    unfold pX7_growOlder
    refine jloopR (fun n f i => pX7_growOlder_12 N9 st_beasts n f (st_year + 1) i) B (fun i f => ∀ q, q < B → f q = if q < i then st_age q + nI 1 else st_age q) (fun r => r.2 = st_year + nI 1 ∧ ∀ q, q < B → r.1 q = st_age q + nI 1) (fun m i f hi hf => ?_) (fun m f hf => ?_) B 0 st_age N9 (by omega) (by omega) (fun q hq => by rw [if_neg (by omega)])
    · show ∃ s', pX7_growOlder_12 N9 st_beasts (m + 1) f _ _ = _ ∧ _
      simp only [pX7_growOlder_12]
      rw [hbe]
      simp (disch := omega) only [jb1, jb2, jb3, jb4, jb5, jb6, jb7, jb8, jb9, jb10, jb11, jb12, jb13, jb14, jb15, jb16, jb17, jb18, jb19, jb20, jb21, jb22, jb23, jb24, jb25, jb26, jb27, jb28, jb29, jb30, jb31, jb32, jb33, jb34, jb35, jb36, jb37, jb38, jb39, jb40, jb41, jb42, jb43, jb44, jb45, jb46, jb47, jb48, jb49, jb50, zlet, jlit, jle_t, jle_f, jlt_t, jlt_f, jeq_t, jeq_f, jeqN_f, jNeq_f, jNN, jN1, jadd, jsub, jzin, jcl, if_true, if_false, ite_true, ite_false, not_true, not_false_iff, not_true_eq_false, not_false_eq_true, jB_t, jB_f, jB0_t, jB0_f, jBa, jand11, jand00, ↓reduceIte, Nat.reduceEqDiff, Nat.reduceAdd, Nat.reduceSub]
      refine ⟨_, rfl, fun q hq => ?_⟩
      by_cases hqi : q = i
      · subst hqi
        rw [pk_us, hf q hq, if_neg (by omega), if_pos (by omega)]
      · rw [pk_un hqi, hf q hq]
        by_cases h : q < i
        · rw [if_pos h, if_pos (by omega)]
        · rw [if_neg h, if_neg (by omega)]
    · show ∃ r, pX7_growOlder_12 N9 st_beasts (m + 1) f _ _ = _ ∧ _
      simp only [pX7_growOlder_12]
      rw [hbe, if_pos (nI_le (Nat.le_refl B) (by omega))]
      exact ⟨_, rfl, rfl, fun q hq => by show f q = _; rw [hf q hq, if_pos hq]⟩
  have hM : ∃ r, pM_yearEnds N9 row = some r ∧ (r 44 = st_year + nI 1 ∧ (∀ q, q < B → r (16 + q) = st_age q + nI 1) ∧ ∀ q, (q < 16 ∨ 24 ≤ q) → q ≠ 44 → r q = row q) := by
    unfold pM_yearEnds
    simp (disch := omega) only [jb1, jb2, jb3, jb4, jb5, jb6, jb7, jb8, jb9, jb10, jb11, jb12, jb13, jb14, jb15, jb16, jb17, jb18, jb19, jb20, jb21, jb22, jb23, jb24, jb25, jb26, jb27, jb28, jb29, jb30, jb31, jb32, jb33, jb34, jb35, jb36, jb37, jb38, jb39, jb40, jb41, jb42, jb43, jb44, jb45, jb46, jb47, jb48, jb49, jb50, zlet, jlit, jle_t, jle_f, jlt_t, jlt_f, jeq_t, jeq_f, jeqN_f, jNeq_f, jNN, jN1, jadd, jsub, jzin, jcl, if_true, if_false, ite_true, ite_false, not_true, not_false_iff, not_true_eq_false, not_false_eq_true, jB_t, jB_f, jB0_t, jB0_f, jBa, jand11, jand00, ↓reduceIte, Nat.reduceEqDiff, Nat.reduceAdd, Nat.reduceSub, hy]
    refine jloopR (fun n f i => pM_yearEnds_10 N9 n f i) B (fun i f => f 44 = st_year + nI 1 ∧ (∀ q, q < B → f (16 + q) = if q < i then st_age q + nI 1 else st_age q) ∧ ∀ q, (q < 16 ∨ 24 ≤ q) → q ≠ 44 → f q = row q) _ (fun m i f hi hf => ?_) (fun m f hf => ?_) B 0 (upd row 44 (st_year + nI 1)) N9 (by omega) (by omega) ⟨pk_us, fun q hq => by rw [if_neg (by omega), pk_un (by omega)]; exact (hno q hq).2.2.2.2.2.2.1, fun q hq h4 => pk_un h4⟩
    · obtain ⟨h1, h2, h3⟩ := hf
      show ∃ s', pM_yearEnds_10 N9 (m + 1) f _ = _ ∧ _
      simp only [pM_yearEnds_10]
      have h42 : f 42 = nI B := by rw [h3 42 (by omega) (by omega), hr42]
      simp (disch := omega) only [jb1, jb2, jb3, jb4, jb5, jb6, jb7, jb8, jb9, jb10, jb11, jb12, jb13, jb14, jb15, jb16, jb17, jb18, jb19, jb20, jb21, jb22, jb23, jb24, jb25, jb26, jb27, jb28, jb29, jb30, jb31, jb32, jb33, jb34, jb35, jb36, jb37, jb38, jb39, jb40, jb41, jb42, jb43, jb44, jb45, jb46, jb47, jb48, jb49, jb50, zlet, jlit, jle_t, jle_f, jlt_t, jlt_f, jeq_t, jeq_f, jeqN_f, jNeq_f, jNN, jN1, jadd, jsub, jzin, jcl, if_true, if_false, ite_true, ite_false, not_true, not_false_iff, not_true_eq_false, not_false_eq_true, jB_t, jB_f, jB0_t, jB0_f, jBa, jand11, jand00, ↓reduceIte, Nat.reduceEqDiff, Nat.reduceAdd, Nat.reduceSub, h42]
      refine ⟨_, rfl, ?_, fun q hq => ?_, fun q hq h4 => ?_⟩
      · rw [pk_un (by omega), h1]
      · by_cases hqi : q = i
        · subst hqi
          rw [pk_us, h2 q hq, if_neg (by omega), if_pos (by omega)]
        · rw [pk_un (by omega), h2 q hq]
          by_cases h : q < i
          · rw [if_pos h, if_pos (by omega)]
          · rw [if_neg h, if_neg (by omega)]
      · rw [pk_un (by omega), h3 q hq h4]
    · obtain ⟨h1, h2, h3⟩ := hf
      show ∃ r, pM_yearEnds_10 N9 (m + 1) f _ = _ ∧ _
      simp only [pM_yearEnds_10]
      have h42 : f 42 = nI B := by rw [h3 42 (by omega) (by omega), hr42]
      rw [show (42 : Int32).toNatClampNeg = 42 from rfl, h42, if_pos (show zin 42 46 = true by decide), if_pos (nI_le (Nat.le_refl B) (by omega))]
      exact ⟨_, rfl, h1, fun q hq => by rw [h2 q hq, if_pos hq], h3⟩
  obtain ⟨⟨age', y'⟩, hx1, hx2, hx3⟩ := hX
  obtain ⟨row', hm1, hm2, hm3, hm4⟩ := hM
  have hx2 : y' = st_year + nI 1 := hx2
  subst hx2
  refine ⟨age', row', hx1, hm1, ⟨hB, hbe, ?_, hc, ?_, hm2, ?_, fun q hq => ?_, fun q hq => ?_, hm, htk⟩, hm4 45 (by omega) (by omega)⟩
  · rw [hm4 42 (by omega) (by omega), hr42]
  · rw [hm4 43 (by omega) (by omega), hc2]
  · rw [hm4 45 (by omega) (by omega), h45]
  · obtain ⟨e1, e2, e3, e4, e5, e6, e7, e8⟩ := hno q hq
    rw [hm4 q (by omega) (by omega), hm4 (8 + q) (by omega) (by omega), hm4 (24 + q) (by omega) (by omega), hm3 q hq]
    exact ⟨e1, e2, e3, e4, e5, e6, (hx3 q hq).symm, e8⟩
  · rw [hm4 (32 + q) (by omega) (by omega), hm4 (37 + q) (by omega) (by omega)]
    exact hgo q hq
end SP
section SPP
variable {G L B n c : Nat} {gt nu fo kk vv no bo tk : Nat → Nat} {bk_forgives bk_tolls bk_lengths : Nat → Int32} {bk_numbers : Nat → Nat → Int32} {m_told : Nat → Int32} {m_gate m_list : Nat → Nat → Int32} {N9 : Nat}
variable {lw_kinds lw_values : Nat → Int32} {lw_length m_lawMany : Int32} {m_law : Nat → Nat → Int32}
variable {st_now st_born st_age st_passed st_gone st_took : Nat → Int32} {st_beasts st_year st_coins : Int32} {row : Nat → Int32}
/-- a step's numbers stand in their ranges: B0 beasts were there, G gates -/
def jok (B0 G k f s : Nat) : Prop := (k ≤ 1 ∧ f < B0 ∧ s < 8) ∨ (k = 2 ∧ f < B0) ∨ (k = 3 ∧ f < B0 ∧ s < G) ∨ (k = 4 ∧ f < B0 ∧ s < B0) ∨ k = 5
theorem jstep (hN : 70000 < N9) (hk : jBk G L gt nu fo bk_forgives bk_tolls bk_lengths bk_numbers m_told m_gate m_list) (hl : jLw n kk vv lw_kinds lw_values lw_length m_lawMany m_law) (hs : jSt G B no bo c tk st_now st_born st_age st_passed st_gone st_took st_beasts st_year st_coins row) {B0 k f s q : Nat} (hB0 : B0 ≤ B) (ho : jok B0 G k f s) (lw_stack ru_facts m_stack m_known : Nat → Int32) {m_step : Nat → Nat → Int32} (hq : q < 80) (h0 : m_step q 0 = nI k) {fx sx : Int32} (hfx : k < 5 → fx = nI f) (hsx : k < 2 ∨ k = 3 ∨ k = 4 → sx = nI s) (h1 : k < 5 → m_step q 1 = nI f) (h2 : k < 2 ∨ k = 3 ∨ k = 4 → m_step q 2 = nI s) :
    ∃ z st ru now' born' age' ps' go' to' be' ye' co' st' kn row' B' no' bo' c' tk', pX4_doStep N9 bk_forgives bk_tolls bk_lengths bk_numbers lw_kinds lw_values lw_stack lw_length ru_facts st_now st_born st_age st_passed st_gone st_took st_beasts st_year st_coins (nI k) fx sx = some (jB z, st, ru, now', born', age', ps', go', to', be', ye', co') ∧
      pM_does N9 m_told m_gate m_list m_lawMany m_law m_stack m_known m_step row (nI q) = some (jB z, st', kn, row') ∧ B ≤ B' ∧ jSt G B' no' bo' c' tk' now' born' age' ps' go' to' be' ye' co' row' := by
  have hs' := hs
  obtain ⟨hB, hbe, hr42, hc, hc2, hy, h45, hno, hgo, hm, htk⟩ := hs
  rcases ho with ⟨hk1, hf, h8⟩ | ⟨rfl, hf⟩ | ⟨rfl, hf, h8⟩ | ⟨rfl, hf, h8⟩ | rfl
  · have q0 := hfx (by omega)
    have q3 := hsx (by omega)
    have q1 := h1 (by omega)
    have q2 := h2 (by omega)
    have : k = 0 ∨ k = 1 := by omega
    rcases this with rfl | rfl
    · unfold pX4_doStep pM_does pM_does_36
      obtain ⟨z, now', row', no', e1, e2, e3, -⟩ := jpaint (N9 := N9) hs' (by omega : f < B) h8 (nI 1)
      simp (disch := omega) only [jb1, jb2, jb3, jb4, jb5, jb6, jb7, jb8, jb9, jb10, jb11, jb12, jb13, jb14, jb15, jb16, jb17, jb18, jb19, jb20, jb21, jb22, jb23, jb24, jb25, jb26, jb27, jb28, jb29, jb30, jb31, jb32, jb33, jb34, jb35, jb36, jb37, jb38, jb39, jb40, jb41, jb42, jb43, jb44, jb45, jb46, jb47, jb48, jb49, jb50, zlet, jlit, jle_t, jle_f, jlt_t, jlt_f, jeq_t, jeq_f, jeqN_f, jNeq_f, jNN, jN1, jadd, jsub, jzin, jcl, if_true, if_false, ite_true, ite_false, not_true, not_false_iff, not_true_eq_false, not_false_eq_true, jB_t, jB_f, jB0_t, jB0_f, jBa, jand11, jand00, ↓reduceIte, Nat.reduceEqDiff, Nat.reduceAdd, Nat.reduceSub, h0, q0, q1, q2, q3, e1, e2]
      exact ⟨z, _, _, _, _, _, _, _, _, _, _, _, _, _, _, B, _, _, _, _, rfl, rfl, Nat.le_refl B, e3⟩
    · unfold pX4_doStep pM_does pM_does_36
      obtain ⟨z, now', row', no', e1, e2, e3, -⟩ := jpaint (N9 := N9) hs' (by omega : f < B) h8 (nI 0)
      simp (disch := omega) only [jb1, jb2, jb3, jb4, jb5, jb6, jb7, jb8, jb9, jb10, jb11, jb12, jb13, jb14, jb15, jb16, jb17, jb18, jb19, jb20, jb21, jb22, jb23, jb24, jb25, jb26, jb27, jb28, jb29, jb30, jb31, jb32, jb33, jb34, jb35, jb36, jb37, jb38, jb39, jb40, jb41, jb42, jb43, jb44, jb45, jb46, jb47, jb48, jb49, jb50, zlet, jlit, jle_t, jle_f, jlt_t, jlt_f, jeq_t, jeq_f, jeqN_f, jNeq_f, jNN, jN1, jadd, jsub, jzin, jcl, if_true, if_false, ite_true, ite_false, not_true, not_false_iff, not_true_eq_false, not_false_eq_true, jB_t, jB_f, jB0_t, jB0_f, jBa, jand11, jand00, ↓reduceIte, Nat.reduceEqDiff, Nat.reduceAdd, Nat.reduceSub, h0, q0, q1, q2, q3, e1, e2]
      exact ⟨z, _, _, _, _, _, _, _, _, _, _, _, _, _, _, B, _, _, _, _, rfl, rfl, Nat.le_refl B, e3⟩
  · unfold pX4_doStep pM_does
    have q0 := hfx (by omega)
    have q1 := h1 (by omega)
    have q2 : True := trivial
    have q3 : True := trivial
    obtain ⟨z, now', row', no', e1, e2, e3, -⟩ := jwash (N9 := N9) hs' (by omega : f < B)
    simp (disch := omega) only [jb1, jb2, jb3, jb4, jb5, jb6, jb7, jb8, jb9, jb10, jb11, jb12, jb13, jb14, jb15, jb16, jb17, jb18, jb19, jb20, jb21, jb22, jb23, jb24, jb25, jb26, jb27, jb28, jb29, jb30, jb31, jb32, jb33, jb34, jb35, jb36, jb37, jb38, jb39, jb40, jb41, jb42, jb43, jb44, jb45, jb46, jb47, jb48, jb49, jb50, zlet, jlit, jle_t, jle_f, jlt_t, jlt_f, jeq_t, jeq_f, jeqN_f, jNeq_f, jNN, jN1, jadd, jsub, jzin, jcl, if_true, if_false, ite_true, ite_false, not_true, not_false_iff, not_true_eq_false, not_false_eq_true, jB_t, jB_f, jB0_t, jB0_f, jBa, jand11, jand00, ↓reduceIte, Nat.reduceEqDiff, Nat.reduceAdd, Nat.reduceSub, h0, q0, q1, q2, q3, e1, e2]
    exact ⟨z, _, _, _, _, _, _, _, _, _, _, _, _, _, _, B, _, _, _, _, rfl, rfl, Nat.le_refl B, e3⟩
  · unfold pX4_doStep pM_does
    have q0 := hfx (by omega)
    have q3 := hsx (by omega)
    have q1 := h1 (by omega)
    have q2 := h2 (by omega)
    obtain ⟨z, st, ru, ps, go, to, co, st', kn, row', c', tk', e1, e2, e3, -⟩ := jpass hN hk hl hs' (by omega : f < B) h8 lw_stack ru_facts m_stack m_known
    simp (disch := omega) only [jb1, jb2, jb3, jb4, jb5, jb6, jb7, jb8, jb9, jb10, jb11, jb12, jb13, jb14, jb15, jb16, jb17, jb18, jb19, jb20, jb21, jb22, jb23, jb24, jb25, jb26, jb27, jb28, jb29, jb30, jb31, jb32, jb33, jb34, jb35, jb36, jb37, jb38, jb39, jb40, jb41, jb42, jb43, jb44, jb45, jb46, jb47, jb48, jb49, jb50, zlet, jlit, jle_t, jle_f, jlt_t, jlt_f, jeq_t, jeq_f, jeqN_f, jNeq_f, jNN, jN1, jadd, jsub, jzin, jcl, if_true, if_false, ite_true, ite_false, not_true, not_false_iff, not_true_eq_false, not_false_eq_true, jB_t, jB_f, jB0_t, jB0_f, jBa, jand11, jand00, ↓reduceIte, Nat.reduceEqDiff, Nat.reduceAdd, Nat.reduceSub, h0, q0, q1, q2, q3, e1, e2]
    exact ⟨z, _, _, _, _, _, _, _, _, _, _, _, _, _, _, B, _, _, _, _, rfl, rfl, Nat.le_refl B, e3⟩
  · unfold pX4_doStep pM_does
    have q0 := hfx (by omega)
    have q3 := hsx (by omega)
    have q1 := h1 (by omega)
    have q2 := h2 (by omega)
    obtain ⟨z, now', born', age', ps', be', row', B', no', bo', e1, e2, e3, e4, -⟩ := jfoal (N9 := N9) hs' (by omega : f < B) (by omega : s < B)
    cases hfn : pX7_foalNumber N9 st_born (nI f) (nI s) with
    | none => rw [hfn] at e1; cases e1
    | some r =>
      rw [hfn, jb1] at e1
      simp (disch := omega) only [jb1, jb2, jb3, jb4, jb5, jb6, jb7, jb8, jb9, jb10, jb11, jb12, jb13, jb14, jb15, jb16, jb17, jb18, jb19, jb20, jb21, jb22, jb23, jb24, jb25, jb26, jb27, jb28, jb29, jb30, jb31, jb32, jb33, jb34, jb35, jb36, jb37, jb38, jb39, jb40, jb41, jb42, jb43, jb44, jb45, jb46, jb47, jb48, jb49, jb50, zlet, jlit, jle_t, jle_f, jlt_t, jlt_f, jeq_t, jeq_f, jeqN_f, jNeq_f, jNN, jN1, jadd, jsub, jzin, jcl, if_true, if_false, ite_true, ite_false, not_true, not_false_iff, not_true_eq_false, not_false_eq_true, jB_t, jB_f, jB0_t, jB0_f, jBa, jand11, jand00, ↓reduceIte, Nat.reduceEqDiff, Nat.reduceAdd, Nat.reduceSub, h0, q0, q1, q2, q3, hfn, e1, e2, jx_i6]
      exact ⟨z, _, _, _, _, _, _, _, _, _, _, _, _, _, _, B', _, _, _, _, rfl, rfl, e3, e4⟩
  · unfold pX4_doStep pM_does
    obtain ⟨age', row', e1, e2, e3, -⟩ := jolder hN hs'
    simp (disch := omega) only [jb1, jb2, jb3, jb4, jb5, jb6, jb7, jb8, jb9, jb10, jb11, jb12, jb13, jb14, jb15, jb16, jb17, jb18, jb19, jb20, jb21, jb22, jb23, jb24, jb25, jb26, jb27, jb28, jb29, jb30, jb31, jb32, jb33, jb34, jb35, jb36, jb37, jb38, jb39, jb40, jb41, jb42, jb43, jb44, jb45, jb46, jb47, jb48, jb49, jb50, zlet, jlit, jle_t, jle_f, jlt_t, jlt_f, jeq_t, jeq_f, jeqN_f, jNeq_f, jNN, jN1, jadd, jsub, jzin, jcl, if_true, if_false, ite_true, ite_false, not_true, not_false_iff, not_true_eq_false, not_false_eq_true, jB_t, jB_f, jB0_t, jB0_f, jBa, jand11, jand00, ↓reduceIte, Nat.reduceEqDiff, Nat.reduceAdd, Nat.reduceSub, h0, hy, e1, e2]
    by_cases hyy : st_year < nI 300
    · rw [if_pos hyy, if_pos hyy]
      exact ⟨true, _, _, _, _, _, _, _, _, _, _, _, _, _, _, B, _, _, _, _, rfl, rfl, Nat.le_refl B, e3⟩
    · rw [if_neg hyy, if_neg hyy]
      exact ⟨false, _, _, _, _, _, _, _, _, _, _, _, _, _, _, B, _, _, _, _, rfl, rfl, Nat.le_refl B, hs'⟩
end SPP
