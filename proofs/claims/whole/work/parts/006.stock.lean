/-! what work changes: the class's stock and the reference's row -/
def jSt (G B : Nat) (no bo : Nat → Nat) (c : Nat) (tk : Nat → Nat) (st_now st_born st_age st_passed st_gone st_took : Nat → Int32) (st_beasts st_year st_coins : Int32) (row : Nat → Int32) : Prop :=
  B ≤ 8 ∧ st_beasts = nI B ∧ row 42 = nI B ∧ st_coins = nI c ∧ row 43 = nI c ∧ row 44 = st_year ∧ row 45 = jS st_gone 5 ∧
  (∀ b, b < B → no b < 256 ∧ bo b < 256 ∧ st_now b = nI (no b) ∧ row b = nI (no b) ∧ st_born b = nI (bo b) ∧ row (8 + b) = nI (bo b) ∧ row (16 + b) = st_age b ∧ row (24 + b) = st_passed b) ∧
  (∀ g, g < 5 → row (32 + g) = st_gone g ∧ st_took g = nI (tk g) ∧ row (37 + g) = nI (tk g)) ∧
  c + (tk 0 + tk 1 + tk 2 + tk 3 + tk 4) ≤ 999 ∧ (∀ g, G ≤ g → g < 5 → tk g = 0)
theorem jS_upd {f : Nat → Int32} {g : Nat} (hg : g < 5) (x : Int32) : jS (upd f g (f g + x)) 5 = jS f 5 + x := by
  have : g = 0 ∨ g = 1 ∨ g = 2 ∨ g = 3 ∨ g = 4 := by omega
  rcases this with rfl | rfl | rfl | rfl | rfl <;> simp [jS, upd] <;> grind
theorem jx_i1 : @pX5_noteFacts_i1 = @pX5_noteFacts := rfl
theorem jx_i2 : @pX5_priceOf_i1 = @pX5_priceOf := rfl
theorem jx_i3 : @pX5_tryPass_i1 = @pX5_tryPass := rfl
theorem jx_i4 : @pX7_clean_i1 = @pX7_clean := rfl
theorem jx_i5 : @pX7_setStripe_i1 = @pX7_setStripe := rfl
theorem jx_i6 : @pX7_addBeast_i1 = @pX7_addBeast := rfl
theorem jm_i1 : @pM_feeOf_i1 = @pM_feeOf := rfl
theorem jm_i2 : @pM_canPass_i1 = @pM_canPass := rfl
theorem jm_i3 : @pM_passes_i1 = @pM_passes := rfl
theorem jm_i4 : @pM_paints_i1 = @pM_paints := rfl
theorem jm_i5 : @pM_washes_i1 = @pM_washes := rfl
theorem jm_i6a (N9 : Nat) : ∀ n, pM_yearEnds_i1_10 N9 n = pM_yearEnds_10 N9 n := by
  intro n
  induction n with
  | zero => rfl
  | succ n ih => funext a b; simp only [pM_yearEnds_i1_10, pM_yearEnds_10, ih]
theorem jm_i6 : @pM_yearEnds_i1 = @pM_yearEnds := by funext a b; simp only [pM_yearEnds_i1, pM_yearEnds, jm_i6a]
theorem jx_i7a (N9 : Nat) (B : Int32) : ∀ n, pX7_growOlder_i1_12 N9 B n = pX7_growOlder_12 N9 B n := by
  intro n
  induction n with
  | zero => rfl
  | succ n ih => funext a b c; simp only [pX7_growOlder_i1_12, pX7_growOlder_12, ih]
theorem jx_i7 : @pX7_growOlder_i1 = @pX7_growOlder := by funext a b c d; simp only [pX7_growOlder_i1, pX7_growOlder, jx_i7a]
theorem jx_i8a (N9 : Nat) (f g : Nat → Int32) (B : Int32) : ∀ n, pX7_changedBeasts_i1_4 N9 f g B n = pX7_changedBeasts_4 N9 f g B n := by
  intro n
  induction n with
  | zero => rfl
  | succ n ih => funext a b; simp only [pX7_changedBeasts_i1_4, pX7_changedBeasts_4, pX7_changedBeasts_i1_33, pX7_changedBeasts_33, ih]
theorem jx_i8 : @pX7_changedBeasts_i1 = @pX7_changedBeasts := by funext a b c d; simp only [pX7_changedBeasts_i1, pX7_changedBeasts, jx_i8a]
theorem jm_i7a (N9 : Nat) (f : Nat → Int32) : ∀ n, pM_changedIn_i1_4 N9 f n = pM_changedIn_4 N9 f n := by
  intro n
  induction n with
  | zero => rfl
  | succ n ih => funext a b; simp only [pM_changedIn_i1_4, pM_changedIn_4, pM_changedIn_i1_34, pM_changedIn_34, ih]
theorem jm_i7 : @pM_changedIn_i1 = @pM_changedIn := by funext a b; simp only [pM_changedIn_i1, pM_changedIn, jm_i7a]
/-- the fee of a passing, by what the class holds -/
def jfo (kk vv : Nat → Nat) (n : Nat) (gt nu : Nat → Nat) (L : Nat) (toll : Nat → Int32) (no : Nat → Nat) (age passed : Nat → Int32) (b g : Nat) (gone : Int32) : Int32 :=
  jfee kk vv n (jF (toll g) (jnear gt nu g L (no b)) (nI (jpop (no b))) (age b) gone (passed b) (nI (no b)) (nI g))
section ST
variable {G L B n c : Nat} {gt nu fo kk vv no bo tk : Nat → Nat} {bk_forgives bk_tolls bk_lengths : Nat → Int32} {bk_numbers : Nat → Nat → Int32} {m_told : Nat → Int32} {m_gate m_list : Nat → Nat → Int32} {N9 : Nat}
variable {lw_kinds lw_values : Nat → Int32} {lw_length m_lawMany : Int32} {m_law : Nat → Nat → Int32}
variable {st_now st_born st_age st_passed st_gone st_took : Nat → Int32} {st_beasts st_year st_coins : Int32} {row : Nat → Int32}
theorem jxnote (hB : B ≤ 8) (hno : ∀ b, b < B → no b < 256 ∧ st_now b = nI (no b)) {b g : Nat} (hb : b < B) (hg : g < 5) (ru_facts : Nat → Int32) (apart gone : Int32) : ∃ F, pX5_noteFacts N9 bk_tolls ru_facts st_now st_age st_passed (nI b) (nI g) apart gone = some F ∧ ∀ i, i < 8 → F i = jF (bk_tolls g) apart (nI (jpop (no b))) (st_age b) gone (st_passed b) (nI (no b)) (nI g) i := by
  obtain ⟨h1, h2⟩ := hno b hb
  unfold pX5_noteFacts
  simp (disch := omega) only [jb1, jb2, jb3, jb4, jb5, jb6, jb7, jb8, jb9, jb10, jb11, jb12, jb13, jb14, jb15, jb16, jb17, jb18, jb19, jb20, jb21, jb22, jb23, jb24, jb25, jb26, jb27, jb28, jb29, jb30, jb31, jb32, jb33, jb34, jb35, jb36, jb37, jb38, jb39, jb40, jb41, jb42, jb43, jb44, jb45, jb46, jb47, jb48, jb49, jb50, zlet, jlit, jle_t, jle_f, jlt_t, jlt_f, jeq_t, jeq_f, jeqN_f, jNeq_f, jNN, jN1, jadd, jsub, jzin, jcl, if_true, if_false, ite_true, ite_false, not_true, not_false_iff, not_true_eq_false, not_false_eq_true, jB_t, jB_f, jB0_t, jB0_f, jBa, jand11, jand00, ↓reduceIte, Nat.reduceEqDiff, Nat.reduceAdd, Nat.reduceSub, h2, jbc h1]
  exact ⟨_, rfl, jF_upd ru_facts _ _ _ _ _ _ _ _⟩
theorem jxfeeOf (hN : 70000 < N9) (hk : jBk G L gt nu fo bk_forgives bk_tolls bk_lengths bk_numbers m_told m_gate m_list) (hl : jLw n kk vv lw_kinds lw_values lw_length m_lawMany m_law) (hs : jSt G B no bo c tk st_now st_born st_age st_passed st_gone st_took st_beasts st_year st_coins row) {b g : Nat} (hb : b < B) (hg : g < G) (lw_stack ru_facts : Nat → Int32) (gone : Int32) :
    ∃ st ru, pX5_feeOf N9 bk_tolls bk_lengths bk_numbers lw_kinds lw_values lw_stack lw_length ru_facts st_now st_age st_passed (nI b) (nI g) gone = some (if jnear gt nu g L (no b) = -nI 1 then -nI 1 else jfo kk vv n gt nu L bk_tolls no st_age st_passed b g gone, st, ru) := by
  obtain ⟨hB, -, -, -, -, -, -, hno, -⟩ := hs
  have hG := hk.1
  obtain ⟨h1, -, h2, -⟩ := hno b hb
  unfold pX5_feeOf
  simp (disch := omega) only [jb1, jb2, jb3, jb4, jb5, jb6, jb7, jb8, jb9, jb10, jb11, jb12, jb13, jb14, jb15, jb16, jb17, jb18, jb19, jb20, jb21, jb22, jb23, jb24, jb25, jb26, jb27, jb28, jb29, jb30, jb31, jb32, jb33, jb34, jb35, jb36, jb37, jb38, jb39, jb40, jb41, jb42, jb43, jb44, jb45, jb46, jb47, jb48, jb49, jb50, zlet, jlit, jle_t, jle_f, jlt_t, jlt_f, jeq_t, jeq_f, jeqN_f, jNeq_f, jNN, jN1, jadd, jsub, jzin, jcl, if_true, if_false, ite_true, ite_false, not_true, not_false_iff, not_true_eq_false, not_false_eq_true, jB_t, jB_f, jB0_t, jB0_f, jBa, jand11, jand00, ↓reduceIte, Nat.reduceEqDiff, Nat.reduceAdd, Nat.reduceSub, h2, jxnear hN hk h1 hg]
  by_cases hn : jnear gt nu g L (no b) = -nI 1
  · rw [if_pos hn, if_pos hn]
    exact ⟨_, _, rfl⟩
  · rw [if_neg hn, if_neg hn]
    obtain ⟨F, h3, h4⟩ := jxnote (N9 := N9) (bk_tolls := bk_tolls) (st_age := st_age) (st_passed := st_passed) hB (fun b hb => ⟨(hno b hb).1, (hno b hb).2.2.1⟩) hb (by omega : g < 5) ru_facts (jnear gt nu g L (no b)) gone
    obtain ⟨st, h5⟩ := jxfee hN hl lw_stack F
    rw [h3, jb1, h5, jb2, jfee_congr hl.2.2.2.1 h4]
    exact ⟨_, _, rfl⟩
theorem jmfeeOf (hN : 70000 < N9) (hk : jBk G L gt nu fo bk_forgives bk_tolls bk_lengths bk_numbers m_told m_gate m_list) (hl : jLw n kk vv lw_kinds lw_values lw_length m_lawMany m_law) (hs : jSt G B no bo c tk st_now st_born st_age st_passed st_gone st_took st_beasts st_year st_coins row) {b g : Nat} (hb : b < B) (hg : g < G) (m_stack m_known : Nat → Int32) (ahead : Int32) :
    ∃ st kn, pM_feeOf N9 m_told m_gate m_list m_lawMany m_law m_stack m_known row (nI b) (nI g) ahead = some (jfo kk vv n gt nu L bk_tolls no st_age st_passed b g (st_gone g + ahead), st, kn) := by
  obtain ⟨hB, -, -, -, -, -, -, hno, hgo, -⟩ := hs
  have hG := hk.1
  obtain ⟨h1, -, h2, h3, -, -, h4, h5⟩ := hno b hb
  obtain ⟨h6, -⟩ := hgo g (by omega)
  have hto := hk.2.2.2.2.2.1
  unfold pM_feeOf
  simp (disch := omega) only [jb1, jb2, jb3, jb4, jb5, jb6, jb7, jb8, jb9, jb10, jb11, jb12, jb13, jb14, jb15, jb16, jb17, jb18, jb19, jb20, jb21, jb22, jb23, jb24, jb25, jb26, jb27, jb28, jb29, jb30, jb31, jb32, jb33, jb34, jb35, jb36, jb37, jb38, jb39, jb40, jb41, jb42, jb43, jb44, jb45, jb46, jb47, jb48, jb49, jb50, zlet, jlit, jle_t, jle_f, jlt_t, jlt_f, jeq_t, jeq_f, jeqN_f, jNeq_f, jNN, jN1, jadd, jsub, jzin, jcl, if_true, if_false, ite_true, ite_false, not_true, not_false_iff, not_true_eq_false, not_false_eq_true, jB_t, jB_f, jB0_t, jB0_f, jBa, jand11, jand00, ↓reduceIte, Nat.reduceEqDiff, Nat.reduceAdd, Nat.reduceSub, Nat.zero_add, h3, jmnear hN hk h1 hg, jo hN h1, h4, h5, h6, ← hto g hg]
  obtain ⟨st, kn, h7⟩ := jmfeeBy hN hl m_stack m_known (bk_tolls g) (jnear gt nu g L (no b)) (nI (jpop (no b))) (st_age b) (st_gone g + ahead) (st_passed b) (nI (no b)) (nI g)
  rw [h7, jb3]
  exact ⟨_, _, rfl⟩
end ST
