/-! bits by a test; sums -/
def jbits (p : Nat → Bool) : Nat → Int32 | 0 => nI 0 | k + 1 => if p k then jbits p k ||| (nI 1 <<< (nI k &&& nI 31)) else jbits p k
theorem jor0 (x : Int32) : x ||| nI 0 = x := by
  have h : nI 0 = 0 := rfl
  rw [h]
  exact Int32.or_zero
def jT (tk : Nat → Nat) : Nat → Nat | 0 => 0 | k + 1 => jT tk k + tk k
theorem jT_le {tk : Nat → Nat} : ∀ {k n : Nat}, k ≤ n → jT tk k ≤ jT tk n := by
  intro k n h
  induction n with
  | zero => obtain rfl : k = 0 := by omega
            exact Nat.le_refl _
  | succ n ih =>
    by_cases hk : k = n + 1
    · subst hk; exact Nat.le_refl _
    · rw [jT]; exact Nat.le_trans (ih (by omega)) (Nat.le_add_right _ _)
theorem jT_out {tk : Nat → Nat} {G : Nat} : ∀ {n : Nat}, G ≤ n → (∀ g, G ≤ g → g < n → tk g = 0) → jT tk n = jT tk G := by
  intro n h h0
  induction n with
  | zero => obtain rfl : G = 0 := by omega
            rfl
  | succ n ih =>
    by_cases hk : G = n + 1
    · subst hk; rfl
    · rw [jT, ih (by omega) (fun g h1 h2 => h0 g h1 (by omega)), h0 n (by omega) (by omega), Nat.add_zero]
section BT
variable {N9 G L B c n : Nat} {gt nu fo kk vv no bo tk : Nat → Nat} {bk_forgives bk_tolls bk_lengths : Nat → Int32} {bk_numbers : Nat → Nat → Int32} {m_told : Nat → Int32} {m_gate m_list : Nat → Nat → Int32}
variable {lw_kinds lw_values : Nat → Int32} {lw_length m_lawMany : Int32} {m_law : Nat → Nat → Int32} {st_now st_born st_age st_passed st_gone st_took : Nat → Int32} {st_year re ra : Int32} {m_now m_refused : Nat → Int32}
theorem jxtook (hN : 70000 < N9) (hs : jSt G B no bo c tk st_now st_born st_age st_passed st_gone st_took (nI B) st_year (nI c) m_now) : pX7_tookInAll N9 st_took = some (nI (jT tk 5)) := by
  obtain ⟨-, -, -, -, -, -, -, -, hgo, -⟩ := hs
  unfold pX7_tookInAll
  refine jloop0 (fun n a i => pX7_tookInAll_4 N9 st_took n a i) 5 (fun k => nI (jT tk k)) (fun n k hk => ?_) (fun n => ?_) (by omega) rfl
  · show pX7_tookInAll_4 N9 st_took (n + 1) _ _ = _
    simp only [pX7_tookInAll_4]
    simp (disch := omega) only [jb1, jb2, jb3, jb4, jb5, jb6, jb7, jb8, jb9, jb10, jb11, jb12, jb13, jb14, jb15, jb16, jb17, jb18, jb19, jb20, jb21, jb22, jb23, jb24, jb25, jb26, jb27, jb28, jb29, jb30, jb31, jb32, jb33, jb34, jb35, jb36, jb37, jb38, jb39, jb40, jb41, jb42, jb43, jb44, jb45, jb46, jb47, jb48, jb49, jb50, zlet, jlit, jle_t, jle_f, jlt_t, jlt_f, jeq_t, jeq_f, jeqN_f, jNeq_f, jNN, jN1, jadd, jsub, jzin, jcl, if_true, if_false, ite_true, ite_false, not_true, not_false_iff, not_true_eq_false, not_false_eq_true, jB_t, jB_f, jB0_t, jB0_f, jBa, jand11, jand00, ↓reduceIte, Nat.reduceEqDiff, Nat.reduceAdd, Nat.reduceSub, (hgo k hk).2.1]
    rfl
  · show pX7_tookInAll_4 N9 st_took (n + 1) _ _ = _
    simp only [pX7_tookInAll_4]
    simp (disch := omega) only [jb1, jb2, jb3, jb4, jb5, jb6, jb7, jb8, jb9, jb10, jb11, jb12, jb13, jb14, jb15, jb16, jb17, jb18, jb19, jb20, jb21, jb22, jb23, jb24, jb25, jb26, jb27, jb28, jb29, jb30, jb31, jb32, jb33, jb34, jb35, jb36, jb37, jb38, jb39, jb40, jb41, jb42, jb43, jb44, jb45, jb46, jb47, jb48, jb49, jb50, zlet, jlit, jle_t, jle_f, jlt_t, jlt_f, jeq_t, jeq_f, jeqN_f, jNeq_f, jNN, jN1, jadd, jsub, jzin, jcl, if_true, if_false, ite_true, ite_false, not_true, not_false_iff, not_true_eq_false, not_false_eq_true, jB_t, jB_f, jB0_t, jB0_f, jBa, jand11, jand00, ↓reduceIte, Nat.reduceEqDiff, Nat.reduceAdd, Nat.reduceSub]
theorem jxgone (hN : 70000 < N9) : pX7_goneInAll N9 st_gone = some (jS st_gone 5) := by
  unfold pX7_goneInAll
  refine jloop0 (fun n a i => pX7_goneInAll_4 N9 st_gone n a i) 5 (fun k => jS st_gone k) (fun n k hk => ?_) (fun n => ?_) (by omega) rfl
  · show pX7_goneInAll_4 N9 st_gone (n + 1) _ _ = _
    simp only [pX7_goneInAll_4]
    simp (disch := omega) only [jb1, jb2, jb3, jb4, jb5, jb6, jb7, jb8, jb9, jb10, jb11, jb12, jb13, jb14, jb15, jb16, jb17, jb18, jb19, jb20, jb21, jb22, jb23, jb24, jb25, jb26, jb27, jb28, jb29, jb30, jb31, jb32, jb33, jb34, jb35, jb36, jb37, jb38, jb39, jb40, jb41, jb42, jb43, jb44, jb45, jb46, jb47, jb48, jb49, jb50, zlet, jlit, jle_t, jle_f, jlt_t, jlt_f, jeq_t, jeq_f, jeqN_f, jNeq_f, jNN, jN1, jadd, jsub, jzin, jcl, if_true, if_false, ite_true, ite_false, not_true, not_false_iff, not_true_eq_false, not_false_eq_true, jB_t, jB_f, jB0_t, jB0_f, jBa, jand11, jand00, ↓reduceIte, Nat.reduceEqDiff, Nat.reduceAdd, Nat.reduceSub]
    rfl
  · show pX7_goneInAll_4 N9 st_gone (n + 1) _ _ = _
    simp only [pX7_goneInAll_4]
    simp (disch := omega) only [jb1, jb2, jb3, jb4, jb5, jb6, jb7, jb8, jb9, jb10, jb11, jb12, jb13, jb14, jb15, jb16, jb17, jb18, jb19, jb20, jb21, jb22, jb23, jb24, jb25, jb26, jb27, jb28, jb29, jb30, jb31, jb32, jb33, jb34, jb35, jb36, jb37, jb38, jb39, jb40, jb41, jb42, jb43, jb44, jb45, jb46, jb47, jb48, jb49, jb50, zlet, jlit, jle_t, jle_f, jlt_t, jlt_f, jeq_t, jeq_f, jeqN_f, jNeq_f, jNN, jN1, jadd, jsub, jzin, jcl, if_true, if_false, ite_true, ite_false, not_true, not_false_iff, not_true_eq_false, not_false_eq_true, jB_t, jB_f, jB0_t, jB0_f, jBa, jand11, jand00, ↓reduceIte, Nat.reduceEqDiff, Nat.reduceAdd, Nat.reduceSub]
theorem jmtook (hN : 70000 < N9) (hk : jBk G L gt nu fo bk_forgives bk_tolls bk_lengths bk_numbers m_told m_gate m_list) (hs : jSt G B no bo c tk st_now st_born st_age st_passed st_gone st_took (nI B) st_year (nI c) m_now) : pM_tookAll N9 m_told m_now = some (nI (jT tk 5)) := by
  obtain ⟨-, -, -, -, -, -, -, -, hgo, -, h0⟩ := hs
  have hG := hk.1
  have hg1 := hk.2.2.1
  unfold pM_tookAll
  rw [jT_out (tk := tk) hG h0]
  refine jloop0 (fun n a i => pM_tookAll_4 N9 m_told m_now n a i) G (fun k => nI (jT tk k)) (fun n k hk => ?_) (fun n => ?_) (by omega) rfl
  · show pM_tookAll_4 N9 m_told m_now (n + 1) _ _ = _
    simp only [pM_tookAll_4]
    simp (disch := omega) only [jb1, jb2, jb3, jb4, jb5, jb6, jb7, jb8, jb9, jb10, jb11, jb12, jb13, jb14, jb15, jb16, jb17, jb18, jb19, jb20, jb21, jb22, jb23, jb24, jb25, jb26, jb27, jb28, jb29, jb30, jb31, jb32, jb33, jb34, jb35, jb36, jb37, jb38, jb39, jb40, jb41, jb42, jb43, jb44, jb45, jb46, jb47, jb48, jb49, jb50, zlet, jlit, jle_t, jle_f, jlt_t, jlt_f, jeq_t, jeq_f, jeqN_f, jNeq_f, jNN, jN1, jadd, jsub, jzin, jcl, if_true, if_false, ite_true, ite_false, not_true, not_false_iff, not_true_eq_false, not_false_eq_true, jB_t, jB_f, jB0_t, jB0_f, jBa, jand11, jand00, ↓reduceIte, Nat.reduceEqDiff, Nat.reduceAdd, Nat.reduceSub, hg1, (hgo k (by omega)).2.2]
    rfl
  · show pM_tookAll_4 N9 m_told m_now (n + 1) _ _ = _
    simp only [pM_tookAll_4]
    simp (disch := omega) only [jb1, jb2, jb3, jb4, jb5, jb6, jb7, jb8, jb9, jb10, jb11, jb12, jb13, jb14, jb15, jb16, jb17, jb18, jb19, jb20, jb21, jb22, jb23, jb24, jb25, jb26, jb27, jb28, jb29, jb30, jb31, jb32, jb33, jb34, jb35, jb36, jb37, jb38, jb39, jb40, jb41, jb42, jb43, jb44, jb45, jb46, jb47, jb48, jb49, jb50, zlet, jlit, jle_t, jle_f, jlt_t, jlt_f, jeq_t, jeq_f, jeqN_f, jNeq_f, jNN, jN1, jadd, jsub, jzin, jcl, if_true, if_false, ite_true, ite_false, not_true, not_false_iff, not_true_eq_false, not_false_eq_true, jB_t, jB_f, jB0_t, jB0_f, jBa, jand11, jand00, ↓reduceIte, Nat.reduceEqDiff, Nat.reduceAdd, Nat.reduceSub, hg1]
theorem jxchg (hN : 70000 < N9) (hs : jSt G B no bo c tk st_now st_born st_age st_passed st_gone st_took (nI B) st_year (nI c) m_now) : pX7_changedBeasts N9 st_now st_born (nI B) = some (jbits (fun b => !decide (no b = bo b)) B) := by
  obtain ⟨hB, -, -, -, -, -, -, hno, -⟩ := hs
  unfold pX7_changedBeasts
  refine jloop0 (fun n a i => pX7_changedBeasts_4 N9 st_now st_born (nI B) n a i) B (fun k => jbits (fun b => !decide (no b = bo b)) k) (fun n k hk => ?_) (fun n => ?_) (by omega) rfl
  · obtain ⟨h1, h2, h3, -, h4, -⟩ := hno k hk
    show pX7_changedBeasts_4 N9 st_now st_born (nI B) (n + 1) _ _ = _
    simp only [pX7_changedBeasts_4, pX7_changedBeasts_33]
    by_cases hc : no k = bo k
    · simp (disch := omega) only [jb1, jb2, jb3, jb4, jb5, jb6, jb7, jb8, jb9, jb10, jb11, jb12, jb13, jb14, jb15, jb16, jb17, jb18, jb19, jb20, jb21, jb22, jb23, jb24, jb25, jb26, jb27, jb28, jb29, jb30, jb31, jb32, jb33, jb34, jb35, jb36, jb37, jb38, jb39, jb40, jb41, jb42, jb43, jb44, jb45, jb46, jb47, jb48, jb49, jb50, zlet, jlit, jle_t, jle_f, jlt_t, jlt_f, jeq_t, jeq_f, jeqN_f, jNeq_f, jNN, jN1, jadd, jsub, jzin, jcl, if_true, if_false, ite_true, ite_false, not_true, not_false_iff, not_true_eq_false, not_false_eq_true, jB_t, jB_f, jB0_t, jB0_f, jBa, jand11, jand00, ↓reduceIte, Nat.reduceEqDiff, Nat.reduceAdd, Nat.reduceSub, h3, h4, jbits, hc, decide_true, Bool.not_true, Bool.false_eq_true]
    · simp (disch := omega) only [jb1, jb2, jb3, jb4, jb5, jb6, jb7, jb8, jb9, jb10, jb11, jb12, jb13, jb14, jb15, jb16, jb17, jb18, jb19, jb20, jb21, jb22, jb23, jb24, jb25, jb26, jb27, jb28, jb29, jb30, jb31, jb32, jb33, jb34, jb35, jb36, jb37, jb38, jb39, jb40, jb41, jb42, jb43, jb44, jb45, jb46, jb47, jb48, jb49, jb50, zlet, jlit, jle_t, jle_f, jlt_t, jlt_f, jeq_t, jeq_f, jeqN_f, jNeq_f, jNN, jN1, jadd, jsub, jzin, jcl, if_true, if_false, ite_true, ite_false, not_true, not_false_iff, not_true_eq_false, not_false_eq_true, jB_t, jB_f, jB0_t, jB0_f, jBa, jand11, jand00, ↓reduceIte, Nat.reduceEqDiff, Nat.reduceAdd, Nat.reduceSub, h3, h4, jbits, hc, decide_false, Bool.not_false]
  · show pX7_changedBeasts_4 N9 st_now st_born (nI B) (n + 1) _ _ = _
    simp only [pX7_changedBeasts_4, pX7_changedBeasts_33]
    simp (disch := omega) only [jb1, jb2, jb3, jb4, jb5, jb6, jb7, jb8, jb9, jb10, jb11, jb12, jb13, jb14, jb15, jb16, jb17, jb18, jb19, jb20, jb21, jb22, jb23, jb24, jb25, jb26, jb27, jb28, jb29, jb30, jb31, jb32, jb33, jb34, jb35, jb36, jb37, jb38, jb39, jb40, jb41, jb42, jb43, jb44, jb45, jb46, jb47, jb48, jb49, jb50, zlet, jlit, jle_t, jle_f, jlt_t, jlt_f, jeq_t, jeq_f, jeqN_f, jNeq_f, jNN, jN1, jadd, jsub, jzin, jcl, if_true, if_false, ite_true, ite_false, not_true, not_false_iff, not_true_eq_false, not_false_eq_true, jB_t, jB_f, jB0_t, jB0_f, jBa, jand11, jand00, ↓reduceIte, Nat.reduceEqDiff, Nat.reduceAdd, Nat.reduceSub]
theorem jmchg (hN : 70000 < N9) (hs : jSt G B no bo c tk st_now st_born st_age st_passed st_gone st_took (nI B) st_year (nI c) m_now) : pM_changedIn N9 m_now = some (jbits (fun b => !decide (no b = bo b)) B) := by
  obtain ⟨hB, -, hb, -, -, -, -, hno, -⟩ := hs
  unfold pM_changedIn
  refine jloop0 (fun n a i => pM_changedIn_4 N9 m_now n a i) B (fun k => jbits (fun b => !decide (no b = bo b)) k) (fun n k hk => ?_) (fun n => ?_) (by omega) rfl
  · obtain ⟨h1, h2, -, h3, -, h4, -⟩ := hno k hk
    show pM_changedIn_4 N9 m_now (n + 1) _ _ = _
    simp only [pM_changedIn_4, pM_changedIn_34]
    by_cases hc : no k = bo k
    · simp (disch := omega) only [jb1, jb2, jb3, jb4, jb5, jb6, jb7, jb8, jb9, jb10, jb11, jb12, jb13, jb14, jb15, jb16, jb17, jb18, jb19, jb20, jb21, jb22, jb23, jb24, jb25, jb26, jb27, jb28, jb29, jb30, jb31, jb32, jb33, jb34, jb35, jb36, jb37, jb38, jb39, jb40, jb41, jb42, jb43, jb44, jb45, jb46, jb47, jb48, jb49, jb50, zlet, jlit, jle_t, jle_f, jlt_t, jlt_f, jeq_t, jeq_f, jeqN_f, jNeq_f, jNN, jN1, jadd, jsub, jzin, jcl, if_true, if_false, ite_true, ite_false, not_true, not_false_iff, not_true_eq_false, not_false_eq_true, jB_t, jB_f, jB0_t, jB0_f, jBa, jand11, jand00, ↓reduceIte, Nat.reduceEqDiff, Nat.reduceAdd, Nat.reduceSub, hb, Nat.zero_add, h3, h4, jbits, hc, decide_true, Bool.not_true, Bool.false_eq_true, jor0]
    · simp (disch := omega) only [jb1, jb2, jb3, jb4, jb5, jb6, jb7, jb8, jb9, jb10, jb11, jb12, jb13, jb14, jb15, jb16, jb17, jb18, jb19, jb20, jb21, jb22, jb23, jb24, jb25, jb26, jb27, jb28, jb29, jb30, jb31, jb32, jb33, jb34, jb35, jb36, jb37, jb38, jb39, jb40, jb41, jb42, jb43, jb44, jb45, jb46, jb47, jb48, jb49, jb50, zlet, jlit, jle_t, jle_f, jlt_t, jlt_f, jeq_t, jeq_f, jeqN_f, jNeq_f, jNN, jN1, jadd, jsub, jzin, jcl, if_true, if_false, ite_true, ite_false, not_true, not_false_iff, not_true_eq_false, not_false_eq_true, jB_t, jB_f, jB0_t, jB0_f, jBa, jand11, jand00, ↓reduceIte, Nat.reduceEqDiff, Nat.reduceAdd, Nat.reduceSub, hb, Nat.zero_add, h3, h4, jbits, hc, decide_false, Bool.not_false]
  · show pM_changedIn_4 N9 m_now (n + 1) _ _ = _
    simp only [pM_changedIn_4, pM_changedIn_34]
    simp (disch := omega) only [jb1, jb2, jb3, jb4, jb5, jb6, jb7, jb8, jb9, jb10, jb11, jb12, jb13, jb14, jb15, jb16, jb17, jb18, jb19, jb20, jb21, jb22, jb23, jb24, jb25, jb26, jb27, jb28, jb29, jb30, jb31, jb32, jb33, jb34, jb35, jb36, jb37, jb38, jb39, jb40, jb41, jb42, jb43, jb44, jb45, jb46, jb47, jb48, jb49, jb50, zlet, jlit, jle_t, jle_f, jlt_t, jlt_f, jeq_t, jeq_f, jeqN_f, jNeq_f, jNN, jN1, jadd, jsub, jzin, jcl, if_true, if_false, ite_true, ite_false, not_true, not_false_iff, not_true_eq_false, not_false_eq_true, jB_t, jB_f, jB0_t, jB0_f, jBa, jand11, jand00, ↓reduceIte, Nat.reduceEqDiff, Nat.reduceAdd, Nat.reduceSub, hb]
theorem jxgates (hN : 70000 < N9) (hk : jBk G L gt nu fo bk_forgives bk_tolls bk_lengths bk_numbers m_told m_gate m_list) {v : Nat} (hv : v < 256) : pX5_gatesOpenTo N9 bk_forgives bk_lengths bk_numbers (nI G) (nI v) = some (jbits (fun g => jopen gt nu fo L g v) G) := by
  have hG := hk.1
  unfold pX5_gatesOpenTo
  refine jloop0 (fun n a i => pX5_gatesOpenTo_4 N9 bk_forgives bk_lengths bk_numbers (nI G) (nI v) n a i) G (fun k => jbits (fun g => jopen gt nu fo L g v) k) (fun n k hg => ?_) (fun n => ?_) (by omega) rfl
  · show pX5_gatesOpenTo_4 N9 bk_forgives bk_lengths bk_numbers (nI G) (nI v) (n + 1) _ _ = _
    simp only [pX5_gatesOpenTo_4, pX5_gatesOpenTo_30]
    cases hc : jopen gt nu fo L k v
    · simp (disch := omega) only [jb1, jb2, jb3, jb4, jb5, jb6, jb7, jb8, jb9, jb10, jb11, jb12, jb13, jb14, jb15, jb16, jb17, jb18, jb19, jb20, jb21, jb22, jb23, jb24, jb25, jb26, jb27, jb28, jb29, jb30, jb31, jb32, jb33, jb34, jb35, jb36, jb37, jb38, jb39, jb40, jb41, jb42, jb43, jb44, jb45, jb46, jb47, jb48, jb49, jb50, zlet, jlit, jle_t, jle_f, jlt_t, jlt_f, jeq_t, jeq_f, jeqN_f, jNeq_f, jNN, jN1, jadd, jsub, jzin, jcl, if_true, if_false, ite_true, ite_false, not_true, not_false_iff, not_true_eq_false, not_false_eq_true, jB_t, jB_f, jB0_t, jB0_f, jBa, jand11, jand00, ↓reduceIte, Nat.reduceEqDiff, Nat.reduceAdd, Nat.reduceSub, jxopen hN hk hv hg, hc, jbits, Bool.false_eq_true]
    · simp (disch := omega) only [jb1, jb2, jb3, jb4, jb5, jb6, jb7, jb8, jb9, jb10, jb11, jb12, jb13, jb14, jb15, jb16, jb17, jb18, jb19, jb20, jb21, jb22, jb23, jb24, jb25, jb26, jb27, jb28, jb29, jb30, jb31, jb32, jb33, jb34, jb35, jb36, jb37, jb38, jb39, jb40, jb41, jb42, jb43, jb44, jb45, jb46, jb47, jb48, jb49, jb50, zlet, jlit, jle_t, jle_f, jlt_t, jlt_f, jeq_t, jeq_f, jeqN_f, jNeq_f, jNN, jN1, jadd, jsub, jzin, jcl, if_true, if_false, ite_true, ite_false, not_true, not_false_iff, not_true_eq_false, not_false_eq_true, jB_t, jB_f, jB0_t, jB0_f, jBa, jand11, jand00, ↓reduceIte, Nat.reduceEqDiff, Nat.reduceAdd, Nat.reduceSub, jxopen hN hk hv hg, hc, jbits]
  · show pX5_gatesOpenTo_4 N9 bk_forgives bk_lengths bk_numbers (nI G) (nI v) (n + 1) _ _ = _
    simp only [pX5_gatesOpenTo_4, pX5_gatesOpenTo_30]
    simp (disch := omega) only [jb1, jb2, jb3, jb4, jb5, jb6, jb7, jb8, jb9, jb10, jb11, jb12, jb13, jb14, jb15, jb16, jb17, jb18, jb19, jb20, jb21, jb22, jb23, jb24, jb25, jb26, jb27, jb28, jb29, jb30, jb31, jb32, jb33, jb34, jb35, jb36, jb37, jb38, jb39, jb40, jb41, jb42, jb43, jb44, jb45, jb46, jb47, jb48, jb49, jb50, zlet, jlit, jle_t, jle_f, jlt_t, jlt_f, jeq_t, jeq_f, jeqN_f, jNeq_f, jNN, jN1, jadd, jsub, jzin, jcl, if_true, if_false, ite_true, ite_false, not_true, not_false_iff, not_true_eq_false, not_false_eq_true, jB_t, jB_f, jB0_t, jB0_f, jBa, jand11, jand00, ↓reduceIte, Nat.reduceEqDiff, Nat.reduceAdd, Nat.reduceSub]
theorem jxthru (hN : 70000 < N9) (hk : jBk G L gt nu fo bk_forgives bk_tolls bk_lengths bk_numbers m_told m_gate m_list) (hs : jSt G B no bo c tk st_now st_born st_age st_passed st_gone st_took (nI B) st_year (nI c) m_now) {g : Nat} (hg : g < G) : pX5_beastsLetThrough N9 bk_forgives bk_lengths bk_numbers st_now (nI B) (nI g) = some (jbits (fun b => jopen gt nu fo L g (no b)) B) := by
  obtain ⟨hB, -, -, -, -, -, -, hno, -⟩ := hs
  unfold pX5_beastsLetThrough
  refine jloop0 (fun n a i => pX5_beastsLetThrough_5 N9 bk_forgives bk_lengths bk_numbers st_now (nI B) (nI g) n a i) B (fun k => jbits (fun b => jopen gt nu fo L g (no b)) k) (fun n k hb => ?_) (fun n => ?_) (by omega) rfl
  · obtain ⟨h1, h2, h3, -, h4, -⟩ := hno k hb
    show pX5_beastsLetThrough_5 N9 bk_forgives bk_lengths bk_numbers st_now (nI B) (nI g) (n + 1) _ _ = _
    simp only [pX5_beastsLetThrough_5, pX5_beastsLetThrough_36]
    cases hc : jopen gt nu fo L g (no k)
    · simp (disch := omega) only [jb1, jb2, jb3, jb4, jb5, jb6, jb7, jb8, jb9, jb10, jb11, jb12, jb13, jb14, jb15, jb16, jb17, jb18, jb19, jb20, jb21, jb22, jb23, jb24, jb25, jb26, jb27, jb28, jb29, jb30, jb31, jb32, jb33, jb34, jb35, jb36, jb37, jb38, jb39, jb40, jb41, jb42, jb43, jb44, jb45, jb46, jb47, jb48, jb49, jb50, zlet, jlit, jle_t, jle_f, jlt_t, jlt_f, jeq_t, jeq_f, jeqN_f, jNeq_f, jNN, jN1, jadd, jsub, jzin, jcl, if_true, if_false, ite_true, ite_false, not_true, not_false_iff, not_true_eq_false, not_false_eq_true, jB_t, jB_f, jB0_t, jB0_f, jBa, jand11, jand00, ↓reduceIte, Nat.reduceEqDiff, Nat.reduceAdd, Nat.reduceSub, h3, jxopen hN hk h1 hg, hc, jbits, Bool.false_eq_true]
    · simp (disch := omega) only [jb1, jb2, jb3, jb4, jb5, jb6, jb7, jb8, jb9, jb10, jb11, jb12, jb13, jb14, jb15, jb16, jb17, jb18, jb19, jb20, jb21, jb22, jb23, jb24, jb25, jb26, jb27, jb28, jb29, jb30, jb31, jb32, jb33, jb34, jb35, jb36, jb37, jb38, jb39, jb40, jb41, jb42, jb43, jb44, jb45, jb46, jb47, jb48, jb49, jb50, zlet, jlit, jle_t, jle_f, jlt_t, jlt_f, jeq_t, jeq_f, jeqN_f, jNeq_f, jNN, jN1, jadd, jsub, jzin, jcl, if_true, if_false, ite_true, ite_false, not_true, not_false_iff, not_true_eq_false, not_false_eq_true, jB_t, jB_f, jB0_t, jB0_f, jBa, jand11, jand00, ↓reduceIte, Nat.reduceEqDiff, Nat.reduceAdd, Nat.reduceSub, h3, jxopen hN hk h1 hg, hc, jbits]
  · show pX5_beastsLetThrough_5 N9 bk_forgives bk_lengths bk_numbers st_now (nI B) (nI g) (n + 1) _ _ = _
    simp only [pX5_beastsLetThrough_5, pX5_beastsLetThrough_36]
    simp (disch := omega) only [jb1, jb2, jb3, jb4, jb5, jb6, jb7, jb8, jb9, jb10, jb11, jb12, jb13, jb14, jb15, jb16, jb17, jb18, jb19, jb20, jb21, jb22, jb23, jb24, jb25, jb26, jb27, jb28, jb29, jb30, jb31, jb32, jb33, jb34, jb35, jb36, jb37, jb38, jb39, jb40, jb41, jb42, jb43, jb44, jb45, jb46, jb47, jb48, jb49, jb50, zlet, jlit, jle_t, jle_f, jlt_t, jlt_f, jeq_t, jeq_f, jeqN_f, jNeq_f, jNN, jN1, jadd, jsub, jzin, jcl, if_true, if_false, ite_true, ite_false, not_true, not_false_iff, not_true_eq_false, not_false_eq_true, jB_t, jB_f, jB0_t, jB0_f, jBa, jand11, jand00, ↓reduceIte, Nat.reduceEqDiff, Nat.reduceAdd, Nat.reduceSub]
theorem jmthru (hN : 70000 < N9) (hk : jBk G L gt nu fo bk_forgives bk_tolls bk_lengths bk_numbers m_told m_gate m_list) (hs : jSt G B no bo c tk st_now st_born st_age st_passed st_gone st_took (nI B) st_year (nI c) m_now) {g : Nat} (hg : g < G) : pM_openTo N9 m_told m_gate m_list m_now (nI g) = some (jbits (fun b => jopen gt nu fo L g (no b)) B) := by
  obtain ⟨hB, -, hb42, -, -, -, -, hno, -⟩ := hs
  unfold pM_openTo
  refine jloop0 (fun n a i => pM_openTo_4 N9 m_told m_gate m_list m_now (nI g) n a i) B (fun k => jbits (fun b => jopen gt nu fo L g (no b)) k) (fun n k hb => ?_) (fun n => ?_) (by omega) rfl
  · obtain ⟨h1, h2, -, h3, -, h4, -⟩ := hno k hb
    show pM_openTo_4 N9 m_told m_gate m_list m_now (nI g) (n + 1) _ _ = _
    simp only [pM_openTo_4, pM_openTo_39]
    cases hc : jopen gt nu fo L g (no k)
    · simp (disch := omega) only [jb1, jb2, jb3, jb4, jb5, jb6, jb7, jb8, jb9, jb10, jb11, jb12, jb13, jb14, jb15, jb16, jb17, jb18, jb19, jb20, jb21, jb22, jb23, jb24, jb25, jb26, jb27, jb28, jb29, jb30, jb31, jb32, jb33, jb34, jb35, jb36, jb37, jb38, jb39, jb40, jb41, jb42, jb43, jb44, jb45, jb46, jb47, jb48, jb49, jb50, zlet, jlit, jle_t, jle_f, jlt_t, jlt_f, jeq_t, jeq_f, jeqN_f, jNeq_f, jNN, jN1, jadd, jsub, jzin, jcl, if_true, if_false, ite_true, ite_false, not_true, not_false_iff, not_true_eq_false, not_false_eq_true, jB_t, jB_f, jB0_t, jB0_f, jBa, jand11, jand00, ↓reduceIte, Nat.reduceEqDiff, Nat.reduceAdd, Nat.reduceSub, hb42, Nat.zero_add, h3, jmopen hN hk h1 hg, hc, jbits, Bool.false_eq_true, jor0]
    · simp (disch := omega) only [jb1, jb2, jb3, jb4, jb5, jb6, jb7, jb8, jb9, jb10, jb11, jb12, jb13, jb14, jb15, jb16, jb17, jb18, jb19, jb20, jb21, jb22, jb23, jb24, jb25, jb26, jb27, jb28, jb29, jb30, jb31, jb32, jb33, jb34, jb35, jb36, jb37, jb38, jb39, jb40, jb41, jb42, jb43, jb44, jb45, jb46, jb47, jb48, jb49, jb50, zlet, jlit, jle_t, jle_f, jlt_t, jlt_f, jeq_t, jeq_f, jeqN_f, jNeq_f, jNN, jN1, jadd, jsub, jzin, jcl, if_true, if_false, ite_true, ite_false, not_true, not_false_iff, not_true_eq_false, not_false_eq_true, jB_t, jB_f, jB0_t, jB0_f, jBa, jand11, jand00, ↓reduceIte, Nat.reduceEqDiff, Nat.reduceAdd, Nat.reduceSub, hb42, Nat.zero_add, h3, jmopen hN hk h1 hg, hc, jbits]
  · show pM_openTo_4 N9 m_told m_gate m_list m_now (nI g) (n + 1) _ _ = _
    simp only [pM_openTo_4, pM_openTo_39]
    simp (disch := omega) only [jb1, jb2, jb3, jb4, jb5, jb6, jb7, jb8, jb9, jb10, jb11, jb12, jb13, jb14, jb15, jb16, jb17, jb18, jb19, jb20, jb21, jb22, jb23, jb24, jb25, jb26, jb27, jb28, jb29, jb30, jb31, jb32, jb33, jb34, jb35, jb36, jb37, jb38, jb39, jb40, jb41, jb42, jb43, jb44, jb45, jb46, jb47, jb48, jb49, jb50, zlet, jlit, jle_t, jle_f, jlt_t, jlt_f, jeq_t, jeq_f, jeqN_f, jNeq_f, jNN, jN1, jadd, jsub, jzin, jcl, if_true, if_false, ite_true, ite_false, not_true, not_false_iff, not_true_eq_false, not_false_eq_true, jB_t, jB_f, jB0_t, jB0_f, jBa, jand11, jand00, ↓reduceIte, Nat.reduceEqDiff, Nat.reduceAdd, Nat.reduceSub, hb42]
theorem jmlistOf (hN : 70000 < N9) (hk : jBk G L gt nu fo bk_forgives bk_tolls bk_lengths bk_numbers m_told m_gate m_list) {g : Nat} (hg : g < G) : pM_listOf N9 m_told m_list (nI g) = some (nI (jcnt gt g L)) := by
  obtain ⟨hG, hL, -, hl, -, -, -, hnum⟩ := hk
  unfold pM_listOf
  refine jloop0 (fun n a i => pM_listOf_4 N9 m_told m_list (nI g) n a i) L (fun k => nI (jcnt gt g k)) (fun n k hk => ?_) (fun n => ?_) (by omega) rfl
  · obtain ⟨h0, h3, h6, h7, h4⟩ := hnum k hk
    have h5 := jcnt_le gt g k
    show pM_listOf_4 N9 m_told m_list (nI g) (n + 1) _ _ = _
    simp only [pM_listOf_4, pM_listOf_32]
    by_cases hc : gt k = g
    · simp (disch := omega) only [jb1, jb2, jb3, jb4, jb5, jb6, jb7, jb8, jb9, jb10, jb11, jb12, jb13, jb14, jb15, jb16, jb17, jb18, jb19, jb20, jb21, jb22, jb23, jb24, jb25, jb26, jb27, jb28, jb29, jb30, jb31, jb32, jb33, jb34, jb35, jb36, jb37, jb38, jb39, jb40, jb41, jb42, jb43, jb44, jb45, jb46, jb47, jb48, jb49, jb50, zlet, jlit, jle_t, jle_f, jlt_t, jlt_f, jeq_t, jeq_f, jeqN_f, jNeq_f, jNN, jN1, jadd, jsub, jzin, jcl, if_true, if_false, ite_true, ite_false, not_true, not_false_iff, not_true_eq_false, not_false_eq_true, jB_t, jB_f, jB0_t, jB0_f, jBa, jand11, jand00, ↓reduceIte, Nat.reduceEqDiff, Nat.reduceAdd, Nat.reduceSub, hl, h6, jcnt, hc]
    · simp (disch := omega) only [jb1, jb2, jb3, jb4, jb5, jb6, jb7, jb8, jb9, jb10, jb11, jb12, jb13, jb14, jb15, jb16, jb17, jb18, jb19, jb20, jb21, jb22, jb23, jb24, jb25, jb26, jb27, jb28, jb29, jb30, jb31, jb32, jb33, jb34, jb35, jb36, jb37, jb38, jb39, jb40, jb41, jb42, jb43, jb44, jb45, jb46, jb47, jb48, jb49, jb50, zlet, jlit, jle_t, jle_f, jlt_t, jlt_f, jeq_t, jeq_f, jeqN_f, jNeq_f, jNN, jN1, jadd, jsub, jzin, jcl, if_true, if_false, ite_true, ite_false, not_true, not_false_iff, not_true_eq_false, not_false_eq_true, jB_t, jB_f, jB0_t, jB0_f, jBa, jand11, jand00, ↓reduceIte, Nat.reduceEqDiff, Nat.reduceAdd, Nat.reduceSub, hl, h6, jcnt, hc]
  · show pM_listOf_4 N9 m_told m_list (nI g) (n + 1) _ _ = _
    simp only [pM_listOf_4, pM_listOf_32]
    simp (disch := omega) only [jb1, jb2, jb3, jb4, jb5, jb6, jb7, jb8, jb9, jb10, jb11, jb12, jb13, jb14, jb15, jb16, jb17, jb18, jb19, jb20, jb21, jb22, jb23, jb24, jb25, jb26, jb27, jb28, jb29, jb30, jb31, jb32, jb33, jb34, jb35, jb36, jb37, jb38, jb39, jb40, jb41, jb42, jb43, jb44, jb45, jb46, jb47, jb48, jb49, jb50, zlet, jlit, jle_t, jle_f, jlt_t, jlt_f, jeq_t, jeq_f, jeqN_f, jNeq_f, jNN, jN1, jadd, jsub, jzin, jcl, if_true, if_false, ite_true, ite_false, not_true, not_false_iff, not_true_eq_false, not_false_eq_true, jB_t, jB_f, jB0_t, jB0_f, jBa, jand11, jand00, ↓reduceIte, Nat.reduceEqDiff, Nat.reduceAdd, Nat.reduceSub, hl]
/-- none near: no number listed -/
theorem jnear_none (gt nu : Nat → Nat) (g v : Nat) : ∀ L, jnear gt nu g L v = -nI 1 ↔ jcnt gt g L = 0 := by
  intro L
  induction L with
  | zero => exact ⟨fun _ => rfl, fun _ => rfl⟩
  | succ L ih =>
    unfold jnear at ih ⊢
    rw [jfl, jcnt]
    by_cases hc : gt L = g
    · rw [if_pos hc, if_pos hc]
      have hp := jpop_le (v ^^^ nu L)
      constructor
      · intro h
        exfalso
        rcases jnear_rng gt nu g L v with h1 | ⟨m, h2, h1⟩
        · unfold jnear at h1
          rw [h1] at h
          unfold jns at h
          rw [if_pos rfl] at h
          exact absurd h.symm (by rw [jNeq_f (by omega)]; exact id)
        · unfold jnear at h1
          rw [h1] at h
          unfold jns at h
          rw [if_neg (by rw [jeqN_f (by omega)]; exact id)] at h
          split at h
          · exact absurd h (by rw [jeqN_f (by omega)]; exact id)
          · exact absurd h (by rw [jeqN_f (by omega)]; exact id)
      · intro h; omega
    · rw [if_neg hc, if_neg hc, Nat.add_zero]
      exact ih
theorem jcase_n (N9 : Nat) (x : Int32) : (∃ k, k < 256 ∧ x = nI k ∧ pX9_isWithin N9 x (nI 0) (nI 255) = some (nI 1) ∧ pM_isNumber N9 x = some (nI 1)) ∨ (pX9_isWithin N9 x (nI 0) (nI 255) = some (nI 0) ∧ pM_isNumber N9 x = some (nI 0)) := by
  unfold pM_isNumber
  rcases jcase_a N9 (a := 255) (by omega) x with ⟨k, h1, h2, h3, h4⟩ | ⟨h3, h4⟩
  · left
    refine ⟨k, by omega, h2, h3, ?_⟩
    simp (disch := omega) only [jb1, jb2, jb3, jb4, jb5, jb6, jb7, jb8, jb9, jb10, jb11, jb12, jb13, jb14, jb15, jb16, jb17, jb18, jb19, jb20, jb21, jb22, jb23, jb24, jb25, jb26, jb27, jb28, jb29, jb30, jb31, jb32, jb33, jb34, jb35, jb36, jb37, jb38, jb39, jb40, jb41, jb42, jb43, jb44, jb45, jb46, jb47, jb48, jb49, jb50, zlet, jlit, jle_t, jle_f, jlt_t, jlt_f, jeq_t, jeq_f, jeqN_f, jNeq_f, jNN, jN1, jadd, jsub, jzin, jcl, if_true, if_false, ite_true, ite_false, not_true, not_false_iff, not_true_eq_false, not_false_eq_true, jB_t, jB_f, jB0_t, jB0_f, jBa, jand11, jand00, ↓reduceIte, Nat.reduceEqDiff, Nat.reduceAdd, Nat.reduceSub, h4]
  · right
    refine ⟨h3, ?_⟩
    simp (disch := omega) only [jb1, jb2, jb3, jb4, jb5, jb6, jb7, jb8, jb9, jb10, jb11, jb12, jb13, jb14, jb15, jb16, jb17, jb18, jb19, jb20, jb21, jb22, jb23, jb24, jb25, jb26, jb27, jb28, jb29, jb30, jb31, jb32, jb33, jb34, jb35, jb36, jb37, jb38, jb39, jb40, jb41, jb42, jb43, jb44, jb45, jb46, jb47, jb48, jb49, jb50, zlet, jlit, jle_t, jle_f, jlt_t, jlt_f, jeq_t, jeq_f, jeqN_f, jNeq_f, jNN, jN1, jadd, jsub, jzin, jcl, if_true, if_false, ite_true, ite_false, not_true, not_false_iff, not_true_eq_false, not_false_eq_true, jB_t, jB_f, jB0_t, jB0_f, jBa, jand11, jand00, ↓reduceIte, Nat.reduceEqDiff, Nat.reduceAdd, Nat.reduceSub, h4]
end BT
