/-! the list of least numbers: its groups -/
section C14
variable {N9 G L B c n : Nat} {gt nu fo kk vv no bo tk : Nat → Nat} {bk_forgives bk_tolls bk_lengths : Nat → Int32} {bk_numbers : Nat → Nat → Int32} {m_told : Nat → Int32} {m_gate m_list : Nat → Nat → Int32}
variable {lw_kinds lw_values : Nat → Int32} {lw_length m_lawMany : Int32} {m_law : Nat → Nat → Int32} {st_now st_born st_age st_passed st_gone st_took : Nat → Int32} {st_year re ra : Int32} {m_now m_refused : Nat → Int32}
/-- the beasts near to a number -/
def jgr (no : Nat → Nat) (B k w : Nat) : Int32 := jbits (fun b => decide (jpop (w ^^^ no b) ≤ k)) B
theorem jmnearTo (hN : 70000 < N9) (hs : jSt G B no bo c tk st_now st_born st_age st_passed st_gone st_took (nI B) st_year (nI c) m_now) {w k : Nat} (hw : w < 256) (hk : k ≤ 8) : pM_nearTo N9 m_now (nI w) (nI k) = some (jgr no B k w) := by
  obtain ⟨hB, -, h42, -, -, -, -, hno, -⟩ := hs
  unfold pM_nearTo
  refine jloop0 (fun n a i => pM_nearTo_5 N9 m_now (nI w) (nI k) n a i) B (fun q => jbits (fun b => decide (jpop (w ^^^ no b) ≤ k)) q) (fun n q hq => ?_) (fun n => ?_) (by omega) rfl
  · obtain ⟨h1, -, -, h3, -⟩ := hno q hq
    have hx := jxor_lt hw h1
    have hp := jpop_le (w ^^^ no q)
    show pM_nearTo_5 N9 m_now (nI w) (nI k) (n + 1) _ _ = pM_nearTo_5 N9 m_now (nI w) (nI k) n _ _
    simp only [pM_nearTo_5, pM_nearTo_44, jlit]
    by_cases hc : jpop (w ^^^ no q) ≤ k
    · simp (disch := omega) only [jb1, jb2, jb3, jb4, jb5, jb6, jb7, jb8, jb9, jb10, jb11, jb12, jb13, jb14, jb15, jb16, jb17, jb18, jb19, jb20, jb21, jb22, jb23, jb24, jb25, jb26, jb27, jb28, jb29, jb30, jb31, jb32, jb33, jb34, jb35, jb36, jb37, jb38, jb39, jb40, jb41, jb42, jb43, jb44, jb45, jb46, jb47, jb48, jb49, jb50, zlet, jlit, jle_t, jle_f, jlt_t, jlt_f, jeq_t, jeq_f, jeqN_f, jNeq_f, jNN, jN1, jadd, jsub, jzin, jcl, if_true, if_false, ite_true, ite_false, not_true, not_false_iff, not_true_eq_false, not_false_eq_true, jB_t, jB_f, jB0_t, jB0_f, jBa, jand11, jand00, ↓reduceIte, Nat.reduceEqDiff, Nat.reduceAdd, Nat.reduceSub, h42, Nat.zero_add, h3, jxor, jo hN hx, jbits, hc, decide_true]
    · simp (disch := omega) only [jb1, jb2, jb3, jb4, jb5, jb6, jb7, jb8, jb9, jb10, jb11, jb12, jb13, jb14, jb15, jb16, jb17, jb18, jb19, jb20, jb21, jb22, jb23, jb24, jb25, jb26, jb27, jb28, jb29, jb30, jb31, jb32, jb33, jb34, jb35, jb36, jb37, jb38, jb39, jb40, jb41, jb42, jb43, jb44, jb45, jb46, jb47, jb48, jb49, jb50, zlet, jlit, jle_t, jle_f, jlt_t, jlt_f, jeq_t, jeq_f, jeqN_f, jNeq_f, jNN, jN1, jadd, jsub, jzin, jcl, if_true, if_false, ite_true, ite_false, not_true, not_false_iff, not_true_eq_false, not_false_eq_true, jB_t, jB_f, jB0_t, jB0_f, jBa, jand11, jand00, ↓reduceIte, Nat.reduceEqDiff, Nat.reduceAdd, Nat.reduceSub, h42, Nat.zero_add, h3, jxor, jo hN hx, jbits, hc, decide_false, Bool.false_eq_true, jor0]
  · show pM_nearTo_5 N9 m_now (nI w) (nI k) (n + 1) _ _ = _
    simp only [pM_nearTo_5, jlit]
    simp (disch := omega) only [jb1, jb2, jb3, jb4, jb5, jb6, jb7, jb8, jb9, jb10, jb11, jb12, jb13, jb14, jb15, jb16, jb17, jb18, jb19, jb20, jb21, jb22, jb23, jb24, jb25, jb26, jb27, jb28, jb29, jb30, jb31, jb32, jb33, jb34, jb35, jb36, jb37, jb38, jb39, jb40, jb41, jb42, jb43, jb44, jb45, jb46, jb47, jb48, jb49, jb50, zlet, jlit, jle_t, jle_f, jlt_t, jlt_f, jeq_t, jeq_f, jeqN_f, jNeq_f, jNN, jN1, jadd, jsub, jzin, jcl, if_true, if_false, ite_true, ite_false, not_true, not_false_iff, not_true_eq_false, not_false_eq_true, jB_t, jB_f, jB0_t, jB0_f, jBa, jand11, jand00, ↓reduceIte, Nat.reduceEqDiff, Nat.reduceAdd, Nat.reduceSub, h42]
    rfl
/-- the class's group of a number: taken when it is none of those before, not empty and within the set -/
theorem jxgroup (hN : 70000 < N9) (hs : jSt G B no bo c tk st_now st_born st_age st_passed st_gone st_took (nI B) st_year (nI c) m_now) {w k : Nat} (hw : w < 256) (hk : k ≤ 8) (x2 x4 : Int32) (gr : Nat → Int32) (k6 : (Nat → Int32) → Int32 → Int32 → Option (Int32 × (Nat → Int32))) :
    pX6_findGroups_20 N9 st_now (nI B) x2 (nI k) k6 N9 gr x4 (nI w) (nI 0) (nI 0) =
      if jgr no B k w = nI 0 then k6 gr x4 (nI (w + 1)) else if (jgr no B k w) &&& (x2 ^^^ -nI 1) = nI 0 then (zb1 (pX6_isGroup N9 gr (jgr no B k w) x4) fun r => if r = nI 0 then (if zin x4 256 then k6 (upd gr x4.toNatClampNeg (jgr no B k w)) (x4 + nI 1) (nI (w + 1)) else none) else k6 gr x4 (nI (w + 1))) else k6 gr x4 (nI (w + 1)) := by
  obtain ⟨hB, -, h42, -, -, -, -, hno, -⟩ := hs
  refine jloop0 (fun n a i => pX6_findGroups_20 N9 st_now (nI B) x2 (nI k) k6 n gr x4 (nI w) a i) B (fun q => jbits (fun b => decide (jpop (w ^^^ no b) ≤ k)) q) (fun n q hq => ?_) (fun n => ?_) (by omega) rfl
  · obtain ⟨h1, -, h3, -⟩ := hno q hq
    have hx := jxor_lt hw h1
    have hp := jpop_le (w ^^^ no q)
    show pX6_findGroups_20 N9 st_now (nI B) x2 (nI k) k6 (n + 1) gr x4 (nI w) _ _ = pX6_findGroups_20 N9 st_now (nI B) x2 (nI k) k6 n gr x4 (nI w) _ _
    simp only [pX6_findGroups_20, pX6_findGroups_55, jlit]
    by_cases hc : jpop (w ^^^ no q) ≤ k
    · simp (disch := omega) only [jb1, jb2, jb3, jb4, jb5, jb6, jb7, jb8, jb9, jb10, jb11, jb12, jb13, jb14, jb15, jb16, jb17, jb18, jb19, jb20, jb21, jb22, jb23, jb24, jb25, jb26, jb27, jb28, jb29, jb30, jb31, jb32, jb33, jb34, jb35, jb36, jb37, jb38, jb39, jb40, jb41, jb42, jb43, jb44, jb45, jb46, jb47, jb48, jb49, jb50, zlet, jlit, jle_t, jle_f, jlt_t, jlt_f, jeq_t, jeq_f, jeqN_f, jNeq_f, jNN, jN1, jadd, jsub, jzin, jcl, if_true, if_false, ite_true, ite_false, not_true, not_false_iff, not_true_eq_false, not_false_eq_true, jB_t, jB_f, jB0_t, jB0_f, jBa, jand11, jand00, ↓reduceIte, Nat.reduceEqDiff, Nat.reduceAdd, Nat.reduceSub, h3, jxor, jbc hx, jbits, hc, decide_true]
    · simp (disch := omega) only [jb1, jb2, jb3, jb4, jb5, jb6, jb7, jb8, jb9, jb10, jb11, jb12, jb13, jb14, jb15, jb16, jb17, jb18, jb19, jb20, jb21, jb22, jb23, jb24, jb25, jb26, jb27, jb28, jb29, jb30, jb31, jb32, jb33, jb34, jb35, jb36, jb37, jb38, jb39, jb40, jb41, jb42, jb43, jb44, jb45, jb46, jb47, jb48, jb49, jb50, zlet, jlit, jle_t, jle_f, jlt_t, jlt_f, jeq_t, jeq_f, jeqN_f, jNeq_f, jNN, jN1, jadd, jsub, jzin, jcl, if_true, if_false, ite_true, ite_false, not_true, not_false_iff, not_true_eq_false, not_false_eq_true, jB_t, jB_f, jB0_t, jB0_f, jBa, jand11, jand00, ↓reduceIte, Nat.reduceEqDiff, Nat.reduceAdd, Nat.reduceSub, h3, jxor, jbc hx, jbits, hc, decide_false, Bool.false_eq_true]
  · show pX6_findGroups_20 N9 st_now (nI B) x2 (nI k) k6 (n + 1) gr x4 (nI w) (jgr no B k w) (nI B) = _
    simp only [pX6_findGroups_20, pX6_findGroups_98, jlit, jN1]
    rw [if_pos (nI_le (Nat.le_refl B) (by omega)), jadd]
/-- the place of the fault -/
theorem jop_fault {tp_faultPlace m_place : Int32} (h : tp_faultPlace = m_place) (m_thrown : Int32) : ∃ r, pX9_fault N9 tp_faultPlace = some r ∧ pM_fault N9 m_thrown m_place = some (r, 0) := by
  subst h
  exact ⟨_, rfl, rfl⟩
end C14
