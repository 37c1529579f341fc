section TL
variable {n : Nat} {by' : Nat → Nat} {tp_bytes m_fed : Nat → Int32} {N9 : Nat}
/-- which clause a word names -/
def jclk (by' : Nat → Nat) (k m : Nat) : Int32 := if jisw by' k m 1 then nI 0 else if jisw by' k m 2 then nI 1 else if jisw by' k m 3 then nI 2 else if jisw by' k m 4 then nI 3 else -nI 1
theorem jclk_rng (by' : Nat → Nat) (k m : Nat) : jclk by' k m = -nI 1 ∨ ∃ v, v ≤ 3 ∧ jclk by' k m = nI v := by
  unfold jclk
  repeat' split
  all_goals first | exact Or.inl rfl | exact Or.inr ⟨_, by decide, rfl⟩
theorem jclkX (hN : 70000 < N9) (ht : jTx n by' tp_bytes m_fed) {k e : Nat} (hk : k ≤ e) (he : e ≤ n) : pX0_clauseKind N9 tp_bytes (nI e) (nI k) = some (jclk by' k (e - k)) := by
  have h := fun w h1 h2 => jisX (w := w) hN ht hk he h1 h2
  unfold pX0_clauseKind pX0_clauseKind_47 jclk
  simp only [h 1 (by omega) (by omega), h 2 (by omega) (by omega), h 3 (by omega) (by omega), h 4 (by omega) (by omega), jbB]
  repeat' split
  all_goals rfl
theorem jclkM (hN : 70000 < N9) (ht : jTx n by' tp_bytes m_fed) {a : Nat} (ha : a ≤ n) : pM_kindHere N9 (nI n) (nI a) (nI 0) m_fed = some (jclk by' (jsk n by' a) (jle n by' (jsk n by' a) - jsk n by' a), nI (jsk n by' a)) := by
  have hk := jsk_rng (by' := by') ha
  have hsk := jsk_sk (by' := by') ha
  have h0 := jisM (N9 := N9) (w := 1) hN ht ha (by omega) (by omega) (x1 := 2) (x2 := 5) (x3 := 1) (x4 := 19) (x5 := 20) (x6 := 0) rfl
  have h := fun w h1 h2 x1 x2 x3 x4 x5 x6 h6 => jisM (N9 := N9) (w := w) hN ht hk.2 h1 h2 (x1 := x1) (x2 := x2) (x3 := x3) (x4 := x4) (x5 := x5) (x6 := x6) h6
  rw [hsk] at h
  unfold pM_kindHere pM_kindHere_75 jclk
  simp only [h0, h 2 (by omega) (by omega) 7 1 20 5 0 0 rfl, h 3 (by omega) (by omega) 12 9 19 20 0 0 rfl, h 4 (by omega) (by omega) 16 21 18 19 5 0 rfl, jbB2]
  repeat' split
  all_goals rfl
theorem jtrade_loop (hN : 70000 < N9) (ht : jTx n by' tp_bytes m_fed) (m_place : Int32) (m_told : Nat → Int32) (m_beast : Nat → Nat → Int32) (m_gate : Nat → Nat → Int32) (m_list : Nat → Nat → Int32) (m_lawMany : Int32) (m_now : Nat → Int32) (m_works : Int32) (m_refusedSteps : Int32) (m_images : Int32) (m_thrown : Int32) (m_tape : Int32) (m_open : Int32) (m_refused : Nat → Int32) (gone took : Nat → Int32) (ye : Int32) :
    ∀ u a1 i f f9 (wp np : Int32) (now : Nat → Int32) (born : Nat → Int32) (age : Nat → Int32) (ps : Nat → Int32) (be : Int32) (co : Int32) (fo : Nat → Int32) (to : Nat → Int32) (le : Nat → Int32) (nm : Nat → Nat → Int32) (ga : Int32) (li : Int32) (rT : Nat → Int32) (rB : Nat → Nat → Int32) (rG : Nat → Nat → Int32) (rL : Nat → Nat → Int32) (c nb ng nl : Nat) (gt nu : Nat → Nat), n - a1 ≤ u → u < f → u + 1 < f9 → a1 ≤ n → i ≤ 60 → jDr c nb ng nl gt nu now born age ps be co fo to le nm ga li rT rB rG rL →
    ∃ r0 pl wp' np' fk fp now' born' age' ps' be' co' fo' to' le' nm' ga' li' at' f' fa' cl' rT' rB' rG' rL', pX0_readClauses_16 N9 tp_bytes (nI n) f (nI a1) wp np (nI 0) (-nI 1) now born age ps gone took be ye co fo to le nm ga li (nI i) = some (r0, pl, wp', np', fk, fp, now', born', age', ps', gone, took, be', ye, co', fo', to', le', nm', ga', li') ∧ pM_trade_42 N9 m_place m_fed m_told m_beast m_gate m_list m_lawMany m_now m_works m_refusedSteps m_images f9 m_thrown m_tape (nI n) ((nI (jsk n by' a1))) (nI 0) (-nI 1) (nI i) m_open m_refused rT rB rG rL = pM_trade_71 N9 m_thrown m_tape (nI n) m_place m_open m_refused m_told m_beast m_gate m_list m_lawMany m_now m_works m_refusedSteps m_images at' f' fa' cl' rT' rB' rG' rL' ∧
      ((r0 = nI 1 ∧ fk = nI 0 ∧ fp = -nI 1 ∧ f' = nI 0 ∧ fa' = -nI 1 ∧ ∃ c nb ng nl gt nu, jDr c nb ng nl gt nu now' born' age' ps' be' co' fo' to' le' nm' ga' li' rT' rB' rG' rL') ∨ jErr n r0 fk fp at' f' fa') := by
  intro u
  have hz1 : nI 1 ≠ nI 0 := by decide
  have hz3 : nI 3 ≠ nI 0 := by decide
  induction u with
  | zero =>
    intro a1 i f f9 wp np now born age ps be co fo to le nm ga li rT rB rG rL c nb ng nl gt nu h0 h1 h2 h3 h4 hd
    obtain ⟨f, rfl⟩ : ∃ z, f = z + 1 := ⟨f - 1, by omega⟩
    obtain ⟨f9, rfl⟩ : ∃ z, f9 = z + 1 := ⟨f9 - 1, by omega⟩
    have ha : a1 = n := by omega
    subst ha
    have hk := jsk_rng (by' := by') h3
    have hka : jsk a1 by' a1 = a1 := by omega
    simp only [pX0_readClauses_16, pM_trade_42]
    rw [if_neg (show ¬ (60 : Int32) < nI i from nI_nlt (a := 60) (b := i) (by omega) (by omega)), hka, if_pos jz00, if_pos (nI_le (Nat.le_refl a1) (by have := ht.1; omega))]
    unfold pX8_isAtEnd pX8_isAtEnd_13
    have hb : jby a1 by' a1 = -1 := by unfold jby; rw [if_neg (by omega)]; rfl
    rw [jsignX hN ht h3, jb2, hka, hb, if_pos rfl, if_pos ja1, jb2, if_neg (show ¬ (1 : Int32) = 0 by decide)]
    exact ⟨_, _, _, _, _, _, _, _, _, _, _, _, _, _, _, _, _, _, _, _, _, _, _, _, _, _, rfl, rfl, Or.inl ⟨rfl, rfl, rfl, rfl, rfl, c, nb, ng, nl, gt, nu, hd⟩⟩
  | succ u ih =>
    intro a1 i f f9 wp np now born age ps be co fo to le nm ga li rT rB rG rL c nb ng nl gt nu h0 h1 h2 h3 h4 hd
    obtain ⟨f, rfl⟩ : ∃ z, f = z + 1 := ⟨f - 1, by omega⟩
    obtain ⟨f9, rfl⟩ : ∃ z, f9 = z + 1 := ⟨f9 - 1, by omega⟩
    have hn := ht.1
    have hk := jsk_rng (by' := by') h3
    have hsk := jsk_sk (by' := by') h3
    have hd0 := hd
    simp only [pX0_readClauses_16, pM_trade_42]
    rw [if_neg (show ¬ (60 : Int32) < nI i from nI_nlt (a := 60) (b := i) (by omega) (by omega)), if_pos jz00]
    unfold pX8_isAtEnd pX8_isAtEnd_13
    rw [jsignX hN ht h3, jb2]
    by_cases hend : n ≤ jsk n by' a1
    · have hb : jby n by' (jsk n by' a1) = -1 := by unfold jby; rw [if_neg (by omega)]; rfl
      rw [if_pos (nI_le hend (by omega)), hb, if_pos rfl, if_pos ja1, jb2, if_neg (show ¬ (1 : Int32) = 0 by decide)]
      exact ⟨_, _, _, _, _, _, _, _, _, _, _, _, _, _, _, _, _, _, _, _, _, _, _, _, _, _, rfl, rfl, Or.inl ⟨rfl, rfl, rfl, rfl, rfl, c, nb, ng, nl, gt, nu, hd⟩⟩
    · have hb : ¬ jby n by' (jsk n by' a1) = -1 := by
        unfold jby
        rw [if_pos (by omega), jN1, jeqN_f (by have := (ht.2 (jsk n by' a1) (by omega)).1; omega)]
        exact id
      have hwx := jwordX hN ht hk.2 wp
      rw [hsk] at hwx
      have hkm := jclkM hN ht hk.2
      rw [hsk] at hkm
      have he := jle_rng (by' := by') hk.2
      rw [if_neg (nI_ge (by omega) (by omega)), if_neg hb, if_pos ja0, jb2, if_pos (show (0 : Int32) = 0 from rfl), hwx, jb2, jclkX hN ht he.1 he.2, jb1]
      unfold pM_clause
      rw [hkm, jb2]
      rcases jclk_rng by' (jsk n by' a1) (jle n by' (jsk n by' a1) - jsk n by' a1) with hq | ⟨q, hq3, hq⟩
      · rw [hq, if_pos (show -nI 1 = -1 from rfl), if_pos (show -nI 1 = -1 from rfl)]
        unfold pX8_refuse pM_wrong pM_wrong_17
        rw [jb3, if_pos ja0, if_pos jz00, jb2]
        unfold pM_clause_58
        rw [if_neg (show ¬ (1 : Int32) = 0 by decide), jb8, jblankM hN ht hk.2, jb1, hsk]
        obtain ⟨f9, rfl⟩ : ∃ z, f9 = z + 1 := ⟨f9 - 1, by omega⟩
        simp only [pM_trade_42]
        rw [if_neg (show ¬ (1 : Int32) = 0 by decide)]
        exact ⟨_, _, _, _, _, _, _, _, _, _, _, _, _, _, _, _, _, _, _, _, _, _, _, _, _, _, rfl, rfl, Or.inr ⟨1, _, _, by omega, by omega, hk.2, hk.2, rfl, rfl, rfl, rfl, rfl, rfl⟩⟩
      · have hqn : ¬ nI q = -1 := by rw [jN1, jeqN_f (by omega)]; exact id
        obtain ⟨hnb, hng, hnl, hc, rfl, rfl, rfl, rfl, t0, t1, t2, t3, -⟩ := hd0
        rw [hq, if_neg hqn, if_neg hqn]
        have full : ∀ (cl : Option jMc), cl = some (nI (jsk n by' a1), nI 3, nI (jsk n by' a1), nI i, rT, rB, rG, rL) → (zb8 cl fun m_at_7 m_fault_7 m_faultAt_7 m_clauses_7 m_readTold_7 m_readBeast_7 m_readGate_7 m_readList_7 => zb1 (pM_blanks N9 (nI n) m_at_7 m_fed) fun m_at_8 => pM_trade_42 N9 m_place m_fed m_told m_beast m_gate m_list m_lawMany m_now m_works m_refusedSteps m_images f9 m_thrown m_tape (nI n) m_at_8 m_fault_7 m_faultAt_7 m_clauses_7 m_open m_refused m_readTold_7 m_readBeast_7 m_readGate_7 m_readList_7) = pM_trade_71 N9 m_thrown m_tape (nI n) m_place m_open m_refused m_told m_beast m_gate m_list m_lawMany m_now m_works m_refusedSteps m_images ((nI (jsk n by' a1))) (nI 3) ((nI (jsk n by' a1))) (nI i) rT rB rG rL := by
          intro cl hcl
          rw [hcl, jb8, jblankM hN ht hk.2, jb1, hsk]
          obtain ⟨f9, rfl⟩ : ∃ z, f9 = z + 1 := ⟨f9 - 1, by omega⟩
          simp only [pM_trade_42]
          rw [if_neg (show ¬ nI 3 = 0 from hz3)]
        have h49 : pM_clause_49 N9 (nI 0) (-nI 1) (pM_clause_58 N9 (nI n) (nI i) m_fed rT rB rG rL) (nI (jsk n by' a1)) (nI q) = some (nI (jsk n by' a1), nI 3, nI (jsk n by' a1), nI i, rT, rB, rG, rL) := by
          unfold pM_clause_49 pM_wrong pM_wrong_17
          rw [if_pos jz00, jb2]
          unfold pM_clause_58
          rw [if_neg (show ¬ (3 : Int32) = 0 by decide)]
          rfl
        by_cases h60 : i = 60
        · subst h60
          rw [if_pos (show nI 60 = 60 from rfl), if_pos (show nI 60 = 60 from rfl), h49, full _ rfl]
          unfold pX0_readClauses_73 pX8_refuse
          rw [jb3, if_pos ja0]
          exact ⟨_, _, _, _, _, _, _, _, _, _, _, _, _, _, _, _, _, _, _, _, _, _, _, _, _, _, rfl, rfl, Or.inr ⟨3, _, _, by omega, by omega, hk.2, hk.2, rfl, rfl, rfl, rfl, rfl, rfl⟩⟩
        · have hi60 : ¬ nI i = 60 := fun q => h60 ((nI_eq (b := 60) (by omega) (by omega)).mp q)
          rw [if_neg hi60, if_neg hi60]
          have hfullX : ∀ b : Bool, ((q = 0 ∧ b = decide (8 ≤ nb)) ∨ (q = 1 ∧ b = decide (5 ≤ ng)) ∨ (q = 2 ∧ b = decide (24 ≤ nl)) ∨ (q = 3 ∧ b = false)) → pX0_isFull N9 (nI nb) (nI ng) (nI nl) (nI q) = some (jB b) := by
            intro b hb
            unfold pX0_isFull pX0_isFull_42 pX0_isFull_56 pX0_isFull_71
            rcases hb with ⟨rfl, rfl⟩ | ⟨rfl, rfl⟩ | ⟨rfl, rfl⟩ | ⟨rfl, rfl⟩
            · by_cases h : 8 ≤ nb
              · rw [decide_eq_true h]; simp (disch := omega) only [jb1, jb2, jb3, jb4, jb5, jb6, jb7, jb8, jb9, jb10, jb11, jb12, jb13, jb14, jb15, jb16, jb17, jb18, jb19, jb20, jb21, jb22, jb23, jb24, jb25, jb26, jb27, jb28, jb29, jb30, jb31, jb32, jb33, jb34, jb35, jb36, jb37, jb38, jb39, jb40, jb41, jb42, jb43, jb44, jb45, jb46, jb47, jb48, jb49, jb50, zlet, jlit, jle_t, jle_f, jlt_t, jlt_f, jeq_t, jeq_f, jeqN_f, jNeq_f, jNN, jN1, jadd, jsub, jzin, jcl, if_true, if_false, ite_true, ite_false, not_true, not_false_iff, not_true_eq_false, not_false_eq_true, jB_t, jB_f, jB0_t, jB0_f, jBa, jand11, jand00, ↓reduceIte, Nat.reduceEqDiff, Nat.reduceAdd, Nat.reduceSub]
              · rw [decide_eq_false h]; simp (disch := omega) only [jb1, jb2, jb3, jb4, jb5, jb6, jb7, jb8, jb9, jb10, jb11, jb12, jb13, jb14, jb15, jb16, jb17, jb18, jb19, jb20, jb21, jb22, jb23, jb24, jb25, jb26, jb27, jb28, jb29, jb30, jb31, jb32, jb33, jb34, jb35, jb36, jb37, jb38, jb39, jb40, jb41, jb42, jb43, jb44, jb45, jb46, jb47, jb48, jb49, jb50, zlet, jlit, jle_t, jle_f, jlt_t, jlt_f, jeq_t, jeq_f, jeqN_f, jNeq_f, jNN, jN1, jadd, jsub, jzin, jcl, if_true, if_false, ite_true, ite_false, not_true, not_false_iff, not_true_eq_false, not_false_eq_true, jB_t, jB_f, jB0_t, jB0_f, jBa, jand11, jand00, ↓reduceIte, Nat.reduceEqDiff, Nat.reduceAdd, Nat.reduceSub]
            · by_cases h : 5 ≤ ng
              · rw [decide_eq_true h]; simp (disch := omega) only [jb1, jb2, jb3, jb4, jb5, jb6, jb7, jb8, jb9, jb10, jb11, jb12, jb13, jb14, jb15, jb16, jb17, jb18, jb19, jb20, jb21, jb22, jb23, jb24, jb25, jb26, jb27, jb28, jb29, jb30, jb31, jb32, jb33, jb34, jb35, jb36, jb37, jb38, jb39, jb40, jb41, jb42, jb43, jb44, jb45, jb46, jb47, jb48, jb49, jb50, zlet, jlit, jle_t, jle_f, jlt_t, jlt_f, jeq_t, jeq_f, jeqN_f, jNeq_f, jNN, jN1, jadd, jsub, jzin, jcl, if_true, if_false, ite_true, ite_false, not_true, not_false_iff, not_true_eq_false, not_false_eq_true, jB_t, jB_f, jB0_t, jB0_f, jBa, jand11, jand00, ↓reduceIte, Nat.reduceEqDiff, Nat.reduceAdd, Nat.reduceSub]
              · rw [decide_eq_false h]; simp (disch := omega) only [jb1, jb2, jb3, jb4, jb5, jb6, jb7, jb8, jb9, jb10, jb11, jb12, jb13, jb14, jb15, jb16, jb17, jb18, jb19, jb20, jb21, jb22, jb23, jb24, jb25, jb26, jb27, jb28, jb29, jb30, jb31, jb32, jb33, jb34, jb35, jb36, jb37, jb38, jb39, jb40, jb41, jb42, jb43, jb44, jb45, jb46, jb47, jb48, jb49, jb50, zlet, jlit, jle_t, jle_f, jlt_t, jlt_f, jeq_t, jeq_f, jeqN_f, jNeq_f, jNN, jN1, jadd, jsub, jzin, jcl, if_true, if_false, ite_true, ite_false, not_true, not_false_iff, not_true_eq_false, not_false_eq_true, jB_t, jB_f, jB0_t, jB0_f, jBa, jand11, jand00, ↓reduceIte, Nat.reduceEqDiff, Nat.reduceAdd, Nat.reduceSub]
            · by_cases h : 24 ≤ nl
              · rw [decide_eq_true h]; simp (disch := omega) only [jb1, jb2, jb3, jb4, jb5, jb6, jb7, jb8, jb9, jb10, jb11, jb12, jb13, jb14, jb15, jb16, jb17, jb18, jb19, jb20, jb21, jb22, jb23, jb24, jb25, jb26, jb27, jb28, jb29, jb30, jb31, jb32, jb33, jb34, jb35, jb36, jb37, jb38, jb39, jb40, jb41, jb42, jb43, jb44, jb45, jb46, jb47, jb48, jb49, jb50, zlet, jlit, jle_t, jle_f, jlt_t, jlt_f, jeq_t, jeq_f, jeqN_f, jNeq_f, jNN, jN1, jadd, jsub, jzin, jcl, if_true, if_false, ite_true, ite_false, not_true, not_false_iff, not_true_eq_false, not_false_eq_true, jB_t, jB_f, jB0_t, jB0_f, jBa, jand11, jand00, ↓reduceIte, Nat.reduceEqDiff, Nat.reduceAdd, Nat.reduceSub]
              · rw [decide_eq_false h]; simp (disch := omega) only [jb1, jb2, jb3, jb4, jb5, jb6, jb7, jb8, jb9, jb10, jb11, jb12, jb13, jb14, jb15, jb16, jb17, jb18, jb19, jb20, jb21, jb22, jb23, jb24, jb25, jb26, jb27, jb28, jb29, jb30, jb31, jb32, jb33, jb34, jb35, jb36, jb37, jb38, jb39, jb40, jb41, jb42, jb43, jb44, jb45, jb46, jb47, jb48, jb49, jb50, zlet, jlit, jle_t, jle_f, jlt_t, jlt_f, jeq_t, jeq_f, jeqN_f, jNeq_f, jNN, jN1, jadd, jsub, jzin, jcl, if_true, if_false, ite_true, ite_false, not_true, not_false_iff, not_true_eq_false, not_false_eq_true, jB_t, jB_f, jB0_t, jB0_f, jBa, jand11, jand00, ↓reduceIte, Nat.reduceEqDiff, Nat.reduceAdd, Nat.reduceSub]
            · simp (disch := omega) only [jb1, jb2, jb3, jb4, jb5, jb6, jb7, jb8, jb9, jb10, jb11, jb12, jb13, jb14, jb15, jb16, jb17, jb18, jb19, jb20, jb21, jb22, jb23, jb24, jb25, jb26, jb27, jb28, jb29, jb30, jb31, jb32, jb33, jb34, jb35, jb36, jb37, jb38, jb39, jb40, jb41, jb42, jb43, jb44, jb45, jb46, jb47, jb48, jb49, jb50, zlet, jlit, jle_t, jle_f, jlt_t, jlt_f, jeq_t, jeq_f, jeqN_f, jNeq_f, jNN, jN1, jadd, jsub, jzin, jcl, if_true, if_false, ite_true, ite_false, not_true, not_false_iff, not_true_eq_false, not_false_eq_true, jB_t, jB_f, jB0_t, jB0_f, jBa, jand11, jand00, ↓reduceIte, Nat.reduceEqDiff, Nat.reduceAdd, Nat.reduceSub]
          have hfullM : ∀ b : Bool, ((q = 0 ∧ b = decide (8 ≤ nb)) ∨ (q = 1 ∧ b = decide (5 ≤ ng)) ∨ (q = 2 ∧ b = decide (24 ≤ nl)) ∨ (q = 3 ∧ b = false)) → ∀ (x y : Option jMc), (if (3 : Int32) ≤ nI q then x else if zin (nI q) 4 = true then zb1 (pM_mostOf N9 (nI q)) fun r_41 => if rT (nI q).toNatClampNeg = r_41 then y else x else none) = if b = true then y else x := by
            intro b hb x y
            unfold pM_mostOf pM_mostOf_20
            rcases hb with ⟨rfl, rfl⟩ | ⟨rfl, rfl⟩ | ⟨rfl, rfl⟩ | ⟨rfl, rfl⟩
            · by_cases h : nb = 8
              · rw [decide_eq_true (by omega), if_pos rfl]; simp (disch := omega) only [jb1, jb2, jb3, jb4, jb5, jb6, jb7, jb8, jb9, jb10, jb11, jb12, jb13, jb14, jb15, jb16, jb17, jb18, jb19, jb20, jb21, jb22, jb23, jb24, jb25, jb26, jb27, jb28, jb29, jb30, jb31, jb32, jb33, jb34, jb35, jb36, jb37, jb38, jb39, jb40, jb41, jb42, jb43, jb44, jb45, jb46, jb47, jb48, jb49, jb50, zlet, jlit, jle_t, jle_f, jlt_t, jlt_f, jeq_t, jeq_f, jeqN_f, jNeq_f, jNN, jN1, jadd, jsub, jzin, jcl, if_true, if_false, ite_true, ite_false, not_true, not_false_iff, not_true_eq_false, not_false_eq_true, jB_t, jB_f, jB0_t, jB0_f, jBa, jand11, jand00, ↓reduceIte, Nat.reduceEqDiff, Nat.reduceAdd, Nat.reduceSub, t0]
              · rw [decide_eq_false (by omega)]; simp (disch := omega) only [jb1, jb2, jb3, jb4, jb5, jb6, jb7, jb8, jb9, jb10, jb11, jb12, jb13, jb14, jb15, jb16, jb17, jb18, jb19, jb20, jb21, jb22, jb23, jb24, jb25, jb26, jb27, jb28, jb29, jb30, jb31, jb32, jb33, jb34, jb35, jb36, jb37, jb38, jb39, jb40, jb41, jb42, jb43, jb44, jb45, jb46, jb47, jb48, jb49, jb50, zlet, jlit, jle_t, jle_f, jlt_t, jlt_f, jeq_t, jeq_f, jeqN_f, jNeq_f, jNN, jN1, jadd, jsub, jzin, jcl, if_true, if_false, ite_true, ite_false, not_true, not_false_iff, not_true_eq_false, not_false_eq_true, jB_t, jB_f, jB0_t, jB0_f, jBa, jand11, jand00, ↓reduceIte, Nat.reduceEqDiff, Nat.reduceAdd, Nat.reduceSub, t0, Bool.false_eq_true]
            · by_cases h : ng = 5
              · rw [decide_eq_true (by omega), if_pos rfl]; simp (disch := omega) only [jb1, jb2, jb3, jb4, jb5, jb6, jb7, jb8, jb9, jb10, jb11, jb12, jb13, jb14, jb15, jb16, jb17, jb18, jb19, jb20, jb21, jb22, jb23, jb24, jb25, jb26, jb27, jb28, jb29, jb30, jb31, jb32, jb33, jb34, jb35, jb36, jb37, jb38, jb39, jb40, jb41, jb42, jb43, jb44, jb45, jb46, jb47, jb48, jb49, jb50, zlet, jlit, jle_t, jle_f, jlt_t, jlt_f, jeq_t, jeq_f, jeqN_f, jNeq_f, jNN, jN1, jadd, jsub, jzin, jcl, if_true, if_false, ite_true, ite_false, not_true, not_false_iff, not_true_eq_false, not_false_eq_true, jB_t, jB_f, jB0_t, jB0_f, jBa, jand11, jand00, ↓reduceIte, Nat.reduceEqDiff, Nat.reduceAdd, Nat.reduceSub, t1]
              · rw [decide_eq_false (by omega)]; simp (disch := omega) only [jb1, jb2, jb3, jb4, jb5, jb6, jb7, jb8, jb9, jb10, jb11, jb12, jb13, jb14, jb15, jb16, jb17, jb18, jb19, jb20, jb21, jb22, jb23, jb24, jb25, jb26, jb27, jb28, jb29, jb30, jb31, jb32, jb33, jb34, jb35, jb36, jb37, jb38, jb39, jb40, jb41, jb42, jb43, jb44, jb45, jb46, jb47, jb48, jb49, jb50, zlet, jlit, jle_t, jle_f, jlt_t, jlt_f, jeq_t, jeq_f, jeqN_f, jNeq_f, jNN, jN1, jadd, jsub, jzin, jcl, if_true, if_false, ite_true, ite_false, not_true, not_false_iff, not_true_eq_false, not_false_eq_true, jB_t, jB_f, jB0_t, jB0_f, jBa, jand11, jand00, ↓reduceIte, Nat.reduceEqDiff, Nat.reduceAdd, Nat.reduceSub, t1, Bool.false_eq_true]
            · by_cases h : nl = 24
              · rw [decide_eq_true (by omega), if_pos rfl]; simp (disch := omega) only [jb1, jb2, jb3, jb4, jb5, jb6, jb7, jb8, jb9, jb10, jb11, jb12, jb13, jb14, jb15, jb16, jb17, jb18, jb19, jb20, jb21, jb22, jb23, jb24, jb25, jb26, jb27, jb28, jb29, jb30, jb31, jb32, jb33, jb34, jb35, jb36, jb37, jb38, jb39, jb40, jb41, jb42, jb43, jb44, jb45, jb46, jb47, jb48, jb49, jb50, zlet, jlit, jle_t, jle_f, jlt_t, jlt_f, jeq_t, jeq_f, jeqN_f, jNeq_f, jNN, jN1, jadd, jsub, jzin, jcl, if_true, if_false, ite_true, ite_false, not_true, not_false_iff, not_true_eq_false, not_false_eq_true, jB_t, jB_f, jB0_t, jB0_f, jBa, jand11, jand00, ↓reduceIte, Nat.reduceEqDiff, Nat.reduceAdd, Nat.reduceSub, t2]
              · rw [decide_eq_false (by omega)]; simp (disch := omega) only [jb1, jb2, jb3, jb4, jb5, jb6, jb7, jb8, jb9, jb10, jb11, jb12, jb13, jb14, jb15, jb16, jb17, jb18, jb19, jb20, jb21, jb22, jb23, jb24, jb25, jb26, jb27, jb28, jb29, jb30, jb31, jb32, jb33, jb34, jb35, jb36, jb37, jb38, jb39, jb40, jb41, jb42, jb43, jb44, jb45, jb46, jb47, jb48, jb49, jb50, zlet, jlit, jle_t, jle_f, jlt_t, jlt_f, jeq_t, jeq_f, jeqN_f, jNeq_f, jNN, jN1, jadd, jsub, jzin, jcl, if_true, if_false, ite_true, ite_false, not_true, not_false_iff, not_true_eq_false, not_false_eq_true, jB_t, jB_f, jB0_t, jB0_f, jBa, jand11, jand00, ↓reduceIte, Nat.reduceEqDiff, Nat.reduceAdd, Nat.reduceSub, t2, Bool.false_eq_true]
            · simp (disch := omega) only [jb1, jb2, jb3, jb4, jb5, jb6, jb7, jb8, jb9, jb10, jb11, jb12, jb13, jb14, jb15, jb16, jb17, jb18, jb19, jb20, jb21, jb22, jb23, jb24, jb25, jb26, jb27, jb28, jb29, jb30, jb31, jb32, jb33, jb34, jb35, jb36, jb37, jb38, jb39, jb40, jb41, jb42, jb43, jb44, jb45, jb46, jb47, jb48, jb49, jb50, zlet, jlit, jle_t, jle_f, jlt_t, jlt_f, jeq_t, jeq_f, jeqN_f, jNeq_f, jNN, jN1, jadd, jsub, jzin, jcl, if_true, if_false, ite_true, ite_false, not_true, not_false_iff, not_true_eq_false, not_false_eq_true, jB_t, jB_f, jB0_t, jB0_f, jBa, jand11, jand00, ↓reduceIte, Nat.reduceEqDiff, Nat.reduceAdd, Nat.reduceSub, Bool.false_eq_true]
          obtain ⟨b, hb3⟩ : ∃ b : Bool, ((q = 0 ∧ b = decide (8 ≤ nb)) ∨ (q = 1 ∧ b = decide (5 ≤ ng)) ∨ (q = 2 ∧ b = decide (24 ≤ nl)) ∨ (q = 3 ∧ b = false)) := by
            have : q = 0 ∨ q = 1 ∨ q = 2 ∨ q = 3 := by omega
            rcases this with h | h | h | h
            · exact ⟨_, Or.inl ⟨h, rfl⟩⟩
            · exact ⟨_, Or.inr (Or.inl ⟨h, rfl⟩)⟩
            · exact ⟨_, Or.inr (Or.inr (Or.inl ⟨h, rfl⟩))⟩
            · exact ⟨_, Or.inr (Or.inr (Or.inr ⟨h, rfl⟩))⟩
          rw [hfullX b hb3, jb1, hfullM b hb3]
          cases b with
          | true =>
            rw [if_neg (show ¬ jB true = 0 by decide), if_pos rfl, h49, full _ rfl]
            unfold pX0_readClauses_73 pX8_refuse
            rw [jb3, if_pos ja0]
            exact ⟨_, _, _, _, _, _, _, _, _, _, _, _, _, _, _, _, _, _, _, _, _, _, _, _, _, _, rfl, rfl, Or.inr ⟨3, _, _, by omega, by omega, hk.2, hk.2, rfl, rfl, rfl, rfl, rfl, rfl⟩⟩
          | false =>
            have g0 : q = 0 → nb < 8 := fun h => by
              rcases hb3 with ⟨a, b⟩ | ⟨a, b⟩ | ⟨a, b⟩ | ⟨a, b⟩
              · have := of_decide_eq_false b.symm; omega
              all_goals omega
            have g1 : q = 1 → ng < 5 := fun h => by
              rcases hb3 with ⟨a, b⟩ | ⟨a, b⟩ | ⟨a, b⟩ | ⟨a, b⟩
              · omega
              · have := of_decide_eq_false b.symm; omega
              all_goals omega
            have g2 : q = 2 → nl < 24 := fun h => by
              rcases hb3 with ⟨a, b⟩ | ⟨a, b⟩ | ⟨a, b⟩ | ⟨a, b⟩
              · omega
              · omega
              · have := of_decide_eq_false b.symm; omega
              · omega
            obtain ⟨⟨r0, pl, np1, fk, fp, now1, born1, age1, ps1, be1, co1, fo1, to1, le1, nm1, ga1, li1⟩, ⟨at1, f1, fa1, cl1, rT1, rB1, rG1, rL1⟩, e1, e2, hP⟩ := jclause (i := i) hN ht hd hk.2 hq3 g0 g1 g2 np
            rw [if_pos (show jB false = 0 from rfl), if_neg (by decide), e1, e2, jb17, jb8]
            rcases hP with ⟨a2, c', nb', ng', nl', gt', nu', p1, p2, rfl, rfl, rfl, rfl, rfl, hd1, h59⟩ | ⟨q', g', a2, p1, p2, p3, p4, rfl, rfl, rfl, rfl, rfl, rfl⟩
            · have hj := jsk_rng (by' := by') p2
              rw [if_neg jz10, jtakeX hN ht p2]
              by_cases h : jby n by' (jsk n by' a2) = 59
              · have hlt := jby_lt (s := 59) h (by omega)
                rw [if_pos h] at h59 ⊢
                injection h59 with g1 g2
                injection g2 with g2 g3
                subst g1 g2 g3
                rw [jb4, if_neg jz10, nI_1 i, jblankM hN ht (by omega), jb1]
                exact ih (jsk n by' a2 + 1) (i + 1) f f9 _ np1 now1 born1 age1 ps1 be1 co1 fo1 to1 le1 nm1 ga1 li1 rT1 rB1 rG1 rL1 c' nb' ng' nl' gt' nu' (by omega) (by omega) (by omega) (by omega) (by omega) hd1
              · rw [if_neg h] at h59 ⊢
                injection h59 with g1 g2
                injection g2 with g2 g3
                subst g1 g2 g3
                rw [jb4, if_pos jz00, jblankM hN ht hj.2, jb1]
                unfold pX0_readClauses_103
                obtain ⟨f9, rfl⟩ : ∃ z, f9 = z + 1 := ⟨f9 - 1, by omega⟩
                simp only [pM_trade_42]
                rw [if_neg (show ¬ nI 1 = 0 from hz1)]
                exact ⟨_, _, _, _, _, _, _, _, _, _, _, _, _, _, _, _, _, _, _, _, _, _, _, _, _, _, rfl, rfl, Or.inr ⟨1, _, _, by omega, by omega, hj.2, (jsk_rng hj.2).2, rfl, rfl, rfl, rfl, rfl, rfl⟩⟩
            · have hfq : nI q' ≠ nI 0 := jhfz q' p1 p2
              rw [if_pos jz00, jblankM hN ht p4, jb1]
              unfold pX0_readClauses_103
              obtain ⟨f9, rfl⟩ : ∃ z, f9 = z + 1 := ⟨f9 - 1, by omega⟩
              simp only [pM_trade_42]
              rw [if_neg (show ¬ nI q' = 0 from hfq)]
              exact ⟨_, _, _, _, _, _, _, _, _, _, _, _, _, _, _, _, _, _, _, _, _, _, _, _, _, _, rfl, rfl, Or.inr ⟨q', _, _, p1, p2, p3, (jsk_rng p4).2, rfl, rfl, rfl, rfl, rfl, rfl⟩⟩
end TL
