section BG
variable {N9 : Nat}
theorem jbookcopy (hN : 70000 < N9) (fo to le : Nat → Int32) (nm : Nat → Nat → Int32) (ga li : Int32) (dfo dto dle : Nat → Int32) (dnm : Nat → Nat → Int32) (dga dli : Int32) :
    ∃ fo' to' le' nm', pX0_copyFrom N9 fo to le nm ga li dfo dto dle dnm dga dli = some (fo', to', le', nm', dga, dli) ∧ (∀ g, g < 5 → fo' g = dfo g ∧ to' g = dto g ∧ le' g = dle g ∧ ∀ j, j < 24 → nm' g j = dnm g j) := by
  unfold pX0_copyFrom
  rw [if_pos (show zcp 0 0 5 5 5 = true by decide), if_pos (show zcp 0 0 5 5 5 = true by decide), if_pos (show zcp 0 0 5 5 5 = true by decide)]
  have h := jloopR (fun n (t : Nat → Nat → Int32) i => pX0_copyFrom_44 N9 ga li dnm dga dli n (va_cpy dfo fo 0 0 5) (va_cpy dto to 0 0 5) (va_cpy dle le 0 0 5) t i) 5 (fun i t => ∀ g, g < i → ∀ j, j < 24 → t g j = dnm g j) (fun r => ∃ t : Nat → Nat → Int32, r = (va_cpy dfo fo 0 0 5, va_cpy dto to 0 0 5, va_cpy dle le 0 0 5, t, dga, dli) ∧ ∀ g, g < 5 → ∀ j, j < 24 → t g j = dnm g j) (fun n i t hi ht => ?_) (fun n t ht => ?_) 5 0 nm N9 (by omega) (by omega) (fun g hg => absurd hg (Nat.not_lt_zero g))
  · obtain ⟨r, h1, t, rfl, h2⟩ := h
    exact ⟨_, _, _, t, h1, fun g hg => ⟨jcpy hg, jcpy hg, jcpy hg, h2 g hg⟩⟩
  · show ∃ s', pX0_copyFrom_44 N9 ga li dnm dga dli (n + 1) _ _ _ t (nI i) = _ ∧ _
    simp only [pX0_copyFrom_44]
    simp (disch := omega) only [jb1, jb2, jb3, jb4, jb5, jb6, jb7, jb8, jb9, jb10, jb11, jb12, jb13, jb14, jb15, jb16, jb17, jb18, jb19, jb20, jb21, jb22, jb23, jb24, jb25, jb26, jb27, jb28, jb29, jb30, jb31, jb32, jb33, jb34, jb35, jb36, jb37, jb38, jb39, jb40, jb41, jb42, jb43, jb44, jb45, jb46, jb47, jb48, jb49, jb50, zlet, jlit, jle_t, jle_f, jlt_t, jlt_f, jeq_t, jeq_f, jeqN_f, jNeq_f, jNN, jN1, jadd, jsub, jzin, jcl, if_true, if_false, ite_true, ite_false, not_true, not_false_iff, not_true_eq_false, not_false_eq_true, jB_t, jB_f, jB0_t, jB0_f, jBa, jand11, jand00, ↓reduceIte, Nat.reduceEqDiff, Nat.reduceAdd, Nat.reduceSub, jzcp]
    refine ⟨_, rfl, fun g hg j hj => ?_⟩
    by_cases hgi : g = i
    · subst hgi
      rw [jva, jcpy hj]
    · simp only [va_up, if_neg hgi]
      exact ht g (by omega) j hj
  · show ∃ r, pX0_copyFrom_44 N9 ga li dnm dga dli (n + 1) _ _ _ t (nI 5) = _ ∧ _
    simp only [pX0_copyFrom_44]
    rw [if_pos (show (5 : Int32) ≤ nI 5 by decide)]
    exact ⟨_, rfl, t, rfl, ht⟩
theorem jusual (kd vl : Nat → Int32) (ln mw : Int32) (law : Nat → Nat → Int32) : ∃ kd' vl', pX2_setUsual N9 kd vl ln = some (kd', vl', nI 5) ∧ ∃ n kk vv, jLw n kk vv kd' vl' (nI 5) (nI 0) law := by
  unfold pX2_setUsual pX2_clear pX2_add pX2_add_40
  simp (disch := omega) only [jb1, jb2, jb3, jb4, jb5, jb6, jb7, jb8, jb9, jb10, jb11, jb12, jb13, jb14, jb15, jb16, jb17, jb18, jb19, jb20, jb21, jb22, jb23, jb24, jb25, jb26, jb27, jb28, jb29, jb30, jb31, jb32, jb33, jb34, jb35, jb36, jb37, jb38, jb39, jb40, jb41, jb42, jb43, jb44, jb45, jb46, jb47, jb48, jb49, jb50, zlet, jlit, jle_t, jle_f, jlt_t, jlt_f, jeq_t, jeq_f, jeqN_f, jNeq_f, jNN, jN1, jadd, jsub, jzin, jcl, if_true, if_false, ite_true, ite_false, not_true, not_false_iff, not_true_eq_false, not_false_eq_true, jB_t, jB_f, jB0_t, jB0_f, jBa, jand11, jand00, ↓reduceIte, Nat.reduceEqDiff, Nat.reduceAdd, Nat.reduceSub]
  refine ⟨_, _, rfl, 5, fun i => if i = 0 then 1 else if i = 1 then 1 else if i = 2 then 0 else if i = 3 then 4 else 2, fun i => if i = 0 then 0 else if i = 1 then 1 else if i = 2 then 2 else 0, by omega, rfl, fun i hi => ?_, ⟨fun i hi => ?_, ?_⟩, Or.inr ⟨rfl, rfl, rfl, rfl, rfl, rfl, rfl, rfl, rfl, rfl⟩⟩
  · have : i = 0 ∨ i = 1 ∨ i = 2 ∨ i = 3 ∨ i = 4 := by omega
    rcases this with rfl | rfl | rfl | rfl | rfl <;> exact ⟨rfl, rfl⟩
  · have : i = 0 ∨ i = 1 ∨ i = 2 ∨ i = 3 ∨ i = 4 := by omega
    rcases this with rfl | rfl | rfl | rfl | rfl <;> decide
  · decide
theorem jclearTr (hN : 70000 < N9) (gone took : Nat → Int32) (be ye co : Int32) : ∃ g' t', pX7_clear N9 gone took be ye co = some (g', t', nI 0, nI 0, nI 100) ∧ ∀ g, g < 5 → g' g = nI 0 ∧ t' g = nI 0 := by
  unfold pX7_clear
  have h := jloopR (fun n (s : (Nat → Int32) × (Nat → Int32)) i => pX7_clear_18 N9 n s.1 s.2 0 0 100 i) 5 (fun i s => ∀ g, g < i → s.1 g = nI 0 ∧ s.2 g = nI 0) (fun r => ∃ g' t', r = (g', t', nI 0, nI 0, nI 100) ∧ ∀ g, g < 5 → g' g = nI 0 ∧ t' g = nI 0) (fun n i s hi hs => ?_) (fun n s hs => ?_) 5 0 (gone, took) N9 (by omega) (by omega) (fun g hg => absurd hg (Nat.not_lt_zero g))
  · obtain ⟨r, h1, g', t', rfl, h2⟩ := h
    exact ⟨g', t', h1, h2⟩
  · show ∃ s', pX7_clear_18 N9 (n + 1) s.1 s.2 0 0 100 (nI i) = _ ∧ _
    simp only [pX7_clear_18]
    rw [if_neg (show ¬ (5 : Int32) ≤ nI i from nI_ge (b := 5) hi (by omega)), if_pos (of_eq_true (jzin hi (by omega))), jcl (by omega), nI_1]
    refine ⟨(_, _), rfl, fun g hg => ?_⟩
    by_cases hgi : g = i
    · subst hgi; exact ⟨pk_us, pk_us⟩
    · exact ⟨(pk_un hgi).trans (hs g (by omega)).1, (pk_un hgi).trans (hs g (by omega)).2⟩
  · show ∃ r, pX7_clear_18 N9 (n + 1) s.1 s.2 0 0 100 (nI 5) = _ ∧ _
    simp only [pX7_clear_18]
    rw [if_pos (show (5 : Int32) ≤ nI 5 by decide)]
    exact ⟨_, rfl, s.1, s.2, rfl, hs⟩
theorem jtells (hN : 70000 < N9) (rT : Nat → Int32) : ∃ t, pM_tellsNothing N9 rT = some t ∧ t 0 = nI 0 ∧ t 1 = nI 0 ∧ t 2 = nI 0 ∧ t 3 = nI 100 := by
  obtain ⟨q, rfl⟩ : ∃ q, N9 = q + 1 + 1 + 1 + 1 := ⟨N9 - 4, by omega⟩
  unfold pM_tellsNothing
  simp only [pM_tellsNothing_2]
  simp (disch := omega) only [jb1, jb2, jb3, jb4, jb5, jb6, jb7, jb8, jb9, jb10, jb11, jb12, jb13, jb14, jb15, jb16, jb17, jb18, jb19, jb20, jb21, jb22, jb23, jb24, jb25, jb26, jb27, jb28, jb29, jb30, jb31, jb32, jb33, jb34, jb35, jb36, jb37, jb38, jb39, jb40, jb41, jb42, jb43, jb44, jb45, jb46, jb47, jb48, jb49, jb50, zlet, jlit, jle_t, jle_f, jlt_t, jlt_f, jeq_t, jeq_f, jeqN_f, jNeq_f, jNN, jN1, jadd, jsub, jzin, jcl, if_true, if_false, ite_true, ite_false, not_true, not_false_iff, not_true_eq_false, not_false_eq_true, jB_t, jB_f, jB0_t, jB0_f, jBa, jand11, jand00, ↓reduceIte, Nat.reduceEqDiff, Nat.reduceAdd, Nat.reduceSub]
  exact ⟨_, rfl, rfl, rfl, rfl, rfl⟩
theorem jbegins (hN : 70000 < N9) {nb ng nl : Nat} (hnb : nb ≤ 8) (hng : ng ≤ 5) (hnl : nl ≤ 24) {rT : Nat → Int32} (t0 : rT 0 = nI nb) (t1 : rT 1 = nI ng) (t2 : rT 2 = nI nl) (told : Nat → Int32) (rB beast rG gate rL list : Nat → Nat → Int32) (lm : Int32) (now : Nat → Int32) (wk rs im : Int32) :
    ∃ told' beast' gate' list' now', pM_beginsAnew N9 rT told rB beast rG gate rL list lm now wk rs im = some (told', beast', gate', list', nI 0, now', nI 0, nI 0, nI 0) ∧ (∀ k, k < 4 → told' k = rT k) ∧ (∀ g, g < ng → gate' g 0 = rG g 0 ∧ gate' g 1 = rG g 1) ∧ (∀ k, k < nl → list' k 0 = rL k 0 ∧ list' k 1 = rL k 1) ∧
      now' 42 = nI nb ∧ now' 43 = rT 3 ∧ (∀ b, b < nb → now' b = rB b 0 ∧ now' (8 + b) = rB b 0 ∧ now' (16 + b) = rB b 1) ∧ ∀ k, k < 46 → 24 ≤ k → k ≠ 42 → k ≠ 43 → now' k = nI 0 := by
  obtain ⟨beast', b1, b2⟩ := jlays (N9 := N9) hN rB beast (m := nb) hnb
  obtain ⟨gate', g1, g2⟩ := jlays_i1 (N9 := N9) hN rG gate (m := ng) hng
  obtain ⟨list', l1, l2⟩ := jlays_i2 (N9 := N9) hN rL list (m := nl) hnl
  -- the beasts' rows
  have h125 : ∀ (td : Nat → Int32) (nw : Nat → Int32), td 0 = nI nb → nw 42 = nI nb → nw 43 = rT 3 → (∀ k, k < 46 → 24 ≤ k → k ≠ 42 → k ≠ 43 → nw k = nI 0) → ∃ now', pM_beginsAnew_125 N9 td beast' gate' list' lm wk rs im N9 nw 0 = some (td, beast', gate', list', nI 0, now', nI 0, nI 0, nI 0) ∧ now' 42 = nI nb ∧ now' 43 = rT 3 ∧ (∀ b, b < nb → now' b = rB b 0 ∧ now' (8 + b) = rB b 0 ∧ now' (16 + b) = rB b 1) ∧ ∀ k, k < 46 → 24 ≤ k → k ≠ 42 → k ≠ 43 → now' k = nI 0 := by
    intro td nw htd h42 h43 hz
    have h := jloopR (fun n (f : Nat → Int32) i => pM_beginsAnew_125 N9 td beast' gate' list' lm wk rs im n f i) nb (fun i f => f 42 = nI nb ∧ f 43 = rT 3 ∧ (∀ b, b < i → f b = rB b 0 ∧ f (8 + b) = rB b 0 ∧ f (16 + b) = rB b 1) ∧ ∀ k, k < 46 → 24 ≤ k → k ≠ 42 → k ≠ 43 → f k = nI 0)
      (fun r => ∃ f : Nat → Int32, r = (td, beast', gate', list', nI 0, f, nI 0, nI 0, nI 0) ∧ f 42 = nI nb ∧ f 43 = rT 3 ∧ (∀ b, b < nb → f b = rB b 0 ∧ f (8 + b) = rB b 0 ∧ f (16 + b) = rB b 1) ∧ ∀ k, k < 46 → 24 ≤ k → k ≠ 42 → k ≠ 43 → f k = nI 0) (fun n i f hi hf => ?_) (fun n f hf => ?_) nb 0 nw N9 (by omega) (by omega) ⟨h42, h43, fun b hb => absurd hb (Nat.not_lt_zero b), hz⟩
    · obtain ⟨r, h1, f, rfl, h2⟩ := h
      exact ⟨f, h1, h2⟩
    · obtain ⟨f1, f2, f3, f4⟩ := hf
      obtain ⟨c1, c2⟩ := b2 i hi
      show ∃ s', pM_beginsAnew_125 N9 td beast' gate' list' lm wk rs im (n + 1) f (nI i) = _ ∧ _
      simp only [pM_beginsAnew_125]
      simp (disch := omega) only [jb1, jb2, jb3, jb4, jb5, jb6, jb7, jb8, jb9, jb10, jb11, jb12, jb13, jb14, jb15, jb16, jb17, jb18, jb19, jb20, jb21, jb22, jb23, jb24, jb25, jb26, jb27, jb28, jb29, jb30, jb31, jb32, jb33, jb34, jb35, jb36, jb37, jb38, jb39, jb40, jb41, jb42, jb43, jb44, jb45, jb46, jb47, jb48, jb49, jb50, zlet, jlit, jle_t, jle_f, jlt_t, jlt_f, jeq_t, jeq_f, jeqN_f, jNeq_f, jNN, jN1, jadd, jsub, jzin, jcl, if_true, if_false, ite_true, ite_false, not_true, not_false_iff, not_true_eq_false, not_false_eq_true, jB_t, jB_f, jB0_t, jB0_f, jBa, jand11, jand00, ↓reduceIte, Nat.reduceEqDiff, Nat.reduceAdd, Nat.reduceSub, htd, c1, c2, Nat.zero_add]
      refine ⟨_, rfl, ?_, ?_, fun b hb => ?_, fun k hk1 hk2 hk3 hk4 => ?_⟩
      · simp (disch := omega) only [jb1, jb2, jb3, jb4, jb5, jb6, jb7, jb8, jb9, jb10, jb11, jb12, jb13, jb14, jb15, jb16, jb17, jb18, jb19, jb20, jb21, jb22, jb23, jb24, jb25, jb26, jb27, jb28, jb29, jb30, jb31, jb32, jb33, jb34, jb35, jb36, jb37, jb38, jb39, jb40, jb41, jb42, jb43, jb44, jb45, jb46, jb47, jb48, jb49, jb50, zlet, jlit, jle_t, jle_f, jlt_t, jlt_f, jeq_t, jeq_f, jeqN_f, jNeq_f, jNN, jN1, jadd, jsub, jzin, jcl, if_true, if_false, ite_true, ite_false, not_true, not_false_iff, not_true_eq_false, not_false_eq_true, jB_t, jB_f, jB0_t, jB0_f, jBa, jand11, jand00, ↓reduceIte, Nat.reduceEqDiff, Nat.reduceAdd, Nat.reduceSub, pk_un]; exact f1
      · simp (disch := omega) only [jb1, jb2, jb3, jb4, jb5, jb6, jb7, jb8, jb9, jb10, jb11, jb12, jb13, jb14, jb15, jb16, jb17, jb18, jb19, jb20, jb21, jb22, jb23, jb24, jb25, jb26, jb27, jb28, jb29, jb30, jb31, jb32, jb33, jb34, jb35, jb36, jb37, jb38, jb39, jb40, jb41, jb42, jb43, jb44, jb45, jb46, jb47, jb48, jb49, jb50, zlet, jlit, jle_t, jle_f, jlt_t, jlt_f, jeq_t, jeq_f, jeqN_f, jNeq_f, jNN, jN1, jadd, jsub, jzin, jcl, if_true, if_false, ite_true, ite_false, not_true, not_false_iff, not_true_eq_false, not_false_eq_true, jB_t, jB_f, jB0_t, jB0_f, jBa, jand11, jand00, ↓reduceIte, Nat.reduceEqDiff, Nat.reduceAdd, Nat.reduceSub, pk_un]; exact f2
      · by_cases hbi : b = i
        · subst hbi
          simp (disch := omega) only [jb1, jb2, jb3, jb4, jb5, jb6, jb7, jb8, jb9, jb10, jb11, jb12, jb13, jb14, jb15, jb16, jb17, jb18, jb19, jb20, jb21, jb22, jb23, jb24, jb25, jb26, jb27, jb28, jb29, jb30, jb31, jb32, jb33, jb34, jb35, jb36, jb37, jb38, jb39, jb40, jb41, jb42, jb43, jb44, jb45, jb46, jb47, jb48, jb49, jb50, zlet, jlit, jle_t, jle_f, jlt_t, jlt_f, jeq_t, jeq_f, jeqN_f, jNeq_f, jNN, jN1, jadd, jsub, jzin, jcl, if_true, if_false, ite_true, ite_false, not_true, not_false_iff, not_true_eq_false, not_false_eq_true, jB_t, jB_f, jB0_t, jB0_f, jBa, jand11, jand00, ↓reduceIte, Nat.reduceEqDiff, Nat.reduceAdd, Nat.reduceSub, pk_un, pk_us]
          exact ⟨trivial, trivial, trivial⟩
        · obtain ⟨d1, d2, d3⟩ := f3 b (by omega)
          simp (disch := omega) only [jb1, jb2, jb3, jb4, jb5, jb6, jb7, jb8, jb9, jb10, jb11, jb12, jb13, jb14, jb15, jb16, jb17, jb18, jb19, jb20, jb21, jb22, jb23, jb24, jb25, jb26, jb27, jb28, jb29, jb30, jb31, jb32, jb33, jb34, jb35, jb36, jb37, jb38, jb39, jb40, jb41, jb42, jb43, jb44, jb45, jb46, jb47, jb48, jb49, jb50, zlet, jlit, jle_t, jle_f, jlt_t, jlt_f, jeq_t, jeq_f, jeqN_f, jNeq_f, jNN, jN1, jadd, jsub, jzin, jcl, if_true, if_false, ite_true, ite_false, not_true, not_false_iff, not_true_eq_false, not_false_eq_true, jB_t, jB_f, jB0_t, jB0_f, jBa, jand11, jand00, ↓reduceIte, Nat.reduceEqDiff, Nat.reduceAdd, Nat.reduceSub, pk_un, d1, d2, d3]
          exact ⟨trivial, trivial, trivial⟩
      · simp (disch := omega) only [jb1, jb2, jb3, jb4, jb5, jb6, jb7, jb8, jb9, jb10, jb11, jb12, jb13, jb14, jb15, jb16, jb17, jb18, jb19, jb20, jb21, jb22, jb23, jb24, jb25, jb26, jb27, jb28, jb29, jb30, jb31, jb32, jb33, jb34, jb35, jb36, jb37, jb38, jb39, jb40, jb41, jb42, jb43, jb44, jb45, jb46, jb47, jb48, jb49, jb50, zlet, jlit, jle_t, jle_f, jlt_t, jlt_f, jeq_t, jeq_f, jeqN_f, jNeq_f, jNN, jN1, jadd, jsub, jzin, jcl, if_true, if_false, ite_true, ite_false, not_true, not_false_iff, not_true_eq_false, not_false_eq_true, jB_t, jB_f, jB0_t, jB0_f, jBa, jand11, jand00, ↓reduceIte, Nat.reduceEqDiff, Nat.reduceAdd, Nat.reduceSub, pk_un]; exact f4 k hk1 hk2 hk3 hk4
    · show ∃ r, pM_beginsAnew_125 N9 td beast' gate' list' lm wk rs im (n + 1) f (nI nb) = _ ∧ _
      simp only [pM_beginsAnew_125]
      simp (disch := omega) only [jb1, jb2, jb3, jb4, jb5, jb6, jb7, jb8, jb9, jb10, jb11, jb12, jb13, jb14, jb15, jb16, jb17, jb18, jb19, jb20, jb21, jb22, jb23, jb24, jb25, jb26, jb27, jb28, jb29, jb30, jb31, jb32, jb33, jb34, jb35, jb36, jb37, jb38, jb39, jb40, jb41, jb42, jb43, jb44, jb45, jb46, jb47, jb48, jb49, jb50, zlet, jlit, jle_t, jle_f, jlt_t, jlt_f, jeq_t, jeq_f, jeqN_f, jNeq_f, jNN, jN1, jadd, jsub, jzin, jcl, if_true, if_false, ite_true, ite_false, not_true, not_false_iff, not_true_eq_false, not_false_eq_true, jB_t, jB_f, jB0_t, jB0_f, jBa, jand11, jand00, ↓reduceIte, Nat.reduceEqDiff, Nat.reduceAdd, Nat.reduceSub, htd]
      exact ⟨_, rfl, f, rfl, hf⟩
  have h78 : ∀ (td : Nat → Int32), (∀ k, k < 4 → td k = rT k) → ∃ now', pM_beginsAnew_78 N9 lm wk rs im N9 td beast' gate' list' now 0 = some (td, beast', gate', list', nI 0, now', nI 0, nI 0, nI 0) ∧ now' 42 = nI nb ∧ now' 43 = rT 3 ∧ (∀ b, b < nb → now' b = rB b 0 ∧ now' (8 + b) = rB b 0 ∧ now' (16 + b) = rB b 1) ∧ ∀ k, k < 46 → 24 ≤ k → k ≠ 42 → k ≠ 43 → now' k = nI 0 := by
    intro td htd
    have h := jloopR (fun n (f : Nat → Int32) i => pM_beginsAnew_78 N9 lm wk rs im n td beast' gate' list' f i) 46 (fun i f => ∀ k, k < i → f k = nI 0)
      (fun r => ∃ f : Nat → Int32, r = (td, beast', gate', list', nI 0, f, nI 0, nI 0, nI 0) ∧ f 42 = nI nb ∧ f 43 = rT 3 ∧ (∀ b, b < nb → f b = rB b 0 ∧ f (8 + b) = rB b 0 ∧ f (16 + b) = rB b 1) ∧ ∀ k, k < 46 → 24 ≤ k → k ≠ 42 → k ≠ 43 → f k = nI 0) (fun n i f hi hf => ?_) (fun n f hf => ?_) 46 0 now N9 (by omega) (by omega) (fun k hk => absurd hk (Nat.not_lt_zero k))
    · obtain ⟨r, h1, f, rfl, h2⟩ := h
      exact ⟨f, h1, h2⟩
    · show ∃ s', pM_beginsAnew_78 N9 lm wk rs im (n + 1) td beast' gate' list' f (nI i) = _ ∧ _
      simp only [pM_beginsAnew_78]
      rw [if_neg (show ¬ (46 : Int32) ≤ nI i from nI_ge (b := 46) hi (by omega)), if_pos (of_eq_true (jzin hi (by omega))), jcl (by omega), nI_1]
      refine ⟨_, rfl, fun k hk => ?_⟩
      by_cases hki : k = i
      · subst hki; exact pk_us
      · exact (pk_un hki).trans (hf k (by omega))
    · show ∃ r, pM_beginsAnew_78 N9 lm wk rs im (n + 1) td beast' gate' list' f (nI 46) = _ ∧ _
      simp only [pM_beginsAnew_78]
      have d0 := htd 0 (by omega)
      have d3 := htd 3 (by omega)
      rw [t0] at d0
      obtain ⟨f', e1, e2⟩ := h125 td (upd (upd f 42 (nI nb)) 43 (rT 3)) d0 (by rw [pk_un (by omega), pk_us]) pk_us (fun k hk1 hk2 hk3 hk4 => by rw [pk_un hk4, pk_un hk3]; exact hf k hk1)
      rw [show (0 : Int32) = nI 0 from rfl] at e1
      simp (disch := omega) only [jb1, jb2, jb3, jb4, jb5, jb6, jb7, jb8, jb9, jb10, jb11, jb12, jb13, jb14, jb15, jb16, jb17, jb18, jb19, jb20, jb21, jb22, jb23, jb24, jb25, jb26, jb27, jb28, jb29, jb30, jb31, jb32, jb33, jb34, jb35, jb36, jb37, jb38, jb39, jb40, jb41, jb42, jb43, jb44, jb45, jb46, jb47, jb48, jb49, jb50, zlet, jlit, jle_t, jle_f, jlt_t, jlt_f, jeq_t, jeq_f, jeqN_f, jNeq_f, jNN, jN1, jadd, jsub, jzin, jcl, if_true, if_false, ite_true, ite_false, not_true, not_false_iff, not_true_eq_false, not_false_eq_true, jB_t, jB_f, jB0_t, jB0_f, jBa, jand11, jand00, ↓reduceIte, Nat.reduceEqDiff, Nat.reduceAdd, Nat.reduceSub, d0, d3, e1]
      exact ⟨_, rfl, f', rfl, e2⟩
  unfold pM_beginsAnew
  have h := jloopR (fun n (f : Nat → Int32) i => pM_beginsAnew_2 N9 rT rB beast rG gate rL list lm now wk rs im n f i) 4 (fun i f => ∀ k, k < i → f k = rT k)
    (fun r => ∃ (td : Nat → Int32) (f : Nat → Int32), r = (td, beast', gate', list', nI 0, f, nI 0, nI 0, nI 0) ∧ (∀ k, k < 4 → td k = rT k) ∧ f 42 = nI nb ∧ f 43 = rT 3 ∧ (∀ b, b < nb → f b = rB b 0 ∧ f (8 + b) = rB b 0 ∧ f (16 + b) = rB b 1) ∧ ∀ k, k < 46 → 24 ≤ k → k ≠ 42 → k ≠ 43 → f k = nI 0) (fun n i f hi hf => ?_) (fun n f hf => ?_) 4 0 told N9 (by omega) (by omega) (fun k hk => absurd hk (Nat.not_lt_zero k))
  · obtain ⟨r, h1, td, f, rfl, h2, h3⟩ := h
    exact ⟨td, beast', gate', list', f, h1, h2, g2, l2, h3⟩
  · show ∃ s', pM_beginsAnew_2 N9 rT rB beast rG gate rL list lm now wk rs im (n + 1) f (nI i) = _ ∧ _
    simp only [pM_beginsAnew_2]
    rw [if_neg (show ¬ (4 : Int32) ≤ nI i from nI_ge (b := 4) hi (by omega)), if_pos (of_eq_true (jzin hi (by omega))), jcl (by omega), nI_1]
    refine ⟨_, rfl, fun k hk => ?_⟩
    by_cases hki : k = i
    · subst hki; exact pk_us
    · exact (pk_un hki).trans (hf k (by omega))
  · show ∃ r, pM_beginsAnew_2 N9 rT rB beast rG gate rL list lm now wk rs im (n + 1) f (nI 4) = _ ∧ _
    simp only [pM_beginsAnew_2]
    have d0 := hf 0 (by omega)
    have d1 := hf 1 (by omega)
    have d2 := hf 2 (by omega)
    rw [t0] at d0
    rw [t1] at d1
    rw [t2] at d2
    obtain ⟨f', e1, e2⟩ := h78 f hf
    rw [show (0 : Int32) = nI 0 from rfl] at e1
    simp (disch := omega) only [jb1, jb2, jb3, jb4, jb5, jb6, jb7, jb8, jb9, jb10, jb11, jb12, jb13, jb14, jb15, jb16, jb17, jb18, jb19, jb20, jb21, jb22, jb23, jb24, jb25, jb26, jb27, jb28, jb29, jb30, jb31, jb32, jb33, jb34, jb35, jb36, jb37, jb38, jb39, jb40, jb41, jb42, jb43, jb44, jb45, jb46, jb47, jb48, jb49, jb50, zlet, jlit, jle_t, jle_f, jlt_t, jlt_f, jeq_t, jeq_f, jeqN_f, jNeq_f, jNN, jN1, jadd, jsub, jzin, jcl, if_true, if_false, ite_true, ite_false, not_true, not_false_iff, not_true_eq_false, not_false_eq_true, jB_t, jB_f, jB0_t, jB0_f, jBa, jand11, jand00, ↓reduceIte, Nat.reduceEqDiff, Nat.reduceAdd, Nat.reduceSub, d0, d1, d2, b1, g1, l1, e1]
    exact ⟨_, rfl, f, f', rfl, hf, e2⟩
end BG
