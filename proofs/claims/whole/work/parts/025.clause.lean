theorem jcnt_congr {g1 g2 : Nat → Nat} {g : Nat} : ∀ n, (∀ k, k < n → g1 k = g2 k) → jcnt g1 g n = jcnt g2 g n := by
  intro n
  induction n with
  | zero => intro _; rfl
  | succ n ih => intro h; rw [jcnt, jcnt, ih (fun k hk => h k (by omega)), h n (by omega)]
theorem jcnt_zero {gt : Nat → Nat} {g : Nat} : ∀ n, (∀ k, k < n → gt k ≠ g) → jcnt gt g n = 0 := by
  intro n
  induction n with
  | zero => intro _; rfl
  | succ n ih => intro h; rw [jcnt, ih (fun k hk => h k (by omega)), if_neg (h n (by omega))]
/-- a trade as far as it is read -/
def jDr (c nb ng nl : Nat) (gt nu : Nat → Nat) (now born age ps : Nat → Int32) (be co : Int32) (fo to le : Nat → Int32) (nm : Nat → Nat → Int32) (ga li : Int32) (rT : Nat → Int32) (rB rG rL : Nat → Nat → Int32) : Prop :=
  nb ≤ 8 ∧ ng ≤ 5 ∧ nl ≤ 24 ∧ c ≤ 999 ∧ be = nI nb ∧ co = nI c ∧ ga = nI ng ∧ li = nI nl ∧ rT 0 = nI nb ∧ rT 1 = nI ng ∧ rT 2 = nI nl ∧ rT 3 = nI c ∧
  (∀ b, b < nb → ∃ v, v < 256 ∧ now b = nI v ∧ born b = nI v ∧ rB b 0 = nI v ∧ rB b 1 = age b ∧ ps b = nI 0) ∧
  (∀ g, g < ng → ∃ f, f ≤ 3 ∧ fo g = nI f ∧ rG g 0 = nI f ∧ to g = rG g 1 ∧ le g = nI (jcnt gt g nl)) ∧
  (∀ k, k < nl → gt k < ng ∧ nu k < 256 ∧ rL k 0 = nI (gt k) ∧ rL k 1 = nI (nu k) ∧ nm (gt k) (jcnt gt (gt k) k) = nI (nu k))
abbrev jX17 : Type := Int32 × Int32 × Int32 × Int32 × Int32 × (Nat → Int32) × (Nat → Int32) × (Nat → Int32) × (Nat → Int32) × Int32 × Int32 × (Nat → Int32) × (Nat → Int32) × (Nat → Int32) × (Nat → Nat → Int32) × Int32 × Int32
abbrev jMc : Type := Int32 × Int32 × Int32 × Int32 × (Nat → Int32) × (Nat → Nat → Int32) × (Nat → Nat → Int32) × (Nat → Nat → Int32)
def jCPost (n : Nat) (by' : Nat → Nat) (a i : Nat) (rx : jX17) (rm : jMc) : Prop := match rx, rm with
  | (r0, pl, _, fk, fp, now, born, age, ps, be, co, fo, to, le, nm, ga, li), (at', f, fa, cl, rT, rB, rG, rL) =>
    (∃ a1 c nb ng nl gt nu, a < a1 ∧ a1 ≤ n ∧ r0 = nI 1 ∧ pl = nI a1 ∧ fk = nI 0 ∧ fp = -nI 1 ∧ cl = nI (i + 1) ∧ jDr c nb ng nl gt nu now born age ps be co fo to le nm ga li rT rB rG rL ∧
      (at', f, fa) = if jby n by' (jsk n by' a1) = 59 then (nI (jsk n by' a1 + 1), nI 0, -nI 1) else (nI (jsk n by' a1), nI 1, nI (jsk n by' a1))) ∨
    jErr n r0 fk fp at' f fa
section CL
variable {n : Nat} {by' : Nat → Nat} {tp_bytes m_fed : Nat → Int32} {N9 : Nat}
theorem jclause (hN : 70000 < N9) (ht : jTx n by' tp_bytes m_fed) {c nb ng nl : Nat} {gt nu : Nat → Nat} {now born age ps : Nat → Int32} {be co : Int32} {fo to le : Nat → Int32} {nm : Nat → Nat → Int32} {ga li : Int32} {rT : Nat → Int32} {rB rG rL : Nat → Nat → Int32} (hd : jDr c nb ng nl gt nu now born age ps be co fo to le nm ga li rT rB rG rL)
    {k q i : Nat} (hkn : k ≤ n) (hq3 : q ≤ 3) (hf0 : q = 0 → nb < 8) (hf1 : q = 1 → ng < 5) (hf2 : q = 2 → nl < 24) (np : Int32) :
    jev (jCPost n by' k i) (pX0_readClause N9 tp_bytes (nI n) (nI (jle n by' k)) np (nI 0) (-nI 1) now born age ps be co fo to le nm ga li (nI q)) (pM_clause_58 N9 (nI n) (nI i) m_fed rT rB rG rL (nI k) (nI 0) (-nI 1) (nI q)) := by
  have hdd := hd
  obtain ⟨hnb, hng, hnl, hc, rfl, rfl, rfl, rfl, t0, t1, t2, t3, hb, hg, hl⟩ := hd
  have hz1 : nI 1 ≠ nI 0 := by decide
  have he := jle_rng (by' := by') hkn
  have hskM := jskipM hN ht hkn
  generalize jle n by' k = e at he hskM
  have hp5 : ∀ v, v ≤ 100000 → (nI v ≤ nI ng - nI 1 ↔ v < ng) := fun v hv => jle_pred hv (by omega)
  obtain ⟨hgg, hge⟩ : ∃ hg, nI ng - nI 1 = hg := ⟨_, rfl⟩
  rw [hge] at hp5
  have : q = 0 ∨ q = 1 ∨ q = 2 ∨ q = 3 := by omega
  rcases this with rfl | rfl | rfl | rfl
  · rcases jnum2 hN ht he.2 np (nI 255) with ⟨q, g, a1, p, h1, h2, h3, h4, e1, e2⟩ | ⟨v, a1, h1, h2, h3, h4, e1, e2⟩
    · have hfq : nI q ≠ nI 0 := jhfz q h1 h2
      unfold pX0_readClause pM_clause_58
      simp (disch := omega) only [jb1, jb2, jb3, jb4, jb5, jb6, jb7, jb8, jb9, jb10, jb11, jb12, jb13, jb14, jb15, jb16, jb17, jb18, jb19, jb20, jb21, jb22, jb23, jb24, jb25, jb26, jb27, jb28, jb29, jb30, jb31, jb32, jb33, jb34, jb35, jb36, jb37, jb38, jb39, jb40, jb41, jb42, jb43, jb44, jb45, jb46, jb47, jb48, jb49, jb50, zlet, jlit, jle_t, jle_f, jlt_t, jlt_f, jeq_t, jeq_f, jeqN_f, jNeq_f, jNN, jN1, jadd, jsub, jzin, jcl, if_true, if_false, ite_true, ite_false, not_true, not_false_iff, not_true_eq_false, not_false_eq_true, jB_t, jB_f, jB0_t, jB0_f, jBa, jand11, jand00, ↓reduceIte, Nat.reduceEqDiff, Nat.reduceAdd, Nat.reduceSub, jn1, jn2, jn3, jn4, jn5, jn6, pX0_mostOfFirst, pX0_mostOfSecond, pX7_addBeast, pX0_addGate, pX0_addToList, pM_clause_248, pM_clause_272, pM_clause_274, hskM, hge, t0, t1, t2, t3, jva, pk_us, e1, e2, jnumMf hfq, jsignMf hfq, if_neg hfq]
      exact jev.mk (Or.inr ⟨q, g, _, h1, h2, h3, h4, rfl, rfl, rfl, rfl, rfl, rfl⟩)
    · rcases jnum2 hN ht h2 (nI (jsk n by' e)) (nI 40) with ⟨q, g, a2, p, g1, g2, g3, g4, e3, e4⟩ | ⟨s, a2, g1, g2, g3, g4, e3, e4⟩
      · have hfq : nI q ≠ nI 0 := jhfz q g1 g2
        unfold pX0_readClause pM_clause_58
        simp (disch := omega) only [jb1, jb2, jb3, jb4, jb5, jb6, jb7, jb8, jb9, jb10, jb11, jb12, jb13, jb14, jb15, jb16, jb17, jb18, jb19, jb20, jb21, jb22, jb23, jb24, jb25, jb26, jb27, jb28, jb29, jb30, jb31, jb32, jb33, jb34, jb35, jb36, jb37, jb38, jb39, jb40, jb41, jb42, jb43, jb44, jb45, jb46, jb47, jb48, jb49, jb50, zlet, jlit, jle_t, jle_f, jlt_t, jlt_f, jeq_t, jeq_f, jeqN_f, jNeq_f, jNN, jN1, jadd, jsub, jzin, jcl, if_true, if_false, ite_true, ite_false, not_true, not_false_iff, not_true_eq_false, not_false_eq_true, jB_t, jB_f, jB0_t, jB0_f, jBa, jand11, jand00, ↓reduceIte, Nat.reduceEqDiff, Nat.reduceAdd, Nat.reduceSub, jn1, jn2, jn3, jn4, jn5, jn6, pX0_mostOfFirst, pX0_mostOfSecond, pX7_addBeast, pX0_addGate, pX0_addToList, pM_clause_248, pM_clause_272, pM_clause_274, hskM, hge, t0, t1, t2, t3, jva, pk_us, e1, e2, e3, e4, jnumMf hfq, jsignMf hfq, if_neg hfq]
        exact jev.mk (Or.inr ⟨q, g, _, g1, g2, g3, g4, rfl, rfl, rfl, rfl, rfl, rfl⟩)
      · have hv : v ≤ 255 := (nI_leI (by omega) (by omega)).mp h4
        have hn8 := hf0 rfl
        have hnew : jDr c (nb + 1) ng nl gt nu (upd now nb (nI v)) (upd born nb (nI v)) (upd age nb (nI s)) (upd ps nb (nI 0)) (nI (nb + 1)) (nI c) fo to le nm (nI ng) (nI nl) (upd rT 0 (nI (nb + 1))) (va_up (va_up rB nb (upd (rB nb) 0 (nI v))) nb (upd (upd (rB nb) 0 (nI v)) 1 (nI s))) rG rL := by
          refine ⟨by omega, hng, hnl, hc, rfl, rfl, rfl, rfl, pk_us, by rw [pk_un (by omega)]; exact t1, by rw [pk_un (by omega)]; exact t2, by rw [pk_un (by omega)]; exact t3, fun b hbn => ?_, hg, hl⟩
          by_cases hbb : b = nb
          · subst hbb
            refine ⟨v, by omega, pk_us, pk_us, ?_, ?_, pk_us⟩
            · rw [jva, pk_un (by omega), pk_us]
            · rw [jva, pk_us, pk_us]
          · obtain ⟨v', f1, f2, f3, f4, f5, f6⟩ := hb b (by omega)
            refine ⟨v', f1, by rw [pk_un hbb, f2], by rw [pk_un hbb, f3], ?_, ?_, by rw [pk_un hbb, f6]⟩
            · simp only [va_up, if_neg hbb]; exact f4
            · simp only [va_up, if_neg hbb, pk_un hbb]; exact f5
        unfold pX0_readClause pM_clause_58
        simp (disch := omega) only [jb1, jb2, jb3, jb4, jb5, jb6, jb7, jb8, jb9, jb10, jb11, jb12, jb13, jb14, jb15, jb16, jb17, jb18, jb19, jb20, jb21, jb22, jb23, jb24, jb25, jb26, jb27, jb28, jb29, jb30, jb31, jb32, jb33, jb34, jb35, jb36, jb37, jb38, jb39, jb40, jb41, jb42, jb43, jb44, jb45, jb46, jb47, jb48, jb49, jb50, zlet, jlit, jle_t, jle_f, jlt_t, jlt_f, jeq_t, jeq_f, jeqN_f, jNeq_f, jNN, jN1, jadd, jsub, jzin, jcl, if_true, if_false, ite_true, ite_false, not_true, not_false_iff, not_true_eq_false, not_false_eq_true, jB_t, jB_f, jB0_t, jB0_f, jBa, jand11, jand00, ↓reduceIte, Nat.reduceEqDiff, Nat.reduceAdd, Nat.reduceSub, jn1, jn2, jn3, jn4, jn5, jn6, pX0_mostOfFirst, pX0_mostOfSecond, pX7_addBeast, pX0_addGate, pX0_addToList, pM_clause_248, pM_clause_272, pM_clause_274, hskM, hge, t0, t1, t2, t3, jva, pk_us, e1, e2, e3, e4, jsignM hN ht g2]
        by_cases h59 : jby n by' (jsk n by' a2) = nI 59
        · simp (disch := omega) only [jb1, jb2, jb3, jb4, jb5, jb6, jb7, jb8, jb9, jb10, jb11, jb12, jb13, jb14, jb15, jb16, jb17, jb18, jb19, jb20, jb21, jb22, jb23, jb24, jb25, jb26, jb27, jb28, jb29, jb30, jb31, jb32, jb33, jb34, jb35, jb36, jb37, jb38, jb39, jb40, jb41, jb42, jb43, jb44, jb45, jb46, jb47, jb48, jb49, jb50, zlet, jlit, jle_t, jle_f, jlt_t, jlt_f, jeq_t, jeq_f, jeqN_f, jNeq_f, jNN, jN1, jadd, jsub, jzin, jcl, if_true, if_false, ite_true, ite_false, not_true, not_false_iff, not_true_eq_false, not_false_eq_true, jB_t, jB_f, jB0_t, jB0_f, jBa, jand11, jand00, ↓reduceIte, Nat.reduceEqDiff, Nat.reduceAdd, Nat.reduceSub, jn1, jn2, jn3, jn4, jn5, jn6, if_pos h59]
          exact jev.mk (Or.inl ⟨a2, c, nb + 1, ng, nl, gt, nu, by omega, by omega, rfl, rfl, rfl, rfl, rfl, hnew, by rw [show (59 : Int32) = nI 59 from rfl, if_pos h59]⟩)
        · simp (disch := omega) only [jb1, jb2, jb3, jb4, jb5, jb6, jb7, jb8, jb9, jb10, jb11, jb12, jb13, jb14, jb15, jb16, jb17, jb18, jb19, jb20, jb21, jb22, jb23, jb24, jb25, jb26, jb27, jb28, jb29, jb30, jb31, jb32, jb33, jb34, jb35, jb36, jb37, jb38, jb39, jb40, jb41, jb42, jb43, jb44, jb45, jb46, jb47, jb48, jb49, jb50, zlet, jlit, jle_t, jle_f, jlt_t, jlt_f, jeq_t, jeq_f, jeqN_f, jNeq_f, jNN, jN1, jadd, jsub, jzin, jcl, if_true, if_false, ite_true, ite_false, not_true, not_false_iff, not_true_eq_false, not_false_eq_true, jB_t, jB_f, jB0_t, jB0_f, jBa, jand11, jand00, ↓reduceIte, Nat.reduceEqDiff, Nat.reduceAdd, Nat.reduceSub, jn1, jn2, jn3, jn4, jn5, jn6, if_neg h59]
          exact jev.mk (Or.inl ⟨a2, c, nb + 1, ng, nl, gt, nu, by omega, by omega, rfl, rfl, rfl, rfl, rfl, hnew, by rw [show (59 : Int32) = nI 59 from rfl, if_neg h59]⟩)
  · rcases jnum2 hN ht he.2 np (nI 3) with ⟨q, g, a1, p, h1, h2, h3, h4, e1, e2⟩ | ⟨v, a1, h1, h2, h3, h4, e1, e2⟩
    · have hfq : nI q ≠ nI 0 := jhfz q h1 h2
      unfold pX0_readClause pM_clause_58
      simp (disch := omega) only [jb1, jb2, jb3, jb4, jb5, jb6, jb7, jb8, jb9, jb10, jb11, jb12, jb13, jb14, jb15, jb16, jb17, jb18, jb19, jb20, jb21, jb22, jb23, jb24, jb25, jb26, jb27, jb28, jb29, jb30, jb31, jb32, jb33, jb34, jb35, jb36, jb37, jb38, jb39, jb40, jb41, jb42, jb43, jb44, jb45, jb46, jb47, jb48, jb49, jb50, zlet, jlit, jle_t, jle_f, jlt_t, jlt_f, jeq_t, jeq_f, jeqN_f, jNeq_f, jNN, jN1, jadd, jsub, jzin, jcl, if_true, if_false, ite_true, ite_false, not_true, not_false_iff, not_true_eq_false, not_false_eq_true, jB_t, jB_f, jB0_t, jB0_f, jBa, jand11, jand00, ↓reduceIte, Nat.reduceEqDiff, Nat.reduceAdd, Nat.reduceSub, jn1, jn2, jn3, jn4, jn5, jn6, pX0_mostOfFirst, pX0_mostOfSecond, pX7_addBeast, pX0_addGate, pX0_addToList, pM_clause_248, pM_clause_272, pM_clause_274, hskM, hge, t0, t1, t2, t3, jva, pk_us, e1, e2, jnumMf hfq, jsignMf hfq, if_neg hfq]
      exact jev.mk (Or.inr ⟨q, g, _, h1, h2, h3, h4, rfl, rfl, rfl, rfl, rfl, rfl⟩)
    · rcases jnum2 hN ht h2 (nI (jsk n by' e)) (nI 40) with ⟨q, g, a2, p, g1, g2, g3, g4, e3, e4⟩ | ⟨s, a2, g1, g2, g3, g4, e3, e4⟩
      · have hfq : nI q ≠ nI 0 := jhfz q g1 g2
        unfold pX0_readClause pM_clause_58
        simp (disch := omega) only [jb1, jb2, jb3, jb4, jb5, jb6, jb7, jb8, jb9, jb10, jb11, jb12, jb13, jb14, jb15, jb16, jb17, jb18, jb19, jb20, jb21, jb22, jb23, jb24, jb25, jb26, jb27, jb28, jb29, jb30, jb31, jb32, jb33, jb34, jb35, jb36, jb37, jb38, jb39, jb40, jb41, jb42, jb43, jb44, jb45, jb46, jb47, jb48, jb49, jb50, zlet, jlit, jle_t, jle_f, jlt_t, jlt_f, jeq_t, jeq_f, jeqN_f, jNeq_f, jNN, jN1, jadd, jsub, jzin, jcl, if_true, if_false, ite_true, ite_false, not_true, not_false_iff, not_true_eq_false, not_false_eq_true, jB_t, jB_f, jB0_t, jB0_f, jBa, jand11, jand00, ↓reduceIte, Nat.reduceEqDiff, Nat.reduceAdd, Nat.reduceSub, jn1, jn2, jn3, jn4, jn5, jn6, pX0_mostOfFirst, pX0_mostOfSecond, pX7_addBeast, pX0_addGate, pX0_addToList, pM_clause_248, pM_clause_272, pM_clause_274, hskM, hge, t0, t1, t2, t3, jva, pk_us, e1, e2, e3, e4, jnumMf hfq, jsignMf hfq, if_neg hfq]
        exact jev.mk (Or.inr ⟨q, g, _, g1, g2, g3, g4, rfl, rfl, rfl, rfl, rfl, rfl⟩)
      · have hv : v ≤ 3 := (nI_leI (by omega) (by omega)).mp h4
        have hn5 := hf1 rfl
        have hnew : jDr c nb (ng + 1) nl gt nu now born age ps (nI nb) (nI c) (upd fo ng (nI v)) (upd to ng (nI s)) (upd le ng (nI 0)) nm (nI (ng + 1)) (nI nl) (upd rT 1 (nI (ng + 1))) rB (va_up (va_up rG ng (upd (rG ng) 0 (nI v))) ng (upd (upd (rG ng) 0 (nI v)) 1 (nI s))) rL := by
          refine ⟨hnb, by omega, hnl, hc, rfl, rfl, rfl, rfl, by rw [pk_un (by omega)]; exact t0, pk_us, by rw [pk_un (by omega)]; exact t2, by rw [pk_un (by omega)]; exact t3, hb, fun g hgn => ?_, fun k hk => ?_⟩
          · by_cases hgb : g = ng
            · subst hgb
              refine ⟨v, hv, pk_us, ?_, ?_, ?_⟩
              · rw [jva, pk_un (by omega), pk_us]
              · rw [jva, pk_us, pk_us]
              · rw [pk_us, jcnt_zero nl (fun k hk => by have := (hl k hk).1; omega)]
            · obtain ⟨f, f1, f2, f3, f4, f5⟩ := hg g (by omega)
              refine ⟨f, f1, by rw [pk_un hgb, f2], ?_, ?_, by rw [pk_un hgb, f5]⟩
              · simp only [va_up, if_neg hgb]; exact f3
              · simp only [va_up, if_neg hgb, pk_un hgb]; exact f4
          · obtain ⟨f1, f2, f3, f4, f5⟩ := hl k hk
            exact ⟨by omega, f2, f3, f4, f5⟩
        unfold pX0_readClause pM_clause_58
        simp (disch := omega) only [jb1, jb2, jb3, jb4, jb5, jb6, jb7, jb8, jb9, jb10, jb11, jb12, jb13, jb14, jb15, jb16, jb17, jb18, jb19, jb20, jb21, jb22, jb23, jb24, jb25, jb26, jb27, jb28, jb29, jb30, jb31, jb32, jb33, jb34, jb35, jb36, jb37, jb38, jb39, jb40, jb41, jb42, jb43, jb44, jb45, jb46, jb47, jb48, jb49, jb50, zlet, jlit, jle_t, jle_f, jlt_t, jlt_f, jeq_t, jeq_f, jeqN_f, jNeq_f, jNN, jN1, jadd, jsub, jzin, jcl, if_true, if_false, ite_true, ite_false, not_true, not_false_iff, not_true_eq_false, not_false_eq_true, jB_t, jB_f, jB0_t, jB0_f, jBa, jand11, jand00, ↓reduceIte, Nat.reduceEqDiff, Nat.reduceAdd, Nat.reduceSub, jn1, jn2, jn3, jn4, jn5, jn6, pX0_mostOfFirst, pX0_mostOfSecond, pX7_addBeast, pX0_addGate, pX0_addToList, pM_clause_248, pM_clause_272, pM_clause_274, hskM, hge, t0, t1, t2, t3, jva, pk_us, e1, e2, e3, e4, jsignM hN ht g2]
        by_cases h59 : jby n by' (jsk n by' a2) = nI 59
        · simp (disch := omega) only [jb1, jb2, jb3, jb4, jb5, jb6, jb7, jb8, jb9, jb10, jb11, jb12, jb13, jb14, jb15, jb16, jb17, jb18, jb19, jb20, jb21, jb22, jb23, jb24, jb25, jb26, jb27, jb28, jb29, jb30, jb31, jb32, jb33, jb34, jb35, jb36, jb37, jb38, jb39, jb40, jb41, jb42, jb43, jb44, jb45, jb46, jb47, jb48, jb49, jb50, zlet, jlit, jle_t, jle_f, jlt_t, jlt_f, jeq_t, jeq_f, jeqN_f, jNeq_f, jNN, jN1, jadd, jsub, jzin, jcl, if_true, if_false, ite_true, ite_false, not_true, not_false_iff, not_true_eq_false, not_false_eq_true, jB_t, jB_f, jB0_t, jB0_f, jBa, jand11, jand00, ↓reduceIte, Nat.reduceEqDiff, Nat.reduceAdd, Nat.reduceSub, jn1, jn2, jn3, jn4, jn5, jn6, if_pos h59]
          exact jev.mk (Or.inl ⟨a2, c, nb, ng + 1, nl, gt, nu, by omega, by omega, rfl, rfl, rfl, rfl, rfl, hnew, by rw [show (59 : Int32) = nI 59 from rfl, if_pos h59]⟩)
        · simp (disch := omega) only [jb1, jb2, jb3, jb4, jb5, jb6, jb7, jb8, jb9, jb10, jb11, jb12, jb13, jb14, jb15, jb16, jb17, jb18, jb19, jb20, jb21, jb22, jb23, jb24, jb25, jb26, jb27, jb28, jb29, jb30, jb31, jb32, jb33, jb34, jb35, jb36, jb37, jb38, jb39, jb40, jb41, jb42, jb43, jb44, jb45, jb46, jb47, jb48, jb49, jb50, zlet, jlit, jle_t, jle_f, jlt_t, jlt_f, jeq_t, jeq_f, jeqN_f, jNeq_f, jNN, jN1, jadd, jsub, jzin, jcl, if_true, if_false, ite_true, ite_false, not_true, not_false_iff, not_true_eq_false, not_false_eq_true, jB_t, jB_f, jB0_t, jB0_f, jBa, jand11, jand00, ↓reduceIte, Nat.reduceEqDiff, Nat.reduceAdd, Nat.reduceSub, jn1, jn2, jn3, jn4, jn5, jn6, if_neg h59]
          exact jev.mk (Or.inl ⟨a2, c, nb, ng + 1, nl, gt, nu, by omega, by omega, rfl, rfl, rfl, rfl, rfl, hnew, by rw [show (59 : Int32) = nI 59 from rfl, if_neg h59]⟩)
  · rcases jnum2 hN ht he.2 np hgg with ⟨q, g, a1, p, h1, h2, h3, h4, e1, e2⟩ | ⟨v, a1, h1, h2, h3, h4, e1, e2⟩
    · have hfq : nI q ≠ nI 0 := jhfz q h1 h2
      unfold pX0_readClause pM_clause_58
      simp (disch := omega) only [jb1, jb2, jb3, jb4, jb5, jb6, jb7, jb8, jb9, jb10, jb11, jb12, jb13, jb14, jb15, jb16, jb17, jb18, jb19, jb20, jb21, jb22, jb23, jb24, jb25, jb26, jb27, jb28, jb29, jb30, jb31, jb32, jb33, jb34, jb35, jb36, jb37, jb38, jb39, jb40, jb41, jb42, jb43, jb44, jb45, jb46, jb47, jb48, jb49, jb50, zlet, jlit, jle_t, jle_f, jlt_t, jlt_f, jeq_t, jeq_f, jeqN_f, jNeq_f, jNN, jN1, jadd, jsub, jzin, jcl, if_true, if_false, ite_true, ite_false, not_true, not_false_iff, not_true_eq_false, not_false_eq_true, jB_t, jB_f, jB0_t, jB0_f, jBa, jand11, jand00, ↓reduceIte, Nat.reduceEqDiff, Nat.reduceAdd, Nat.reduceSub, jn1, jn2, jn3, jn4, jn5, jn6, pX0_mostOfFirst, pX0_mostOfSecond, pX7_addBeast, pX0_addGate, pX0_addToList, pM_clause_248, pM_clause_272, pM_clause_274, hskM, hge, t0, t1, t2, t3, jva, pk_us, e1, e2, jnumMf hfq, jsignMf hfq, if_neg hfq]
      exact jev.mk (Or.inr ⟨q, g, _, h1, h2, h3, h4, rfl, rfl, rfl, rfl, rfl, rfl⟩)
    · rcases jnum2 hN ht h2 (nI (jsk n by' e)) (nI 255) with ⟨q, g, a2, p, g1, g2, g3, g4, e3, e4⟩ | ⟨s, a2, g1, g2, g3, g4, e3, e4⟩
      · have hfq : nI q ≠ nI 0 := jhfz q g1 g2
        unfold pX0_readClause pM_clause_58
        simp (disch := omega) only [jb1, jb2, jb3, jb4, jb5, jb6, jb7, jb8, jb9, jb10, jb11, jb12, jb13, jb14, jb15, jb16, jb17, jb18, jb19, jb20, jb21, jb22, jb23, jb24, jb25, jb26, jb27, jb28, jb29, jb30, jb31, jb32, jb33, jb34, jb35, jb36, jb37, jb38, jb39, jb40, jb41, jb42, jb43, jb44, jb45, jb46, jb47, jb48, jb49, jb50, zlet, jlit, jle_t, jle_f, jlt_t, jlt_f, jeq_t, jeq_f, jeqN_f, jNeq_f, jNN, jN1, jadd, jsub, jzin, jcl, if_true, if_false, ite_true, ite_false, not_true, not_false_iff, not_true_eq_false, not_false_eq_true, jB_t, jB_f, jB0_t, jB0_f, jBa, jand11, jand00, ↓reduceIte, Nat.reduceEqDiff, Nat.reduceAdd, Nat.reduceSub, jn1, jn2, jn3, jn4, jn5, jn6, pX0_mostOfFirst, pX0_mostOfSecond, pX7_addBeast, pX0_addGate, pX0_addToList, pM_clause_248, pM_clause_272, pM_clause_274, hskM, hge, t0, t1, t2, t3, jva, pk_us, e1, e2, e3, e4, jnumMf hfq, jsignMf hfq, if_neg hfq]
        exact jev.mk (Or.inr ⟨q, g, _, g1, g2, g3, g4, rfl, rfl, rfl, rfl, rfl, rfl⟩)
      · have hv : v < ng := (hp5 v h3).mp h4
        have hs : s ≤ 255 := (nI_leI (by omega) (by omega)).mp g4
        have hn24 := hf2 rfl
        obtain ⟨f, -, -, -, -, hlev⟩ := hg v hv
        have hcl := jcnt_le gt v nl
        have hnew : jDr c nb ng (nl + 1) (fun i => if i = nl then v else gt i) (fun i => if i = nl then s else nu i) now born age ps (nI nb) (nI c) fo to (upd le v (nI (jcnt gt v nl + 1))) (va_up nm v (upd (nm v) (jcnt gt v nl) (nI s))) (nI ng) (nI (nl + 1)) (upd rT 2 (nI (nl + 1))) rB rG (va_up (va_up rL nl (upd (rL nl) 0 (nI v))) nl (upd (upd (rL nl) 0 (nI v)) 1 (nI s))) := by
          have hcc : ∀ g k, k ≤ nl → jcnt (fun i => if i = nl then v else gt i) g k = jcnt gt g k := fun g k hk => jcnt_congr k (fun j hj => by rw [if_neg (by omega)])
          refine ⟨hnb, hng, by omega, hc, rfl, rfl, rfl, rfl, by rw [pk_un (by omega)]; exact t0, by rw [pk_un (by omega)]; exact t1, pk_us, by rw [pk_un (by omega)]; exact t3, hb, fun g hgn => ?_, fun k hk => ?_⟩
          · obtain ⟨f, f1, f2, f3, f4, f5⟩ := hg g hgn
            refine ⟨f, f1, f2, f3, f4, ?_⟩
            rw [jcnt, hcc g nl (Nat.le_refl nl), if_pos rfl]
            by_cases hgv : g = v
            · subst hgv; rw [pk_us, if_pos rfl]
            · rw [pk_un hgv, f5, if_neg (fun q => hgv q.symm), Nat.add_zero]
          · dsimp only
            by_cases hkn2 : k = nl
            · subst hkn2
              rw [if_pos rfl, if_pos rfl, hcc v k (Nat.le_refl k), jva, jva, pk_us, pk_un (by omega), pk_us, pk_us]
              exact ⟨hv, by omega, rfl, rfl, rfl⟩
            · obtain ⟨f1, f2, f3, f4, f5⟩ := hl k (by omega)
              rw [if_neg hkn2, if_neg hkn2, hcc (gt k) k (by omega)]
              simp only [va_up, if_neg hkn2]
              refine ⟨f1, f2, f3, f4, ?_⟩
              by_cases hgv : gt k = v
              · have hlt := jcnt_lt (gt := gt) (show k < nl by omega) hgv
                rw [if_pos hgv, hgv, pk_un (by omega)]
                rw [hgv] at f5
                exact f5
              · rw [if_neg hgv]; exact f5
        unfold pX0_readClause pM_clause_58
        simp (disch := omega) only [jb1, jb2, jb3, jb4, jb5, jb6, jb7, jb8, jb9, jb10, jb11, jb12, jb13, jb14, jb15, jb16, jb17, jb18, jb19, jb20, jb21, jb22, jb23, jb24, jb25, jb26, jb27, jb28, jb29, jb30, jb31, jb32, jb33, jb34, jb35, jb36, jb37, jb38, jb39, jb40, jb41, jb42, jb43, jb44, jb45, jb46, jb47, jb48, jb49, jb50, zlet, jlit, jle_t, jle_f, jlt_t, jlt_f, jeq_t, jeq_f, jeqN_f, jNeq_f, jNN, jN1, jadd, jsub, jzin, jcl, if_true, if_false, ite_true, ite_false, not_true, not_false_iff, not_true_eq_false, not_false_eq_true, jB_t, jB_f, jB0_t, jB0_f, jBa, jand11, jand00, ↓reduceIte, Nat.reduceEqDiff, Nat.reduceAdd, Nat.reduceSub, jn1, jn2, jn3, jn4, jn5, jn6, pX0_mostOfFirst, pX0_mostOfSecond, pX7_addBeast, pX0_addGate, pX0_addToList, pM_clause_248, pM_clause_272, pM_clause_274, hskM, hge, t0, t1, t2, t3, jva, pk_us, e1, e2, e3, e4, jsignM hN ht g2, hlev]
        by_cases h59 : jby n by' (jsk n by' a2) = nI 59
        · simp (disch := omega) only [jb1, jb2, jb3, jb4, jb5, jb6, jb7, jb8, jb9, jb10, jb11, jb12, jb13, jb14, jb15, jb16, jb17, jb18, jb19, jb20, jb21, jb22, jb23, jb24, jb25, jb26, jb27, jb28, jb29, jb30, jb31, jb32, jb33, jb34, jb35, jb36, jb37, jb38, jb39, jb40, jb41, jb42, jb43, jb44, jb45, jb46, jb47, jb48, jb49, jb50, zlet, jlit, jle_t, jle_f, jlt_t, jlt_f, jeq_t, jeq_f, jeqN_f, jNeq_f, jNN, jN1, jadd, jsub, jzin, jcl, if_true, if_false, ite_true, ite_false, not_true, not_false_iff, not_true_eq_false, not_false_eq_true, jB_t, jB_f, jB0_t, jB0_f, jBa, jand11, jand00, ↓reduceIte, Nat.reduceEqDiff, Nat.reduceAdd, Nat.reduceSub, jn1, jn2, jn3, jn4, jn5, jn6, if_pos h59]
          exact jev.mk (Or.inl ⟨a2, c, nb, ng, nl + 1, _, _, by omega, by omega, rfl, rfl, rfl, rfl, rfl, hnew, by rw [show (59 : Int32) = nI 59 from rfl, if_pos h59]⟩)
        · simp (disch := omega) only [jb1, jb2, jb3, jb4, jb5, jb6, jb7, jb8, jb9, jb10, jb11, jb12, jb13, jb14, jb15, jb16, jb17, jb18, jb19, jb20, jb21, jb22, jb23, jb24, jb25, jb26, jb27, jb28, jb29, jb30, jb31, jb32, jb33, jb34, jb35, jb36, jb37, jb38, jb39, jb40, jb41, jb42, jb43, jb44, jb45, jb46, jb47, jb48, jb49, jb50, zlet, jlit, jle_t, jle_f, jlt_t, jlt_f, jeq_t, jeq_f, jeqN_f, jNeq_f, jNN, jN1, jadd, jsub, jzin, jcl, if_true, if_false, ite_true, ite_false, not_true, not_false_iff, not_true_eq_false, not_false_eq_true, jB_t, jB_f, jB0_t, jB0_f, jBa, jand11, jand00, ↓reduceIte, Nat.reduceEqDiff, Nat.reduceAdd, Nat.reduceSub, jn1, jn2, jn3, jn4, jn5, jn6, if_neg h59]
          exact jev.mk (Or.inl ⟨a2, c, nb, ng, nl + 1, _, _, by omega, by omega, rfl, rfl, rfl, rfl, rfl, hnew, by rw [show (59 : Int32) = nI 59 from rfl, if_neg h59]⟩)
  · rcases jnum2 hN ht he.2 np (nI 999) with ⟨q, g, a1, p, h1, h2, h3, h4, e1, e2⟩ | ⟨v, a1, h1, h2, h3, h4, e1, e2⟩
    · have hfq : nI q ≠ nI 0 := jhfz q h1 h2
      unfold pX0_readClause pM_clause_58
      simp (disch := omega) only [jb1, jb2, jb3, jb4, jb5, jb6, jb7, jb8, jb9, jb10, jb11, jb12, jb13, jb14, jb15, jb16, jb17, jb18, jb19, jb20, jb21, jb22, jb23, jb24, jb25, jb26, jb27, jb28, jb29, jb30, jb31, jb32, jb33, jb34, jb35, jb36, jb37, jb38, jb39, jb40, jb41, jb42, jb43, jb44, jb45, jb46, jb47, jb48, jb49, jb50, zlet, jlit, jle_t, jle_f, jlt_t, jlt_f, jeq_t, jeq_f, jeqN_f, jNeq_f, jNN, jN1, jadd, jsub, jzin, jcl, if_true, if_false, ite_true, ite_false, not_true, not_false_iff, not_true_eq_false, not_false_eq_true, jB_t, jB_f, jB0_t, jB0_f, jBa, jand11, jand00, ↓reduceIte, Nat.reduceEqDiff, Nat.reduceAdd, Nat.reduceSub, jn1, jn2, jn3, jn4, jn5, jn6, pX0_mostOfFirst, pX0_mostOfSecond, pX7_addBeast, pX0_addGate, pX0_addToList, pM_clause_248, pM_clause_272, pM_clause_274, hskM, hge, t0, t1, t2, t3, jva, pk_us, e1, e2, jnumMf hfq, jsignMf hfq, if_neg hfq]
      exact jev.mk (Or.inr ⟨q, g, _, h1, h2, h3, h4, rfl, rfl, rfl, rfl, rfl, rfl⟩)
    · have hv : v ≤ 999 := (nI_leI (by omega) (by omega)).mp h4
      have hnew : jDr v nb ng nl gt nu now born age ps (nI nb) (nI v) fo to le nm (nI ng) (nI nl) (upd rT 3 (nI v)) rB rG rL := ⟨hnb, hng, hnl, hv, rfl, rfl, rfl, rfl, by rw [pk_un (by omega)]; exact t0, by rw [pk_un (by omega)]; exact t1, by rw [pk_un (by omega)]; exact t2, pk_us, hb, hg, hl⟩
      unfold pX0_readClause pM_clause_58
      simp (disch := omega) only [jb1, jb2, jb3, jb4, jb5, jb6, jb7, jb8, jb9, jb10, jb11, jb12, jb13, jb14, jb15, jb16, jb17, jb18, jb19, jb20, jb21, jb22, jb23, jb24, jb25, jb26, jb27, jb28, jb29, jb30, jb31, jb32, jb33, jb34, jb35, jb36, jb37, jb38, jb39, jb40, jb41, jb42, jb43, jb44, jb45, jb46, jb47, jb48, jb49, jb50, zlet, jlit, jle_t, jle_f, jlt_t, jlt_f, jeq_t, jeq_f, jeqN_f, jNeq_f, jNN, jN1, jadd, jsub, jzin, jcl, if_true, if_false, ite_true, ite_false, not_true, not_false_iff, not_true_eq_false, not_false_eq_true, jB_t, jB_f, jB0_t, jB0_f, jBa, jand11, jand00, ↓reduceIte, Nat.reduceEqDiff, Nat.reduceAdd, Nat.reduceSub, jn1, jn2, jn3, jn4, jn5, jn6, pX0_mostOfFirst, pX0_mostOfSecond, pX7_addBeast, pX0_addGate, pX0_addToList, pM_clause_248, pM_clause_272, pM_clause_274, hskM, hge, t0, t1, t2, t3, jva, pk_us, e1, e2, jsignM hN ht h2]
      by_cases h59 : jby n by' (jsk n by' a1) = nI 59
      · simp (disch := omega) only [jb1, jb2, jb3, jb4, jb5, jb6, jb7, jb8, jb9, jb10, jb11, jb12, jb13, jb14, jb15, jb16, jb17, jb18, jb19, jb20, jb21, jb22, jb23, jb24, jb25, jb26, jb27, jb28, jb29, jb30, jb31, jb32, jb33, jb34, jb35, jb36, jb37, jb38, jb39, jb40, jb41, jb42, jb43, jb44, jb45, jb46, jb47, jb48, jb49, jb50, zlet, jlit, jle_t, jle_f, jlt_t, jlt_f, jeq_t, jeq_f, jeqN_f, jNeq_f, jNN, jN1, jadd, jsub, jzin, jcl, if_true, if_false, ite_true, ite_false, not_true, not_false_iff, not_true_eq_false, not_false_eq_true, jB_t, jB_f, jB0_t, jB0_f, jBa, jand11, jand00, ↓reduceIte, Nat.reduceEqDiff, Nat.reduceAdd, Nat.reduceSub, jn1, jn2, jn3, jn4, jn5, jn6, if_pos h59]
        exact jev.mk (Or.inl ⟨a1, v, nb, ng, nl, gt, nu, by omega, by omega, rfl, rfl, rfl, rfl, rfl, hnew, by rw [show (59 : Int32) = nI 59 from rfl, if_pos h59]⟩)
      · simp (disch := omega) only [jb1, jb2, jb3, jb4, jb5, jb6, jb7, jb8, jb9, jb10, jb11, jb12, jb13, jb14, jb15, jb16, jb17, jb18, jb19, jb20, jb21, jb22, jb23, jb24, jb25, jb26, jb27, jb28, jb29, jb30, jb31, jb32, jb33, jb34, jb35, jb36, jb37, jb38, jb39, jb40, jb41, jb42, jb43, jb44, jb45, jb46, jb47, jb48, jb49, jb50, zlet, jlit, jle_t, jle_f, jlt_t, jlt_f, jeq_t, jeq_f, jeqN_f, jNeq_f, jNN, jN1, jadd, jsub, jzin, jcl, if_true, if_false, ite_true, ite_false, not_true, not_false_iff, not_true_eq_false, not_false_eq_true, jB_t, jB_f, jB0_t, jB0_f, jBa, jand11, jand00, ↓reduceIte, Nat.reduceEqDiff, Nat.reduceAdd, Nat.reduceSub, jn1, jn2, jn3, jn4, jn5, jn6, if_neg h59]
        exact jev.mk (Or.inl ⟨a1, v, nb, ng, nl, gt, nu, by omega, by omega, rfl, rfl, rfl, rfl, rfl, hnew, by rw [show (59 : Int32) = nI 59 from rfl, if_neg h59]⟩)
end CL
