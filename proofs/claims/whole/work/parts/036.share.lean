/-! share -/
def jgv (w v : Nat) (tk : Nat → Nat) : Nat → Nat | 0 => 0 | k + 1 => jgv w v tk k + (if w / 2 ^ k % 2 = 1 then (if v < tk k then v else tk k) else 0)
theorem jgv_le (w v : Nat) (tk : Nat → Nat) : ∀ k, jgv w v tk k ≤ k * v := by
  intro k
  induction k with
  | zero => exact Nat.zero_le _
  | succ k ih =>
    rw [jgv, Nat.succ_mul]
    have : (if w / 2 ^ k % 2 = 1 then (if v < tk k then v else tk k) else 0) ≤ v := by
      split
      · split <;> omega
      · omega
    omega
theorem jless {N9 a b : Nat} (ha : a < 2147483648) (hb : b < 2147483648) : pM_less N9 (nI a) (nI b) = some (nI (if b ≤ a then b else a)) := by
  unfold pM_less pM_less_10
  by_cases h : b ≤ a
  · rw [if_pos h, if_pos (nI_le h ha)]
  · rw [if_neg h, if_neg (nI_ge (by omega) hb)]
section C5
variable {N9 G L B c n : Nat} {gt nu fo kk vv no bo tk : Nat → Nat} {bk_forgives bk_tolls bk_lengths : Nat → Int32} {bk_numbers : Nat → Nat → Int32} {m_told : Nat → Int32} {m_gate m_list : Nat → Nat → Int32}
variable {lw_kinds lw_values : Nat → Int32} {lw_length m_lawMany : Int32} {m_law : Nat → Nat → Int32} {st_now st_born st_age st_passed st_gone st_took : Nat → Int32} {st_year re ra : Int32} {m_now m_refused : Nat → Int32}
theorem jtk_le (hs : jSt G B no bo c tk st_now st_born st_age st_passed st_gone st_took (nI B) st_year (nI c) m_now) {g : Nat} (hg : g < 5) : tk g ≤ 999 := by
  have hm := hs.2.2.2.2.2.2.2.2.2.1
  have : g = 0 ∨ g = 1 ∨ g = 2 ∨ g = 3 ∨ g = 4 := by omega
  rcases this with rfl | rfl | rfl | rfl | rfl <;> omega
theorem jxgive (hN : 70000 < N9) (hG : G ≤ 5) (hs : jSt G B no bo c tk st_now st_born st_age st_passed st_gone st_took (nI B) st_year (nI c) m_now) {w v : Nat} (hw : w < 32) (hv : v ≤ 1000) : pX9_givenBelow N9 (nI G) st_took (nI w) (nI v) = some (nI (jgv w v tk G)) := by
  have hs' := hs
  obtain ⟨-, -, -, -, -, -, -, -, hgo, -⟩ := hs
  unfold pX9_givenBelow
  refine jloop0 (fun n a i => pX9_givenBelow_5 N9 (nI G) st_took (nI w) (nI v) n a i) G (fun k => nI (jgv w v tk k)) (fun n k hk => ?_) (fun n => ?_) (by omega) rfl
  · obtain ⟨n1, n2, n3⟩ := hgo k (by omega)
    have hb := jbit_nI (n := w) (s := k) (by omega) (by omega)
    unfold jbit at hb
    have ht := jtk_le hs' (g := k) (by omega)
    show pX9_givenBelow_5 N9 (nI G) st_took (nI w) (nI v) (n + 1) _ _ = pX9_givenBelow_5 N9 (nI G) st_took (nI w) (nI v) n _ _
    simp only [pX9_givenBelow_5, pX9_givenBelow_47, jlit]
    simp (disch := omega) only [jb1, jb2, jb3, jb4, jb5, jb6, jb7, jb8, jb9, jb10, jb11, jb12, jb13, jb14, jb15, jb16, jb17, jb18, jb19, jb20, jb21, jb22, jb23, jb24, jb25, jb26, jb27, jb28, jb29, jb30, jb31, jb32, jb33, jb34, jb35, jb36, jb37, jb38, jb39, jb40, jb41, jb42, jb43, jb44, jb45, jb46, jb47, jb48, jb49, jb50, zlet, jlit, jle_t, jle_f, jlt_t, jlt_f, jeq_t, jeq_f, jeqN_f, jNeq_f, jNN, jN1, jadd, jsub, jzin, jcl, if_true, if_false, ite_true, ite_false, not_true, not_false_iff, not_true_eq_false, not_false_eq_true, jB_t, jB_f, jB0_t, jB0_f, jBa, jand11, jand00, ↓reduceIte, Nat.reduceEqDiff, Nat.reduceAdd, Nat.reduceSub, hb, n2, jzmin]
    rcases (by omega : w / 2 ^ k % 2 = 0 ∨ w / 2 ^ k % 2 = 1) with hq | hq
    · simp (disch := omega) only [jb1, jb2, jb3, jb4, jb5, jb6, jb7, jb8, jb9, jb10, jb11, jb12, jb13, jb14, jb15, jb16, jb17, jb18, jb19, jb20, jb21, jb22, jb23, jb24, jb25, jb26, jb27, jb28, jb29, jb30, jb31, jb32, jb33, jb34, jb35, jb36, jb37, jb38, jb39, jb40, jb41, jb42, jb43, jb44, jb45, jb46, jb47, jb48, jb49, jb50, zlet, jlit, jle_t, jle_f, jlt_t, jlt_f, jeq_t, jeq_f, jeqN_f, jNeq_f, jNN, jN1, jadd, jsub, jzin, jcl, if_true, if_false, ite_true, ite_false, not_true, not_false_iff, not_true_eq_false, not_false_eq_true, jB_t, jB_f, jB0_t, jB0_f, jBa, jand11, jand00, ↓reduceIte, Nat.reduceEqDiff, Nat.reduceAdd, Nat.reduceSub, hq, jgv, Nat.zero_ne_one, Nat.add_zero]
    · simp (disch := omega) only [jb1, jb2, jb3, jb4, jb5, jb6, jb7, jb8, jb9, jb10, jb11, jb12, jb13, jb14, jb15, jb16, jb17, jb18, jb19, jb20, jb21, jb22, jb23, jb24, jb25, jb26, jb27, jb28, jb29, jb30, jb31, jb32, jb33, jb34, jb35, jb36, jb37, jb38, jb39, jb40, jb41, jb42, jb43, jb44, jb45, jb46, jb47, jb48, jb49, jb50, zlet, jlit, jle_t, jle_f, jlt_t, jlt_f, jeq_t, jeq_f, jeqN_f, jNeq_f, jNN, jN1, jadd, jsub, jzin, jcl, if_true, if_false, ite_true, ite_false, not_true, not_false_iff, not_true_eq_false, not_false_eq_true, jB_t, jB_f, jB0_t, jB0_f, jBa, jand11, jand00, ↓reduceIte, Nat.reduceEqDiff, Nat.reduceAdd, Nat.reduceSub, hq, jgv]
  · show pX9_givenBelow_5 N9 (nI G) st_took (nI w) (nI v) (n + 1) _ _ = _
    simp only [pX9_givenBelow_5, jlit]
    simp (disch := omega) only [jb1, jb2, jb3, jb4, jb5, jb6, jb7, jb8, jb9, jb10, jb11, jb12, jb13, jb14, jb15, jb16, jb17, jb18, jb19, jb20, jb21, jb22, jb23, jb24, jb25, jb26, jb27, jb28, jb29, jb30, jb31, jb32, jb33, jb34, jb35, jb36, jb37, jb38, jb39, jb40, jb41, jb42, jb43, jb44, jb45, jb46, jb47, jb48, jb49, jb50, zlet, jlit, jle_t, jle_f, jlt_t, jlt_f, jeq_t, jeq_f, jeqN_f, jNeq_f, jNN, jN1, jadd, jsub, jzin, jcl, if_true, if_false, ite_true, ite_false, not_true, not_false_iff, not_true_eq_false, not_false_eq_true, jB_t, jB_f, jB0_t, jB0_f, jBa, jand11, jand00, ↓reduceIte, Nat.reduceEqDiff, Nat.reduceAdd, Nat.reduceSub]
theorem jmgive (hN : 70000 < N9) (hk : jBk G L gt nu fo bk_forgives bk_tolls bk_lengths bk_numbers m_told m_gate m_list) (hs : jSt G B no bo c tk st_now st_born st_age st_passed st_gone st_took (nI B) st_year (nI c) m_now) {w v : Nat} (hw : w < 32) (hv : v ≤ 1000) : pM_givenBy N9 m_told m_now (nI w) (nI v) = some (nI (jgv w v tk G)) := by
  have hs' := hs
  have hG := hk.1
  have hg1 := hk.2.2.1
  obtain ⟨-, -, -, -, -, -, -, -, hgo, -⟩ := hs
  unfold pM_givenBy
  refine jloop0 (fun n a i => pM_givenBy_5 N9 m_told m_now (nI w) (nI v) n a i) G (fun k => nI (jgv w v tk k)) (fun n k hk => ?_) (fun n => ?_) (by omega) rfl
  · obtain ⟨n1, n2, n3⟩ := hgo k (by omega)
    have hb := jmhas (n := w) (s := k) (by omega) (by omega) N9
    have ht := jtk_le hs' (g := k) (by omega)
    show pM_givenBy_5 N9 m_told m_now (nI w) (nI v) (n + 1) _ _ = pM_givenBy_5 N9 m_told m_now (nI w) (nI v) n _ _
    simp only [pM_givenBy_5, pM_givenBy_44, jlit]
    rcases (by omega : w / 2 ^ k % 2 = 0 ∨ w / 2 ^ k % 2 = 1) with hq | hq
    · have hq' : ¬ (w / 2 ^ k % 2 = 1) := by omega
      simp (disch := omega) only [jb1, jb2, jb3, jb4, jb5, jb6, jb7, jb8, jb9, jb10, jb11, jb12, jb13, jb14, jb15, jb16, jb17, jb18, jb19, jb20, jb21, jb22, jb23, jb24, jb25, jb26, jb27, jb28, jb29, jb30, jb31, jb32, jb33, jb34, jb35, jb36, jb37, jb38, jb39, jb40, jb41, jb42, jb43, jb44, jb45, jb46, jb47, jb48, jb49, jb50, zlet, jlit, jle_t, jle_f, jlt_t, jlt_f, jeq_t, jeq_f, jeqN_f, jNeq_f, jNN, jN1, jadd, jsub, jzin, jcl, if_true, if_false, ite_true, ite_false, not_true, not_false_iff, not_true_eq_false, not_false_eq_true, jB_t, jB_f, jB0_t, jB0_f, jBa, jand11, jand00, ↓reduceIte, Nat.reduceEqDiff, Nat.reduceAdd, Nat.reduceSub, hg1, hb, hq', decide_false, jgv]
    · simp (disch := omega) only [jb1, jb2, jb3, jb4, jb5, jb6, jb7, jb8, jb9, jb10, jb11, jb12, jb13, jb14, jb15, jb16, jb17, jb18, jb19, jb20, jb21, jb22, jb23, jb24, jb25, jb26, jb27, jb28, jb29, jb30, jb31, jb32, jb33, jb34, jb35, jb36, jb37, jb38, jb39, jb40, jb41, jb42, jb43, jb44, jb45, jb46, jb47, jb48, jb49, jb50, zlet, jlit, jle_t, jle_f, jlt_t, jlt_f, jeq_t, jeq_f, jeqN_f, jNeq_f, jNN, jN1, jadd, jsub, jzin, jcl, if_true, if_false, ite_true, ite_false, not_true, not_false_iff, not_true_eq_false, not_false_eq_true, jB_t, jB_f, jB0_t, jB0_f, jBa, jand11, jand00, ↓reduceIte, Nat.reduceEqDiff, Nat.reduceAdd, Nat.reduceSub, hg1, hb, hq, decide_true, n3, jless, jgv]
      by_cases hc : tk k ≤ v
      · rw [if_pos hc]
        by_cases hc2 : v < tk k
        · omega
        · rw [if_neg hc2]
      · rw [if_neg hc, if_pos (by omega)]
  · show pM_givenBy_5 N9 m_told m_now (nI w) (nI v) (n + 1) _ _ = _
    simp only [pM_givenBy_5, jlit]
    simp (disch := omega) only [jb1, jb2, jb3, jb4, jb5, jb6, jb7, jb8, jb9, jb10, jb11, jb12, jb13, jb14, jb15, jb16, jb17, jb18, jb19, jb20, jb21, jb22, jb23, jb24, jb25, jb26, jb27, jb28, jb29, jb30, jb31, jb32, jb33, jb34, jb35, jb36, jb37, jb38, jb39, jb40, jb41, jb42, jb43, jb44, jb45, jb46, jb47, jb48, jb49, jb50, zlet, jlit, jle_t, jle_f, jlt_t, jlt_f, jeq_t, jeq_f, jeqN_f, jNeq_f, jNN, jN1, jadd, jsub, jzin, jcl, if_true, if_false, ite_true, ite_false, not_true, not_false_iff, not_true_eq_false, not_false_eq_true, jB_t, jB_f, jB0_t, jB0_f, jBa, jand11, jand00, ↓reduceIte, Nat.reduceEqDiff, Nat.reduceAdd, Nat.reduceSub, hg1]
theorem jshare (hN : 70000 < N9) (hk : jBk G L gt nu fo bk_forgives bk_tolls bk_lengths bk_numbers m_told m_gate m_list) (hs : jSt G B no bo c tk st_now st_born st_age st_passed st_gone st_took (nI B) st_year (nI c) m_now) {g w v : Nat} (hg : g < G) (hw : w < 32) (hv : v ≤ 999) (hbit : w / 2 ^ g % 2 = 1) (re' ra' th : Int32) (rf : Nat → Int32) :
    ∃ r, pX9_share_60 N9 (nI G) st_took re' (nI g) (nI w) (nI v) N9 ra' (nI 0) = some (nI 0, nI r, re', ra') ∧ pM_share_75 N9 m_told m_now (nI g) (nI w) (nI v) N9 th rf (nI 0) = some (nI r, th, rf) := by
  have hG := hk.1
  have ht := jtk_le hs (g := g) (by omega)
  obtain ⟨n1, n2, n3⟩ := hs.2.2.2.2.2.2.2.2.1 g (by omega)
  have hb := jmhas (n := w) (s := g) (by omega) (by omega) N9
  -- the class's walk, past the reference's stop
  have past : ∀ e i n, i + e = 999 → e < n → tk g ≤ i → pX9_share_60 N9 (nI G) st_took re' (nI g) (nI w) (nI v) n ra' (nI i) = some (nI 0, nI (tk g), re', ra') := by
    intro e
    induction e with
    | zero =>
      intro i n h1 h2 h3
      obtain ⟨n, rfl⟩ : ∃ q, n = q + 1 := ⟨n - 1, by omega⟩
      obtain rfl : i = 999 := by omega
      simp only [pX9_share_60, pX9_share_87, jlit]
      simp (disch := omega) only [jb1, jb2, jb3, jb4, jb5, jb6, jb7, jb8, jb9, jb10, jb11, jb12, jb13, jb14, jb15, jb16, jb17, jb18, jb19, jb20, jb21, jb22, jb23, jb24, jb25, jb26, jb27, jb28, jb29, jb30, jb31, jb32, jb33, jb34, jb35, jb36, jb37, jb38, jb39, jb40, jb41, jb42, jb43, jb44, jb45, jb46, jb47, jb48, jb49, jb50, zlet, jlit, jle_t, jle_f, jlt_t, jlt_f, jeq_t, jeq_f, jeqN_f, jNeq_f, jNN, jN1, jadd, jsub, jzin, jcl, if_true, if_false, ite_true, ite_false, not_true, not_false_iff, not_true_eq_false, not_false_eq_true, jB_t, jB_f, jB0_t, jB0_f, jBa, jand11, jand00, ↓reduceIte, Nat.reduceEqDiff, Nat.reduceAdd, Nat.reduceSub, n2, jzmin]
      by_cases hc : 999 < tk g
      · omega
      · rw [if_neg hc]
    | succ e ih =>
      intro i n h1 h2 h3
      obtain ⟨n, rfl⟩ : ∃ q, n = q + 1 := ⟨n - 1, by omega⟩
      have hx := jxgive hN hG hs (w := w) (v := i + 1) hw (by omega)
      have hl := jgv_le w (i + 1) tk G
      have hl2 : G * (i + 1) ≤ 5 * (i + 1) := Nat.mul_le_mul_right _ hG
      simp only [pX9_share_60, pX9_share_87, jlit]
      by_cases hc : v < jgv w (i + 1) tk G
      · simp (disch := omega) only [jb1, jb2, jb3, jb4, jb5, jb6, jb7, jb8, jb9, jb10, jb11, jb12, jb13, jb14, jb15, jb16, jb17, jb18, jb19, jb20, jb21, jb22, jb23, jb24, jb25, jb26, jb27, jb28, jb29, jb30, jb31, jb32, jb33, jb34, jb35, jb36, jb37, jb38, jb39, jb40, jb41, jb42, jb43, jb44, jb45, jb46, jb47, jb48, jb49, jb50, zlet, jlit, jle_t, jle_f, jlt_t, jlt_f, jeq_t, jeq_f, jeqN_f, jNeq_f, jNN, jN1, jadd, jsub, jzin, jcl, if_true, if_false, ite_true, ite_false, not_true, not_false_iff, not_true_eq_false, not_false_eq_true, jB_t, jB_f, jB0_t, jB0_f, jBa, jand11, jand00, ↓reduceIte, Nat.reduceEqDiff, Nat.reduceAdd, Nat.reduceSub, hx, n2, jzmin]
        rw [if_neg (by omega : ¬ i < tk g)]
      · simp (disch := omega) only [jb1, jb2, jb3, jb4, jb5, jb6, jb7, jb8, jb9, jb10, jb11, jb12, jb13, jb14, jb15, jb16, jb17, jb18, jb19, jb20, jb21, jb22, jb23, jb24, jb25, jb26, jb27, jb28, jb29, jb30, jb31, jb32, jb33, jb34, jb35, jb36, jb37, jb38, jb39, jb40, jb41, jb42, jb43, jb44, jb45, jb46, jb47, jb48, jb49, jb50, zlet, jlit, jle_t, jle_f, jlt_t, jlt_f, jeq_t, jeq_f, jeqN_f, jNeq_f, jNN, jN1, jadd, jsub, jzin, jcl, if_true, if_false, ite_true, ite_false, not_true, not_false_iff, not_true_eq_false, not_false_eq_true, jB_t, jB_f, jB0_t, jB0_f, jBa, jand11, jand00, ↓reduceIte, Nat.reduceEqDiff, Nat.reduceAdd, Nat.reduceSub, hx]
        exact ih (i + 1) n (by omega) (by omega) (by omega)
  have both : ∀ e i n m, i + e = 999 → e < n → e < m → i ≤ tk g → ∃ r, pX9_share_60 N9 (nI G) st_took re' (nI g) (nI w) (nI v) n ra' (nI i) = some (nI 0, nI r, re', ra') ∧ pM_share_75 N9 m_told m_now (nI g) (nI w) (nI v) m th rf (nI i) = some (nI r, th, rf) := by
    intro e
    induction e with
    | zero =>
      intro i n m h1 h2 h4 h3
      obtain ⟨m, rfl⟩ : ∃ q, m = q + 1 := ⟨m - 1, by omega⟩
      refine ⟨tk g, past 0 i n h1 h2 (by omega), ?_⟩
      obtain rfl : i = tk g := by omega
      simp only [pM_share_75, pM_share_108, pM_share_122, jlit]
      simp (disch := omega) only [jb1, jb2, jb3, jb4, jb5, jb6, jb7, jb8, jb9, jb10, jb11, jb12, jb13, jb14, jb15, jb16, jb17, jb18, jb19, jb20, jb21, jb22, jb23, jb24, jb25, jb26, jb27, jb28, jb29, jb30, jb31, jb32, jb33, jb34, jb35, jb36, jb37, jb38, jb39, jb40, jb41, jb42, jb43, jb44, jb45, jb46, jb47, jb48, jb49, jb50, zlet, jlit, jle_t, jle_f, jlt_t, jlt_f, jeq_t, jeq_f, jeqN_f, jNeq_f, jNN, jN1, jadd, jsub, jzin, jcl, if_true, if_false, ite_true, ite_false, not_true, not_false_iff, not_true_eq_false, not_false_eq_true, jB_t, jB_f, jB0_t, jB0_f, jBa, jand11, jand00, ↓reduceIte, Nat.reduceEqDiff, Nat.reduceAdd, Nat.reduceSub, n3, hb, hbit, decide_true]
    | succ e ih =>
      intro i n m h1 h2 h4 h3
      by_cases hi : i = tk g
      · refine ⟨tk g, past (e + 1) i n h1 h2 (by omega), ?_⟩
        obtain ⟨m, rfl⟩ : ∃ q, m = q + 1 := ⟨m - 1, by omega⟩
        subst hi
        simp only [pM_share_75, pM_share_108, pM_share_122, jlit]
        simp (disch := omega) only [jb1, jb2, jb3, jb4, jb5, jb6, jb7, jb8, jb9, jb10, jb11, jb12, jb13, jb14, jb15, jb16, jb17, jb18, jb19, jb20, jb21, jb22, jb23, jb24, jb25, jb26, jb27, jb28, jb29, jb30, jb31, jb32, jb33, jb34, jb35, jb36, jb37, jb38, jb39, jb40, jb41, jb42, jb43, jb44, jb45, jb46, jb47, jb48, jb49, jb50, zlet, jlit, jle_t, jle_f, jlt_t, jlt_f, jeq_t, jeq_f, jeqN_f, jNeq_f, jNN, jN1, jadd, jsub, jzin, jcl, if_true, if_false, ite_true, ite_false, not_true, not_false_iff, not_true_eq_false, not_false_eq_true, jB_t, jB_f, jB0_t, jB0_f, jBa, jand11, jand00, ↓reduceIte, Nat.reduceEqDiff, Nat.reduceAdd, Nat.reduceSub, n3, hb, hbit, decide_true]
      · obtain ⟨n, rfl⟩ : ∃ q, n = q + 1 := ⟨n - 1, by omega⟩
        obtain ⟨m, rfl⟩ : ∃ q, m = q + 1 := ⟨m - 1, by omega⟩
        have hx := jxgive hN hG hs (w := w) (v := i + 1) hw (by omega)
        have hm := jmgive hN hk hs (w := w) (v := i + 1) hw (by omega)
        have hl := jgv_le w (i + 1) tk G
        have hl2 : G * (i + 1) ≤ 5 * (i + 1) := Nat.mul_le_mul_right _ hG
        simp only [pX9_share_60, pX9_share_87, pM_share_75, pM_share_108, pM_share_122, jlit]
        by_cases hc : v < jgv w (i + 1) tk G
        · simp (disch := omega) only [jb1, jb2, jb3, jb4, jb5, jb6, jb7, jb8, jb9, jb10, jb11, jb12, jb13, jb14, jb15, jb16, jb17, jb18, jb19, jb20, jb21, jb22, jb23, jb24, jb25, jb26, jb27, jb28, jb29, jb30, jb31, jb32, jb33, jb34, jb35, jb36, jb37, jb38, jb39, jb40, jb41, jb42, jb43, jb44, jb45, jb46, jb47, jb48, jb49, jb50, zlet, jlit, jle_t, jle_f, jlt_t, jlt_f, jeq_t, jeq_f, jeqN_f, jNeq_f, jNN, jN1, jadd, jsub, jzin, jcl, if_true, if_false, ite_true, ite_false, not_true, not_false_iff, not_true_eq_false, not_false_eq_true, jB_t, jB_f, jB0_t, jB0_f, jBa, jand11, jand00, ↓reduceIte, Nat.reduceEqDiff, Nat.reduceAdd, Nat.reduceSub, hx, hm, n2, n3, hb, hbit, decide_true, jzmin]
          rw [if_pos (by omega : i < tk g)]
          exact ⟨i, rfl, rfl⟩
        · simp (disch := omega) only [jb1, jb2, jb3, jb4, jb5, jb6, jb7, jb8, jb9, jb10, jb11, jb12, jb13, jb14, jb15, jb16, jb17, jb18, jb19, jb20, jb21, jb22, jb23, jb24, jb25, jb26, jb27, jb28, jb29, jb30, jb31, jb32, jb33, jb34, jb35, jb36, jb37, jb38, jb39, jb40, jb41, jb42, jb43, jb44, jb45, jb46, jb47, jb48, jb49, jb50, zlet, jlit, jle_t, jle_f, jlt_t, jlt_f, jeq_t, jeq_f, jeqN_f, jNeq_f, jNN, jN1, jadd, jsub, jzin, jcl, if_true, if_false, ite_true, ite_false, not_true, not_false_iff, not_true_eq_false, not_false_eq_true, jB_t, jB_f, jB0_t, jB0_f, jBa, jand11, jand00, ↓reduceIte, Nat.reduceEqDiff, Nat.reduceAdd, Nat.reduceSub, hx, hm, n2, n3, hb, hbit, decide_true, jzmin]
          exact ih (i + 1) n m (by omega) (by omega) (by omega) (by omega)
  exact both 999 0 N9 N9 (by omega) (by omega) (by omega) (by omega)
theorem jmshare0 (hN : 70000 < N9) (hk : jBk G L gt nu fo bk_forgives bk_tolls bk_lengths bk_numbers m_told m_gate m_list) (hs : jSt G B no bo c tk st_now st_born st_age st_passed st_gone st_took (nI B) st_year (nI c) m_now) {g w v : Nat} (hg : g < G) (hw : w < 32) (hv : v ≤ 999) (hbit : ¬ w / 2 ^ g % 2 = 1) (th : Int32) (rf : Nat → Int32) :
    pM_share_75 N9 m_told m_now (nI g) (nI w) (nI v) N9 th rf (nI 0) = some (nI 0, th, rf) := by
  have hG := hk.1
  have ht := jtk_le hs (g := g) (by omega)
  obtain ⟨n1, n2, n3⟩ := hs.2.2.2.2.2.2.2.2.1 g (by omega)
  have hb := jmhas (n := w) (s := g) (by omega) (by omega) N9
  have both : ∀ e i m, i + e = tk g → e < m → pM_share_75 N9 m_told m_now (nI g) (nI w) (nI v) m th rf (nI i) = some (nI 0, th, rf) := by
    intro e
    induction e with
    | zero =>
      intro i m h1 h2
      obtain ⟨m, rfl⟩ : ∃ q, m = q + 1 := ⟨m - 1, by omega⟩
      obtain rfl : i = tk g := by omega
      simp only [pM_share_75, pM_share_108, pM_share_122, jlit]
      simp (disch := omega) only [jb1, jb2, jb3, jb4, jb5, jb6, jb7, jb8, jb9, jb10, jb11, jb12, jb13, jb14, jb15, jb16, jb17, jb18, jb19, jb20, jb21, jb22, jb23, jb24, jb25, jb26, jb27, jb28, jb29, jb30, jb31, jb32, jb33, jb34, jb35, jb36, jb37, jb38, jb39, jb40, jb41, jb42, jb43, jb44, jb45, jb46, jb47, jb48, jb49, jb50, zlet, jlit, jle_t, jle_f, jlt_t, jlt_f, jeq_t, jeq_f, jeqN_f, jNeq_f, jNN, jN1, jadd, jsub, jzin, jcl, if_true, if_false, ite_true, ite_false, not_true, not_false_iff, not_true_eq_false, not_false_eq_true, jB_t, jB_f, jB0_t, jB0_f, jBa, jand11, jand00, ↓reduceIte, Nat.reduceEqDiff, Nat.reduceAdd, Nat.reduceSub, n3, hb, hbit, decide_false]
    | succ e ih =>
      intro i m h1 h2
      obtain ⟨m, rfl⟩ : ∃ q, m = q + 1 := ⟨m - 1, by omega⟩
      have hm := jmgive hN hk hs (w := w) (v := i + 1) hw (by omega)
      have hl := jgv_le w (i + 1) tk G
      have hl2 : G * (i + 1) ≤ 5 * (i + 1) := Nat.mul_le_mul_right _ hG
      simp only [pM_share_75, pM_share_108, pM_share_122, jlit]
      by_cases hc : v < jgv w (i + 1) tk G
      · simp (disch := omega) only [jb1, jb2, jb3, jb4, jb5, jb6, jb7, jb8, jb9, jb10, jb11, jb12, jb13, jb14, jb15, jb16, jb17, jb18, jb19, jb20, jb21, jb22, jb23, jb24, jb25, jb26, jb27, jb28, jb29, jb30, jb31, jb32, jb33, jb34, jb35, jb36, jb37, jb38, jb39, jb40, jb41, jb42, jb43, jb44, jb45, jb46, jb47, jb48, jb49, jb50, zlet, jlit, jle_t, jle_f, jlt_t, jlt_f, jeq_t, jeq_f, jeqN_f, jNeq_f, jNN, jN1, jadd, jsub, jzin, jcl, if_true, if_false, ite_true, ite_false, not_true, not_false_iff, not_true_eq_false, not_false_eq_true, jB_t, jB_f, jB0_t, jB0_f, jBa, jand11, jand00, ↓reduceIte, Nat.reduceEqDiff, Nat.reduceAdd, Nat.reduceSub, hm, n3, hb, hbit, decide_false]
      · simp (disch := omega) only [jb1, jb2, jb3, jb4, jb5, jb6, jb7, jb8, jb9, jb10, jb11, jb12, jb13, jb14, jb15, jb16, jb17, jb18, jb19, jb20, jb21, jb22, jb23, jb24, jb25, jb26, jb27, jb28, jb29, jb30, jb31, jb32, jb33, jb34, jb35, jb36, jb37, jb38, jb39, jb40, jb41, jb42, jb43, jb44, jb45, jb46, jb47, jb48, jb49, jb50, zlet, jlit, jle_t, jle_f, jlt_t, jlt_f, jeq_t, jeq_f, jeqN_f, jNeq_f, jNN, jN1, jadd, jsub, jzin, jcl, if_true, if_false, ite_true, ite_false, not_true, not_false_iff, not_true_eq_false, not_false_eq_true, jB_t, jB_f, jB0_t, jB0_f, jBa, jand11, jand00, ↓reduceIte, Nat.reduceEqDiff, Nat.reduceAdd, Nat.reduceSub, hm, n3, hb, hbit, decide_false]
        exact ih (i + 1) m (by omega) (by omega)
  exact both (tk g) 0 N9 (by omega) (by omega)
theorem jop_share (hN : 70000 < N9) (hk : jBk G L gt nu fo bk_forgives bk_tolls bk_lengths bk_numbers m_told m_gate m_list) (hs : jSt G B no bo c tk st_now st_born st_age st_passed st_gone st_took (nI B) st_year (nI c) m_now) (hR : jRf re ra m_refused) (m_thrown : Int32) (x1 : Int32) (x2 : Int32) (x3 : Int32): ∃ z r re1 ra1 q th rf1, pX9_share N9 (nI G) st_took re ra x1 x2 x3 = some (z, r, re1, ra1) ∧ pM_share N9 m_thrown m_refused m_told m_now x1 x2 x3 = some (q, th, rf1) ∧ jOutB z th r q ∧ jRf re1 ra1 rf1 := by
  have hG := hk.1
  have hg1 := hk.2.2.1
  have hp : 1 ≤ 2 ^ G := Nat.one_le_two_pow
  have hp2 : 2 ^ G ≤ 32 := Nat.pow_le_pow_right (n := 2) (by omega) hG
  unfold pX9_share pM_share pX9_share_43 pX9_share_44 pM_share_19 pM_share_57 pM_share_62 pM_share_70
  simp only [jlit]
  rw [show ((nI 1 <<< (nI G &&& nI 31)) - nI 1) = nI (2 ^ G - 1) by rw [jshl G (by omega), jsub hp]]
  rw [show m_told (nI 1).toNatClampNeg = nI G from hg1]
  rw [show ((nI 1 <<< (nI G &&& nI 31)) - nI 1) = nI (2 ^ G - 1) by rw [jshl G (by omega), jsub hp]]
  simp only [show (zin (nI 1) 4 = true) = True from jzin (by omega) (by omega), if_true]
  rcases jcase_g (N9 := N9) (re := re) hg1 hG x1 with ⟨g, hg, rfl, h1, h2⟩ | ⟨h1, h2⟩
  · rcases jcase_a N9 (a := 2 ^ G - 1) (by omega) x2 with ⟨w, hw, rfl, h3, h4⟩ | ⟨h3, h4⟩
    · rcases jcase_a N9 (a := 999) (by omega) x3 with ⟨v, hv, rfl, h5, h6⟩ | ⟨h5, h6⟩
      · rw [h1, jb2, if_pos rfl, h3, jb1, if_neg j10, h5, jb1, if_neg j10, jnA1, jb2, if_pos rfl, h2, jb1, if_neg j10, jbadO, jb3, if_pos rfl, h4, jb1, if_neg j10, h6, jb1, if_neg j10, jbadO, jb3, if_pos rfl]
        have hbn := jbit_nI (n := w) (s := g) (by omega) (by omega)
        unfold jbit at hbn
        rw [hbn]
        by_cases hq : w / 2 ^ g % 2 = 1
        · obtain ⟨r, e1, e2⟩ := jshare hN hk hs hg (by omega : w < 32) hv hq re ra (nI 0) m_refused
          rw [hq, if_neg j10, e1, e2]
          exact ⟨_, _, _, _, _, _, _, rfl, rfl, Or.inl ⟨rfl, rfl, rfl⟩, hR⟩
        · rw [show w / 2 ^ g % 2 = 0 by omega, if_pos rfl, jmshare0 hN hk hs hg (by omega : w < 32) hv hq]
          exact ⟨_, _, _, _, _, _, _, rfl, rfl, Or.inl ⟨rfl, rfl, rfl⟩, hR⟩
      · rw [h1, jb2, if_pos rfl, h3, jb1, if_neg j10, h5, jb1, if_pos rfl, jnA0, jb2, if_neg j20, h2, jb1, if_neg j10, jbadO, jb3, if_pos rfl, h4, jb1, if_neg j10, h6, jb1, if_pos rfl, jbadB, jb3, if_neg j10]
        exact ⟨_, _, _, _, _, _, _, rfl, rfl, Or.inr (Or.inr ⟨rfl, rfl⟩), hR.arg⟩
    · rw [h1, jb2, if_pos rfl, h3, jb1, if_pos rfl, jnA0, jb2, if_neg j20, h2, jb1, if_neg j10, jbadO, jb3, if_pos rfl, h4, jb1, if_pos rfl, jbadB, jb3, if_neg j10]
      exact ⟨_, _, _, _, _, _, _, rfl, rfl, Or.inr (Or.inr ⟨rfl, rfl⟩), hR.arg⟩
  · rw [h1, jb2, if_neg j10, h2, jb1, if_pos rfl, jbadE, jb3, if_neg j10]
    exact ⟨_, _, _, _, _, _, _, rfl, rfl, Or.inr (Or.inl ⟨rfl, rfl⟩), hR.elem⟩
end C5
