/-! listed, taken, striped, status, count -/
section C2
variable {N9 G L B c n : Nat} {gt nu fo kk vv no bo tk : Nat → Nat} {bk_forgives bk_tolls bk_lengths : Nat → Int32} {bk_numbers : Nat → Nat → Int32} {m_told : Nat → Int32} {m_gate m_list : Nat → Nat → Int32}
variable {lw_kinds lw_values : Nat → Int32} {lw_length m_lawMany : Int32} {m_law : Nat → Nat → Int32} {st_now st_born st_age st_passed st_gone st_took : Nat → Int32} {st_year re ra : Int32} {m_now m_refused : Nat → Int32}
theorem jmlisted (hN : 70000 < N9) (hk : jBk G L gt nu fo bk_forgives bk_tolls bk_lengths bk_numbers m_told m_gate m_list) (m_thrown : Int32) (m_refused : Nat → Int32) {g j : Nat} (hg : g < G) (hj : j < 2147483648) :
    pM_listed_52 N9 m_told m_list (nI g) (nI j) N9 m_thrown m_refused (nI 0) (nI 0) = some (if jcnt gt g L ≤ j then -nI 1 else bk_numbers g j, m_thrown, m_refused) := by
  obtain ⟨hG, hL, -, hl, -, -, -, hnum⟩ := hk
  have key : ∀ d k n, k + d = L → d < n → jcnt gt g k ≤ j → pM_listed_52 N9 m_told m_list (nI g) (nI j) n m_thrown m_refused (nI (jcnt gt g k)) (nI k) = some (if jcnt gt g L ≤ j then -nI 1 else bk_numbers g j, m_thrown, m_refused) := by
    intro d
    induction d with
    | zero =>
      intro k n h1 h2 h3
      obtain ⟨n, rfl⟩ : ∃ q, n = q + 1 := ⟨n - 1, by omega⟩
      obtain rfl : k = L := by omega
      simp only [pM_listed_52, jlit]
      simp (disch := omega) only [jb1, jb2, jb3, jb4, jb5, jb6, jb7, jb8, jb9, jb10, jb11, jb12, jb13, jb14, jb15, jb16, jb17, jb18, jb19, jb20, jb21, jb22, jb23, jb24, jb25, jb26, jb27, jb28, jb29, jb30, jb31, jb32, jb33, jb34, jb35, jb36, jb37, jb38, jb39, jb40, jb41, jb42, jb43, jb44, jb45, jb46, jb47, jb48, jb49, jb50, zlet, jlit, jle_t, jle_f, jlt_t, jlt_f, jeq_t, jeq_f, jeqN_f, jNeq_f, jNN, jN1, jadd, jsub, jzin, jcl, if_true, if_false, ite_true, ite_false, not_true, not_false_iff, not_true_eq_false, not_false_eq_true, jB_t, jB_f, jB0_t, jB0_f, jBa, jand11, jand00, ↓reduceIte, Nat.reduceEqDiff, Nat.reduceAdd, Nat.reduceSub, hl]
      rw [if_pos h3]
    | succ d ih =>
      intro k n h1 h2 h3
      obtain ⟨n, rfl⟩ : ∃ q, n = q + 1 := ⟨n - 1, by omega⟩
      obtain ⟨g1, g2, g3, g4, g5⟩ := hnum k (by omega)
      have h4 := jcnt_le gt g k
      simp only [pM_listed_52, pM_listed_97, jlit]
      by_cases hc : gt k = g
      · by_cases hc2 : jcnt gt g k = j
        · have h5 := jcnt_lt (n := L) (by omega : k < L) hc
          rw [hc, hc2] at g5
          simp (disch := omega) only [jb1, jb2, jb3, jb4, jb5, jb6, jb7, jb8, jb9, jb10, jb11, jb12, jb13, jb14, jb15, jb16, jb17, jb18, jb19, jb20, jb21, jb22, jb23, jb24, jb25, jb26, jb27, jb28, jb29, jb30, jb31, jb32, jb33, jb34, jb35, jb36, jb37, jb38, jb39, jb40, jb41, jb42, jb43, jb44, jb45, jb46, jb47, jb48, jb49, jb50, zlet, jlit, jle_t, jle_f, jlt_t, jlt_f, jeq_t, jeq_f, jeqN_f, jNeq_f, jNN, jN1, jadd, jsub, jzin, jcl, if_true, if_false, ite_true, ite_false, not_true, not_false_iff, not_true_eq_false, not_false_eq_true, jB_t, jB_f, jB0_t, jB0_f, jBa, jand11, jand00, ↓reduceIte, Nat.reduceEqDiff, Nat.reduceAdd, Nat.reduceSub, hl, g3, g4, hc, hc2, g5]
          rw [if_neg (by omega)]
        · have h5 := ih (k + 1) n (by omega) (by omega) (by rw [jcnt, if_pos hc]; omega)
          rw [jcnt, if_pos hc] at h5
          simp (disch := omega) only [jb1, jb2, jb3, jb4, jb5, jb6, jb7, jb8, jb9, jb10, jb11, jb12, jb13, jb14, jb15, jb16, jb17, jb18, jb19, jb20, jb21, jb22, jb23, jb24, jb25, jb26, jb27, jb28, jb29, jb30, jb31, jb32, jb33, jb34, jb35, jb36, jb37, jb38, jb39, jb40, jb41, jb42, jb43, jb44, jb45, jb46, jb47, jb48, jb49, jb50, zlet, jlit, jle_t, jle_f, jlt_t, jlt_f, jeq_t, jeq_f, jeqN_f, jNeq_f, jNN, jN1, jadd, jsub, jzin, jcl, if_true, if_false, ite_true, ite_false, not_true, not_false_iff, not_true_eq_false, not_false_eq_true, jB_t, jB_f, jB0_t, jB0_f, jBa, jand11, jand00, ↓reduceIte, Nat.reduceEqDiff, Nat.reduceAdd, Nat.reduceSub, hl, g3, g4, hc]
          exact h5
      · have h5 := ih (k + 1) n (by omega) (by omega) (by rw [jcnt, if_neg hc]; omega)
        rw [jcnt, if_neg hc, Nat.add_zero] at h5
        simp (disch := omega) only [jb1, jb2, jb3, jb4, jb5, jb6, jb7, jb8, jb9, jb10, jb11, jb12, jb13, jb14, jb15, jb16, jb17, jb18, jb19, jb20, jb21, jb22, jb23, jb24, jb25, jb26, jb27, jb28, jb29, jb30, jb31, jb32, jb33, jb34, jb35, jb36, jb37, jb38, jb39, jb40, jb41, jb42, jb43, jb44, jb45, jb46, jb47, jb48, jb49, jb50, zlet, jlit, jle_t, jle_f, jlt_t, jlt_f, jeq_t, jeq_f, jeqN_f, jNeq_f, jNN, jN1, jadd, jsub, jzin, jcl, if_true, if_false, ite_true, ite_false, not_true, not_false_iff, not_true_eq_false, not_false_eq_true, jB_t, jB_f, jB0_t, jB0_f, jBa, jand11, jand00, ↓reduceIte, Nat.reduceEqDiff, Nat.reduceAdd, Nat.reduceSub, hl, g3, g4]
        exact h5
  exact key L 0 N9 (by omega) (by omega) (Nat.zero_le _)
theorem jop_listed (hN : 70000 < N9) (hk : jBk G L gt nu fo bk_forgives bk_tolls bk_lengths bk_numbers m_told m_gate m_list) (hR : jRf re ra m_refused) (m_thrown : Int32) (x1 : Int32) (x2 : Int32): ∃ z r re1 ra1 q th rf1, pX9_listed N9 bk_lengths bk_numbers (nI G) re ra x1 x2 = some (z, r, re1, ra1) ∧ pM_listed N9 m_thrown m_refused m_told m_list x1 x2 = some (q, th, rf1) ∧ jOutB z th r q ∧ jRf re1 ra1 rf1 := by
  have hG := hk.1
  have hL := hk.2.1
  have hlen := hk.2.2.2.2.2.2.1
  have hnum := hk.2.2.2.2.2.2.2
  unfold pX9_listed pM_listed pX9_listed_15 pX9_listed_52 pM_listed_19 pM_listed_37 pM_listed_45
  simp only [jlit]
  rcases jcase_g (N9 := N9) (re := re) hk.2.2.1 hG x1 with ⟨g, hg, rfl, h1, h2⟩ | ⟨h1, h2⟩
  · by_cases h3 : x2 < nI 0
    · rw [h1, jb2, if_pos rfl, if_pos h3, jnA0, jb2, if_neg j20, h2, jb1, if_neg j10, jbadO, jb3, if_pos rfl, if_neg (jnlt.mpr h3), jbadB, jb3, if_neg j10]
      exact ⟨_, _, _, _, _, _, _, rfl, rfl, Or.inr (Or.inr ⟨rfl, rfl⟩), hR.arg⟩
    · obtain ⟨j, hj, rfl⟩ := nI_of (x := x2) h3
      rw [h1, jb2, if_pos rfl, if_neg h3, jnA1, jb2, if_pos rfl, h2, jb1, if_neg j10, jbadO, jb3, if_pos rfl, if_pos (jnle.mp h3), jbadO, jb3, if_pos rfl, jmlisted hN hk _ _ hg hj]
      have h4 := jcnt_le gt g L
      by_cases hc : jcnt gt g L ≤ j
      · rw [if_pos hc]
        simp (disch := omega) only [jb1, jb2, jb3, jb4, jb5, jb6, jb7, jb8, jb9, jb10, jb11, jb12, jb13, jb14, jb15, jb16, jb17, jb18, jb19, jb20, jb21, jb22, jb23, jb24, jb25, jb26, jb27, jb28, jb29, jb30, jb31, jb32, jb33, jb34, jb35, jb36, jb37, jb38, jb39, jb40, jb41, jb42, jb43, jb44, jb45, jb46, jb47, jb48, jb49, jb50, zlet, jlit, jle_t, jle_f, jlt_t, jlt_f, jeq_t, jeq_f, jeqN_f, jNeq_f, jNN, jN1, jadd, jsub, jzin, jcl, if_true, if_false, ite_true, ite_false, not_true, not_false_iff, not_true_eq_false, not_false_eq_true, jB_t, jB_f, jB0_t, jB0_f, jBa, jand11, jand00, ↓reduceIte, Nat.reduceEqDiff, Nat.reduceAdd, Nat.reduceSub, hlen g hg]
        exact ⟨_, _, _, _, _, _, _, rfl, rfl, Or.inl ⟨rfl, rfl, rfl⟩, hR⟩
      · rw [if_neg hc]
        simp (disch := omega) only [jb1, jb2, jb3, jb4, jb5, jb6, jb7, jb8, jb9, jb10, jb11, jb12, jb13, jb14, jb15, jb16, jb17, jb18, jb19, jb20, jb21, jb22, jb23, jb24, jb25, jb26, jb27, jb28, jb29, jb30, jb31, jb32, jb33, jb34, jb35, jb36, jb37, jb38, jb39, jb40, jb41, jb42, jb43, jb44, jb45, jb46, jb47, jb48, jb49, jb50, zlet, jlit, jle_t, jle_f, jlt_t, jlt_f, jeq_t, jeq_f, jeqN_f, jNeq_f, jNN, jN1, jadd, jsub, jzin, jcl, if_true, if_false, ite_true, ite_false, not_true, not_false_iff, not_true_eq_false, not_false_eq_true, jB_t, jB_f, jB0_t, jB0_f, jBa, jand11, jand00, ↓reduceIte, Nat.reduceEqDiff, Nat.reduceAdd, Nat.reduceSub, hlen g hg]
        exact ⟨_, _, _, _, _, _, _, rfl, rfl, Or.inl ⟨rfl, rfl, rfl⟩, hR⟩
  · rw [h1, jb2, if_neg j10, h2, jb1, if_pos rfl, jbadE, jb3, if_neg j10]
    exact ⟨_, _, _, _, _, _, _, rfl, rfl, Or.inr (Or.inl ⟨rfl, rfl⟩), hR.elem⟩
/-- the first number of gate g, among the last d, that is a slips away -/
def jft (gt nu : Nat → Nat) (g v L : Nat) (a : Int32) : Nat → Int32 | 0 => -nI 1 | d + 1 => if gt (L - (d + 1)) = g then (if nI (jpop (v ^^^ nu (L - (d + 1)))) = a then nI (nu (L - (d + 1))) else jft gt nu g v L a d) else jft gt nu g v L a d
theorem jxtaken (hN : 70000 < N9) (hk : jBk G L gt nu fo bk_forgives bk_tolls bk_lengths bk_numbers m_told m_gate m_list) {v g : Nat} (hv : v < 256) (hg : g < G) (a : Int32) : pX5_nearestListed_10 N9 bk_lengths bk_numbers (nI v) (nI g) N9 a (nI 0) = some (jft gt nu g v L a L) := by
  obtain ⟨hG, hL, -, -, -, -, hlen, hnum⟩ := hk
  have h2 := jcnt_le gt g L
  have key : ∀ d k n, k + d = L → d < n → pX5_nearestListed_10 N9 bk_lengths bk_numbers (nI v) (nI g) n a (nI (jcnt gt g k)) = some (jft gt nu g v L a d) := by
    intro d
    induction d with
    | zero =>
      intro k n h1 h2
      obtain ⟨n, rfl⟩ : ∃ q, n = q + 1 := ⟨n - 1, by omega⟩
      obtain rfl : k = L := by omega
      simp only [pX5_nearestListed_10, jlit]
      simp (disch := omega) only [jb1, jb2, jb3, jb4, jb5, jb6, jb7, jb8, jb9, jb10, jb11, jb12, jb13, jb14, jb15, jb16, jb17, jb18, jb19, jb20, jb21, jb22, jb23, jb24, jb25, jb26, jb27, jb28, jb29, jb30, jb31, jb32, jb33, jb34, jb35, jb36, jb37, jb38, jb39, jb40, jb41, jb42, jb43, jb44, jb45, jb46, jb47, jb48, jb49, jb50, zlet, jlit, jle_t, jle_f, jlt_t, jlt_f, jeq_t, jeq_f, jeqN_f, jNeq_f, jNN, jN1, jadd, jsub, jzin, jcl, if_true, if_false, ite_true, ite_false, not_true, not_false_iff, not_true_eq_false, not_false_eq_true, jB_t, jB_f, jB0_t, jB0_f, jBa, jand11, jand00, ↓reduceIte, Nat.reduceEqDiff, Nat.reduceAdd, Nat.reduceSub, hlen g hg, jft]
    | succ d ih =>
      intro k n h1 h2
      obtain ⟨n, rfl⟩ : ∃ q, n = q + 1 := ⟨n - 1, by omega⟩
      have hkd : L - (d + 1) = k := by omega
      rw [jft, hkd]
      by_cases hc : gt k = g
      · have h3 := ih (k + 1) n (by omega) (by omega)
        rw [jcnt, if_pos hc] at h3
        obtain ⟨-, g2, -, -, g5⟩ := hnum k (by omega)
        have h4 := jcnt_lt (n := L) (by omega : k < L) hc
        have h5 := jxor_lt hv g2
        rw [hc] at g5
        rw [if_pos hc]
        simp only [pX5_nearestListed_10, jlit]
        simp (disch := omega) only [jb1, jb2, jb3, jb4, jb5, jb6, jb7, jb8, jb9, jb10, jb11, jb12, jb13, jb14, jb15, jb16, jb17, jb18, jb19, jb20, jb21, jb22, jb23, jb24, jb25, jb26, jb27, jb28, jb29, jb30, jb31, jb32, jb33, jb34, jb35, jb36, jb37, jb38, jb39, jb40, jb41, jb42, jb43, jb44, jb45, jb46, jb47, jb48, jb49, jb50, zlet, jlit, jle_t, jle_f, jlt_t, jlt_f, jeq_t, jeq_f, jeqN_f, jNeq_f, jNN, jN1, jadd, jsub, jzin, jcl, if_true, if_false, ite_true, ite_false, not_true, not_false_iff, not_true_eq_false, not_false_eq_true, jB_t, jB_f, jB0_t, jB0_f, jBa, jand11, jand00, ↓reduceIte, Nat.reduceEqDiff, Nat.reduceAdd, Nat.reduceSub, hlen g hg, g5, jxor, jbc h5]
        by_cases hq : nI (jpop (v ^^^ nu k)) = a
        · rw [if_pos hq, if_pos hq]
        · rw [if_neg hq, if_neg hq]
          exact h3
      · have h3 := ih (k + 1) (n + 1) (by omega) (by omega)
        rw [jcnt, if_neg hc, Nat.add_zero] at h3
        rw [if_neg hc]
        exact h3
  exact key L 0 N9 (by omega) (by omega)
theorem jmtaken (hN : 70000 < N9) (hk : jBk G L gt nu fo bk_forgives bk_tolls bk_lengths bk_numbers m_told m_gate m_list) (hs : jSt G B no bo c tk st_now st_born st_age st_passed st_gone st_took (nI B) st_year (nI c) m_now) (m_thrown : Int32) (m_refused : Nat → Int32) {b g : Nat} (hb : b < B) (hg : g < G) (a : Int32) : pM_taken_54 N9 m_told m_list m_now (nI b) (nI g) N9 m_thrown m_refused a (nI 0) = some (jft gt nu g (no b) L a L, m_thrown, m_refused) := by
  obtain ⟨hG, hL, -, hl, -, -, -, hnum⟩ := hk
  obtain ⟨hB, -, -, -, -, -, -, hno, -⟩ := hs
  obtain ⟨n1, -, -, n3, -⟩ := hno b hb
  have key : ∀ d k n, k + d = L → d < n → pM_taken_54 N9 m_told m_list m_now (nI b) (nI g) n m_thrown m_refused a (nI k) = some (jft gt nu g (no b) L a d, m_thrown, m_refused) := by
    intro d
    induction d with
    | zero =>
      intro k n h1 h2
      obtain ⟨n, rfl⟩ : ∃ q, n = q + 1 := ⟨n - 1, by omega⟩
      obtain rfl : k = L := by omega
      simp only [pM_taken_54, jlit]
      simp (disch := omega) only [jb1, jb2, jb3, jb4, jb5, jb6, jb7, jb8, jb9, jb10, jb11, jb12, jb13, jb14, jb15, jb16, jb17, jb18, jb19, jb20, jb21, jb22, jb23, jb24, jb25, jb26, jb27, jb28, jb29, jb30, jb31, jb32, jb33, jb34, jb35, jb36, jb37, jb38, jb39, jb40, jb41, jb42, jb43, jb44, jb45, jb46, jb47, jb48, jb49, jb50, zlet, jlit, jle_t, jle_f, jlt_t, jlt_f, jeq_t, jeq_f, jeqN_f, jNeq_f, jNN, jN1, jadd, jsub, jzin, jcl, if_true, if_false, ite_true, ite_false, not_true, not_false_iff, not_true_eq_false, not_false_eq_true, jB_t, jB_f, jB0_t, jB0_f, jBa, jand11, jand00, ↓reduceIte, Nat.reduceEqDiff, Nat.reduceAdd, Nat.reduceSub, hl, jft]
    | succ d ih =>
      intro k n h1 h2
      obtain ⟨n, rfl⟩ : ∃ q, n = q + 1 := ⟨n - 1, by omega⟩
      have hkd : L - (d + 1) = k := by omega
      have h3 := ih (k + 1) n (by omega) (by omega)
      obtain ⟨g1, g2, g3, g4, g5⟩ := hnum k (by omega)
      have h5 := jxor_lt n1 g2
      rw [jft, hkd]
      simp only [pM_taken_54, pM_taken_113, jlit]
      by_cases hc : gt k = g
      · rw [if_pos hc]
        simp (disch := omega) only [jb1, jb2, jb3, jb4, jb5, jb6, jb7, jb8, jb9, jb10, jb11, jb12, jb13, jb14, jb15, jb16, jb17, jb18, jb19, jb20, jb21, jb22, jb23, jb24, jb25, jb26, jb27, jb28, jb29, jb30, jb31, jb32, jb33, jb34, jb35, jb36, jb37, jb38, jb39, jb40, jb41, jb42, jb43, jb44, jb45, jb46, jb47, jb48, jb49, jb50, zlet, jlit, jle_t, jle_f, jlt_t, jlt_f, jeq_t, jeq_f, jeqN_f, jNeq_f, jNN, jN1, jadd, jsub, jzin, jcl, if_true, if_false, ite_true, ite_false, not_true, not_false_iff, not_true_eq_false, not_false_eq_true, jB_t, jB_f, jB0_t, jB0_f, jBa, jand11, jand00, ↓reduceIte, Nat.reduceEqDiff, Nat.reduceAdd, Nat.reduceSub, hl, g3, g4, hc, Nat.zero_add, n3, jxor, jo hN h5]
        by_cases hq : nI (jpop (no b ^^^ nu k)) = a
        · rw [if_pos hq, if_pos hq]
        · rw [if_neg hq, if_neg hq]
          exact h3
      · rw [if_neg hc]
        simp (disch := omega) only [jb1, jb2, jb3, jb4, jb5, jb6, jb7, jb8, jb9, jb10, jb11, jb12, jb13, jb14, jb15, jb16, jb17, jb18, jb19, jb20, jb21, jb22, jb23, jb24, jb25, jb26, jb27, jb28, jb29, jb30, jb31, jb32, jb33, jb34, jb35, jb36, jb37, jb38, jb39, jb40, jb41, jb42, jb43, jb44, jb45, jb46, jb47, jb48, jb49, jb50, zlet, jlit, jle_t, jle_f, jlt_t, jlt_f, jeq_t, jeq_f, jeqN_f, jNeq_f, jNN, jN1, jadd, jsub, jzin, jcl, if_true, if_false, ite_true, ite_false, not_true, not_false_iff, not_true_eq_false, not_false_eq_true, jB_t, jB_f, jB0_t, jB0_f, jBa, jand11, jand00, ↓reduceIte, Nat.reduceEqDiff, Nat.reduceAdd, Nat.reduceSub, hl, g3, g4]
        exact h3
  exact key L 0 N9 (by omega) (by omega)
theorem jop_taken (hN : 70000 < N9) (hk : jBk G L gt nu fo bk_forgives bk_tolls bk_lengths bk_numbers m_told m_gate m_list) (hs : jSt G B no bo c tk st_now st_born st_age st_passed st_gone st_took (nI B) st_year (nI c) m_now) (hR : jRf re ra m_refused) (m_thrown : Int32) (x1 : Int32) (x2 : Int32): ∃ z r re1 q th rf1, pX9_taken N9 bk_lengths bk_numbers (nI G) st_now (nI B) re x1 x2 = some (z, r, re1) ∧ pM_taken N9 m_thrown m_refused m_told m_list m_now x1 x2 = some (q, th, rf1) ∧ jOutE z th r q ∧ jRf re1 ra rf1 := by
  have hs' := hs
  obtain ⟨hB, -, h42, -, -, -, -, hno, -⟩ := hs
  unfold pX9_taken pM_taken pM_taken_22 pM_taken_27
  simp only [jlit]
  rcases jcase_bg (N9 := N9) (re := re) h42 hB hk.2.2.1 hk.1 x1 x2 with ⟨b, g, hb, hg, rfl, rfl, h1, h2, h3⟩ | ⟨h1, h2 | ⟨h2, h3⟩⟩
  · rw [h1, jb2, if_pos rfl, h2, jb1, if_neg j10, h3, jb1, if_neg j10, jbadO, jb3, if_pos rfl]
    obtain ⟨n1, n2, n3, n5, n4, -⟩ := hno b hb
    unfold pX5_nearestListed
    simp (disch := omega) only [jb1, jb2, jb3, jb4, jb5, jb6, jb7, jb8, jb9, jb10, jb11, jb12, jb13, jb14, jb15, jb16, jb17, jb18, jb19, jb20, jb21, jb22, jb23, jb24, jb25, jb26, jb27, jb28, jb29, jb30, jb31, jb32, jb33, jb34, jb35, jb36, jb37, jb38, jb39, jb40, jb41, jb42, jb43, jb44, jb45, jb46, jb47, jb48, jb49, jb50, zlet, jlit, jle_t, jle_f, jlt_t, jlt_f, jeq_t, jeq_f, jeqN_f, jNeq_f, jNN, jN1, jadd, jsub, jzin, jcl, if_true, if_false, ite_true, ite_false, not_true, not_false_iff, not_true_eq_false, not_false_eq_true, jB_t, jB_f, jB0_t, jB0_f, jBa, jand11, jand00, ↓reduceIte, Nat.reduceEqDiff, Nat.reduceAdd, Nat.reduceSub, n3, n5, Nat.zero_add, jxnear hN hk n1 hg, jmnear hN hk n1 hg, jxtaken hN hk n1 hg, jmtaken hN hk hs' _ _ hb hg]
    exact ⟨_, _, _, _, _, _, rfl, rfl, Or.inl ⟨rfl, rfl, rfl⟩, hR⟩
  · rw [h1, jb2, if_neg j10, h2, jb1, if_pos rfl, jbadE, jb3, if_neg j10]
    exact ⟨_, _, _, _, _, _, rfl, rfl, Or.inr ⟨rfl, rfl⟩, hR.elem⟩
  · rw [h1, jb2, if_neg j10, h2, jb1, if_neg j10, h3, jb1, if_pos rfl, jbadE, jb3, if_neg j10]
    exact ⟨_, _, _, _, _, _, rfl, rfl, Or.inr ⟨rfl, rfl⟩, hR.elem⟩
theorem jsh0 : ∀ k, k < 31 → nI 0 <<< (nI k &&& nI 31) = nI 0 := by decide +kernel
theorem jxstriped (hN : 70000 < N9) (hs : jSt G B no bo c tk st_now st_born st_age st_passed st_gone st_took (nI B) st_year (nI c) m_now) (ra : Int32) {s : Nat} (h8 : s < 8) : pX9_striped_15 N9 st_now (nI B) (nI s) N9 ra (nI 0) (nI 0) = some (nI 0, jbits (fun b => decide (no b / 2 ^ s % 2 = 1)) B, ra) := by
  obtain ⟨hB, -, -, -, -, -, -, hno, -⟩ := hs
  refine jloop0 (fun n a i => pX9_striped_15 N9 st_now (nI B) (nI s) n ra a i) B (fun k => jbits (fun b => decide (no b / 2 ^ s % 2 = 1)) k) (fun n k hk => ?_) (fun n => ?_) (by omega) rfl
  · obtain ⟨h1, h2, h3, -, h4, -⟩ := hno k hk
    have hb := jbit_nI (n := no k) (s := s) (by omega) (by omega)
    unfold jbit at hb
    show pX9_striped_15 N9 st_now (nI B) (nI s) (n + 1) _ _ _ = _
    simp only [pX9_striped_15, jlit]
    rcases (by omega : no k / 2 ^ s % 2 = 0 ∨ no k / 2 ^ s % 2 = 1) with hq | hq
    · simp (disch := omega) only [jb1, jb2, jb3, jb4, jb5, jb6, jb7, jb8, jb9, jb10, jb11, jb12, jb13, jb14, jb15, jb16, jb17, jb18, jb19, jb20, jb21, jb22, jb23, jb24, jb25, jb26, jb27, jb28, jb29, jb30, jb31, jb32, jb33, jb34, jb35, jb36, jb37, jb38, jb39, jb40, jb41, jb42, jb43, jb44, jb45, jb46, jb47, jb48, jb49, jb50, zlet, jlit, jle_t, jle_f, jlt_t, jlt_f, jeq_t, jeq_f, jeqN_f, jNeq_f, jNN, jN1, jadd, jsub, jzin, jcl, if_true, if_false, ite_true, ite_false, not_true, not_false_iff, not_true_eq_false, not_false_eq_true, jB_t, jB_f, jB0_t, jB0_f, jBa, jand11, jand00, ↓reduceIte, Nat.reduceEqDiff, Nat.reduceAdd, Nat.reduceSub, h3, hb, hq, jsh0, jor0, jbits, decide_false, Bool.false_eq_true]
    · simp (disch := omega) only [jb1, jb2, jb3, jb4, jb5, jb6, jb7, jb8, jb9, jb10, jb11, jb12, jb13, jb14, jb15, jb16, jb17, jb18, jb19, jb20, jb21, jb22, jb23, jb24, jb25, jb26, jb27, jb28, jb29, jb30, jb31, jb32, jb33, jb34, jb35, jb36, jb37, jb38, jb39, jb40, jb41, jb42, jb43, jb44, jb45, jb46, jb47, jb48, jb49, jb50, zlet, jlit, jle_t, jle_f, jlt_t, jlt_f, jeq_t, jeq_f, jeqN_f, jNeq_f, jNN, jN1, jadd, jsub, jzin, jcl, if_true, if_false, ite_true, ite_false, not_true, not_false_iff, not_true_eq_false, not_false_eq_true, jB_t, jB_f, jB0_t, jB0_f, jBa, jand11, jand00, ↓reduceIte, Nat.reduceEqDiff, Nat.reduceAdd, Nat.reduceSub, h3, hb, hq, jbits, decide_true]
  · show pX9_striped_15 N9 st_now (nI B) (nI s) (n + 1) _ _ _ = _
    simp only [pX9_striped_15, jlit]
    simp (disch := omega) only [jb1, jb2, jb3, jb4, jb5, jb6, jb7, jb8, jb9, jb10, jb11, jb12, jb13, jb14, jb15, jb16, jb17, jb18, jb19, jb20, jb21, jb22, jb23, jb24, jb25, jb26, jb27, jb28, jb29, jb30, jb31, jb32, jb33, jb34, jb35, jb36, jb37, jb38, jb39, jb40, jb41, jb42, jb43, jb44, jb45, jb46, jb47, jb48, jb49, jb50, zlet, jlit, jle_t, jle_f, jlt_t, jlt_f, jeq_t, jeq_f, jeqN_f, jNeq_f, jNN, jN1, jadd, jsub, jzin, jcl, if_true, if_false, ite_true, ite_false, not_true, not_false_iff, not_true_eq_false, not_false_eq_true, jB_t, jB_f, jB0_t, jB0_f, jBa, jand11, jand00, ↓reduceIte, Nat.reduceEqDiff, Nat.reduceAdd, Nat.reduceSub]
theorem jmhas {n s : Nat} (hn : n < 2147483648) (hs : s < 31) (N9 : Nat) : pM_has N9 (nI n) (nI s) = some (jB (decide (n / 2 ^ s % 2 = 1))) := by
  have hb := jbit_nI hn hs
  unfold jbit at hb
  unfold pM_has pM_has_14
  rcases (by omega : n / 2 ^ s % 2 = 0 ∨ n / 2 ^ s % 2 = 1) with hq | hq
  · simp (disch := omega) only [jb1, jb2, jb3, jb4, jb5, jb6, jb7, jb8, jb9, jb10, jb11, jb12, jb13, jb14, jb15, jb16, jb17, jb18, jb19, jb20, jb21, jb22, jb23, jb24, jb25, jb26, jb27, jb28, jb29, jb30, jb31, jb32, jb33, jb34, jb35, jb36, jb37, jb38, jb39, jb40, jb41, jb42, jb43, jb44, jb45, jb46, jb47, jb48, jb49, jb50, zlet, jlit, jle_t, jle_f, jlt_t, jlt_f, jeq_t, jeq_f, jeqN_f, jNeq_f, jNN, jN1, jadd, jsub, jzin, jcl, if_true, if_false, ite_true, ite_false, not_true, not_false_iff, not_true_eq_false, not_false_eq_true, jB_t, jB_f, jB0_t, jB0_f, jBa, jand11, jand00, ↓reduceIte, Nat.reduceEqDiff, Nat.reduceAdd, Nat.reduceSub, hb, hq, decide_false]
  · simp (disch := omega) only [jb1, jb2, jb3, jb4, jb5, jb6, jb7, jb8, jb9, jb10, jb11, jb12, jb13, jb14, jb15, jb16, jb17, jb18, jb19, jb20, jb21, jb22, jb23, jb24, jb25, jb26, jb27, jb28, jb29, jb30, jb31, jb32, jb33, jb34, jb35, jb36, jb37, jb38, jb39, jb40, jb41, jb42, jb43, jb44, jb45, jb46, jb47, jb48, jb49, jb50, zlet, jlit, jle_t, jle_f, jlt_t, jlt_f, jeq_t, jeq_f, jeqN_f, jNeq_f, jNN, jN1, jadd, jsub, jzin, jcl, if_true, if_false, ite_true, ite_false, not_true, not_false_iff, not_true_eq_false, not_false_eq_true, jB_t, jB_f, jB0_t, jB0_f, jBa, jand11, jand00, ↓reduceIte, Nat.reduceEqDiff, Nat.reduceAdd, Nat.reduceSub, hb, hq, decide_true]
theorem jmstriped (hN : 70000 < N9) (hs : jSt G B no bo c tk st_now st_born st_age st_passed st_gone st_took (nI B) st_year (nI c) m_now) (m_thrown : Int32) (m_refused : Nat → Int32) {s : Nat} (h8 : s < 8) : pM_striped_35 N9 m_now (nI s) N9 m_thrown m_refused (nI 0) (nI 0) = some (jbits (fun b => decide (no b / 2 ^ s % 2 = 1)) B, m_thrown, m_refused) := by
  obtain ⟨hB, -, h42, -, -, -, -, hno, -⟩ := hs
  refine jloop0 (fun n a i => pM_striped_35 N9 m_now (nI s) n m_thrown m_refused a i) B (fun k => jbits (fun b => decide (no b / 2 ^ s % 2 = 1)) k) (fun n k hk => ?_) (fun n => ?_) (by omega) rfl
  · obtain ⟨h1, h2, -, h3, -, h4, -⟩ := hno k hk
    have hb := jmhas (n := no k) (s := s) (by omega) (by omega) N9
    show pM_striped_35 N9 m_now (nI s) (n + 1) _ _ _ _ = _
    simp only [pM_striped_35, pM_striped_69, jlit]
    cases hq : decide (no k / 2 ^ s % 2 = 1)
    · simp (disch := omega) only [jb1, jb2, jb3, jb4, jb5, jb6, jb7, jb8, jb9, jb10, jb11, jb12, jb13, jb14, jb15, jb16, jb17, jb18, jb19, jb20, jb21, jb22, jb23, jb24, jb25, jb26, jb27, jb28, jb29, jb30, jb31, jb32, jb33, jb34, jb35, jb36, jb37, jb38, jb39, jb40, jb41, jb42, jb43, jb44, jb45, jb46, jb47, jb48, jb49, jb50, zlet, jlit, jle_t, jle_f, jlt_t, jlt_f, jeq_t, jeq_f, jeqN_f, jNeq_f, jNN, jN1, jadd, jsub, jzin, jcl, if_true, if_false, ite_true, ite_false, not_true, not_false_iff, not_true_eq_false, not_false_eq_true, jB_t, jB_f, jB0_t, jB0_f, jBa, jand11, jand00, ↓reduceIte, Nat.reduceEqDiff, Nat.reduceAdd, Nat.reduceSub, h42, Nat.zero_add, h3, hb, hq, jor0, jbits, Bool.false_eq_true]
    · simp (disch := omega) only [jb1, jb2, jb3, jb4, jb5, jb6, jb7, jb8, jb9, jb10, jb11, jb12, jb13, jb14, jb15, jb16, jb17, jb18, jb19, jb20, jb21, jb22, jb23, jb24, jb25, jb26, jb27, jb28, jb29, jb30, jb31, jb32, jb33, jb34, jb35, jb36, jb37, jb38, jb39, jb40, jb41, jb42, jb43, jb44, jb45, jb46, jb47, jb48, jb49, jb50, zlet, jlit, jle_t, jle_f, jlt_t, jlt_f, jeq_t, jeq_f, jeqN_f, jNeq_f, jNN, jN1, jadd, jsub, jzin, jcl, if_true, if_false, ite_true, ite_false, not_true, not_false_iff, not_true_eq_false, not_false_eq_true, jB_t, jB_f, jB0_t, jB0_f, jBa, jand11, jand00, ↓reduceIte, Nat.reduceEqDiff, Nat.reduceAdd, Nat.reduceSub, h42, Nat.zero_add, h3, hb, hq, jbits]
  · show pM_striped_35 N9 m_now (nI s) (n + 1) _ _ _ _ = _
    simp only [pM_striped_35, jlit]
    simp (disch := omega) only [jb1, jb2, jb3, jb4, jb5, jb6, jb7, jb8, jb9, jb10, jb11, jb12, jb13, jb14, jb15, jb16, jb17, jb18, jb19, jb20, jb21, jb22, jb23, jb24, jb25, jb26, jb27, jb28, jb29, jb30, jb31, jb32, jb33, jb34, jb35, jb36, jb37, jb38, jb39, jb40, jb41, jb42, jb43, jb44, jb45, jb46, jb47, jb48, jb49, jb50, zlet, jlit, jle_t, jle_f, jlt_t, jlt_f, jeq_t, jeq_f, jeqN_f, jNeq_f, jNN, jN1, jadd, jsub, jzin, jcl, if_true, if_false, ite_true, ite_false, not_true, not_false_iff, not_true_eq_false, not_false_eq_true, jB_t, jB_f, jB0_t, jB0_f, jBa, jand11, jand00, ↓reduceIte, Nat.reduceEqDiff, Nat.reduceAdd, Nat.reduceSub, h42]
theorem jop_striped (hN : 70000 < N9) (hs : jSt G B no bo c tk st_now st_born st_age st_passed st_gone st_took (nI B) st_year (nI c) m_now) (hR : jRf re ra m_refused) (m_thrown : Int32) (x1 : Int32): ∃ z r ra1 q th rf1, pX9_striped N9 st_now (nI B) ra x1 = some (z, r, ra1) ∧ pM_striped N9 m_thrown m_refused m_now x1 = some (q, th, rf1) ∧ jOutA z th r q ∧ jRf re ra1 rf1 := by
  unfold pX9_striped pM_striped pM_striped_21
  simp only [jlit]
  rcases jcase_a N9 (a := 7) (by omega) x1 with ⟨k, hk8, rfl, h1, h2⟩ | ⟨h1, h2⟩
  · rw [h1, jb1, jnA1, jb2, if_pos rfl, h2, jb1, if_neg j10, jbadO, jb3, if_pos rfl, jxstriped hN hs _ (by omega), jmstriped hN hs _ _ (by omega)]
    exact ⟨_, _, _, _, _, _, rfl, rfl, Or.inl ⟨rfl, rfl, rfl⟩, hR⟩
  · rw [h1, jb1, jnA0, jb2, if_neg j20, h2, jb1, if_pos rfl, jbadA, jb3, if_neg j10]
    exact ⟨_, _, _, _, _, _, rfl, rfl, Or.inr ⟨rfl, rfl⟩, hR.arg⟩
theorem jop_status (hR : jRf re ra m_refused) (m_thrown x1 : Int32) : ∃ r, pX9_status N9 re ra x1 = some r ∧ pM_status N9 m_thrown m_refused x1 = some (r, 0) := by
  obtain ⟨h1, h2⟩ := hR
  unfold pX9_status pM_status pM_status_24
  simp only [jlit]
  rcases jcase_a N9 (a := 1) (by omega) x1 with ⟨k, hk8, rfl, h3, h4⟩ | ⟨h3, h4⟩
  · rw [h4]
    have : k = 0 ∨ k = 1 := by omega
    rcases this with rfl | rfl
    · simp (disch := omega) only [jb1, jb2, jb3, jb4, jb5, jb6, jb7, jb8, jb9, jb10, jb11, jb12, jb13, jb14, jb15, jb16, jb17, jb18, jb19, jb20, jb21, jb22, jb23, jb24, jb25, jb26, jb27, jb28, jb29, jb30, jb31, jb32, jb33, jb34, jb35, jb36, jb37, jb38, jb39, jb40, jb41, jb42, jb43, jb44, jb45, jb46, jb47, jb48, jb49, jb50, zlet, jlit, jle_t, jle_f, jlt_t, jlt_f, jeq_t, jeq_f, jeqN_f, jNeq_f, jNN, jN1, jadd, jsub, jzin, jcl, if_true, if_false, ite_true, ite_false, not_true, not_false_iff, not_true_eq_false, not_false_eq_true, jB_t, jB_f, jB0_t, jB0_f, jBa, jand11, jand00, ↓reduceIte, Nat.reduceEqDiff, Nat.reduceAdd, Nat.reduceSub, h1]
      exact ⟨_, rfl, rfl⟩
    · simp (disch := omega) only [jb1, jb2, jb3, jb4, jb5, jb6, jb7, jb8, jb9, jb10, jb11, jb12, jb13, jb14, jb15, jb16, jb17, jb18, jb19, jb20, jb21, jb22, jb23, jb24, jb25, jb26, jb27, jb28, jb29, jb30, jb31, jb32, jb33, jb34, jb35, jb36, jb37, jb38, jb39, jb40, jb41, jb42, jb43, jb44, jb45, jb46, jb47, jb48, jb49, jb50, zlet, jlit, jle_t, jle_f, jlt_t, jlt_f, jeq_t, jeq_f, jeqN_f, jNeq_f, jNN, jN1, jadd, jsub, jzin, jcl, if_true, if_false, ite_true, ite_false, not_true, not_false_iff, not_true_eq_false, not_false_eq_true, jB_t, jB_f, jB0_t, jB0_f, jBa, jand11, jand00, ↓reduceIte, Nat.reduceEqDiff, Nat.reduceAdd, Nat.reduceSub, h2]
      exact ⟨_, rfl, rfl⟩
  · have h0 : ¬ x1 = nI 0 := by
      rintro rfl
      rw [jmin_] at h4
      exact absurd h4 (by decide)
    have h5 : ¬ x1 = nI 1 := by
      rintro rfl
      rw [jmin_] at h4
      exact absurd h4 (by decide)
    rw [h4, if_neg h0, if_neg h5, jb1, if_pos rfl]
    exact ⟨_, rfl, rfl⟩
theorem jop_count {tp_many me_works me_kept m_tape m_works m_images : Int32} (h1 : tp_many = m_tape) (h2 : me_works = m_works) (h3 : me_kept = m_images) (m_thrown x1 : Int32) : ∃ r, pX9_count N9 tp_many me_works me_kept x1 = some r ∧ pM_count N9 m_thrown m_tape m_works m_images x1 = some (r, 0) := by
  subst h1 h2 h3
  unfold pX9_count pM_count pM_count_41
  by_cases c0 : x1 = 0
  · rw [if_pos c0, if_pos c0]; exact ⟨_, rfl, rfl⟩
  · rw [if_neg c0, if_neg c0]
    by_cases c1 : x1 = 1
    · rw [if_pos c1, if_pos c1]; exact ⟨_, rfl, rfl⟩
    · rw [if_neg c1, if_neg c1]
      by_cases c2 : x1 = 2
      · rw [if_pos c2, if_pos c2]; exact ⟨_, rfl, rfl⟩
      · rw [if_neg c2, if_neg c2]; exact ⟨_, rfl, rfl⟩
end C2
