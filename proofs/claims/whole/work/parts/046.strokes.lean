/-! strokes, the call -/
section C13
variable {N9 G L B c n : Nat} {gt nu fo kk vv no bo tk : Nat → Nat} {bk_forgives bk_tolls bk_lengths : Nat → Int32} {bk_numbers : Nat → Nat → Int32} {m_told : Nat → Int32} {m_gate m_list : Nat → Nat → Int32}
variable {lw_kinds lw_values : Nat → Int32} {lw_length m_lawMany : Int32} {m_law : Nat → Nat → Int32} {st_now st_born st_age st_passed st_gone st_took : Nat → Int32} {st_year re ra : Int32} {m_now m_refused : Nat → Int32}
theorem jhi (N9 : Nat) {n : Nat} (h : n < 256) {A : Type} (f : Int32 → Option A) : (zb1 (pXJ_highestOneBit N9 (nI n)) fun r => f (nI n &&& (r ^^^ -nI 1))) = f (nI (jlow n)) := by
  have h1 : (zb1 (pXJ_highestOneBit N9 (nI n)) fun r => some (nI n &&& (r ^^^ -nI 1))) = some (nI (jlow n)) := jhi0 n h
  cases hq : pXJ_highestOneBit N9 (nI n) with
  | none => rw [hq] at h1; exact absurd h1 (by simp [zb1])
  | some r =>
    rw [hq] at h1
    have h2 : nI n &&& (r ^^^ -nI 1) = nI (jlow n) := Option.some.inj h1
    show f (nI n &&& (r ^^^ -nI 1)) = _
    rw [h2]
theorem jbefore (N9 : Nat) {a b : Nat} (ha : a < 256) (hb : b < 256) : pX5_isBefore N9 (nI a) (nI b) = some (jB (decide (jpop a < jpop b ∨ (jpop a = jpop b ∧ a < b)))) := by
  have p1 := jpop_le a
  have p2 := jpop_le b
  unfold pX5_isBefore pX5_isBefore_23 pX5_isBefore_27 pX5_isBefore_28
  simp only [jlit]
  rw [jbc ha, jb1, jbc hb, jb1]
  by_cases h1 : jpop a < jpop b
  · rw [if_pos (show nI (jpop a) - nI (jpop b) < nI 0 by
      rw [Int32.lt_iff_toInt_lt]
      revert p1 p2 h1
      generalize jpop a = x
      generalize jpop b = y
      revert x y
      have : ∀ x, x < 9 → ∀ y, y < 9 → x < y → (nI x - nI y).toInt < (nI 0).toInt := by decide +kernel
      exact fun x y p1 p2 h1 => this x (by omega) y (by omega) h1)]
    rw [decide_eq_true (Or.inl h1)]
    rfl
  · rw [jsub (by omega), if_neg (nI_nlt (Nat.zero_le _) (by omega))]
    by_cases h2 : jpop a = jpop b
    · rw [if_pos (congrArg nI (by omega))]
      by_cases h3 : b ≤ a
      · rw [if_pos (nI_le h3 (by omega)), decide_eq_false (by omega)]
        rfl
      · rw [if_neg (nI_ge (by omega) (by omega)), decide_eq_true (by omega)]
        rfl
    · rw [if_neg (jeq_f (a := jpop a - jpop b) (b := 0) (by omega) (by omega) (by omega)).mp, decide_eq_false (by omega)]
      rfl
/-- a listed number's best -/
def jskk (K v n : Nat) (a : Int32) : Int32 := if a = -nI 1 then nI (jdr K (v ^^^ n)) else if decide (jpop (jdr K (v ^^^ n)) < jpop a.toNatClampNeg ∨ (jpop (jdr K (v ^^^ n)) = jpop a.toNatClampNeg ∧ jdr K (v ^^^ n) < a.toNatClampNeg)) = true then nI (jdr K (v ^^^ n)) else a
theorem jskk_best (gt nu fo : Nat → Nat) {L g v : Nat} (hf : fo g ≤ 3) (hv : v < 256) (hnu : ∀ k, k < L → nu k < 256) : ∀ l, l ≤ L → (jfl gt nu g (jskk (fo g) v) (-nI 1) l = -nI 1 ∧ ∀ k, k < l → gt k ≠ g) ∨ ∃ b, b < 256 ∧ jfl gt nu g (jskk (fo g) v) (-nI 1) l = nI b ∧ (∃ k, k < l ∧ gt k = g ∧ b = jdr (fo g) (v ^^^ nu k)) ∧ ∀ k, k < l → gt k = g → jbf b (jdr (fo g) (v ^^^ nu k)) := by
  intro l
  induction l with
  | zero => intro _; exact Or.inl ⟨rfl, fun k hk => absurd hk (Nat.not_lt_zero k)⟩
  | succ l ih =>
    intro hl
    have hx := jxor_lt hv (hnu l (by omega))
    have hc := jdr_le (fo g) (v ^^^ nu l)
    rw [jfl]
    by_cases hg : gt l = g
    · rw [if_pos hg]
      right
      rcases ih (by omega) with ⟨h1, h2⟩ | ⟨b, h1, h2, ⟨j, j1, j2, j3⟩, h4⟩
      · rw [h1]
        refine ⟨jdr (fo g) (v ^^^ nu l), by omega, if_pos rfl, ⟨l, by omega, hg, rfl⟩, fun k hk hgk => ?_⟩
        by_cases hkl : k = l
        · subst hkl; exact Or.inr ⟨rfl, Nat.le_refl _⟩
        · exact absurd hgk (h2 k (by omega))
      · rw [h2]
        unfold jskk
        rw [if_neg (jeqN_f (by omega)).mp, jcl (by omega)]
        by_cases hb : jpop (jdr (fo g) (v ^^^ nu l)) < jpop b ∨ (jpop (jdr (fo g) (v ^^^ nu l)) = jpop b ∧ jdr (fo g) (v ^^^ nu l) < b)
        · rw [if_pos (decide_eq_true hb)]
          refine ⟨jdr (fo g) (v ^^^ nu l), by omega, rfl, ⟨l, by omega, hg, rfl⟩, fun k hk hgk => ?_⟩
          by_cases hkl : k = l
          · subst hkl; exact Or.inr ⟨rfl, Nat.le_refl _⟩
          · have := h4 k (by omega) hgk
            unfold jbf at this ⊢
            omega
        · rw [if_neg (fun q => hb (of_decide_eq_true q))]
          refine ⟨b, h1, rfl, ⟨j, by omega, j2, j3⟩, fun k hk hgk => ?_⟩
          by_cases hkl : k = l
          · subst hkl
            unfold jbf
            omega
          · exact h4 k (by omega) hgk
    · rw [if_neg hg]
      rcases ih (by omega) with ⟨h1, h2⟩ | ⟨b, h1, h2, ⟨j, j1, j2, j3⟩, h4⟩
      · refine Or.inl ⟨h1, fun k hk => ?_⟩
        by_cases hkl : k = l
        · subst hkl; exact hg
        · exact h2 k (by omega)
      · refine Or.inr ⟨b, h1, h2, ⟨j, by omega, j2, j3⟩, fun k hk hgk => ?_⟩
        by_cases hkl : k = l
        · subst hkl; exact absurd hgk hg
        · exact h4 k (by omega) hgk
theorem jxstrokes (hN : 70000 < N9) (hk : jBk G L gt nu fo bk_forgives bk_tolls bk_lengths bk_numbers m_told m_gate m_list) {v g : Nat} (hv : v < 256) (hg : g < G) : pX5_fewestStrokes N9 bk_forgives bk_lengths bk_numbers (nI v) (nI g) = some (jfl gt nu g (jskk (fo g) v) (-nI 1) L) := by
  have hbest := fun l hl => jskk_best gt nu fo (L := L) (g := g) (hk.2.2.2.2.1 g hg).1 hv (fun k hk' => (hk.2.2.2.2.2.2.2 k hk').2.1) l hl
  obtain ⟨hG, hL, -, -, hfo, -, hlen, hnum⟩ := hk
  obtain ⟨f1, f2, f3⟩ := hfo g hg
  have inner : ∀ (k : Int32 → Int32 → Option Int32) (a : Int32) (j : Nat), (a = -nI 1 ∨ ∃ b, b < 256 ∧ a = nI b) → ∀ e i n d, i + e = fo g → e < n → d < 256 → pX5_fewestStrokes_38 N9 bk_forgives (nI v) (nI g) k n a (nI j) (nI d) (nI i) = k (if a = -nI 1 then nI (jdr e d) else if decide (jpop (jdr e d) < jpop a.toNatClampNeg ∨ (jpop (jdr e d) = jpop a.toNatClampNeg ∧ jdr e d < a.toNatClampNeg)) = true then nI (jdr e d) else a) (nI (j + 1)) := by
    intro k a j ha e
    induction e with
    | zero =>
      intro i n d h1 h2 h3
      obtain ⟨n, rfl⟩ : ∃ q, n = q + 1 := ⟨n - 1, by omega⟩
      obtain rfl : i = fo g := by omega
      simp only [pX5_fewestStrokes_38, pX5_fewestStrokes_84, pX5_fewestStrokes_87, jlit, jN1, jdr]
      simp (disch := omega) only [jb1, jb2, jb3, jb4, jb5, jb6, jb7, jb8, jb9, jb10, jb11, jb12, jb13, jb14, jb15, jb16, jb17, jb18, jb19, jb20, jb21, jb22, jb23, jb24, jb25, jb26, jb27, jb28, jb29, jb30, jb31, jb32, jb33, jb34, jb35, jb36, jb37, jb38, jb39, jb40, jb41, jb42, jb43, jb44, jb45, jb46, jb47, jb48, jb49, jb50, zlet, jlit, jle_t, jle_f, jlt_t, jlt_f, jeq_t, jeq_f, jeqN_f, jNeq_f, jNN, jN1, jadd, jsub, jzin, jcl, if_true, if_false, ite_true, ite_false, not_true, not_false_iff, not_true_eq_false, not_false_eq_true, jB_t, jB_f, jB0_t, jB0_f, jBa, jand11, jand00, ↓reduceIte, Nat.reduceEqDiff, Nat.reduceAdd, Nat.reduceSub, f2]
      rcases ha with rfl | ⟨b, hb, rfl⟩
      · rw [if_pos rfl, if_pos rfl]
      · rw [if_neg (jeqN_f (by omega)).mp, if_neg (jeqN_f (by omega)).mp, jbefore N9 h3 hb, jb1, jcl (by omega)]
        by_cases hb' : jpop d < jpop b ∨ (jpop d = jpop b ∧ d < b)
        · rw [decide_eq_true hb', if_neg (show ¬ jB true = nI 0 by decide)]
          exact congrArg (fun z => k z (nI (j + 1))) (if_pos (by first | exact rfl | exact decide_eq_true hb')).symm
        · rw [decide_eq_false hb', if_pos (show jB false = nI 0 from rfl)]
          exact congrArg (fun z => k z (nI (j + 1))) (if_neg (by first | decide | exact fun q => hb' (of_decide_eq_true q))).symm
    | succ e ih =>
      intro i n d h1 h2 h3
      obtain ⟨n, rfl⟩ : ∃ q, n = q + 1 := ⟨n - 1, by omega⟩
      have hlo := jlow_le d
      simp only [pX5_fewestStrokes_38, jlit, jN1]
      rw [jcl (by omega), f2, if_pos (by have := jzin (i := g) (n := 5) (by omega) (by omega); rw [this]; trivial), if_neg (nI_ge (by omega) (by omega)), jadd, jhi N9 h3 (fun x => pX5_fewestStrokes_38 N9 bk_forgives (nI v) (nI g) k n a (nI j) x (nI (i + 1))), jdr]
      exact ih (i + 1) n (jlow d) (by omega) (by omega) (by omega)
  unfold pX5_fewestStrokes
  simp only [jlit, jN1]
  refine jloopG (fun n a i => pX5_fewestStrokes_5 N9 bk_forgives bk_lengths bk_numbers (nI v) (nI g) n a i) gt nu g L (jskk (fo g) v) (-nI 1) (fun n k hk hgk => ?_) (fun n => ?_) (by omega)
  · have h1 := jcnt_lt hk hgk
    have h2 := jcnt_le gt g L
    obtain ⟨-, h3, -, -, h4⟩ := hnum k hk
    rw [hgk] at h4
    have h5 := jxor_lt hv h3
    have ha : (jfl gt nu g (jskk (fo g) v) (-nI 1) k = -nI 1 ∨ ∃ b, b < 256 ∧ jfl gt nu g (jskk (fo g) v) (-nI 1) k = nI b) := by
      rcases hbest k (by omega) with ⟨q, -⟩ | ⟨b, q1, q2, -⟩
      · exact Or.inl q
      · exact Or.inr ⟨b, q1, q2⟩
    show pX5_fewestStrokes_5 N9 bk_forgives bk_lengths bk_numbers (nI v) (nI g) (n + 1) _ _ = _
    simp only [pX5_fewestStrokes_5, jlit]
    simp (disch := omega) only [jb1, jb2, jb3, jb4, jb5, jb6, jb7, jb8, jb9, jb10, jb11, jb12, jb13, jb14, jb15, jb16, jb17, jb18, jb19, jb20, jb21, jb22, jb23, jb24, jb25, jb26, jb27, jb28, jb29, jb30, jb31, jb32, jb33, jb34, jb35, jb36, jb37, jb38, jb39, jb40, jb41, jb42, jb43, jb44, jb45, jb46, jb47, jb48, jb49, jb50, zlet, jlit, jle_t, jle_f, jlt_t, jlt_f, jeq_t, jeq_f, jeqN_f, jNeq_f, jNN, jN1, jadd, jsub, jzin, jcl, if_true, if_false, ite_true, ite_false, not_true, not_false_iff, not_true_eq_false, not_false_eq_true, jB_t, jB_f, jB0_t, jB0_f, jBa, jand11, jand00, ↓reduceIte, Nat.reduceEqDiff, Nat.reduceAdd, Nat.reduceSub, hlen g hg, h4, jxor]
    rw [inner _ _ _ ha (fo g) 0 N9 _ (by omega) (by omega) h5]
    rfl
  · have h2 := jcnt_le gt g L
    show pX5_fewestStrokes_5 N9 bk_forgives bk_lengths bk_numbers (nI v) (nI g) (n + 1) _ _ = _
    simp only [pX5_fewestStrokes_5, jlit]
    simp (disch := omega) only [jb1, jb2, jb3, jb4, jb5, jb6, jb7, jb8, jb9, jb10, jb11, jb12, jb13, jb14, jb15, jb16, jb17, jb18, jb19, jb20, jb21, jb22, jb23, jb24, jb25, jb26, jb27, jb28, jb29, jb30, jb31, jb32, jb33, jb34, jb35, jb36, jb37, jb38, jb39, jb40, jb41, jb42, jb43, jb44, jb45, jb46, jb47, jb48, jb49, jb50, zlet, jlit, jle_t, jle_f, jlt_t, jlt_f, jeq_t, jeq_f, jeqN_f, jNeq_f, jNN, jN1, jadd, jsub, jzin, jcl, if_true, if_false, ite_true, ite_false, not_true, not_false_iff, not_true_eq_false, not_false_eq_true, jB_t, jB_f, jB0_t, jB0_f, jBa, jand11, jand00, ↓reduceIte, Nat.reduceEqDiff, Nat.reduceAdd, Nat.reduceSub, hlen g hg]
theorem jxs_best (hN : 70000 < N9) (hk : jBk G L gt nu fo bk_forgives bk_tolls bk_lengths bk_numbers m_told m_gate m_list) {v g : Nat} (hv : v < 256) (hg : g < G) : jBest (fun s => jopen gt nu fo L g (v ^^^ s)) 0 256 (jfl gt nu g (jskk (fo g) v) (-nI 1) L) := by
  have hf := (hk.2.2.2.2.1 g hg).1
  have hnu : ∀ k, k < L → nu k < 256 := fun k hk' => (hk.2.2.2.2.2.2.2 k hk').2.1
  have ac : ∀ s k, (v ^^^ s) ^^^ nu k = s ^^^ (v ^^^ nu k) := fun s k => by rw [Nat.xor_comm v s, Nat.xor_assoc]
  rcases jskk_best gt nu fo (L := L) (g := g) hf hv hnu L (Nat.le_refl _) with ⟨h1, h2⟩ | ⟨b, h1, h2, ⟨j, j1, j2, j3⟩, h4⟩
  · refine Or.inl ⟨h1, fun s _ hs => ?_⟩
    cases hq : jopen gt nu fo L g (v ^^^ s) with
    | false => exact hq
    | true =>
      obtain ⟨k, k1, k2, -⟩ := (jopen_iff gt nu fo L g _ hf).mp hq
      exact absurd k2 (h2 k k1)
  · refine Or.inr ⟨b, Nat.zero_le _, h1, h2, (jopen_iff gt nu fo L g _ hf).mpr ⟨j, j1, j2, ?_⟩, fun s _ hs hp => ?_⟩
    · rw [ac, j3]
      exact jdr_ok (by omega) (jxor_lt hv (hnu j j1))
    · obtain ⟨k, k1, k2, k3⟩ := (jopen_iff gt nu fo L g _ hf).mp hp
      rw [ac] at k3
      have e1 := jdr_best (by omega) (jxor_lt hv (hnu k k1)) hs k3
      have e2 := h4 k k1 k2
      unfold jbf at e1 e2
      omega
theorem jmstrokes (hN : 70000 < N9) (hk : jBk G L gt nu fo bk_forgives bk_tolls bk_lengths bk_numbers m_told m_gate m_list) (hs : jSt G B no bo c tk st_now st_born st_age st_passed st_gone st_took (nI B) st_year (nI c) m_now) {b g k3 : Nat} (hb : b < B) (hg : g < G) (h3 : k3 ≤ 1) (th : Int32) (rf : Nat → Int32) : ∀ s n o, s + 1 < n → s < 256 → jBest (fun s => jopen gt nu fo L g (no b ^^^ s)) (s + 1) 256 o →
    ∃ o', pM_strokes_68 N9 m_told m_gate m_list m_now (nI b) (nI g) (nI k3) n th rf o (nI s) = some (if k3 = 0 then (if o' = -nI 1 then -nI 1 else nI (jpop o'.toNatClampNeg)) else o', th, rf) ∧ jBest (fun s => jopen gt nu fo L g (no b ^^^ s)) 0 256 o' := by
  obtain ⟨hB, -, h42, -, -, -, -, hno, -⟩ := hs
  obtain ⟨n1, -, n2, n3, -⟩ := hno b hb
  have step : ∀ s n o, s < 256 → (o = -nI 1 ∨ ∃ b, b < 256 ∧ o = nI b) → pM_strokes_68 N9 m_told m_gate m_list m_now (nI b) (nI g) (nI k3) (n + 1) th rf o (nI s) = pM_strokes_68 N9 m_told m_gate m_list m_now (nI b) (nI g) (nI k3) n th rf (if jopen gt nu fo L g (no b ^^^ s) = true then (if o = -nI 1 then nI s else if jpop o.toNatClampNeg < jpop s then o else nI s) else o) (nI s + -nI 1) := by
    intro s n o hs' ho
    simp only [pM_strokes_68, pM_strokes_111, pM_strokes_116, pM_strokes_118, jlit, jN1]
    rw [if_neg (nI_nlt (Nat.zero_le _) (by omega)), jadd, Nat.zero_add, jcl (by omega), n3, if_pos (by have := jzin (i := b) (n := 46) (by omega) (by omega); rw [this]; trivial), jxor, jmopen hN hk (jxor_lt n1 hs') hg, jb1]
    cases jopen gt nu fo L g (no b ^^^ s)
    · rw [if_pos (show jB false = nI 0 from rfl), if_neg (by decide)]
    · rw [if_neg (show ¬ jB true = nI 0 by decide), if_pos rfl]
      rcases ho with rfl | ⟨b', hb', rfl⟩
      · rw [if_pos rfl, if_pos rfl]
      · have p1 := jpop_le b'
        have p2 := jpop_le s
        rw [if_neg (jeqN_f (by omega)).mp, if_neg (jeqN_f (by omega)).mp, jo hN hs', jb1, jo hN hb', jb1, jcl (by omega)]
        by_cases hl : jpop b' < jpop s
        · rw [if_pos (nI_lt hl (by omega)), if_pos hl]
        · rw [if_neg (nI_nlt (by omega) (by omega)), if_neg hl]
  intro s
  induction s with
  | zero =>
    intro n o h1 h2 ho
    obtain ⟨n, rfl⟩ : ∃ q, n = q + 1 + 1 := ⟨n - 2, by omega⟩
    have hd := jBest_dn ho h2 (by omega)
    refine ⟨_, ?_, hd⟩
    rw [step 0 (n + 1) o h2 (jBest_num ho)]
    have hnum := jBest_num hd
    generalize (if jopen gt nu fo L g (no b ^^^ 0) = true then (if o = -nI 1 then nI 0 else if jpop o.toNatClampNeg < jpop 0 then o else nI 0) else o) = q at hnum ⊢
    simp only [pM_strokes_68, pM_strokes_137, pM_strokes_147, jlit, jN1]
    rw [if_pos (show nI 0 + -nI 1 < nI 0 by decide)]
    have hk : k3 = 0 ∨ k3 = 1 := by omega
    rcases hk with rfl | rfl
    · rw [if_neg (show ¬ nI 0 = nI 1 by decide), if_pos rfl]
      rcases hnum with rfl | ⟨b', hb', rfl⟩
      · rw [if_pos rfl, if_pos rfl]
      · rw [if_neg (jeqN_f (by omega)).mp, if_neg (jeqN_f (by omega)).mp, jo hN hb', jb1, jcl (by omega)]
    · rw [if_pos rfl, if_neg (by omega)]
  | succ s ih =>
    intro n o h1 h2 ho
    obtain ⟨n, rfl⟩ : ∃ q, n = q + 1 := ⟨n - 1, by omega⟩
    have hd := jBest_dn ho h2 (by omega)
    obtain ⟨o', e1, e2⟩ := ih n _ (by omega) (by omega) hd
    refine ⟨o', ?_, e2⟩
    rw [← e1, step (s + 1) n o h2 (jBest_num ho), jdec]
theorem jop_strokes (hN : 70000 < N9) (hk : jBk G L gt nu fo bk_forgives bk_tolls bk_lengths bk_numbers m_told m_gate m_list) (hs : jSt G B no bo c tk st_now st_born st_age st_passed st_gone st_took (nI B) st_year (nI c) m_now) (hR : jRf re ra m_refused) (m_thrown : Int32) (x1 : Int32) (x2 : Int32) (x3 : Int32): ∃ z r re1 ra1 q th rf1, pX9_strokes N9 bk_forgives bk_lengths bk_numbers (nI G) st_now (nI B) re ra x1 x2 x3 = some (z, r, re1, ra1) ∧ pM_strokes N9 m_thrown m_refused m_told m_gate m_list m_now x1 x2 x3 = some (q, th, rf1) ∧ jOutB z th r q ∧ jRf re1 ra1 rf1 := by
  have hs' := hs
  obtain ⟨hB, -, h42, -, -, -, -, hno, -⟩ := hs
  unfold pX9_strokes pM_strokes pX9_strokes_53 pX9_strokes_55 pM_strokes_22 pM_strokes_27 pM_strokes_50 pM_strokes_58
  simp only [jlit, jN1]
  rcases jcase_bg (N9 := N9) (re := re) h42 hB hk.2.2.1 hk.1 x1 x2 with ⟨b, g, hb, hg, rfl, rfl, h1, h2, h3⟩ | ⟨h1, h2 | ⟨h2, h3⟩⟩
  · obtain ⟨n1, -, n2, n3, -⟩ := hno b hb
    rcases jcase_a N9 (a := 1) (by omega) x3 with ⟨k3, hk3, rfl, h5, h6⟩ | ⟨h5, h6⟩
    · obtain ⟨o', e1, e2⟩ := jmstrokes hN hk hs' hb hg hk3 (nI 0) m_refused 255 N9 (-nI 1) (by omega) (by omega) (Or.inl ⟨rfl, fun s h1 h2 => absurd h2 (by omega)⟩)
      have e3 := jBest_uniq e2 (jxs_best hN hk n1 hg)
      have e4 := jBest_num e2
      rw [h1, jb2, if_pos rfl, h5, jb1, jnA1, jb2, if_pos rfl, h2, jb1, if_neg j10, h3, jb1, if_neg j10, jbadO, jb3, if_pos rfl, h6, jb1, if_neg j10, jbadO, jb3, if_pos rfl, e1]
      simp (disch := omega) only [jb1, jb2, jb3, jb4, jb5, jb6, jb7, jb8, jb9, jb10, jb11, jb12, jb13, jb14, jb15, jb16, jb17, jb18, jb19, jb20, jb21, jb22, jb23, jb24, jb25, jb26, jb27, jb28, jb29, jb30, jb31, jb32, jb33, jb34, jb35, jb36, jb37, jb38, jb39, jb40, jb41, jb42, jb43, jb44, jb45, jb46, jb47, jb48, jb49, jb50, zlet, jlit, jle_t, jle_f, jlt_t, jlt_f, jeq_t, jeq_f, jeqN_f, jNeq_f, jNN, jN1, jadd, jsub, jzin, jcl, if_true, if_false, ite_true, ite_false, not_true, not_false_iff, not_true_eq_false, not_false_eq_true, jB_t, jB_f, jB0_t, jB0_f, jBa, jand11, jand00, ↓reduceIte, Nat.reduceEqDiff, Nat.reduceAdd, Nat.reduceSub, n2, jxstrokes hN hk n1 hg]
      rw [← e3]
      have hk : k3 = 0 ∨ k3 = 1 := by omega
      rcases hk with rfl | rfl
      · rcases e4 with rfl | ⟨b', hb', rfl⟩
        · simp (disch := omega) only [jb1, jb2, jb3, jb4, jb5, jb6, jb7, jb8, jb9, jb10, jb11, jb12, jb13, jb14, jb15, jb16, jb17, jb18, jb19, jb20, jb21, jb22, jb23, jb24, jb25, jb26, jb27, jb28, jb29, jb30, jb31, jb32, jb33, jb34, jb35, jb36, jb37, jb38, jb39, jb40, jb41, jb42, jb43, jb44, jb45, jb46, jb47, jb48, jb49, jb50, zlet, jlit, jle_t, jle_f, jlt_t, jlt_f, jeq_t, jeq_f, jeqN_f, jNeq_f, jNN, jN1, jadd, jsub, jzin, jcl, if_true, if_false, ite_true, ite_false, not_true, not_false_iff, not_true_eq_false, not_false_eq_true, jB_t, jB_f, jB0_t, jB0_f, jBa, jand11, jand00, ↓reduceIte, Nat.reduceEqDiff, Nat.reduceAdd, Nat.reduceSub]
          exact ⟨_, _, _, _, _, _, _, rfl, rfl, Or.inl ⟨rfl, rfl, rfl⟩, hR⟩
        · simp (disch := omega) only [jb1, jb2, jb3, jb4, jb5, jb6, jb7, jb8, jb9, jb10, jb11, jb12, jb13, jb14, jb15, jb16, jb17, jb18, jb19, jb20, jb21, jb22, jb23, jb24, jb25, jb26, jb27, jb28, jb29, jb30, jb31, jb32, jb33, jb34, jb35, jb36, jb37, jb38, jb39, jb40, jb41, jb42, jb43, jb44, jb45, jb46, jb47, jb48, jb49, jb50, zlet, jlit, jle_t, jle_f, jlt_t, jlt_f, jeq_t, jeq_f, jeqN_f, jNeq_f, jNN, jN1, jadd, jsub, jzin, jcl, if_true, if_false, ite_true, ite_false, not_true, not_false_iff, not_true_eq_false, not_false_eq_true, jB_t, jB_f, jB0_t, jB0_f, jBa, jand11, jand00, ↓reduceIte, Nat.reduceEqDiff, Nat.reduceAdd, Nat.reduceSub, jbc hb']
          exact ⟨_, _, _, _, _, _, _, rfl, rfl, Or.inl ⟨rfl, rfl, rfl⟩, hR⟩
      · simp (disch := omega) only [jb1, jb2, jb3, jb4, jb5, jb6, jb7, jb8, jb9, jb10, jb11, jb12, jb13, jb14, jb15, jb16, jb17, jb18, jb19, jb20, jb21, jb22, jb23, jb24, jb25, jb26, jb27, jb28, jb29, jb30, jb31, jb32, jb33, jb34, jb35, jb36, jb37, jb38, jb39, jb40, jb41, jb42, jb43, jb44, jb45, jb46, jb47, jb48, jb49, jb50, zlet, jlit, jle_t, jle_f, jlt_t, jlt_f, jeq_t, jeq_f, jeqN_f, jNeq_f, jNN, jN1, jadd, jsub, jzin, jcl, if_true, if_false, ite_true, ite_false, not_true, not_false_iff, not_true_eq_false, not_false_eq_true, jB_t, jB_f, jB0_t, jB0_f, jBa, jand11, jand00, ↓reduceIte, Nat.reduceEqDiff, Nat.reduceAdd, Nat.reduceSub]
        exact ⟨_, _, _, _, _, _, _, rfl, rfl, Or.inl ⟨rfl, rfl, rfl⟩, hR⟩
    · rw [h1, jb2, if_pos rfl, h5, jb1, jnA0, jb2, if_neg j20, h2, jb1, if_neg j10, h3, jb1, if_neg j10, jbadO, jb3, if_pos rfl, h6, jb1, if_pos rfl, jbadB, jb3, if_neg j10]
      exact ⟨_, _, _, _, _, _, _, rfl, rfl, Or.inr (Or.inr ⟨rfl, rfl⟩), hR.arg⟩
  · rw [h1, jb2, if_neg j10, h2, jb1, if_pos rfl, jbadE, jb3, if_neg j10]
    exact ⟨_, _, _, _, _, _, _, rfl, rfl, Or.inr (Or.inl ⟨rfl, rfl⟩), hR.elem⟩
  · rw [h1, jb2, if_neg j10, h2, jb1, if_neg j10, h3, jb1, if_pos rfl, jbadE, jb3, if_neg j10]
    exact ⟨_, _, _, _, _, _, _, rfl, rfl, Or.inr (Or.inl ⟨rfl, rfl⟩), hR.elem⟩
end C13
