/-! cover -/
def jBest (P : Nat → Bool) (lo hi : Nat) (o : Int32) : Prop := (o = -nI 1 ∧ ∀ s, lo ≤ s → s < hi → P s = false) ∨ ∃ b, lo ≤ b ∧ b < hi ∧ o = nI b ∧ P b = true ∧ ∀ s, lo ≤ s → s < hi → P s = true → jpop b < jpop s ∨ (jpop b = jpop s ∧ b ≤ s)
theorem jBest_uniq {P : Nat → Bool} {lo hi : Nat} {o o' : Int32} (h : jBest P lo hi o) (h' : jBest P lo hi o') : o = o' := by
  rcases h with ⟨h1, h2⟩ | ⟨b, h1, h2, h3, h4, h5⟩
  · rcases h' with ⟨g1, g2⟩ | ⟨a, g1, g2, g3, g4, g5⟩
    · rw [h1, g1]
    · rw [h2 a g1 g2] at g4; exact absurd g4 (by decide)
  · rcases h' with ⟨g1, g2⟩ | ⟨a, g1, g2, g3, g4, g5⟩
    · rw [g2 b h1 h2] at h4; exact absurd h4 (by decide)
    · have e1 := h5 a g1 g2 g4
      have e2 := g5 b h1 h2 h4
      rw [h3, g3]
      congr 1
      omega
theorem jBest_up {P : Nat → Bool} {s : Nat} {o : Int32} (h : jBest P 0 s o) (hs : s ≤ 256) : jBest P 0 (s + 1) (if P s = true then (if o = -nI 1 then nI s else if jpop o.toNatClampNeg ≤ jpop s then o else nI s) else o) := by
  rcases h with ⟨h1, h2⟩ | ⟨b, h1, h2, h3, h4, h5⟩
  · subst h1
    by_cases hp : P s = true
    · rw [if_pos hp, if_pos rfl]
      refine Or.inr ⟨s, by omega, by omega, rfl, hp, fun t _ ht hpt => ?_⟩
      by_cases hts : t = s
      · subst hts; exact Or.inr ⟨rfl, Nat.le_refl _⟩
      · rw [h2 t (by omega) (by omega)] at hpt; exact absurd hpt (by decide)
    · rw [if_neg hp]
      refine Or.inl ⟨rfl, fun t _ ht => ?_⟩
      by_cases hts : t = s
      · subst hts; exact Bool.eq_false_iff.mpr hp
      · exact h2 t (by omega) (by omega)
  · subst h3
    have hne : ¬ nI b = -nI 1 := (jeqN_f (by omega)).mp
    by_cases hp : P s = true
    · rw [if_pos hp, if_neg hne, jcl (by omega)]
      by_cases hc : jpop b ≤ jpop s
      · rw [if_pos hc]
        refine Or.inr ⟨b, h1, by omega, rfl, h4, fun t _ ht hpt => ?_⟩
        by_cases hts : t = s
        · subst hts; omega
        · exact h5 t (by omega) (by omega) hpt
      · rw [if_neg hc]
        refine Or.inr ⟨s, by omega, by omega, rfl, hp, fun t _ ht hpt => ?_⟩
        by_cases hts : t = s
        · subst hts; exact Or.inr ⟨rfl, Nat.le_refl _⟩
        · have := h5 t (by omega) (by omega) hpt
          omega
    · rw [if_neg hp]
      refine Or.inr ⟨b, h1, by omega, rfl, h4, fun t _ ht hpt => ?_⟩
      by_cases hts : t = s
      · subst hts; exact absurd hpt hp
      · exact h5 t (by omega) (by omega) hpt
theorem jBest_dn {P : Nat → Bool} {s hi : Nat} {o : Int32} (h : jBest P (s + 1) hi o) (hs : s < hi) (hh : hi ≤ 256) : jBest P s hi (if P s = true then (if o = -nI 1 then nI s else if jpop o.toNatClampNeg < jpop s then o else nI s) else o) := by
  rcases h with ⟨h1, h2⟩ | ⟨b, h1, h2, h3, h4, h5⟩
  · subst h1
    by_cases hp : P s = true
    · rw [if_pos hp, if_pos rfl]
      refine Or.inr ⟨s, by omega, by omega, rfl, hp, fun t h0 ht hpt => ?_⟩
      by_cases hts : t = s
      · subst hts; exact Or.inr ⟨rfl, Nat.le_refl _⟩
      · rw [h2 t (by omega) (by omega)] at hpt; exact absurd hpt (by decide)
    · rw [if_neg hp]
      refine Or.inl ⟨rfl, fun t h0 ht => ?_⟩
      by_cases hts : t = s
      · subst hts; exact Bool.eq_false_iff.mpr hp
      · exact h2 t (by omega) (by omega)
  · subst h3
    have hne : ¬ nI b = -nI 1 := (jeqN_f (by omega)).mp
    by_cases hp : P s = true
    · rw [if_pos hp, if_neg hne, jcl (by omega)]
      by_cases hc : jpop b < jpop s
      · rw [if_pos hc]
        refine Or.inr ⟨b, by omega, by omega, rfl, h4, fun t h0 ht hpt => ?_⟩
        by_cases hts : t = s
        · subst hts; exact Or.inl hc
        · exact h5 t (by omega) (by omega) hpt
      · rw [if_neg hc]
        refine Or.inr ⟨s, by omega, by omega, rfl, hp, fun t h0 ht hpt => ?_⟩
        by_cases hts : t = s
        · subst hts; exact Or.inr ⟨rfl, Nat.le_refl _⟩
        · have := h5 t (by omega) (by omega) hpt
          omega
    · rw [if_neg hp]
      refine Or.inr ⟨b, by omega, by omega, rfl, h4, fun t h0 ht hpt => ?_⟩
      by_cases hts : t = s
      · subst hts; exact absurd hpt hp
      · exact h5 t (by omega) (by omega) hpt
/-- what is kept of a best one, by its two tests -/
theorem jBest_num {P : Nat → Bool} {lo hi : Nat} {o : Int32} (h : jBest P lo hi o) : o = -nI 1 ∨ ∃ b, b < hi ∧ o = nI b := by
  rcases h with ⟨h1, -⟩ | ⟨b, -, h2, h3, -⟩
  · exact Or.inl h1
  · exact Or.inr ⟨b, h2, h3⟩
theorem jdec (s : Nat) : nI (s + 1) + -nI 1 = nI s := by
  rw [← jadd]
  grind
def jun (thr : Nat → Int32) (s : Nat) : Nat → Int32 | 0 => nI 0 | k + 1 => if s / 2 ^ k % 2 = 1 then jun thr s k ||| thr k else jun thr s k
section C10
variable {N9 G L B c n : Nat} {gt nu fo kk vv no bo tk : Nat → Nat} {bk_forgives bk_tolls bk_lengths : Nat → Int32} {bk_numbers : Nat → Nat → Int32} {m_told : Nat → Int32} {m_gate m_list : Nat → Nat → Int32}
variable {lw_kinds lw_values : Nat → Int32} {lw_length m_lawMany : Int32} {m_law : Nat → Nat → Int32} {st_now st_born st_age st_passed st_gone st_took : Nat → Int32} {st_year re ra : Int32} {m_now m_refused : Nat → Int32}
theorem jcase_s (hs : jSt G B no bo c tk st_now st_born st_age st_passed st_gone st_took (nI B) st_year (nI c) m_now) (x : Int32) : (∃ k, k < 2 ^ B ∧ x = nI k ∧ pX9_areBeasts N9 (nI B) x = some (nI 1) ∧ pM_areBeasts N9 m_now x = some (nI 1)) ∨ (pX9_areBeasts N9 (nI B) x = some (nI 0) ∧ pM_areBeasts N9 m_now x = some (nI 0)) := by
  have hB := hs.1
  have h42 := hs.2.2.1
  have hp : 1 ≤ 2 ^ B := Nat.one_le_two_pow
  have hp2 : 2 ^ B ≤ 256 := Nat.pow_le_pow_right (n := 2) (by omega) hB
  unfold pX9_areBeasts pM_areBeasts
  rcases jcase_a N9 (a := 2 ^ B - 1) (by omega) x with ⟨k, h1, rfl, h2, h3⟩ | ⟨h2, h3⟩
  · left
    refine ⟨k, by omega, rfl, ?_, ?_⟩
    · simp (disch := omega) only [jb1, jb2, jb3, jb4, jb5, jb6, jb7, jb8, jb9, jb10, jb11, jb12, jb13, jb14, jb15, jb16, jb17, jb18, jb19, jb20, jb21, jb22, jb23, jb24, jb25, jb26, jb27, jb28, jb29, jb30, jb31, jb32, jb33, jb34, jb35, jb36, jb37, jb38, jb39, jb40, jb41, jb42, jb43, jb44, jb45, jb46, jb47, jb48, jb49, jb50, zlet, jlit, jle_t, jle_f, jlt_t, jlt_f, jeq_t, jeq_f, jeqN_f, jNeq_f, jNN, jN1, jadd, jsub, jzin, jcl, if_true, if_false, ite_true, ite_false, not_true, not_false_iff, not_true_eq_false, not_false_eq_true, jB_t, jB_f, jB0_t, jB0_f, jBa, jand11, jand00, ↓reduceIte, Nat.reduceEqDiff, Nat.reduceAdd, Nat.reduceSub, jshl, h2]
    · simp (disch := omega) only [jb1, jb2, jb3, jb4, jb5, jb6, jb7, jb8, jb9, jb10, jb11, jb12, jb13, jb14, jb15, jb16, jb17, jb18, jb19, jb20, jb21, jb22, jb23, jb24, jb25, jb26, jb27, jb28, jb29, jb30, jb31, jb32, jb33, jb34, jb35, jb36, jb37, jb38, jb39, jb40, jb41, jb42, jb43, jb44, jb45, jb46, jb47, jb48, jb49, jb50, zlet, jlit, jle_t, jle_f, jlt_t, jlt_f, jeq_t, jeq_f, jeqN_f, jNeq_f, jNN, jN1, jadd, jsub, jzin, jcl, if_true, if_false, ite_true, ite_false, not_true, not_false_iff, not_true_eq_false, not_false_eq_true, jB_t, jB_f, jB0_t, jB0_f, jBa, jand11, jand00, ↓reduceIte, Nat.reduceEqDiff, Nat.reduceAdd, Nat.reduceSub, h42, jshl, h3]
  · right
    refine ⟨?_, ?_⟩
    · simp (disch := omega) only [jb1, jb2, jb3, jb4, jb5, jb6, jb7, jb8, jb9, jb10, jb11, jb12, jb13, jb14, jb15, jb16, jb17, jb18, jb19, jb20, jb21, jb22, jb23, jb24, jb25, jb26, jb27, jb28, jb29, jb30, jb31, jb32, jb33, jb34, jb35, jb36, jb37, jb38, jb39, jb40, jb41, jb42, jb43, jb44, jb45, jb46, jb47, jb48, jb49, jb50, zlet, jlit, jle_t, jle_f, jlt_t, jlt_f, jeq_t, jeq_f, jeqN_f, jNeq_f, jNN, jN1, jadd, jsub, jzin, jcl, if_true, if_false, ite_true, ite_false, not_true, not_false_iff, not_true_eq_false, not_false_eq_true, jB_t, jB_f, jB0_t, jB0_f, jBa, jand11, jand00, ↓reduceIte, Nat.reduceEqDiff, Nat.reduceAdd, Nat.reduceSub, jshl, h2]
    · simp (disch := omega) only [jb1, jb2, jb3, jb4, jb5, jb6, jb7, jb8, jb9, jb10, jb11, jb12, jb13, jb14, jb15, jb16, jb17, jb18, jb19, jb20, jb21, jb22, jb23, jb24, jb25, jb26, jb27, jb28, jb29, jb30, jb31, jb32, jb33, jb34, jb35, jb36, jb37, jb38, jb39, jb40, jb41, jb42, jb43, jb44, jb45, jb46, jb47, jb48, jb49, jb50, zlet, jlit, jle_t, jle_f, jlt_t, jlt_f, jeq_t, jeq_f, jeqN_f, jNeq_f, jNN, jN1, jadd, jsub, jzin, jcl, if_true, if_false, ite_true, ite_false, not_true, not_false_iff, not_true_eq_false, not_false_eq_true, jB_t, jB_f, jB0_t, jB0_f, jBa, jand11, jand00, ↓reduceIte, Nat.reduceEqDiff, Nat.reduceAdd, Nat.reduceSub, h42, jshl, h3]
theorem jxany (hN : 70000 < N9) (hk : jBk G L gt nu fo bk_forgives bk_tolls bk_lengths bk_numbers m_told m_gate m_list) (hs : jSt G B no bo c tk st_now st_born st_age st_passed st_gone st_took (nI B) st_year (nI c) m_now) {s : Nat} (h32 : s < 32) : pX9_beastsLetThroughAny N9 bk_forgives bk_lengths bk_numbers (nI G) st_now (nI B) (nI s) = some (jun (fun g => jbits (fun b => jopen gt nu fo L g (no b)) B) s G) := by
  have hG := hk.1
  unfold pX9_beastsLetThroughAny
  refine jloop0 (fun n a i => pX9_beastsLetThroughAny_4 N9 bk_forgives bk_lengths bk_numbers (nI G) st_now (nI B) (nI s) n a i) G (fun k => jun (fun g => jbits (fun b => jopen gt nu fo L g (no b)) B) s k) (fun n k hg => ?_) (fun n => ?_) (by omega) rfl
  · have hb := jbit_nI (n := s) (s := k) (by omega) (by omega)
    unfold jbit at hb
    show pX9_beastsLetThroughAny_4 N9 bk_forgives bk_lengths bk_numbers (nI G) st_now (nI B) (nI s) (n + 1) _ _ = pX9_beastsLetThroughAny_4 N9 bk_forgives bk_lengths bk_numbers (nI G) st_now (nI B) (nI s) n _ _
    simp only [pX9_beastsLetThroughAny_4, pX9_beastsLetThroughAny_42, jlit]
    rw [if_neg (nI_ge hg (by omega)), hb, jun, jadd]
    by_cases hq : s / 2 ^ k % 2 = 1
    · rw [hq, if_pos rfl, if_pos rfl, jxthru hN hk hs hg, jb1]
    · rw [if_neg (fun q => hq ((nI_eq (by omega) (by omega)).mp q)), if_neg hq]
  · show pX9_beastsLetThroughAny_4 N9 bk_forgives bk_lengths bk_numbers (nI G) st_now (nI B) (nI s) (n + 1) _ _ = _
    simp only [pX9_beastsLetThroughAny_4, jlit]
    rw [if_pos (nI_le (Nat.le_refl G) (by omega))]
theorem jxcover (hN : 70000 < N9) (hk : jBk G L gt nu fo bk_forgives bk_tolls bk_lengths bk_numbers m_told m_gate m_list) (hs : jSt G B no bo c tk st_now st_born st_age st_passed st_gone st_took (nI B) st_year (nI c) m_now) (x1 ra' : Int32) : ∃ o, pX9_cover_13 N9 bk_forgives bk_lengths bk_numbers (nI G) st_now (nI B) x1 N9 ra' (-nI 1) (nI 0) = some (nI 0, o, ra') ∧ jBest (fun s => decide (x1 &&& (jun (fun g => jbits (fun b => jopen gt nu fo L g (no b)) B) s G ^^^ -nI 1) = nI 0)) 0 (2 ^ G) o := by
  have hG := hk.1
  have hp2 : 2 ^ G ≤ 32 := Nat.pow_le_pow_right (n := 2) (by omega) hG
  have h := jloopR (fun n (o : Int32) i => pX9_cover_13 N9 bk_forgives bk_lengths bk_numbers (nI G) st_now (nI B) x1 n ra' o i) (2 ^ G) (fun i o => jBest (fun s => decide (x1 &&& (jun (fun g => jbits (fun b => jopen gt nu fo L g (no b)) B) s G ^^^ -nI 1) = nI 0)) 0 i o) (fun r => ∃ o, r = (nI 0, o, ra') ∧ jBest (fun s => decide (x1 &&& (jun (fun g => jbits (fun b => jopen gt nu fo L g (no b)) B) s G ^^^ -nI 1) = nI 0)) 0 (2 ^ G) o) (fun n s o hs' ho => ?_) (fun n o ho => ?_) (2 ^ G) 0 (-nI 1) N9 (by omega) (by omega) (Or.inl ⟨rfl, fun s h1 h2 => absurd h2 (Nat.not_lt_zero s)⟩)
  · obtain ⟨r, h1, o, rfl, h2⟩ := h
    exact ⟨o, h1, h2⟩
  · have hup := jBest_up ho (by omega)
    have hx := jxany hN hk hs (s := s) (by omega)
    generalize hU : jun (fun g => jbits (fun b => jopen gt nu fo L g (no b)) B) s G = U at hx hup
    refine ⟨_, ?_, hup⟩
    show pX9_cover_13 N9 bk_forgives bk_lengths bk_numbers (nI G) st_now (nI B) x1 (n + 1) ra' o (nI s) = pX9_cover_13 N9 bk_forgives bk_lengths bk_numbers (nI G) st_now (nI B) x1 n ra' _ (nI (s + 1))
    simp only [pX9_cover_13, pX9_cover_45, pX9_cover_50, pX9_cover_71, jlit, jN1]
    rw [jshl G (by omega), if_neg (nI_ge hs' (by omega)), hx, jb1]
    simp only [decide_eq_true_eq]
    rcases jBest_num ho with rfl | ⟨b, hb, rfl⟩
    · rw [if_pos rfl, if_neg j10, jadd]
      by_cases hc : x1 &&& (U ^^^ -nI 1) = nI 0
      · rw [if_pos hc, if_pos hc]
        rfl
      · rw [if_neg hc, if_neg hc]
    · have hne : ¬ nI b = -nI 1 := (jeqN_f (by omega)).mp
      have p1 := jpop_le b
      have p2 := jpop_le s
      rw [if_neg hne, jbc (by omega), jb1, jbc (by omega), jb1, jadd]
      by_cases hl : jpop b ≤ jpop s
      · rw [if_pos (nI_le hl (by omega)), if_pos trivial]
        by_cases hc : x1 &&& (U ^^^ -nI 1) = nI 0
        · rw [if_pos hc, if_neg hne, jcl (by omega), if_pos hl]
        · rw [if_neg hc]
      · rw [if_neg (nI_ge (by omega) (by omega)), if_neg j10]
        by_cases hc : x1 &&& (U ^^^ -nI 1) = nI 0
        · rw [if_pos hc, if_pos hc, if_neg hne, jcl (by omega), if_neg hl]
        · rw [if_neg hc, if_neg hc]
  · refine ⟨_, ?_, o, rfl, ho⟩
    show pX9_cover_13 N9 bk_forgives bk_lengths bk_numbers (nI G) st_now (nI B) x1 (n + 1) ra' o (nI (2 ^ G)) = _
    simp only [pX9_cover_13, jlit]
    rw [jshl G (by omega), if_pos (nI_le (Nat.le_refl _) (by omega))]
theorem jmcover (hN : 70000 < N9) (hk : jBk G L gt nu fo bk_forgives bk_tolls bk_lengths bk_numbers m_told m_gate m_list) (hs : jSt G B no bo c tk st_now st_born st_age st_passed st_gone st_took (nI B) st_year (nI c) m_now) (x1 th : Int32) (rf : Nat → Int32) : ∀ s n o, s + 1 < n → s < 2 ^ G → jBest (fun s => decide (x1 &&& (jun (fun g => jbits (fun b => jopen gt nu fo L g (no b)) B) s G ^^^ -nI 1) = nI 0)) (s + 1) (2 ^ G) o →
    ∃ o', pM_cover_42 N9 m_told m_gate m_list m_now x1 n th rf o (nI s) = some (o', th, rf) ∧ jBest (fun s => decide (x1 &&& (jun (fun g => jbits (fun b => jopen gt nu fo L g (no b)) B) s G ^^^ -nI 1) = nI 0)) 0 (2 ^ G) o' := by
  have hG := hk.1
  have hg1 := hk.2.2.1
  have hp2 : 2 ^ G ≤ 32 := Nat.pow_le_pow_right (n := 2) (by omega) hG
  have inner : ∀ (k : Int32 → (Nat → Int32) → Int32 → Int32 → Option (Int32 × Int32 × (Nat → Int32))) (s : Nat) (o : Int32), s < 2 ^ G → (o = -nI 1 ∨ ∃ b, b < 2 ^ G ∧ o = nI b) → pM_cover_52 N9 th rf m_told m_gate m_list m_now x1 k N9 o (nI s) (nI 0) (nI 0) = k th rf (if decide (x1 &&& (jun (fun g => jbits (fun b => jopen gt nu fo L g (no b)) B) s G ^^^ -nI 1) = nI 0) = true then (if o = -nI 1 then nI s else if jpop o.toNatClampNeg < jpop s then o else nI s) else o) (nI s + -nI 1) := by
    intro k s o hs' ho
    refine jloop0 (fun n (a : Int32) i => pM_cover_52 N9 th rf m_told m_gate m_list m_now x1 k n o (nI s) a i) G (fun k => jun (fun g => jbits (fun b => jopen gt nu fo L g (no b)) B) s k) (fun n g hg => ?_) (fun n => ?_) (by omega) rfl
    · have hb := jmhas (n := s) (s := g) (by omega) (by omega) N9
      show pM_cover_52 N9 th rf m_told m_gate m_list m_now x1 k (n + 1) o (nI s) _ _ = pM_cover_52 N9 th rf m_told m_gate m_list m_now x1 k n o (nI s) _ _
      rw [jun]
      simp only [pM_cover_52, pM_cover_84, jlit]
      by_cases hq : s / 2 ^ g % 2 = 1
      · simp (disch := omega) only [jb1, jb2, jb3, jb4, jb5, jb6, jb7, jb8, jb9, jb10, jb11, jb12, jb13, jb14, jb15, jb16, jb17, jb18, jb19, jb20, jb21, jb22, jb23, jb24, jb25, jb26, jb27, jb28, jb29, jb30, jb31, jb32, jb33, jb34, jb35, jb36, jb37, jb38, jb39, jb40, jb41, jb42, jb43, jb44, jb45, jb46, jb47, jb48, jb49, jb50, zlet, jlit, jle_t, jle_f, jlt_t, jlt_f, jeq_t, jeq_f, jeqN_f, jNeq_f, jNN, jN1, jadd, jsub, jzin, jcl, if_true, if_false, ite_true, ite_false, not_true, not_false_iff, not_true_eq_false, not_false_eq_true, jB_t, jB_f, jB0_t, jB0_f, jBa, jand11, jand00, ↓reduceIte, Nat.reduceEqDiff, Nat.reduceAdd, Nat.reduceSub, hg1, hb, hq, decide_true, jmthru hN hk hs hg]
      · simp (disch := omega) only [jb1, jb2, jb3, jb4, jb5, jb6, jb7, jb8, jb9, jb10, jb11, jb12, jb13, jb14, jb15, jb16, jb17, jb18, jb19, jb20, jb21, jb22, jb23, jb24, jb25, jb26, jb27, jb28, jb29, jb30, jb31, jb32, jb33, jb34, jb35, jb36, jb37, jb38, jb39, jb40, jb41, jb42, jb43, jb44, jb45, jb46, jb47, jb48, jb49, jb50, zlet, jlit, jle_t, jle_f, jlt_t, jlt_f, jeq_t, jeq_f, jeqN_f, jNeq_f, jNN, jN1, jadd, jsub, jzin, jcl, if_true, if_false, ite_true, ite_false, not_true, not_false_iff, not_true_eq_false, not_false_eq_true, jB_t, jB_f, jB0_t, jB0_f, jBa, jand11, jand00, ↓reduceIte, Nat.reduceEqDiff, Nat.reduceAdd, Nat.reduceSub, hg1, hb, hq, decide_false, jor0]
    · show pM_cover_52 N9 th rf m_told m_gate m_list m_now x1 k (n + 1) o (nI s) _ _ = _
      generalize jun (fun g => jbits (fun b => jopen gt nu fo L g (no b)) B) s G = U
      simp only [pM_cover_52, pM_cover_118, pM_cover_122, pM_cover_123, jlit, jN1, decide_eq_true_eq]
      simp (disch := omega) only [jb1, jb2, jb3, jb4, jb5, jb6, jb7, jb8, jb9, jb10, jb11, jb12, jb13, jb14, jb15, jb16, jb17, jb18, jb19, jb20, jb21, jb22, jb23, jb24, jb25, jb26, jb27, jb28, jb29, jb30, jb31, jb32, jb33, jb34, jb35, jb36, jb37, jb38, jb39, jb40, jb41, jb42, jb43, jb44, jb45, jb46, jb47, jb48, jb49, jb50, zlet, jlit, jle_t, jle_f, jlt_t, jlt_f, jeq_t, jeq_f, jeqN_f, jNeq_f, jNN, jN1, jadd, jsub, jzin, jcl, if_true, if_false, ite_true, ite_false, not_true, not_false_iff, not_true_eq_false, not_false_eq_true, jB_t, jB_f, jB0_t, jB0_f, jBa, jand11, jand00, ↓reduceIte, Nat.reduceEqDiff, Nat.reduceAdd, Nat.reduceSub, hg1]
      by_cases hc : x1 &&& (U ^^^ -nI 1) = nI 0
      · rw [if_pos hc, if_pos hc]
        rcases ho with rfl | ⟨b, hb, rfl⟩
        · rw [if_pos rfl, if_pos rfl]
        · have hne : ¬ nI b = -nI 1 := (jeqN_f (by omega)).mp
          have p1 := jpop_le b
          have p2 := jpop_le s
          rw [if_neg hne, if_neg hne, jo hN (by omega), jb1, jo hN (by omega), jb1]
          rw [jcl (by omega)]
          by_cases hl : jpop b < jpop s
          · rw [if_pos (nI_lt hl (by omega)), if_pos hl]
          · rw [if_neg (nI_nlt (by omega) (by omega)), if_neg hl]
      · rw [if_neg hc, if_neg hc]
  intro s
  induction s with
  | zero =>
    intro n o h1 h2 ho
    obtain ⟨n, rfl⟩ : ∃ q, n = q + 1 + 1 := ⟨n - 2, by omega⟩
    have hd := jBest_dn ho h2 (by omega)
    refine ⟨_, ?_, hd⟩
    rw [pM_cover_42]
    simp only [jlit]
    rw [if_neg (nI_nlt (Nat.le_refl 0) (by omega)), inner _ 0 o h2 (jBest_num ho), pM_cover_42]
    exact if_pos (show nI 0 + -nI 1 < 0 by decide)
  | succ s ih =>
    intro n o h1 h2 ho
    obtain ⟨n, rfl⟩ : ∃ q, n = q + 1 := ⟨n - 1, by omega⟩
    have hd := jBest_dn ho h2 (by omega)
    obtain ⟨o', e1, e2⟩ := ih n _ (by omega) (by omega) hd
    refine ⟨o', ?_, e2⟩
    rw [← e1, pM_cover_42]
    simp only [jlit]
    rw [if_neg (nI_nlt (Nat.zero_le _) (by omega)), inner _ (s + 1) o h2 (jBest_num ho), jdec]
theorem jop_cover (hN : 70000 < N9) (hk : jBk G L gt nu fo bk_forgives bk_tolls bk_lengths bk_numbers m_told m_gate m_list) (hs : jSt G B no bo c tk st_now st_born st_age st_passed st_gone st_took (nI B) st_year (nI c) m_now) (hR : jRf re ra m_refused) (m_thrown : Int32) (x1 : Int32): ∃ z r ra1 q th rf1, pX9_cover N9 bk_forgives bk_lengths bk_numbers (nI G) st_now (nI B) ra x1 = some (z, r, ra1) ∧ pM_cover N9 m_thrown m_refused m_told m_gate m_list m_now x1 = some (q, th, rf1) ∧ jOutA z th r q ∧ jRf re ra1 rf1 := by
  have hG := hk.1
  have hg1 := hk.2.2.1
  have hp : 1 ≤ 2 ^ G := Nat.one_le_two_pow
  have hp2 : 2 ^ G ≤ 32 := Nat.pow_le_pow_right (n := 2) (by omega) hG
  unfold pX9_cover pM_cover pM_cover_19
  simp only [jlit, jN1]
  rcases jcase_s (N9 := N9) hs x1 with ⟨k, hk1, rfl, h1, h2⟩ | ⟨h1, h2⟩
  · rw [h1, jb1, jnA1, jb2, if_pos rfl, h2, jb1, if_neg j10, jbadO, jb3, if_pos rfl]
    obtain ⟨o, e1, e2⟩ := jxcover hN hk hs (nI k) ra
    obtain ⟨o', e3, e4⟩ := jmcover hN hk hs (nI k) (nI 0) m_refused (2 ^ G - 1) N9 (-nI 1) (by omega) (by omega) (Or.inl ⟨rfl, fun s h1 h2 => absurd h2 (by omega)⟩)
    rw [e1]
    simp (disch := omega) only [jb1, jb2, jb3, jb4, jb5, jb6, jb7, jb8, jb9, jb10, jb11, jb12, jb13, jb14, jb15, jb16, jb17, jb18, jb19, jb20, jb21, jb22, jb23, jb24, jb25, jb26, jb27, jb28, jb29, jb30, jb31, jb32, jb33, jb34, jb35, jb36, jb37, jb38, jb39, jb40, jb41, jb42, jb43, jb44, jb45, jb46, jb47, jb48, jb49, jb50, zlet, jlit, jle_t, jle_f, jlt_t, jlt_f, jeq_t, jeq_f, jeqN_f, jNeq_f, jNN, jN1, jadd, jsub, jzin, jcl, if_true, if_false, ite_true, ite_false, not_true, not_false_iff, not_true_eq_false, not_false_eq_true, jB_t, jB_f, jB0_t, jB0_f, jBa, jand11, jand00, ↓reduceIte, Nat.reduceEqDiff, Nat.reduceAdd, Nat.reduceSub, hg1, jshl]
    rw [e3, jBest_uniq e2 e4]
    exact ⟨_, _, _, _, _, _, rfl, rfl, Or.inl ⟨rfl, rfl, rfl⟩, hR⟩
  · rw [h1, jb1, jnA0, jb2, if_neg j20, h2, jb1, if_pos rfl, jbadA, jb3, if_neg j10]
    exact ⟨_, _, _, _, _, _, rfl, rfl, Or.inr ⟨rfl, rfl⟩, hR.arg⟩
end C10
