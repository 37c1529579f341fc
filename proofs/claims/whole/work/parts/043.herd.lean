/-! herds -/
def jhs (no : Nat → Nat) (s : Nat) : Nat → Nat | 0 => 0 | k + 1 => jhs no s k + (if s / 2 ^ k % 2 = 1 then no k else 0)
theorem jhs_le {no : Nat → Nat} (s : Nat) : ∀ k, (∀ b, b < k → no b < 256) → jhs no s k ≤ k * 256 := by
  intro k
  induction k with
  | zero => intro _; exact Nat.zero_le _
  | succ k ih =>
    intro h
    have h1 := ih (fun b hb => h b (by omega))
    have h2 := h k (by omega)
    rw [jhs]
    have : (if s / 2 ^ k % 2 = 1 then no k else 0) ≤ 256 := by split <;> omega
    omega
def jct (q : Nat → Bool) : Nat → Nat | 0 => 0 | s + 1 => jct q s + (if q s = true then 1 else 0)
theorem jct_le (q : Nat → Bool) : ∀ n, jct q n ≤ n := by
  intro n
  induction n with
  | zero => exact Nat.le_refl _
  | succ n ih => rw [jct]; split <;> omega
def jfi (q : Nat → Bool) : Nat → Int32 | 0 => -nI 1 | s + 1 => if q s = true then (if jct q s = 0 then nI s else jfi q s) else jfi q s
def jsu (q : Nat → Bool) : Nat → Int32 | 0 => nI 0 | s + 1 => if q s = true then (if jct q s = 0 then nI s else jsu q s &&& nI s) else jsu q s
def jsm (q : Nat → Bool) (B : Nat) : Nat → Int32 | 0 => nI (2 ^ B - 1) | s + 1 => if q s = true then jsm q B s &&& nI s else jsm q B s
theorem jmask : ∀ B, B < 9 → ∀ s, s < 256 → s < 2 ^ B → nI (2 ^ B - 1) &&& nI s = nI s := by decide +kernel
theorem jsm_su (q : Nat → Bool) {B : Nat} (hB : B < 9) : ∀ s, s ≤ 2 ^ B → (jct q s = 0 ∧ jsm q B s = nI (2 ^ B - 1) ∧ jsu q s = nI 0) ∨ (jct q s ≠ 0 ∧ jsm q B s = jsu q s) := by
  have h2 : 2 ^ B ≤ 256 := Nat.pow_le_pow_right (n := 2) (by omega) (by omega : B ≤ 8)
  intro s
  induction s with
  | zero => intro _; exact Or.inl ⟨rfl, rfl, rfl⟩
  | succ s ih =>
    intro hs
    rw [jct, jsm, jsu]
    by_cases hq : q s = true
    · rw [if_pos hq, if_pos hq, if_pos hq]
      right
      rcases ih (by omega) with ⟨h1, h3, -⟩ | ⟨h1, h3⟩
      · refine ⟨by omega, ?_⟩
        rw [h3, if_pos h1]
        exact jmask B hB s (by omega) (by omega)
      · refine ⟨by omega, ?_⟩
        rw [h3, if_neg h1]
    · rw [if_neg hq, if_neg hq, if_neg hq, Nat.add_zero]
      exact ih (by omega)
theorem jct_split (q r : Nat → Bool) : ∀ n, jct (fun s => q s && r s) n + jct (fun s => q s && !r s) n = jct q n := by
  intro n
  induction n with
  | zero => rfl
  | succ n ih =>
    simp only [jct]
    by_cases hq : q n = true <;> by_cases hr : r n = true <;> simp [hq, hr] <;> omega
theorem jaddM {N9 : Nat} (hN : 70000 < N9) {s : Nat} (hs : s < 256) (hw : Nat → Int32) : ∃ hw', pX6_addMembers N9 hw (nI s) = some hw' ∧ ∀ i, i < 8 → hw' i = hw i + nI (s / 2 ^ i % 2) := by
  unfold pX6_addMembers
  have h := jloopR (fun n (f : Nat → Int32) i => pX6_addMembers_2 N9 (nI s) n f i) 8 (fun k f => (∀ i, i < k → f i = hw i + nI (s / 2 ^ i % 2)) ∧ ∀ i, k ≤ i → f i = hw i) (fun f => ∀ i, i < 8 → f i = hw i + nI (s / 2 ^ i % 2)) (fun n k f hk hf => ?_) (fun n f hf => ?_) 8 0 hw N9 (by omega) (by omega) ⟨fun i hi => absurd hi (Nat.not_lt_zero i), fun i _ => rfl⟩
  · exact h
  · have hb := jbit_nI (n := s) (s := k) (by omega) (by omega)
    unfold jbit at hb
    refine ⟨upd f k (f k + nI (s / 2 ^ k % 2)), ?_, fun i hi => ?_, fun i hi => ?_⟩
    · show pX6_addMembers_2 N9 (nI s) (n + 1) f (nI k) = _
      simp only [pX6_addMembers_2, jlit]
      simp (disch := omega) only [jb1, jb2, jb3, jb4, jb5, jb6, jb7, jb8, jb9, jb10, jb11, jb12, jb13, jb14, jb15, jb16, jb17, jb18, jb19, jb20, jb21, jb22, jb23, jb24, jb25, jb26, jb27, jb28, jb29, jb30, jb31, jb32, jb33, jb34, jb35, jb36, jb37, jb38, jb39, jb40, jb41, jb42, jb43, jb44, jb45, jb46, jb47, jb48, jb49, jb50, zlet, jlit, jle_t, jle_f, jlt_t, jlt_f, jeq_t, jeq_f, jeqN_f, jNeq_f, jNN, jN1, jadd, jsub, jzin, jcl, if_true, if_false, ite_true, ite_false, not_true, not_false_iff, not_true_eq_false, not_false_eq_true, jB_t, jB_f, jB0_t, jB0_f, jBa, jand11, jand00, ↓reduceIte, Nat.reduceEqDiff, Nat.reduceAdd, Nat.reduceSub, hb]
    · by_cases hik : i = k
      · subst hik
        rw [pk_us, hf.2 i (Nat.le_refl _)]
      · rw [pk_un hik]
        exact hf.1 i (by omega)
    · rw [pk_un (by omega)]
      exact hf.2 i (by omega)
  · refine ⟨f, ?_, hf.1⟩
    show pX6_addMembers_2 N9 (nI s) (n + 1) f (nI 8) = _
    simp only [pX6_addMembers_2, jlit]
    simp (disch := omega) only [jb1, jb2, jb3, jb4, jb5, jb6, jb7, jb8, jb9, jb10, jb11, jb12, jb13, jb14, jb15, jb16, jb17, jb18, jb19, jb20, jb21, jb22, jb23, jb24, jb25, jb26, jb27, jb28, jb29, jb30, jb31, jb32, jb33, jb34, jb35, jb36, jb37, jb38, jb39, jb40, jb41, jb42, jb43, jb44, jb45, jb46, jb47, jb48, jb49, jb50, zlet, jlit, jle_t, jle_f, jlt_t, jlt_f, jeq_t, jeq_f, jeqN_f, jNeq_f, jNN, jN1, jadd, jsub, jzin, jcl, if_true, if_false, ite_true, ite_false, not_true, not_false_iff, not_true_eq_false, not_false_eq_true, jB_t, jB_f, jB0_t, jB0_f, jBa, jand11, jand00, ↓reduceIte, Nat.reduceEqDiff, Nat.reduceAdd, Nat.reduceSub]
section C11
variable {N9 G L B c n : Nat} {gt nu fo kk vv no bo tk : Nat → Nat} {bk_forgives bk_tolls bk_lengths : Nat → Int32} {bk_numbers : Nat → Nat → Int32} {m_told : Nat → Int32} {m_gate m_list : Nat → Nat → Int32}
variable {lw_kinds lw_values : Nat → Int32} {lw_length m_lawMany : Int32} {m_law : Nat → Nat → Int32} {st_now st_born st_age st_passed st_gone st_took : Nat → Int32} {st_year re ra : Int32} {m_now m_refused : Nat → Int32}
theorem jxsum (hN : 70000 < N9) (hs : jSt G B no bo c tk st_now st_born st_age st_passed st_gone st_took (nI B) st_year (nI c) m_now) {s : Nat} (h256 : s < 256) : pX6_sumOf N9 st_now (nI B) (nI s) = some (nI (jhs no s B)) := by
  obtain ⟨hB, -, h42, -, -, -, -, hno, -⟩ := hs
  unfold pX6_sumOf
  refine jloop0 (fun n a i => pX6_sumOf_4 N9 st_now (nI B) (nI s) n a i) B (fun k => nI (jhs no s k)) (fun n k hk => ?_) (fun n => ?_) (by omega) rfl
  · obtain ⟨h1, -, h3, -⟩ := hno k hk
    have hb := jbit_nI (n := s) (s := k) (by omega) (by omega)
    unfold jbit at hb
    show pX6_sumOf_4 N9 st_now (nI B) (nI s) (n + 1) _ _ = pX6_sumOf_4 N9 st_now (nI B) (nI s) n _ _
    simp only [pX6_sumOf_4, pX6_sumOf_30, jlit]
    rw [if_neg (nI_ge hk (by omega)), hb, jhs]
    by_cases hq : s / 2 ^ k % 2 = 1
    · rw [hq, if_pos rfl, if_pos rfl]
      simp (disch := omega) only [jb1, jb2, jb3, jb4, jb5, jb6, jb7, jb8, jb9, jb10, jb11, jb12, jb13, jb14, jb15, jb16, jb17, jb18, jb19, jb20, jb21, jb22, jb23, jb24, jb25, jb26, jb27, jb28, jb29, jb30, jb31, jb32, jb33, jb34, jb35, jb36, jb37, jb38, jb39, jb40, jb41, jb42, jb43, jb44, jb45, jb46, jb47, jb48, jb49, jb50, zlet, jlit, jle_t, jle_f, jlt_t, jlt_f, jeq_t, jeq_f, jeqN_f, jNeq_f, jNN, jN1, jadd, jsub, jzin, jcl, if_true, if_false, ite_true, ite_false, not_true, not_false_iff, not_true_eq_false, not_false_eq_true, jB_t, jB_f, jB0_t, jB0_f, jBa, jand11, jand00, ↓reduceIte, Nat.reduceEqDiff, Nat.reduceAdd, Nat.reduceSub, h3]
    · rw [if_neg (fun q => hq ((nI_eq (by omega) (by omega)).mp q)), if_neg hq, jadd]
      rfl
  · show pX6_sumOf_4 N9 st_now (nI B) (nI s) (n + 1) _ _ = _
    simp only [pX6_sumOf_4, jlit]
    rw [if_pos (nI_le (Nat.le_refl B) (by omega))]
theorem jmsum (hN : 70000 < N9) (hs : jSt G B no bo c tk st_now st_born st_age st_passed st_gone st_took (nI B) st_year (nI c) m_now) {s : Nat} (h256 : s < 256) : pM_sumOf N9 m_now (nI s) = some (nI (jhs no s B)) := by
  obtain ⟨hB, -, h42, -, -, -, -, hno, -⟩ := hs
  unfold pM_sumOf
  refine jloop0 (fun n a i => pM_sumOf_4 N9 m_now (nI s) n a i) B (fun k => nI (jhs no s k)) (fun n k hk => ?_) (fun n => ?_) (by omega) rfl
  · obtain ⟨h1, -, -, h3, -⟩ := hno k hk
    have hb := jmhas (n := s) (s := k) (by omega) (by omega) N9
    show pM_sumOf_4 N9 m_now (nI s) (n + 1) _ _ = pM_sumOf_4 N9 m_now (nI s) n _ _
    simp only [pM_sumOf_4, pM_sumOf_36, jlit]
    rw [jhs]
    by_cases hq : s / 2 ^ k % 2 = 1
    · simp (disch := omega) only [jb1, jb2, jb3, jb4, jb5, jb6, jb7, jb8, jb9, jb10, jb11, jb12, jb13, jb14, jb15, jb16, jb17, jb18, jb19, jb20, jb21, jb22, jb23, jb24, jb25, jb26, jb27, jb28, jb29, jb30, jb31, jb32, jb33, jb34, jb35, jb36, jb37, jb38, jb39, jb40, jb41, jb42, jb43, jb44, jb45, jb46, jb47, jb48, jb49, jb50, zlet, jlit, jle_t, jle_f, jlt_t, jlt_f, jeq_t, jeq_f, jeqN_f, jNeq_f, jNN, jN1, jadd, jsub, jzin, jcl, if_true, if_false, ite_true, ite_false, not_true, not_false_iff, not_true_eq_false, not_false_eq_true, jB_t, jB_f, jB0_t, jB0_f, jBa, jand11, jand00, ↓reduceIte, Nat.reduceEqDiff, Nat.reduceAdd, Nat.reduceSub, h42, hb, hq, decide_true, Nat.zero_add, h3]
    · simp (disch := omega) only [jb1, jb2, jb3, jb4, jb5, jb6, jb7, jb8, jb9, jb10, jb11, jb12, jb13, jb14, jb15, jb16, jb17, jb18, jb19, jb20, jb21, jb22, jb23, jb24, jb25, jb26, jb27, jb28, jb29, jb30, jb31, jb32, jb33, jb34, jb35, jb36, jb37, jb38, jb39, jb40, jb41, jb42, jb43, jb44, jb45, jb46, jb47, jb48, jb49, jb50, zlet, jlit, jle_t, jle_f, jlt_t, jlt_f, jeq_t, jeq_f, jeqN_f, jNeq_f, jNN, jN1, jadd, jsub, jzin, jcl, if_true, if_false, ite_true, ite_false, not_true, not_false_iff, not_true_eq_false, not_false_eq_true, jB_t, jB_f, jB0_t, jB0_f, jBa, jand11, jand00, ↓reduceIte, Nat.reduceEqDiff, Nat.reduceAdd, Nat.reduceSub, h42, hb, hq, decide_false]
  · show pM_sumOf_4 N9 m_now (nI s) (n + 1) _ _ = _
    simp only [pM_sumOf_4, jlit]
    simp (disch := omega) only [jb1, jb2, jb3, jb4, jb5, jb6, jb7, jb8, jb9, jb10, jb11, jb12, jb13, jb14, jb15, jb16, jb17, jb18, jb19, jb20, jb21, jb22, jb23, jb24, jb25, jb26, jb27, jb28, jb29, jb30, jb31, jb32, jb33, jb34, jb35, jb36, jb37, jb38, jb39, jb40, jb41, jb42, jb43, jb44, jb45, jb46, jb47, jb48, jb49, jb50, zlet, jlit, jle_t, jle_f, jlt_t, jlt_f, jeq_t, jeq_f, jeqN_f, jNeq_f, jNN, jN1, jadd, jsub, jzin, jcl, if_true, if_false, ite_true, ite_false, not_true, not_false_iff, not_true_eq_false, not_false_eq_true, jB_t, jB_f, jB0_t, jB0_f, jBa, jand11, jand00, ↓reduceIte, Nat.reduceEqDiff, Nat.reduceAdd, Nat.reduceSub, h42]
theorem jxherds (hN : 70000 < N9) (hs : jSt G B no bo c tk st_now st_born st_age st_passed st_gone st_took (nI B) st_year (nI c) m_now) (hw0 : Nat → Int32) (a1 a2 a3 : Int32) {t : Nat} (ht : t ≤ 2040) : ∃ hw, pX6_findHerds N9 st_now (nI B) hw0 a1 a2 a3 (nI t) = some (hw, nI (jct (fun s => decide (jhs no s B = t)) (2 ^ B)), jfi (fun s => decide (jhs no s B = t)) (2 ^ B), jsu (fun s => decide (jhs no s B = t)) (2 ^ B)) ∧ ∀ i, i < 8 → hw i = nI (jct (fun s => decide (jhs no s B = t) && decide (s / 2 ^ i % 2 = 1)) (2 ^ B)) := by
  have hB := hs.1
  have hno := hs.2.2.2.2.2.2.2.1
  have hp2 : 2 ^ B ≤ 256 := Nat.pow_le_pow_right (n := 2) (by omega) hB
  have zero : ∀ e k n (f : Nat → Int32), k + e = 8 → e < n → (∀ i, i < k → f i = nI 0) → ∃ f', pX6_findHerds_17 N9 st_now (nI B) (nI t) n f (nI 0) (-nI 1) (nI 0) (nI k) = pX6_findHerds_38 N9 st_now (nI B) (nI t) N9 f' (nI 0) (-nI 1) (nI 0) (nI 0) ∧ ∀ i, i < 8 → f' i = nI 0 := by
    intro e
    induction e with
    | zero =>
      intro k n f h1 h2 h3
      obtain ⟨n, rfl⟩ : ∃ q, n = q + 1 := ⟨n - 1, by omega⟩
      obtain rfl : k = 8 := by omega
      refine ⟨f, ?_, h3⟩
      simp only [pX6_findHerds_17, jlit]
      simp (disch := omega) only [jb1, jb2, jb3, jb4, jb5, jb6, jb7, jb8, jb9, jb10, jb11, jb12, jb13, jb14, jb15, jb16, jb17, jb18, jb19, jb20, jb21, jb22, jb23, jb24, jb25, jb26, jb27, jb28, jb29, jb30, jb31, jb32, jb33, jb34, jb35, jb36, jb37, jb38, jb39, jb40, jb41, jb42, jb43, jb44, jb45, jb46, jb47, jb48, jb49, jb50, zlet, jlit, jle_t, jle_f, jlt_t, jlt_f, jeq_t, jeq_f, jeqN_f, jNeq_f, jNN, jN1, jadd, jsub, jzin, jcl, if_true, if_false, ite_true, ite_false, not_true, not_false_iff, not_true_eq_false, not_false_eq_true, jB_t, jB_f, jB0_t, jB0_f, jBa, jand11, jand00, ↓reduceIte, Nat.reduceEqDiff, Nat.reduceAdd, Nat.reduceSub]
    | succ e ih =>
      intro k n f h1 h2 h3
      obtain ⟨n, rfl⟩ : ∃ q, n = q + 1 := ⟨n - 1, by omega⟩
      obtain ⟨f', e1, e2⟩ := ih (k + 1) n (upd f k (nI 0)) (by omega) (by omega) (fun i hi => by
        by_cases hik : i = k
        · subst hik; exact pk_us
        · rw [pk_un hik]; exact h3 i (by omega))
      refine ⟨f', ?_, e2⟩
      simp only [pX6_findHerds_17, jlit]
      simp (disch := omega) only [jb1, jb2, jb3, jb4, jb5, jb6, jb7, jb8, jb9, jb10, jb11, jb12, jb13, jb14, jb15, jb16, jb17, jb18, jb19, jb20, jb21, jb22, jb23, jb24, jb25, jb26, jb27, jb28, jb29, jb30, jb31, jb32, jb33, jb34, jb35, jb36, jb37, jb38, jb39, jb40, jb41, jb42, jb43, jb44, jb45, jb46, jb47, jb48, jb49, jb50, zlet, jlit, jle_t, jle_f, jlt_t, jlt_f, jeq_t, jeq_f, jeqN_f, jNeq_f, jNN, jN1, jadd, jsub, jzin, jcl, if_true, if_false, ite_true, ite_false, not_true, not_false_iff, not_true_eq_false, not_false_eq_true, jB_t, jB_f, jB0_t, jB0_f, jBa, jand11, jand00, ↓reduceIte, Nat.reduceEqDiff, Nat.reduceAdd, Nat.reduceSub]
      exact e1
  obtain ⟨f', e1, e2⟩ := zero 8 0 N9 hw0 (by omega) (by omega) (fun i hi => absurd hi (Nat.not_lt_zero i))
  have h := jloopR (fun n (x : (Nat → Int32) × Int32 × Int32 × Int32) i => pX6_findHerds_38 N9 st_now (nI B) (nI t) n x.1 x.2.1 x.2.2.1 x.2.2.2 i) (2 ^ B)
    (fun s x => x.2 = (nI (jct (fun s => decide (jhs no s B = t)) s), jfi (fun s => decide (jhs no s B = t)) s, jsu (fun s => decide (jhs no s B = t)) s) ∧ ∀ i, i < 8 → x.1 i = nI (jct (fun s => decide (jhs no s B = t) && decide (s / 2 ^ i % 2 = 1)) s))
    (fun r => ∃ hw, r = (hw, nI (jct (fun s => decide (jhs no s B = t)) (2 ^ B)), jfi (fun s => decide (jhs no s B = t)) (2 ^ B), jsu (fun s => decide (jhs no s B = t)) (2 ^ B)) ∧ ∀ i, i < 8 → hw i = nI (jct (fun s => decide (jhs no s B = t) && decide (s / 2 ^ i % 2 = 1)) (2 ^ B)))
    (fun n s x hs' hx => ?_) (fun n x hx => ?_) (2 ^ B) 0 (f', nI 0, -nI 1, nI 0) N9 (by omega) (by omega) ⟨rfl, e2⟩
  · obtain ⟨r, h1, hw, rfl, h2⟩ := h
    refine ⟨hw, ?_, h2⟩
    unfold pX6_findHerds
    simp only [jlit, jN1]
    rw [e1]
    exact h1
  · obtain ⟨hw, cn, fi, su⟩ := x
    obtain ⟨hx1, hx2⟩ := hx
    obtain ⟨rfl, rfl, rfl⟩ : cn = nI (jct (fun s => decide (jhs no s B = t)) s) ∧ fi = jfi (fun s => decide (jhs no s B = t)) s ∧ su = jsu (fun s => decide (jhs no s B = t)) s := by
      have := hx1
      simp only [Prod.mk.injEq] at this
      exact this
    have hl := jct_le (fun s => decide (jhs no s B = t)) s
    have hsl := jhs_le (no := no) s B (fun b hb => (hno b hb).1)
    obtain ⟨hw', g1, g2⟩ := jaddM hN (s := s) (by omega) hw
    by_cases hq : jhs no s B = t
    · have hq' : decide (jhs no s B = t) = true := decide_eq_true hq
      refine ⟨(hw', nI (jct (fun s => decide (jhs no s B = t)) (s + 1)), jfi (fun s => decide (jhs no s B = t)) (s + 1), jsu (fun s => decide (jhs no s B = t)) (s + 1)), ?_, rfl, fun i hi => ?_⟩
      · show pX6_findHerds_38 N9 st_now (nI B) (nI t) (n + 1) hw (nI (jct (fun s => decide (jhs no s B = t)) s)) (jfi (fun s => decide (jhs no s B = t)) s) (jsu (fun s => decide (jhs no s B = t)) s) (nI s) = pX6_findHerds_38 N9 st_now (nI B) (nI t) n hw' _ _ _ (nI (s + 1))
        simp only [pX6_findHerds_38, pX6_findHerds_73, pX6_findHerds_94, pX6_findHerds_112, jlit]
        rw [jshl B (by omega), if_neg (nI_ge hs' (by omega)), jxsum hN hs (by omega), jb1, hq, if_pos rfl, jct, jfi, jsu, if_pos hq', if_pos hq', if_pos hq', jadd, jadd]
        by_cases h0 : jct (fun s => decide (jhs no s B = t)) s = 0
        · rw [if_pos h0, if_pos h0, h0, if_pos rfl, if_pos rfl, g1, jb1]
        · have h0' : ¬ nI (jct (fun s => decide (jhs no s B = t)) s) = nI 0 := (jeq_f h0 (by omega) (by omega)).mp
          rw [if_neg h0, if_neg h0, if_neg h0', if_neg h0', g1, jb1]
      · show hw' i = _
        have hx3 : hw i = _ := hx2 i hi
        rw [g2 i hi, hx3, jct, jadd]
        congr 2
        rw [hq']
        rcases (by omega : s / 2 ^ i % 2 = 0 ∨ s / 2 ^ i % 2 = 1) with hb | hb
        · rw [hb]; rfl
        · rw [hb]; rfl
    · have hq' : ¬ decide (jhs no s B = t) = true := fun q => hq (of_decide_eq_true q)
      refine ⟨(hw, nI (jct (fun s => decide (jhs no s B = t)) (s + 1)), jfi (fun s => decide (jhs no s B = t)) (s + 1), jsu (fun s => decide (jhs no s B = t)) (s + 1)), ?_, rfl, fun i hi => ?_⟩
      · show pX6_findHerds_38 N9 st_now (nI B) (nI t) (n + 1) hw (nI (jct (fun s => decide (jhs no s B = t)) s)) (jfi (fun s => decide (jhs no s B = t)) s) (jsu (fun s => decide (jhs no s B = t)) s) (nI s) = pX6_findHerds_38 N9 st_now (nI B) (nI t) n hw _ _ _ (nI (s + 1))
        simp only [pX6_findHerds_38, pX6_findHerds_112, jlit]
        rw [jshl B (by omega), if_neg (nI_ge hs' (by omega)), jxsum hN hs (by omega), jb1, if_neg (fun q => hq ((nI_eq (by omega) (by omega)).mp q)), jct, jfi, jsu, if_neg hq', if_neg hq', if_neg hq', jadd]
        rfl
      · show hw i = _
        have hx3 : hw i = _ := hx2 i hi
        rw [hx3, jct]
        rw [show decide (jhs no s B = t) = false from decide_eq_false hq]
        rfl
  · obtain ⟨hw, cn, fi, su⟩ := x
    obtain ⟨hx1, hx2⟩ := hx
    obtain ⟨rfl, rfl, rfl⟩ : cn = nI (jct (fun s => decide (jhs no s B = t)) (2 ^ B)) ∧ fi = jfi (fun s => decide (jhs no s B = t)) (2 ^ B) ∧ su = jsu (fun s => decide (jhs no s B = t)) (2 ^ B) := by
      have := hx1
      simp only [Prod.mk.injEq] at this
      exact this
    refine ⟨_, ?_, hw, rfl, hx2⟩
    show pX6_findHerds_38 N9 st_now (nI B) (nI t) (n + 1) hw _ _ _ (nI (2 ^ B)) = _
    simp only [pX6_findHerds_38, jlit]
    rw [jshl B (by omega), if_pos (nI_le (Nat.le_refl _) (by omega))]
theorem jmherd (hN : 70000 < N9) (hs : jSt G B no bo c tk st_now st_born st_age st_passed st_gone st_took (nI B) st_year (nI c) m_now) {t k2 : Nat} (ht : t ≤ 2040) (hk2 : k2 ≤ 2) (th : Int32) (rf : Nat → Int32) : pM_herd_62 N9 m_now (nI t) (nI k2) N9 th rf (nI 0) (-nI 1) (nI (2 ^ B - 1)) (nI 0) = some (if k2 = 0 then nI (jct (fun s => decide (jhs no s B = t)) (2 ^ B)) else if k2 = 1 then jfi (fun s => decide (jhs no s B = t)) (2 ^ B) else jsu (fun s => decide (jhs no s B = t)) (2 ^ B), th, rf) := by
  have hB := hs.1
  have h42 := hs.2.2.1
  have hno := hs.2.2.2.2.2.2.2.1
  have hp2 : 2 ^ B ≤ 256 := Nat.pow_le_pow_right (n := 2) (by omega) hB
  refine jloop0 (fun n (x : Int32 × Int32 × Int32) i => pM_herd_62 N9 m_now (nI t) (nI k2) n th rf x.1 x.2.1 x.2.2 i) (2 ^ B) (fun s => (nI (jct (fun s => decide (jhs no s B = t)) s), jfi (fun s => decide (jhs no s B = t)) s, jsm (fun s => decide (jhs no s B = t)) B s)) (fun n s hs' => ?_) (fun n => ?_) (by omega) rfl
  · have hl := jct_le (fun s => decide (jhs no s B = t)) s
    have hsl := jhs_le (no := no) s B (fun b hb => (hno b hb).1)
    show pM_herd_62 N9 m_now (nI t) (nI k2) (n + 1) th rf (nI (jct (fun s => decide (jhs no s B = t)) s)) (jfi (fun s => decide (jhs no s B = t)) s) (jsm (fun s => decide (jhs no s B = t)) B s) (nI s) = pM_herd_62 N9 m_now (nI t) (nI k2) n th rf (nI (jct (fun s => decide (jhs no s B = t)) (s + 1))) (jfi (fun s => decide (jhs no s B = t)) (s + 1)) (jsm (fun s => decide (jhs no s B = t)) B (s + 1)) (nI (s + 1))
    simp only [pM_herd_62, pM_herd_100, pM_herd_112, jlit]
    rw [jct, jfi, jsm]
    by_cases hq : jhs no s B = t
    · have hq' : decide (jhs no s B = t) = true := decide_eq_true hq
      rw [if_pos hq', if_pos hq', if_pos hq']
      simp (disch := omega) only [jb1, jb2, jb3, jb4, jb5, jb6, jb7, jb8, jb9, jb10, jb11, jb12, jb13, jb14, jb15, jb16, jb17, jb18, jb19, jb20, jb21, jb22, jb23, jb24, jb25, jb26, jb27, jb28, jb29, jb30, jb31, jb32, jb33, jb34, jb35, jb36, jb37, jb38, jb39, jb40, jb41, jb42, jb43, jb44, jb45, jb46, jb47, jb48, jb49, jb50, zlet, jlit, jle_t, jle_f, jlt_t, jlt_f, jeq_t, jeq_f, jeqN_f, jNeq_f, jNN, jN1, jadd, jsub, jzin, jcl, if_true, if_false, ite_true, ite_false, not_true, not_false_iff, not_true_eq_false, not_false_eq_true, jB_t, jB_f, jB0_t, jB0_f, jBa, jand11, jand00, ↓reduceIte, Nat.reduceEqDiff, Nat.reduceAdd, Nat.reduceSub, h42, jshl, jmsum hN hs (by omega : s < 256), hq]
      by_cases h0 : jct (fun s => decide (jhs no s B = t)) s = 0
      · rw [if_pos h0, h0]
        simp (disch := omega) only [jb1, jb2, jb3, jb4, jb5, jb6, jb7, jb8, jb9, jb10, jb11, jb12, jb13, jb14, jb15, jb16, jb17, jb18, jb19, jb20, jb21, jb22, jb23, jb24, jb25, jb26, jb27, jb28, jb29, jb30, jb31, jb32, jb33, jb34, jb35, jb36, jb37, jb38, jb39, jb40, jb41, jb42, jb43, jb44, jb45, jb46, jb47, jb48, jb49, jb50, zlet, jlit, jle_t, jle_f, jlt_t, jlt_f, jeq_t, jeq_f, jeqN_f, jNeq_f, jNN, jN1, jadd, jsub, jzin, jcl, if_true, if_false, ite_true, ite_false, not_true, not_false_iff, not_true_eq_false, not_false_eq_true, jB_t, jB_f, jB0_t, jB0_f, jBa, jand11, jand00, ↓reduceIte, Nat.reduceEqDiff, Nat.reduceAdd, Nat.reduceSub]
      · rw [if_neg h0]
        simp (disch := omega) only [jb1, jb2, jb3, jb4, jb5, jb6, jb7, jb8, jb9, jb10, jb11, jb12, jb13, jb14, jb15, jb16, jb17, jb18, jb19, jb20, jb21, jb22, jb23, jb24, jb25, jb26, jb27, jb28, jb29, jb30, jb31, jb32, jb33, jb34, jb35, jb36, jb37, jb38, jb39, jb40, jb41, jb42, jb43, jb44, jb45, jb46, jb47, jb48, jb49, jb50, zlet, jlit, jle_t, jle_f, jlt_t, jlt_f, jeq_t, jeq_f, jeqN_f, jNeq_f, jNN, jN1, jadd, jsub, jzin, jcl, if_true, if_false, ite_true, ite_false, not_true, not_false_iff, not_true_eq_false, not_false_eq_true, jB_t, jB_f, jB0_t, jB0_f, jBa, jand11, jand00, ↓reduceIte, Nat.reduceEqDiff, Nat.reduceAdd, Nat.reduceSub, h0]
    · have hq' : ¬ decide (jhs no s B = t) = true := fun q => hq (of_decide_eq_true q)
      rw [if_neg hq', if_neg hq', if_neg hq']
      simp (disch := omega) only [jb1, jb2, jb3, jb4, jb5, jb6, jb7, jb8, jb9, jb10, jb11, jb12, jb13, jb14, jb15, jb16, jb17, jb18, jb19, jb20, jb21, jb22, jb23, jb24, jb25, jb26, jb27, jb28, jb29, jb30, jb31, jb32, jb33, jb34, jb35, jb36, jb37, jb38, jb39, jb40, jb41, jb42, jb43, jb44, jb45, jb46, jb47, jb48, jb49, jb50, zlet, jlit, jle_t, jle_f, jlt_t, jlt_f, jeq_t, jeq_f, jeqN_f, jNeq_f, jNN, jN1, jadd, jsub, jzin, jcl, if_true, if_false, ite_true, ite_false, not_true, not_false_iff, not_true_eq_false, not_false_eq_true, jB_t, jB_f, jB0_t, jB0_f, jBa, jand11, jand00, ↓reduceIte, Nat.reduceEqDiff, Nat.reduceAdd, Nat.reduceSub, h42, jshl, jmsum hN hs (by omega : s < 256), hq, Nat.add_zero]
  · show pM_herd_62 N9 m_now (nI t) (nI k2) (n + 1) th rf (nI (jct (fun s => decide (jhs no s B = t)) (2 ^ B))) (jfi (fun s => decide (jhs no s B = t)) (2 ^ B)) (jsm (fun s => decide (jhs no s B = t)) B (2 ^ B)) (nI (2 ^ B)) = _
    have hl := jct_le (fun s => decide (jhs no s B = t)) (2 ^ B)
    simp only [pM_herd_62, pM_herd_146, jlit]
    simp (disch := omega) only [jb1, jb2, jb3, jb4, jb5, jb6, jb7, jb8, jb9, jb10, jb11, jb12, jb13, jb14, jb15, jb16, jb17, jb18, jb19, jb20, jb21, jb22, jb23, jb24, jb25, jb26, jb27, jb28, jb29, jb30, jb31, jb32, jb33, jb34, jb35, jb36, jb37, jb38, jb39, jb40, jb41, jb42, jb43, jb44, jb45, jb46, jb47, jb48, jb49, jb50, zlet, jlit, jle_t, jle_f, jlt_t, jlt_f, jeq_t, jeq_f, jeqN_f, jNeq_f, jNN, jN1, jadd, jsub, jzin, jcl, if_true, if_false, ite_true, ite_false, not_true, not_false_iff, not_true_eq_false, not_false_eq_true, jB_t, jB_f, jB0_t, jB0_f, jBa, jand11, jand00, ↓reduceIte, Nat.reduceEqDiff, Nat.reduceAdd, Nat.reduceSub, h42, jshl]
    have hk : k2 = 0 ∨ k2 = 1 ∨ k2 = 2 := by omega
    rcases hk with rfl | rfl | rfl
    · simp (disch := omega) only [jb1, jb2, jb3, jb4, jb5, jb6, jb7, jb8, jb9, jb10, jb11, jb12, jb13, jb14, jb15, jb16, jb17, jb18, jb19, jb20, jb21, jb22, jb23, jb24, jb25, jb26, jb27, jb28, jb29, jb30, jb31, jb32, jb33, jb34, jb35, jb36, jb37, jb38, jb39, jb40, jb41, jb42, jb43, jb44, jb45, jb46, jb47, jb48, jb49, jb50, zlet, jlit, jle_t, jle_f, jlt_t, jlt_f, jeq_t, jeq_f, jeqN_f, jNeq_f, jNN, jN1, jadd, jsub, jzin, jcl, if_true, if_false, ite_true, ite_false, not_true, not_false_iff, not_true_eq_false, not_false_eq_true, jB_t, jB_f, jB0_t, jB0_f, jBa, jand11, jand00, ↓reduceIte, Nat.reduceEqDiff, Nat.reduceAdd, Nat.reduceSub]
    · simp (disch := omega) only [jb1, jb2, jb3, jb4, jb5, jb6, jb7, jb8, jb9, jb10, jb11, jb12, jb13, jb14, jb15, jb16, jb17, jb18, jb19, jb20, jb21, jb22, jb23, jb24, jb25, jb26, jb27, jb28, jb29, jb30, jb31, jb32, jb33, jb34, jb35, jb36, jb37, jb38, jb39, jb40, jb41, jb42, jb43, jb44, jb45, jb46, jb47, jb48, jb49, jb50, zlet, jlit, jle_t, jle_f, jlt_t, jlt_f, jeq_t, jeq_f, jeqN_f, jNeq_f, jNN, jN1, jadd, jsub, jzin, jcl, if_true, if_false, ite_true, ite_false, not_true, not_false_iff, not_true_eq_false, not_false_eq_true, jB_t, jB_f, jB0_t, jB0_f, jBa, jand11, jand00, ↓reduceIte, Nat.reduceEqDiff, Nat.reduceAdd, Nat.reduceSub]
    · simp (disch := omega) only [jb1, jb2, jb3, jb4, jb5, jb6, jb7, jb8, jb9, jb10, jb11, jb12, jb13, jb14, jb15, jb16, jb17, jb18, jb19, jb20, jb21, jb22, jb23, jb24, jb25, jb26, jb27, jb28, jb29, jb30, jb31, jb32, jb33, jb34, jb35, jb36, jb37, jb38, jb39, jb40, jb41, jb42, jb43, jb44, jb45, jb46, jb47, jb48, jb49, jb50, zlet, jlit, jle_t, jle_f, jlt_t, jlt_f, jeq_t, jeq_f, jeqN_f, jNeq_f, jNN, jN1, jadd, jsub, jzin, jcl, if_true, if_false, ite_true, ite_false, not_true, not_false_iff, not_true_eq_false, not_false_eq_true, jB_t, jB_f, jB0_t, jB0_f, jBa, jand11, jand00, ↓reduceIte, Nat.reduceEqDiff, Nat.reduceAdd, Nat.reduceSub]
      rcases jsm_su (fun s => decide (jhs no s B = t)) (B := B) (by omega) (2 ^ B) (Nat.le_refl _) with ⟨g1, g2, g3⟩ | ⟨g1, g2⟩
      · rw [g1, g3, if_pos rfl]
      · rw [if_neg (jeq_f g1 (by omega) (by omega)).mp, g2]
theorem jop_herd (hN : 70000 < N9) (hs : jSt G B no bo c tk st_now st_born st_age st_passed st_gone st_took (nI B) st_year (nI c) m_now) (hR : jRf re ra m_refused) (se_herdsWith : Nat → Int32) (se_herds : Int32) (se_firstHerd : Int32) (se_sureBeasts : Int32) (m_thrown : Int32) (x1 : Int32) (x2 : Int32): ∃ z r se_herdsWith1 se_herds1 se_firstHerd1 se_sureBeasts1 ra1 q th rf1, pX9_herd N9 st_now (nI B) se_herdsWith se_herds se_firstHerd se_sureBeasts ra x1 x2 = some (z, r, se_herdsWith1, se_herds1, se_firstHerd1, se_sureBeasts1, ra1) ∧ pM_herd N9 m_thrown m_refused m_now x1 x2 = some (q, th, rf1) ∧ jOutA z th r q ∧ jRf re ra1 rf1 := by
  unfold pX9_herd pM_herd pX9_herd_25 pM_herd_26
  simp only [jlit]
  have hB := hs.1
  have h42 := hs.2.2.1
  have hp : 1 ≤ 2 ^ B := Nat.one_le_two_pow
  have hp2 : 2 ^ B ≤ 256 := Nat.pow_le_pow_right (n := 2) (by omega) hB
  rcases jcase_a N9 (a := 2040) (by omega) x1 with ⟨t, ht, rfl, h1, h2⟩ | ⟨h1, h2⟩
  · rcases jcase_a N9 (a := 2) (by omega) x2 with ⟨k2, hk2, rfl, h3, h4⟩ | ⟨h3, h4⟩
    · rw [h1, jb1, if_neg j10, h3, jb1, if_neg j10, h2, jb1, if_neg j10, h4, jb1, if_neg j10]
      unfold pX9_herd_26 pX9_herd_75 pM_herd_31
      simp only [jlit, jN1]
      obtain ⟨hw, e1, e2⟩ := jxherds hN hs se_herdsWith se_herds se_firstHerd se_sureBeasts ht
      rw [jnA1, jb2, if_pos rfl, jbadO, jb3, if_pos rfl, e1, jb4]
      simp (disch := omega) only [jb1, jb2, jb3, jb4, jb5, jb6, jb7, jb8, jb9, jb10, jb11, jb12, jb13, jb14, jb15, jb16, jb17, jb18, jb19, jb20, jb21, jb22, jb23, jb24, jb25, jb26, jb27, jb28, jb29, jb30, jb31, jb32, jb33, jb34, jb35, jb36, jb37, jb38, jb39, jb40, jb41, jb42, jb43, jb44, jb45, jb46, jb47, jb48, jb49, jb50, zlet, jlit, jle_t, jle_f, jlt_t, jlt_f, jeq_t, jeq_f, jeqN_f, jNeq_f, jNN, jN1, jadd, jsub, jzin, jcl, if_true, if_false, ite_true, ite_false, not_true, not_false_iff, not_true_eq_false, not_false_eq_true, jB_t, jB_f, jB0_t, jB0_f, jBa, jand11, jand00, ↓reduceIte, Nat.reduceEqDiff, Nat.reduceAdd, Nat.reduceSub, h42, jshl]
      rw [jmherd hN hs ht hk2]
      have hk : k2 = 0 ∨ k2 = 1 ∨ k2 = 2 := by omega
      rcases hk with rfl | rfl | rfl
      all_goals
        simp (disch := omega) only [jb1, jb2, jb3, jb4, jb5, jb6, jb7, jb8, jb9, jb10, jb11, jb12, jb13, jb14, jb15, jb16, jb17, jb18, jb19, jb20, jb21, jb22, jb23, jb24, jb25, jb26, jb27, jb28, jb29, jb30, jb31, jb32, jb33, jb34, jb35, jb36, jb37, jb38, jb39, jb40, jb41, jb42, jb43, jb44, jb45, jb46, jb47, jb48, jb49, jb50, zlet, jlit, jle_t, jle_f, jlt_t, jlt_f, jeq_t, jeq_f, jeqN_f, jNeq_f, jNN, jN1, jadd, jsub, jzin, jcl, if_true, if_false, ite_true, ite_false, not_true, not_false_iff, not_true_eq_false, not_false_eq_true, jB_t, jB_f, jB0_t, jB0_f, jBa, jand11, jand00, ↓reduceIte, Nat.reduceEqDiff, Nat.reduceAdd, Nat.reduceSub]
        exact ⟨_, _, _, _, _, _, _, _, _, _, rfl, rfl, Or.inl ⟨rfl, rfl, rfl⟩, hR⟩
    · rw [h1, jb1, if_neg j10, h3, jb1, if_pos rfl, h2, jb1, if_neg j10, h4, jb1, if_pos rfl]
      unfold pX9_herd_26 pX9_herd_75 pM_herd_31
      simp only [jlit]
      rw [jnA0, jb2, if_neg j20, jbadA, jb3, if_neg j10]
      exact ⟨_, _, _, _, _, _, _, _, _, _, rfl, rfl, Or.inr ⟨rfl, rfl⟩, hR.arg⟩
  · rw [h1, jb1, if_pos rfl, h2, jb1, if_pos rfl]
    unfold pX9_herd_26 pX9_herd_75 pM_herd_31
    simp only [jlit]
    rw [jnA0, jb2, if_neg j20, jbadA, jb3, if_neg j10]
    exact ⟨_, _, _, _, _, _, _, _, _, _, rfl, rfl, Or.inr ⟨rfl, rfl⟩, hR.arg⟩
end C11
