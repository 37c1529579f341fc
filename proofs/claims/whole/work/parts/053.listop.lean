/-! list, the call -/
section LO
variable {N9 G L B c n : Nat} {gt nu fo kk vv no bo tk : Nat → Nat} {bk_forgives bk_tolls bk_lengths : Nat → Int32} {bk_numbers : Nat → Nat → Int32} {m_told : Nat → Int32} {m_gate m_list : Nat → Nat → Int32}
variable {lw_kinds lw_values : Nat → Int32} {lw_length m_lawMany : Int32} {m_law : Nat → Nat → Int32} {st_now st_born st_age st_passed st_gone st_took : Nat → Int32} {st_year re ra : Int32} {m_now m_refused : Nat → Int32}
theorem jMinB.dom {P Q : Nat → Prop} {t : Nat} {o : Int32} (h : jMinB P t o) (h1 : ∀ n, P n → Q n) (h2 : ∀ n, Q n → ∃ m, m ≤ n ∧ P m) : jMinB Q t o := by
  rcases h with ⟨q1, q2⟩ | ⟨n, q0, q1, q2, q3⟩
  · refine Or.inl ⟨q1, fun n hn => ?_⟩
    obtain ⟨m, -, hm⟩ := h2 n hn
    exact q2 m hm
  · refine Or.inr ⟨n, q0, q1, h1 n q2, fun n' hn => ?_⟩
    obtain ⟨m, e1, e2⟩ := h2 n' hn
    have := q3 m e2
    omega
def jPm (Gd : Nat → Prop) (gn : Nat → Nat) (s t n : Nat) : Prop := (t = 0 ∧ n = 0) ∨ ∃ n' t' u, n = n' + 1 ∧ t' < s ∧ jU Gd gn n' t' ∧ Gd u ∧ t = t' ||| gn u
theorem jPm_U {Gd : Nat → Prop} {gn : Nat → Nat} {s t n : Nat} (h : jPm Gd gn s t n) : jU Gd gn n t := by
  rcases h with ⟨rfl, rfl⟩ | ⟨n', t', u, rfl, -, h1, h2, h3⟩
  · rfl
  · exact ⟨t', u, h1, h2, h3⟩
theorem jU_Pm {Gd : Nat → Prop} {gn : Nat → Nat} {s : Nat} : ∀ n, jU Gd gn n s → ∃ m, m ≤ n ∧ jPm Gd gn s s m := by
  intro n
  induction n with
  | zero => intro h; exact ⟨0, Nat.le_refl _, Or.inl ⟨h, rfl⟩⟩
  | succ n ih =>
    rintro ⟨t', u, h1, h2, h3⟩
    have hle : t' ≤ s := by rw [h3]; exact Nat.left_le_or
    by_cases hlt : t' < s
    · exact ⟨n + 1, Nat.le_refl _, Or.inr ⟨n, t', u, rfl, hlt, h1, h2, h3⟩⟩
    · have : t' = s := by omega
      subst this
      obtain ⟨m, m1, m2⟩ := ih h1
      exact ⟨m, by omega, m2⟩
theorem jPm_mono {Gd : Nat → Prop} {gn : Nat → Nat} {s s' t n : Nat} (hs : s ≤ s') (h : jPm Gd gn s t n) : jPm Gd gn s' t n := by
  rcases h with h | ⟨n', t', u, h0, h1, h2⟩
  · exact Or.inl h
  · exact Or.inr ⟨n', t', u, h0, by omega, h2⟩
theorem jmshort (hN : 70000 < N9) (hs : jSt G B no bo c tk st_now st_born st_age st_passed st_gone st_took (nI B) st_year (nI c) m_now) {k x : Nat} (hk : k ≤ 8) (hxB : x < 2 ^ B) (fw0 : Nat → Int32) (th : Int32) (rf : Nat → Int32) : ∃ o fw, pM_list_40 N9 m_now (nI x) (nI k) N9 th rf fw0 (nI 0) = some (o, th, rf, fw) ∧ jMin (fun n => jU (jGd no B k x) (jgnn no B k) n x) o := by
  have hB := hs.1
  have h42 := hs.2.2.1
  have hp2 : 2 ^ B ≤ 256 := Nat.pow_le_pow_right (n := 2) (by omega) hB
  have init : ∀ e i n (f : Nat → Int32), i + e = 256 → e < n → (∀ t, t < i → f t = if t = 0 then nI 0 else -nI 1) → ∃ f', pM_list_40 N9 m_now (nI x) (nI k) n th rf f (nI i) = pM_list_70 N9 th rf m_now (nI x) (nI k) N9 f' (nI 0) ∧ ∀ t, t < 256 → f' t = if t = 0 then nI 0 else -nI 1 := by
    intro e
    induction e with
    | zero =>
      intro i n f h1 h2 h3
      obtain ⟨n, rfl⟩ : ∃ q, n = q + 1 := ⟨n - 1, by omega⟩
      obtain rfl : i = 256 := by omega
      refine ⟨f, ?_, h3⟩
      simp only [pM_list_40, jlit]
      rw [if_pos (nI_le (Nat.le_refl 256) (by omega))]
    | succ e ih =>
      intro i n f h1 h2 h3
      obtain ⟨n, rfl⟩ : ∃ q, n = q + 1 := ⟨n - 1, by omega⟩
      obtain ⟨f', e1, e2⟩ := ih (i + 1) n (upd f i (if i = 0 then nI 0 else -nI 1)) (by omega) (by omega) (fun t ht => by
        by_cases hti : t = i
        · subst hti; exact pk_us
        · rw [pk_un hti]; exact h3 t (by omega))
      refine ⟨f', ?_, e2⟩
      rw [← e1]
      simp only [pM_list_40, pM_list_61, jlit, jN1]
      by_cases h0 : i = 0
      · simp (disch := omega) only [jb1, jb2, jb3, jb4, jb5, jb6, jb7, jb8, jb9, jb10, jb11, jb12, jb13, jb14, jb15, jb16, jb17, jb18, jb19, jb20, jb21, jb22, jb23, jb24, jb25, jb26, jb27, jb28, jb29, jb30, jb31, jb32, jb33, jb34, jb35, jb36, jb37, jb38, jb39, jb40, jb41, jb42, jb43, jb44, jb45, jb46, jb47, jb48, jb49, jb50, zlet, jlit, jle_t, jle_f, jlt_t, jlt_f, jeq_t, jeq_f, jeqN_f, jNeq_f, jNN, jN1, jadd, jsub, jzin, jcl, if_true, if_false, ite_true, ite_false, not_true, not_false_iff, not_true_eq_false, not_false_eq_true, jB_t, jB_f, jB0_t, jB0_f, jBa, jand11, jand00, ↓reduceIte, Nat.reduceEqDiff, Nat.reduceAdd, Nat.reduceSub, h0]
      · simp (disch := omega) only [jb1, jb2, jb3, jb4, jb5, jb6, jb7, jb8, jb9, jb10, jb11, jb12, jb13, jb14, jb15, jb16, jb17, jb18, jb19, jb20, jb21, jb22, jb23, jb24, jb25, jb26, jb27, jb28, jb29, jb30, jb31, jb32, jb33, jb34, jb35, jb36, jb37, jb38, jb39, jb40, jb41, jb42, jb43, jb44, jb45, jb46, jb47, jb48, jb49, jb50, zlet, jlit, jle_t, jle_f, jlt_t, jlt_f, jeq_t, jeq_f, jeqN_f, jNeq_f, jNN, jN1, jadd, jsub, jzin, jcl, if_true, if_false, ite_true, ite_false, not_true, not_false_iff, not_true_eq_false, not_false_eq_true, jB_t, jB_f, jB0_t, jB0_f, jBa, jand11, jand00, ↓reduceIte, Nat.reduceEqDiff, Nat.reduceAdd, Nat.reduceSub, h0]
  obtain ⟨f', e1, e2⟩ := init 256 0 N9 fw0 (by omega) (by omega) (fun t ht => absurd ht (Nat.not_lt_zero t))
  have outer : ∀ e s n (fw : Nat → Int32), s + e = 2 ^ B → e < n → (∀ t, t < 256 → jMinB (jPm (jGd no B k x) (jgnn no B k) s t) t (fw t)) → ∃ o fw', pM_list_70 N9 th rf m_now (nI x) (nI k) n fw (nI s) = some (o, th, rf, fw') ∧ jMinB (jPm (jGd no B k x) (jgnn no B k) (2 ^ B) x) x o := by
    intro e
    induction e with
    | zero =>
      intro s n fw h1 h2 h3
      obtain ⟨n, rfl⟩ : ∃ q, n = q + 1 := ⟨n - 1, by omega⟩
      obtain rfl : s = 2 ^ B := by omega
      refine ⟨fw x, fw, ?_, h3 x (by omega)⟩
      simp only [pM_list_70, jlit]
      simp (disch := omega) only [jb1, jb2, jb3, jb4, jb5, jb6, jb7, jb8, jb9, jb10, jb11, jb12, jb13, jb14, jb15, jb16, jb17, jb18, jb19, jb20, jb21, jb22, jb23, jb24, jb25, jb26, jb27, jb28, jb29, jb30, jb31, jb32, jb33, jb34, jb35, jb36, jb37, jb38, jb39, jb40, jb41, jb42, jb43, jb44, jb45, jb46, jb47, jb48, jb49, jb50, zlet, jlit, jle_t, jle_f, jlt_t, jlt_f, jeq_t, jeq_f, jeqN_f, jNeq_f, jNN, jN1, jadd, jsub, jzin, jcl, if_true, if_false, ite_true, ite_false, not_true, not_false_iff, not_true_eq_false, not_false_eq_true, jB_t, jB_f, jB0_t, jB0_f, jBa, jand11, jand00, ↓reduceIte, Nat.reduceEqDiff, Nat.reduceAdd, Nat.reduceSub, h42, jshl]
    | succ e ih =>
      intro s n fw h1 h2 h3
      obtain ⟨n, rfl⟩ : ∃ q, n = q + 1 := ⟨n - 1, by omega⟩
      rcases h3 s (by omega) with ⟨q1, q2⟩ | ⟨v, q0, q1, q2, q3⟩
      · obtain ⟨o, fw', a1, a2⟩ := ih (s + 1) n fw (by omega) (by omega) (fun t ht => (h3 t ht).congr (fun n0 => by
          constructor
          · exact jPm_mono (by omega)
          · rintro (z | ⟨n', t', u, z0, z1, z2, z3⟩)
            · exact Or.inl z
            · refine Or.inr ⟨n', t', u, z0, ?_, z2, z3⟩
              by_cases hts : t' = s
              · subst hts
                obtain ⟨m, -, hm⟩ := jU_Pm n' z2
                exact absurd hm (q2 m)
              · omega))
        refine ⟨o, fw', ?_, a2⟩
        rw [← a1]
        simp only [pM_list_70, pM_list_184, jlit, jN1]
        simp (disch := omega) only [jb1, jb2, jb3, jb4, jb5, jb6, jb7, jb8, jb9, jb10, jb11, jb12, jb13, jb14, jb15, jb16, jb17, jb18, jb19, jb20, jb21, jb22, jb23, jb24, jb25, jb26, jb27, jb28, jb29, jb30, jb31, jb32, jb33, jb34, jb35, jb36, jb37, jb38, jb39, jb40, jb41, jb42, jb43, jb44, jb45, jb46, jb47, jb48, jb49, jb50, zlet, jlit, jle_t, jle_f, jlt_t, jlt_f, jeq_t, jeq_f, jeqN_f, jNeq_f, jNN, jN1, jadd, jsub, jzin, jcl, if_true, if_false, ite_true, ite_false, not_true, not_false_iff, not_true_eq_false, not_false_eq_true, jB_t, jB_f, jB0_t, jB0_f, jBa, jand11, jand00, ↓reduceIte, Nat.reduceEqDiff, Nat.reduceAdd, Nat.reduceSub, h42, jshl, q1]
      · have hne : ¬ fw s = -nI 1 := by rw [q1]; exact (jeqN_f (by omega)).mp
        obtain ⟨fw1, b1, b2, b3⟩ := jmlist_in hN hs hk (by omega : x < 256) (by omega : s < 256) q0 (jPm (jGd no B k x) (jgnn no B k) s) (pM_list_184 N9 (nI x) (nI k) (pM_list_70 N9 th rf m_now (nI x) (nI k) n)) 256 0 N9 fw (by omega) (by omega) q1 (fun t ht => (h3 t ht).congr (fun n0 => by
          constructor
          · exact Or.inl
          · rintro (z | ⟨-, u, u1, -⟩)
            · exact z
            · exact absurd u1 (Nat.not_lt_zero u)))
        obtain ⟨o, fw', a1, a2⟩ := ih (s + 1) n fw1 (by omega) (by omega) (fun t ht => (b3 t ht).dom (fun n0 => by
          rintro (z | ⟨rfl, u, u1, u2, u3⟩)
          · exact jPm_mono (by omega) z
          · exact Or.inr ⟨v, s, u, rfl, by omega, jPm_U q2, ⟨u1, u2⟩, u3⟩) (fun n0 => by
          rintro (z | ⟨n', t', u, rfl, z1, z2, z3, z4⟩)
          · exact ⟨n0, Nat.le_refl _, Or.inl (Or.inl z)⟩
          · by_cases hts : t' = s
            · subst hts
              obtain ⟨m, m1, m2⟩ := jU_Pm n' z2
              have := q3 m m2
              exact ⟨v + 1, by omega, Or.inr ⟨rfl, u, z3.1, z3.2, z4⟩⟩
            · exact ⟨n' + 1, Nat.le_refl _, Or.inl (Or.inr ⟨n', t', u, rfl, by omega, z2, z3, z4⟩)⟩))
        refine ⟨o, fw', ?_, a2⟩
        rw [← a1]
        have b1' : pM_list_99 N9 m_now (nI x) (nI k) (pM_list_184 N9 (nI x) (nI k) (pM_list_70 N9 th rf m_now (nI x) (nI k) n)) N9 fw (nI s) (nI 0) = pM_list_70 N9 th rf m_now (nI x) (nI k) n fw1 (nI (s + 1)) := by
          rw [b1]
          simp only [pM_list_184, jlit]
          rw [jadd]
        rw [← b1']
        simp only [pM_list_70, jlit, jN1]
        simp (disch := omega) only [jb1, jb2, jb3, jb4, jb5, jb6, jb7, jb8, jb9, jb10, jb11, jb12, jb13, jb14, jb15, jb16, jb17, jb18, jb19, jb20, jb21, jb22, jb23, jb24, jb25, jb26, jb27, jb28, jb29, jb30, jb31, jb32, jb33, jb34, jb35, jb36, jb37, jb38, jb39, jb40, jb41, jb42, jb43, jb44, jb45, jb46, jb47, jb48, jb49, jb50, zlet, jlit, jle_t, jle_f, jlt_t, jlt_f, jeq_t, jeq_f, jeqN_f, jNeq_f, jNN, jN1, jadd, jsub, jzin, jcl, if_true, if_false, ite_true, ite_false, not_true, not_false_iff, not_true_eq_false, not_false_eq_true, jB_t, jB_f, jB0_t, jB0_f, jBa, jand11, jand00, ↓reduceIte, Nat.reduceEqDiff, Nat.reduceAdd, Nat.reduceSub, h42, jshl, hne]
  obtain ⟨o, fw, a1, a2⟩ := outer (2 ^ B) 0 N9 f' (by omega) (by omega) (fun t ht => by
    rw [e2 t ht]
    by_cases h0 : t = 0
    · rw [if_pos h0]
      exact Or.inr ⟨0, Nat.zero_le _, rfl, Or.inl ⟨h0, rfl⟩, fun m _ => Nat.zero_le _⟩
    · rw [if_neg h0]
      refine Or.inl ⟨rfl, ?_⟩
      rintro n0 (⟨z, -⟩ | ⟨n', t', u, -, z1, -⟩)
      · exact h0 z
      · exact absurd z1 (Nat.not_lt_zero t'))
  refine ⟨o, fw, by rw [e1]; exact a1, (a2.dom (fun n0 => jPm_U) (fun n0 hn => ?_)).min⟩
  obtain ⟨m, m1, m2⟩ := jU_Pm n0 hn
  exact ⟨m, m1, jPm_mono (by omega) m2⟩
theorem jop_list (hN : 70000 < N9) (hs : jSt G B no bo c tk st_now st_born st_age st_passed st_gone st_took (nI B) st_year (nI c) m_now) (hR : jRf re ra m_refused) (se_least : Nat → Int32) (se_groups : Nat → Int32) (m_thrown : Int32) (m_fewest : Nat → Int32) (x1 : Int32) (x2 : Int32): ∃ z r se_least1 se_groups1 ra1 q th rf1 m_fewest1, pX9_list N9 st_now (nI B) se_least se_groups ra x1 x2 = some (z, r, se_least1, se_groups1, ra1) ∧ pM_list N9 m_thrown m_refused m_now m_fewest x1 x2 = some (q, th, rf1, m_fewest1) ∧ jOutA z th r q ∧ jRf re ra1 rf1 := by
  have hB := hs.1
  have hp2 : 2 ^ B ≤ 256 := Nat.pow_le_pow_right (n := 2) (by omega) hB
  unfold pX9_list pM_list pX9_list_22 pX9_list_23 pM_list_23 pM_list_28
  simp only [jlit]
  rcases jcase_s (N9 := N9) hs x1 with ⟨x, hx, rfl, h1, h2⟩ | ⟨h1, h2⟩
  · rcases jcase_a N9 (a := 3) (by omega) x2 with ⟨k, hk3, rfl, h3, h4⟩ | ⟨h3, h4⟩
    · obtain ⟨o, le, gr, e1, e2⟩ := jxshort hN hs (k := k) (by omega) (by omega : x < 256) se_least se_groups
      obtain ⟨o', fw, e3, e4⟩ := jmshort hN hs (k := k) (by omega) hx m_fewest (nI 0) m_refused
      have hsub : ∀ u, jGd no B k x u → ∀ i, (jgnn no B k u).testBit i = true → x.testBit i = true := by
        rintro u ⟨-, -, h6⟩ i hi
        rw [jgr_n hB, (jandn _ (jgnn_lt hB u) x (by omega)).1] at h6
        have h7 : jdf2 (jgnn no B k u) x = 0 := (nI_eq (by have := (jandn _ (jgnn_lt (no := no) (k := k) hB u) x (by omega)).2; have := jgnn_lt (no := no) (k := k) hB u; omega) (by omega)).mp h6
        have h8 := jdf2_bit (jgnn no B k u) x i
        rw [h7, Nat.zero_testBit, hi] at h8
        cases hxi : x.testBit i with
        | true => rfl
        | false => rw [hxi] at h8; exact absurd h8 (by decide)
      have e5 := jMin_uniq (jMin_congr e4 (fun n => jU_iff_cov hsub n)) e2
      rw [h1, jb1, if_neg j10, h3, jb1, if_neg j10, jnA1, jb2, if_pos rfl, h2, jb1, if_neg j10, h4, jb1, if_neg j10, jbadO, jb3, if_pos rfl, e1, jb3, e3, e5]
      exact ⟨_, _, _, _, _, _, _, _, _, rfl, rfl, Or.inl ⟨rfl, rfl, rfl⟩, hR⟩
    · rw [h1, jb1, if_neg j10, h3, jb1, if_pos rfl, jnA0, jb2, if_neg j20, h2, jb1, if_neg j10, h4, jb1, if_pos rfl, jbadA, jb3, if_neg j10]
      exact ⟨_, _, _, _, _, _, _, _, _, rfl, rfl, Or.inr ⟨rfl, rfl⟩, hR.arg⟩
  · rw [h1, jb1, if_pos rfl, jnA0, jb2, if_neg j20, h2, jb1, if_pos rfl, jbadA, jb3, if_neg j10]
    exact ⟨_, _, _, _, _, _, _, _, _, rfl, rfl, Or.inr ⟨rfl, rfl⟩, hR.arg⟩
end LO
