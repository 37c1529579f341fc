/-! the class's least list -/
theorem jandn : ∀ s, s < 256 → ∀ g, g < 256 → (nI s &&& (nI g ^^^ -nI 1) = nI (jdf2 s g) ∧ jdf2 s g ≤ s) := by decide +kernel
theorem jlowb : ∀ s, s < 256 → s = 0 ∨ ∃ l, l < 8 ∧ nI s &&& -nI s = nI (2 ^ l) ∧ s.testBit l = true := by decide +kernel
theorem jhasb : ∀ g, g < 256 → ∀ l, l < 8 → (nI g &&& nI (2 ^ l) = nI 0 ↔ g.testBit l = false) := by decide +kernel
section LX
variable {N9 G L B c n : Nat} {gt nu fo kk vv no bo tk : Nat → Nat} {bk_forgives bk_tolls bk_lengths : Nat → Int32} {bk_numbers : Nat → Nat → Int32} {m_told : Nat → Int32} {m_gate m_list : Nat → Nat → Int32}
variable {lw_kinds lw_values : Nat → Int32} {lw_length m_lawMany : Int32} {m_law : Nat → Nat → Int32} {st_now st_born st_age st_passed st_gone st_took : Nat → Int32} {st_year re ra : Int32} {m_now m_refused : Nat → Int32}
def jMinB (P : Nat → Prop) (t : Nat) (o : Int32) : Prop := (o = -nI 1 ∧ ∀ n, ¬ P n) ∨ ∃ n, n ≤ t ∧ o = nI n ∧ P n ∧ ∀ m, P m → n ≤ m
theorem jMinB.min {P : Nat → Prop} {t : Nat} {o : Int32} (h : jMinB P t o) : jMin P o := by
  rcases h with h | ⟨n, -, h⟩
  · exact Or.inl h
  · exact Or.inr ⟨n, h⟩
/-- what the first j groups give for the set s -/
def jPart (Gd : Nat → Prop) (gn : Nat → Nat) (us : Nat → Nat) (s l j n : Nat) : Prop := ∃ n' i, n = n' + 1 ∧ i < j ∧ (gn (us i)).testBit l = true ∧ jCov Gd gn n' (jdf2 s (gn (us i)))
theorem jxshort_in (hN : 70000 < N9) {Gd : Nat → Prop} {gn us : Nat → Nat} {gr : Nat → Int32} {m s l : Nat} (hm : m ≤ 256) (hs : s < 256) (hl8 : l < 8) (hl : s.testBit l = true) (hgr : ∀ i, i < m → gn (us i) < 256 ∧ gr i = nI (gn (us i))) (x2 : Int32) (k19 : (Nat → Int32) → (Nat → Int32) → Int32 → Int32 → Option (Int32 × (Nat → Int32) × (Nat → Int32))) :
    ∀ e j n (le : Nat → Int32), j + e = m → e < n → (∀ t, t < s → jMinB (fun n => jCov Gd gn n t) t (le t)) → jMinB (jPart Gd gn us s l j) s (le s) →
      ∃ le', pX6_shortestList_44 N9 gr x2 (nI m) k19 n le (nI s) (nI (2 ^ l)) (nI j) = k19 le' gr (nI m) (nI (s + 1)) ∧ (∀ t, t ≠ s → le' t = le t) ∧ jMinB (jPart Gd gn us s l m) s (le' s) := by
  intro e
  induction e with
  | zero =>
    intro j n le h1 h2 h3 h4
    obtain ⟨n, rfl⟩ : ∃ q, n = q + 1 := ⟨n - 1, by omega⟩
    obtain rfl : j = m := by omega
    refine ⟨le, ?_, fun t _ => rfl, h4⟩
    simp only [pX6_shortestList_44, jlit]
    rw [if_pos (nI_le (Nat.le_refl j) (by omega)), jadd]
  | succ e ih =>
    intro j n le h1 h2 h3 h4
    obtain ⟨n, rfl⟩ : ∃ q, n = q + 1 := ⟨n - 1, by omega⟩
    obtain ⟨g1, g2⟩ := hgr j (by omega)
    obtain ⟨d1, d2⟩ := jandn s hs _ g1
    have hb := jhasb _ g1 l hl8
    -- a group that adds nothing
    have skip : (∀ n', ¬ ((gn (us j)).testBit l = true ∧ jCov Gd gn n' (jdf2 s (gn (us j))) ∧ ∀ q, le s = nI q → q ≤ s → n' + 1 < q) ∧ (le s = -nI 1 → ¬ ((gn (us j)).testBit l = true ∧ jCov Gd gn n' (jdf2 s (gn (us j)))))) → jMinB (jPart Gd gn us s l (j + 1)) s (le s) := by
      intro hk
      rcases h4 with ⟨q1, q2⟩ | ⟨q, q0, q1, q2, q3⟩
      · refine Or.inl ⟨q1, ?_⟩
        rintro n0 ⟨n', i, rfl, i1, i2, i3⟩
        by_cases hij : i = j
        · subst hij; exact (hk n').2 q1 ⟨i2, i3⟩
        · exact q2 _ ⟨n', i, rfl, by omega, i2, i3⟩
      · refine Or.inr ⟨q, q0, q1, ?_, ?_⟩
        · obtain ⟨n', i, e1, i1, i2, i3⟩ := q2
          exact ⟨n', i, e1, by omega, i2, i3⟩
        · rintro n0 ⟨n', i, rfl, i1, i2, i3⟩
          by_cases hij : i = j
          · subst hij
            by_cases hlt : n' + 1 < q
            · exact absurd ⟨i2, i3, fun q' e1 e2 => by
                have : q = q' := (nI_eq (by omega) (by omega)).mp (q1.symm.trans e1)
                omega⟩ (hk n').1
            · omega
          · exact q3 _ ⟨n', i, rfl, by omega, i2, i3⟩
    simp only [pX6_shortestList_44, pX6_shortestList_114, pX6_shortestList_125, jlit, jN1]
    rw [if_neg (nI_ge (by omega) (by omega))]
    simp (disch := omega) only [jb1, jb2, jb3, jb4, jb5, jb6, jb7, jb8, jb9, jb10, jb11, jb12, jb13, jb14, jb15, jb16, jb17, jb18, jb19, jb20, jb21, jb22, jb23, jb24, jb25, jb26, jb27, jb28, jb29, jb30, jb31, jb32, jb33, jb34, jb35, jb36, jb37, jb38, jb39, jb40, jb41, jb42, jb43, jb44, jb45, jb46, jb47, jb48, jb49, jb50, zlet, jlit, jle_t, jle_f, jlt_t, jlt_f, jeq_t, jeq_f, jeqN_f, jNeq_f, jNN, jN1, jadd, jsub, jzin, jcl, if_true, if_false, ite_true, ite_false, not_true, not_false_iff, not_true_eq_false, not_false_eq_true, jB_t, jB_f, jB0_t, jB0_f, jBa, jand11, jand00, ↓reduceIte, Nat.reduceEqDiff, Nat.reduceAdd, Nat.reduceSub, g2, d1]
    by_cases hbit : (gn (us j)).testBit l = true
    · have hb' : ¬ (nI (gn (us j)) &&& nI (2 ^ l) = nI 0) := fun q => by rw [hb.mp q] at hbit; exact absurd hbit (by decide)
      rw [if_neg hb']
      have hlt : jdf2 s (gn (us j)) < s := by
        have hne : jdf2 s (gn (us j)) ≠ s := by
          intro q
          have := jdf2_bit s (gn (us j)) l
          rw [q, hl, hbit] at this
          exact absurd this (by decide)
        omega
      rcases h3 _ hlt with ⟨v1, v2⟩ | ⟨v, v0, v1, v2, v3⟩
      · rw [v1, if_pos rfl]
        exact ih (j + 1) n le (by omega) (by omega) h3 (skip (fun n' => ⟨fun q => v2 _ q.2.1, fun _ q => v2 _ q.2⟩))
      · have hne : ¬ nI v = -nI 1 := (jeqN_f (by omega)).mp
        rw [v1, if_neg hne, jadd]
        have better : jMinB (jPart Gd gn us s l (j + 1)) s (nI (v + 1)) → ∃ le', pX6_shortestList_44 N9 gr x2 (nI m) k19 n (upd le s (nI (v + 1))) (nI s) (nI (2 ^ l)) (nI (j + 1)) = k19 le' gr (nI m) (nI (s + 1)) ∧ (∀ t, t ≠ s → le' t = le t) ∧ jMinB (jPart Gd gn us s l m) s (le' s) := by
          intro hq
          obtain ⟨le', a1, a2, a3⟩ := ih (j + 1) n (upd le s (nI (v + 1))) (by omega) (by omega) (fun t ht => by rw [pk_un (by omega)]; exact h3 t ht) (by rw [pk_us]; exact hq)
          exact ⟨le', a1, fun t ht => by rw [a2 t ht, pk_un ht], a3⟩
        rcases h4 with ⟨q1, q2⟩ | ⟨q, q0, q1, q2, q3⟩
        · rw [if_pos q1]
          apply better
          refine Or.inr ⟨v + 1, by omega, rfl, ⟨v, j, rfl, by omega, hbit, v2⟩, ?_⟩
          rintro n0 ⟨n', i, rfl, i1, i2, i3⟩
          by_cases hij : i = j
          · subst hij
            have := v3 _ i3
            omega
          · exact absurd ⟨n', i, rfl, by omega, i2, i3⟩ (q2 _)
        · have hne2 : ¬ le s = -nI 1 := by rw [q1]; exact (jeqN_f (by omega)).mp
          rw [if_neg hne2]
          by_cases hc : q ≤ v + 1
          · rw [if_pos (by rw [q1]; exact nI_le hc (by omega))]
            refine ih (j + 1) n le (by omega) (by omega) h3 (skip (fun n' => ⟨fun z => ?_, fun z => absurd z hne2⟩))
            have e1 := z.2.2 q q1 q0
            have e2 := v3 _ z.2.1
            omega
          · rw [if_neg (by rw [q1]; exact nI_ge (by omega) (by omega))]
            apply better
            refine Or.inr ⟨v + 1, by omega, rfl, ⟨v, j, rfl, by omega, hbit, v2⟩, ?_⟩
            rintro n0 ⟨n', i, rfl, i1, i2, i3⟩
            by_cases hij : i = j
            · subst hij
              have := v3 _ i3
              omega
            · have := q3 _ ⟨n', i, rfl, by omega, i2, i3⟩
              omega
    · rw [if_pos (hb.mpr (by cases h : (gn (us j)).testBit l with | false => rfl | true => exact absurd h hbit))]
      exact ih (j + 1) n le (by omega) (by omega) h3 (skip (fun n' => ⟨fun q => hbit q.1, fun _ q => hbit q.1⟩))
end LX
