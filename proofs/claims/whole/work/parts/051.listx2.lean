/-! the class's least list, whole -/
section LX2
variable {N9 G L B c n : Nat} {gt nu fo kk vv no bo tk : Nat → Nat} {bk_forgives bk_tolls bk_lengths : Nat → Int32} {bk_numbers : Nat → Nat → Int32} {m_told : Nat → Int32} {m_gate m_list : Nat → Nat → Int32}
variable {lw_kinds lw_values : Nat → Int32} {lw_length m_lawMany : Int32} {m_law : Nat → Nat → Int32} {st_now st_born st_age st_passed st_gone st_took : Nat → Int32} {st_year re ra : Int32} {m_now m_refused : Nat → Int32}
theorem jMinB.congr {P Q : Nat → Prop} {t : Nat} {o : Int32} (h : jMinB P t o) (hpq : ∀ n, P n ↔ Q n) : jMinB Q t o := by
  rcases h with ⟨h1, h2⟩ | ⟨n, h0, h1, h2, h3⟩
  · exact Or.inl ⟨h1, fun n q => h2 n ((hpq n).mpr q)⟩
  · exact Or.inr ⟨n, h0, h1, (hpq n).mp h2, fun m q => h3 m ((hpq m).mpr q)⟩
/-- the group of a number, as a number -/
def jgnn (no : Nat → Nat) (B k u : Nat) : Nat := jbn (fun b => decide (jpop (u ^^^ no b) ≤ k)) B
theorem jgr_n {no : Nat → Nat} {B k : Nat} (hB : B ≤ 8) (u : Nat) : jgr no B k u = nI (jgnn no B k u) := jbits_n _ B hB
theorem jgnn_lt {no : Nat → Nat} {B k : Nat} (hB : B ≤ 8) (u : Nat) : jgnn no B k u < 256 := by
  have h1 := jbn_lt (fun b => decide (jpop (u ^^^ no b) ≤ k)) B
  have h2 : 2 ^ B ≤ 256 := Nat.pow_le_pow_right (n := 2) (by omega) hB
  unfold jgnn
  omega
def jGd (no : Nat → Nat) (B k x u : Nat) : Prop := u < 256 ∧ jgood no B k (nI x) u
theorem jxshort (hN : 70000 < N9) (hs : jSt G B no bo c tk st_now st_born st_age st_passed st_gone st_took (nI B) st_year (nI c) m_now) {k x : Nat} (hk : k ≤ 8) (hx : x < 256) (le0 gr0 : Nat → Int32) : ∃ o le gr, pX6_shortestList N9 st_now (nI B) le0 gr0 (nI x) (nI k) = some (o, le, gr) ∧ jMin (fun n => jCov (jGd no B k x) (jgnn no B k) n x) o := by
  have hB := hs.1
  obtain ⟨m, gr, g1, g2, g3, g4⟩ := jxgroups hN hs hk (nI x) gr0
  have hsk : ∀ i, ∃ u, i < m → u < 256 ∧ gr i = jgr no B k u ∧ jgood no B k (nI x) u := by
    intro i
    by_cases hi : i < m
    · obtain ⟨u, u1, u2, u3⟩ := g3 i hi
      exact ⟨u, fun _ => ⟨u1, u2, u3⟩⟩
    · exact ⟨0, fun q => absurd q hi⟩
  obtain ⟨us, hus⟩ := Classical.axiomOfChoice hsk
  have hgr : ∀ i, i < m → jgnn no B k (us i) < 256 ∧ gr i = nI (jgnn no B k (us i)) := fun i hi => ⟨jgnn_lt hB _, by rw [← jgr_n hB]; exact (hus i hi).2.1⟩
  have part : ∀ s l n, s.testBit l = true → (jPart (jGd no B k x) (jgnn no B k) us s l m n ↔ jCov (jGd no B k x) (jgnn no B k) n s) := by
    intro s l n hl
    constructor
    · rintro ⟨n', i, rfl, i1, i2, i3⟩
      obtain ⟨u1, u2, u3⟩ := hus i i1
      exact (jCov_step hl).mpr ⟨us i, ⟨u1, u3⟩, i2, i3⟩
    · intro h
      cases n with
      | zero =>
        have := (jCov_zero s).mp h
        subst this
        rw [Nat.zero_testBit] at hl
        exact absurd hl (by decide)
      | succ n =>
        obtain ⟨u, ⟨u1, u2⟩, u3, u4⟩ := (jCov_step hl).mp h
        obtain ⟨i, i1, i2⟩ := g4 u u1 u2
        have e1 : jgnn no B k (us i) = jgnn no B k u := by
          have h1 := (hgr i i1).2
          rw [i2, jgr_n hB] at h1
          exact ((nI_eq (by have := jgnn_lt (no := no) (k := k) hB u; omega) (by have := (hgr i i1).1; omega)).mp h1).symm
        exact ⟨n, i, rfl, i1, by rw [e1]; exact u3, by rw [e1]; exact u4⟩
  have outer : ∀ e i n (le : Nat → Int32), i + e = x + 1 → 1 ≤ i → e < n → (∀ t, t < i → jMinB (fun n => jCov (jGd no B k x) (jgnn no B k) n t) t (le t)) → ∃ o le', pX6_shortestList_19 N9 (nI x) n le gr (nI m) (nI i) = some (o, le', gr) ∧ jMinB (fun n => jCov (jGd no B k x) (jgnn no B k) n x) x o := by
    intro e
    induction e with
    | zero =>
      intro i n le h1 h2 h3 h4
      obtain ⟨n, rfl⟩ : ∃ q, n = q + 1 := ⟨n - 1, by omega⟩
      refine ⟨le x, le, ?_, h4 x (by omega)⟩
      simp only [pX6_shortestList_19, jlit]
      simp (disch := omega) only [jb1, jb2, jb3, jb4, jb5, jb6, jb7, jb8, jb9, jb10, jb11, jb12, jb13, jb14, jb15, jb16, jb17, jb18, jb19, jb20, jb21, jb22, jb23, jb24, jb25, jb26, jb27, jb28, jb29, jb30, jb31, jb32, jb33, jb34, jb35, jb36, jb37, jb38, jb39, jb40, jb41, jb42, jb43, jb44, jb45, jb46, jb47, jb48, jb49, jb50, zlet, jlit, jle_t, jle_f, jlt_t, jlt_f, jeq_t, jeq_f, jeqN_f, jNeq_f, jNN, jN1, jadd, jsub, jzin, jcl, if_true, if_false, ite_true, ite_false, not_true, not_false_iff, not_true_eq_false, not_false_eq_true, jB_t, jB_f, jB0_t, jB0_f, jBa, jand11, jand00, ↓reduceIte, Nat.reduceEqDiff, Nat.reduceAdd, Nat.reduceSub]
    | succ e ih =>
      intro i n le h1 h2 h3 h4
      obtain ⟨n, rfl⟩ : ∃ q, n = q + 1 := ⟨n - 1, by omega⟩
      rcases jlowb i (by omega) with h0 | ⟨l, l1, l2, l3⟩
      · omega
      · obtain ⟨le', a1, a2, a3⟩ := jxshort_in hN (m := m) (s := i) (l := l) (Gd := jGd no B k x) (gn := jgnn no B k) (us := us) (gr := gr) g2 (by omega) l1 l3 hgr (nI x) (pX6_shortestList_19 N9 (nI x) n) m 0 N9 (upd le i (-nI 1)) (by omega) (by omega) (fun t ht => by rw [pk_un (by omega)]; exact h4 t ht) (by
          rw [pk_us]
          refine Or.inl ⟨rfl, ?_⟩
          rintro n0 ⟨n', j, -, j1, -⟩
          exact absurd j1 (Nat.not_lt_zero j))
        obtain ⟨o, le2, b1, b2⟩ := ih (i + 1) n le' (by omega) (by omega) (by omega) (fun t ht => by
          by_cases hti : t = i
          · subst hti
            exact a3.congr (fun n => part t l n l3)
          · rw [a2 t hti, pk_un hti]
            exact h4 t (by omega))
        refine ⟨o, le2, ?_, b2⟩
        rw [← b1, ← a1]
        simp only [pX6_shortestList_19, jlit, jN1]
        rw [if_neg (nI_nlt (by omega) (by omega)), if_pos (by have := jzin (i := i) (n := 256) (by omega) (by omega); rw [this]; trivial), jcl (by omega), l2]
  obtain ⟨o, le, b1, b2⟩ := outer x 1 N9 (upd le0 0 (nI 0)) (by omega) (by omega) (by omega) (fun t ht => by
    obtain rfl : t = 0 := by omega
    rw [pk_us]
    exact Or.inr ⟨0, Nat.le_refl _, rfl, (jCov_zero 0).mpr rfl, fun m _ => Nat.zero_le _⟩)
  refine ⟨o, le, gr, ?_, b2.min⟩
  unfold pX6_shortestList
  simp only [jlit]
  rw [g1, jb2, if_pos (show zin (nI 0) 256 = true by decide)]
  exact b1
end LX2
