/-! the groups of a set, collected -/
section C15
variable {N9 G L B c n : Nat} {gt nu fo kk vv no bo tk : Nat → Nat} {bk_forgives bk_tolls bk_lengths : Nat → Int32} {bk_numbers : Nat → Nat → Int32} {m_told : Nat → Int32} {m_gate m_list : Nat → Nat → Int32}
variable {lw_kinds lw_values : Nat → Int32} {lw_length m_lawMany : Int32} {m_law : Nat → Nat → Int32} {st_now st_born st_age st_passed st_gone st_took : Nat → Int32} {st_year re ra : Int32} {m_now m_refused : Nat → Int32}
theorem jxisG (hN : 70000 < N9) (gr : Nat → Int32) (x : Int32) {m : Nat} (hm : m ≤ 256) : ((∃ i, i < m ∧ gr i = x) ∧ pX6_isGroup N9 gr x (nI m) = some (nI 1)) ∨ ((∀ i, i < m → gr i ≠ x) ∧ pX6_isGroup N9 gr x (nI m) = some (nI 0)) := by
  have key : ∀ e i n, i + e = m → e < n → (∀ j, j < i → gr j ≠ x) → ((∃ i, i < m ∧ gr i = x) ∧ pX6_isGroup_2 N9 gr x (nI m) n (nI i) = some (nI 1)) ∨ ((∀ i, i < m → gr i ≠ x) ∧ pX6_isGroup_2 N9 gr x (nI m) n (nI i) = some (nI 0)) := by
    intro e
    induction e with
    | zero =>
      intro i n h1 h2 h3
      obtain ⟨n, rfl⟩ : ∃ q, n = q + 1 := ⟨n - 1, by omega⟩
      obtain rfl : i = m := by omega
      right
      refine ⟨h3, ?_⟩
      simp only [pX6_isGroup_2, jlit]
      rw [if_pos (nI_le (Nat.le_refl i) (by omega))]
    | succ e ih =>
      intro i n h1 h2 h3
      obtain ⟨n, rfl⟩ : ∃ q, n = q + 1 := ⟨n - 1, by omega⟩
      by_cases hg : gr i = x
      · left
        refine ⟨⟨i, by omega, hg⟩, ?_⟩
        simp only [pX6_isGroup_2, jlit]
        simp (disch := omega) only [jb1, jb2, jb3, jb4, jb5, jb6, jb7, jb8, jb9, jb10, jb11, jb12, jb13, jb14, jb15, jb16, jb17, jb18, jb19, jb20, jb21, jb22, jb23, jb24, jb25, jb26, jb27, jb28, jb29, jb30, jb31, jb32, jb33, jb34, jb35, jb36, jb37, jb38, jb39, jb40, jb41, jb42, jb43, jb44, jb45, jb46, jb47, jb48, jb49, jb50, zlet, jlit, jle_t, jle_f, jlt_t, jlt_f, jeq_t, jeq_f, jeqN_f, jNeq_f, jNN, jN1, jadd, jsub, jzin, jcl, if_true, if_false, ite_true, ite_false, not_true, not_false_iff, not_true_eq_false, not_false_eq_true, jB_t, jB_f, jB0_t, jB0_f, jBa, jand11, jand00, ↓reduceIte, Nat.reduceEqDiff, Nat.reduceAdd, Nat.reduceSub, hg]
      · have h4 := ih (i + 1) n (by omega) (by omega) (fun j hj => by
          by_cases hji : j = i
          · subst hji; exact hg
          · exact h3 j (by omega))
        have h5 : pX6_isGroup_2 N9 gr x (nI m) (n + 1) (nI i) = pX6_isGroup_2 N9 gr x (nI m) n (nI (i + 1)) := by
          simp only [pX6_isGroup_2, jlit]
          simp (disch := omega) only [jb1, jb2, jb3, jb4, jb5, jb6, jb7, jb8, jb9, jb10, jb11, jb12, jb13, jb14, jb15, jb16, jb17, jb18, jb19, jb20, jb21, jb22, jb23, jb24, jb25, jb26, jb27, jb28, jb29, jb30, jb31, jb32, jb33, jb34, jb35, jb36, jb37, jb38, jb39, jb40, jb41, jb42, jb43, jb44, jb45, jb46, jb47, jb48, jb49, jb50, zlet, jlit, jle_t, jle_f, jlt_t, jlt_f, jeq_t, jeq_f, jeqN_f, jNeq_f, jNN, jN1, jadd, jsub, jzin, jcl, if_true, if_false, ite_true, ite_false, not_true, not_false_iff, not_true_eq_false, not_false_eq_true, jB_t, jB_f, jB0_t, jB0_f, jBa, jand11, jand00, ↓reduceIte, Nat.reduceEqDiff, Nat.reduceAdd, Nat.reduceSub, hg]
        rw [h5]
        exact h4
  exact key m 0 N9 (by omega) (by omega) (fun j hj => absurd hj (Nat.not_lt_zero j))
/-- a number whose group counts -/
def jgood (no : Nat → Nat) (B k : Nat) (x2 : Int32) (u : Nat) : Prop := jgr no B k u ≠ nI 0 ∧ (jgr no B k u) &&& (x2 ^^^ -nI 1) = nI 0
def jGrs (no : Nat → Nat) (B k : Nat) (x2 : Int32) (w m : Nat) (gr : Nat → Int32) : Prop := m ≤ w ∧ (∀ i, i < m → ∃ u, u < w ∧ gr i = jgr no B k u ∧ jgood no B k x2 u) ∧ ∀ u, u < w → jgood no B k x2 u → ∃ i, i < m ∧ gr i = jgr no B k u
theorem jxgroups (hN : 70000 < N9) (hs : jSt G B no bo c tk st_now st_born st_age st_passed st_gone st_took (nI B) st_year (nI c) m_now) {k : Nat} (hk : k ≤ 8) (x2 : Int32) (gr0 : Nat → Int32) : ∃ m gr, pX6_findGroups N9 st_now (nI B) gr0 x2 (nI k) = some (nI m, gr) ∧ jGrs no B k x2 256 m gr := by
  have h := jloopR (fun n (x : (Nat → Int32) × Int32) i => pX6_findGroups_6 N9 st_now (nI B) x2 (nI k) n x.1 x.2 i) 256 (fun w x => ∃ m, x.2 = nI m ∧ jGrs no B k x2 w m x.1) (fun r => ∃ m gr, r = (nI m, gr) ∧ jGrs no B k x2 256 m gr) (fun n w x hw hx => ?_) (fun n x hx => ?_) 256 0 (gr0, nI 0) N9 (by omega) (by omega) ⟨0, rfl, Nat.le_refl _, fun i hi => absurd hi (Nat.not_lt_zero i), fun u hu => absurd hu (Nat.not_lt_zero u)⟩
  · obtain ⟨r, h1, m, gr, rfl, h2⟩ := h
    exact ⟨m, gr, h1, h2⟩
  · obtain ⟨gr, x4⟩ := x
    obtain ⟨m, hm, h1, h2, h3⟩ := hx
    have hm' : x4 = nI m := hm
    subst hm'
    have hg := jxgroup hN hs hw hk x2 (nI m) gr (pX6_findGroups_6 N9 st_now (nI B) x2 (nI k) n)
    have hstep : pX6_findGroups_6 N9 st_now (nI B) x2 (nI k) (n + 1) gr (nI m) (nI w) = pX6_findGroups_20 N9 st_now (nI B) x2 (nI k) (pX6_findGroups_6 N9 st_now (nI B) x2 (nI k) n) N9 gr (nI m) (nI w) (nI 0) (nI 0) := by
      simp only [pX6_findGroups_6, jlit]
      rw [if_neg (nI_ge hw (by omega))]
    have keep : (jgood no B k x2 w → ∃ i, i < m ∧ gr i = jgr no B k w) → ∃ q, (nI m) = nI q ∧ jGrs no B k x2 (w + 1) q gr := by
      intro hk'
      refine ⟨m, rfl, by omega, fun i hi => ?_, fun u hu hgu => ?_⟩
      · obtain ⟨u, u1, u2, u3⟩ := h2 i hi
        exact ⟨u, by omega, u2, u3⟩
      · by_cases huw : u = w
        · subst huw; exact hk' hgu
        · exact h3 u (by omega) hgu
    show ∃ s' : (Nat → Int32) × Int32, pX6_findGroups_6 N9 st_now (nI B) x2 (nI k) (n + 1) gr (nI m) (nI w) = pX6_findGroups_6 N9 st_now (nI B) x2 (nI k) n s'.1 s'.2 (nI (w + 1)) ∧ _
    rw [hstep, hg]
    by_cases c1 : jgr no B k w = nI 0
    · rw [if_pos c1]
      exact ⟨(gr, nI m), rfl, keep (fun q => absurd c1 q.1)⟩
    · rw [if_neg c1]
      by_cases c2 : jgr no B k w &&& (x2 ^^^ -nI 1) = nI 0
      · rw [if_pos c2]
        rcases jxisG hN gr (jgr no B k w) (m := m) (by omega) with ⟨q1, q2⟩ | ⟨q1, q2⟩
        · rw [q2, jb1, if_neg j10]
          exact ⟨(gr, nI m), rfl, keep (fun _ => q1)⟩
        · rw [q2, jb1, if_pos rfl, jcl (by omega), if_pos (by have := jzin (i := m) (n := 256) (by omega) (by omega); rw [this]; trivial), jadd]
          refine ⟨(upd gr m (jgr no B k w), nI (m + 1)), rfl, m + 1, rfl, by omega, fun i hi => ?_, fun u hu hgu => ?_⟩
          · by_cases him : i = m
            · subst him
              exact ⟨w, by omega, pk_us, c1, c2⟩
            · obtain ⟨u, u1, u2, u3⟩ := h2 i (by omega)
              exact ⟨u, by omega, by rw [← u2]; exact pk_un him, u3⟩
          · by_cases huw : u = w
            · subst huw
              exact ⟨m, by omega, pk_us⟩
            · obtain ⟨i, i1, i2⟩ := h3 u (by omega) hgu
              exact ⟨i, by omega, by rw [← i2]; exact pk_un (by omega)⟩
      · rw [if_neg c2]
        exact ⟨(gr, nI m), rfl, keep (fun q => absurd q.2 c2)⟩
  · obtain ⟨gr, x4⟩ := x
    obtain ⟨m, hm, h1⟩ := hx
    have hm' : x4 = nI m := hm
    subst hm'
    refine ⟨_, ?_, m, gr, rfl, h1⟩
    show pX6_findGroups_6 N9 st_now (nI B) x2 (nI k) (n + 1) gr (nI m) (nI 256) = _
    simp only [pX6_findGroups_6, jlit]
    rw [if_pos (nI_le (Nat.le_refl 256) (by omega))]
end C15
