/-! the reference's least list, the inner walk -/
theorem jorN {a b : Nat} : nI a ||| nI b = nI (a ||| b) := by
  apply Int32.toBitVec_inj.mp
  simp [nI, Int32.toBitVec_or]
theorem jor_lt {a b : Nat} (ha : a < 256) (hb : b < 256) : a ||| b < 256 := Nat.or_lt_two_pow (n := 8) ha hb
section LM
variable {N9 G L B c n : Nat} {gt nu fo kk vv no bo tk : Nat → Nat} {bk_forgives bk_tolls bk_lengths : Nat → Int32} {bk_numbers : Nat → Nat → Int32} {m_told : Nat → Int32} {m_gate m_list : Nat → Nat → Int32}
variable {lw_kinds lw_values : Nat → Int32} {lw_length m_lawMany : Int32} {m_law : Nat → Nat → Int32} {st_now st_born st_age st_passed st_gone st_took : Nat → Int32} {st_year re ra : Int32} {m_now m_refused : Nat → Int32}
def jPQ (P : Nat → Nat → Prop) (no : Nat → Nat) (B k x s v w t n : Nat) : Prop := P t n ∨ (n = v + 1 ∧ ∃ u, u < w ∧ jgood no B k (nI x) u ∧ t = s ||| jgnn no B k u)
theorem jmlist_in (hN : 70000 < N9) (hs : jSt G B no bo c tk st_now st_born st_age st_passed st_gone st_took (nI B) st_year (nI c) m_now) {k x s v : Nat} (hk : k ≤ 8) (hx : x < 256) (hs8 : s < 256) (hv : v ≤ s) (P : Nat → Nat → Prop) (k184 : (Nat → Int32) → Int32 → Option (Int32 × Int32 × (Nat → Int32) × (Nat → Int32))) :
    ∀ e w n (fw : Nat → Int32), w + e = 256 → e < n → fw s = nI v → (∀ t, t < 256 → jMinB (jPQ P no B k x s v w t) t (fw t)) →
      ∃ fw', pM_list_99 N9 m_now (nI x) (nI k) k184 n fw (nI s) (nI w) = k184 fw' (nI s) ∧ fw' s = nI v ∧ ∀ t, t < 256 → jMinB (jPQ P no B k x s v 256 t) t (fw' t) := by
  have hB := hs.1
  intro e
  induction e with
  | zero =>
    intro w n fw h1 h2 h3 h4
    obtain ⟨n, rfl⟩ : ∃ q, n = q + 1 := ⟨n - 1, by omega⟩
    obtain rfl : w = 256 := by omega
    refine ⟨fw, ?_, h3, h4⟩
    simp only [pM_list_99, jlit]
    rw [if_pos (nI_le (Nat.le_refl 256) (by omega))]
  | succ e ih =>
    intro w n fw h1 h2 h3 h4
    obtain ⟨n, rfl⟩ : ∃ q, n = q + 1 := ⟨n - 1, by omega⟩
    have hg8 := jgnn_lt (no := no) (k := k) hB w
    have hT := jor_lt hs8 hg8
    have hgr := jgr_n (no := no) (k := k) hB w
    -- nothing new for the sets
    have same : ¬ jgood no B k (nI x) w → ∀ t, t < 256 → jMinB (jPQ P no B k x s v (w + 1) t) t (fw t) := by
      intro hng t ht
      refine (h4 t ht).congr (fun n0 => ?_)
      constructor
      · rintro (q | ⟨q, u, u1, u2, u3⟩)
        · exact Or.inl q
        · exact Or.inr ⟨q, u, by omega, u2, u3⟩
      · rintro (q | ⟨q, u, u1, u2, u3⟩)
        · exact Or.inl q
        · refine Or.inr ⟨q, u, ?_, u2, u3⟩
          by_cases huw : u = w
          · subst huw; exact absurd u2 hng
          · omega
    have other : ∀ t, t < 256 → t ≠ s ||| jgnn no B k w → jMinB (jPQ P no B k x s v (w + 1) t) t (fw t) := by
      intro t ht hne
      refine (h4 t ht).congr (fun n0 => ?_)
      constructor
      · rintro (q | ⟨q, u, u1, u2, u3⟩)
        · exact Or.inl q
        · exact Or.inr ⟨q, u, by omega, u2, u3⟩
      · rintro (q | ⟨q, u, u1, u2, u3⟩)
        · exact Or.inl q
        · refine Or.inr ⟨q, u, ?_, u2, u3⟩
          by_cases huw : u = w
          · subst huw; exact absurd u3 hne
          · omega
    have go : (∀ t, t < 256 → jMinB (jPQ P no B k x s v (w + 1) t) t (fw t)) → ∃ fw', pM_list_99 N9 m_now (nI x) (nI k) k184 n fw (nI s) (nI (w + 1)) = k184 fw' (nI s) ∧ fw' s = nI v ∧ ∀ t, t < 256 → jMinB (jPQ P no B k x s v 256 t) t (fw' t) := fun q => ih (w + 1) n fw (by omega) (by omega) h3 q
    have set : s ||| jgnn no B k w ≠ s → jMinB (jPQ P no B k x s v (w + 1) (s ||| jgnn no B k w)) (s ||| jgnn no B k w) (nI (v + 1)) → ∃ fw', pM_list_99 N9 m_now (nI x) (nI k) k184 n (upd fw (s ||| jgnn no B k w) (nI (v + 1))) (nI s) (nI (w + 1)) = k184 fw' (nI s) ∧ fw' s = nI v ∧ ∀ t, t < 256 → jMinB (jPQ P no B k x s v 256 t) t (fw' t) := by
      intro hne q
      refine ih (w + 1) n _ (by omega) (by omega) (by rw [pk_un (Ne.symm hne)]; exact h3) (fun t ht => ?_)
      by_cases htT : t = s ||| jgnn no B k w
      · rw [htT, pk_us]; exact q
      · rw [pk_un htT]; exact other t ht htT
    simp only [pM_list_99, pM_list_163, pM_list_178, jlit, jN1]
    rw [if_neg (nI_ge (by omega) (by omega)), jmnearTo hN hs (by omega : w < 256) hk, jb1]
    by_cases c2 : jgr no B k w &&& (nI x ^^^ -nI 1) = nI 0
    · rw [if_pos c2]
      rw [hgr, jorN]
      simp (disch := omega) only [jb1, jb2, jb3, jb4, jb5, jb6, jb7, jb8, jb9, jb10, jb11, jb12, jb13, jb14, jb15, jb16, jb17, jb18, jb19, jb20, jb21, jb22, jb23, jb24, jb25, jb26, jb27, jb28, jb29, jb30, jb31, jb32, jb33, jb34, jb35, jb36, jb37, jb38, jb39, jb40, jb41, jb42, jb43, jb44, jb45, jb46, jb47, jb48, jb49, jb50, zlet, jlit, jle_t, jle_f, jlt_t, jlt_f, jeq_t, jeq_f, jeqN_f, jNeq_f, jNN, jN1, jadd, jsub, jzin, jcl, if_true, if_false, ite_true, ite_false, not_true, not_false_iff, not_true_eq_false, not_false_eq_true, jB_t, jB_f, jB0_t, jB0_f, jBa, jand11, jand00, ↓reduceIte, Nat.reduceEqDiff, Nat.reduceAdd, Nat.reduceSub, h3]
      by_cases hTs : s ||| jgnn no B k w = s
      · rw [hTs, h3, if_neg (jeqN_f (by omega)).mp, if_neg (nI_nlt (by omega) (by omega))]
        refine go (fun t ht => ?_)
        by_cases hts : t = s
        · subst hts
          rcases h4 t ht with ⟨q1, -⟩ | ⟨q, q0, q1, q2, q3⟩
          · rw [h3] at q1
            exact absurd q1 (jeqN_f (by omega)).mp
          · refine Or.inr ⟨q, q0, q1, ?_, ?_⟩
            · rcases q2 with z | ⟨z, u, u1, u2, u3⟩
              · exact Or.inl z
              · exact Or.inr ⟨z, u, by omega, u2, u3⟩
            · rintro n0 (z | ⟨z, u, u1, u2, u3⟩)
              · exact q3 n0 (Or.inl z)
              · have : v = q := (nI_eq (by omega) (by omega)).mp (h3.symm.trans q1)
                omega
        · exact other t ht (by rw [hTs]; exact hts)
      · have hle : s ≤ s ||| jgnn no B k w := Nat.left_le_or
        have hg0 : jgr no B k w ≠ nI 0 := by
          intro q
          rw [hgr] at q
          have : jgnn no B k w = 0 := (nI_eq (by omega) (by omega)).mp q
          rw [this, Nat.or_zero] at hTs
          exact hTs rfl
        rcases h4 _ hT with ⟨q1, q2⟩ | ⟨q, q0, q1, q2, q3⟩
        · rw [if_pos q1]
          refine set hTs (Or.inr ⟨v + 1, by omega, rfl, Or.inr ⟨rfl, w, by omega, ⟨hg0, c2⟩, rfl⟩, ?_⟩)
          rintro n0 (z | ⟨z, -⟩)
          · exact absurd (Or.inl z) (q2 n0)
          · omega
        · rw [if_neg (by rw [q1]; exact (jeqN_f (by omega)).mp), q1]
          by_cases hlt : v + 1 < q
          · rw [if_pos (nI_lt hlt (by omega))]
            refine set hTs (Or.inr ⟨v + 1, by omega, rfl, Or.inr ⟨rfl, w, by omega, ⟨hg0, c2⟩, rfl⟩, ?_⟩)
            rintro n0 (z | ⟨z, -⟩)
            · have := q3 n0 (Or.inl z)
              omega
            · omega
          · rw [if_neg (nI_nlt (by omega) (by omega))]
            refine go (fun t ht => ?_)
            by_cases htT : t = s ||| jgnn no B k w
            · subst htT
              refine Or.inr ⟨q, q0, q1, ?_, ?_⟩
              · rcases q2 with z | ⟨z, u, u1, u2, u3⟩
                · exact Or.inl z
                · exact Or.inr ⟨z, u, by omega, u2, u3⟩
              · rintro n0 (z | ⟨z, -⟩)
                · exact q3 n0 (Or.inl z)
                · omega
            · exact other t ht htT
    · rw [if_neg c2, jadd]
      exact go (same (fun q => c2 q.2))
end LM
