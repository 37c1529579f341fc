/-! the file, by the reference -/
theorem jsc_f {P : Nat → Bool} {h : Nat → Nat} {k : Nat} (hp : P k = false) : jsc P h (k + 1) = jsc P h k := by
  rw [jsc, hp, if_neg (by decide)]
theorem jsc_t {P : Nat → Bool} {h : Nat → Nat} {k : Nat} (hp : P k = true) : jsc P h (k + 1) = if (jsc P h k).2 = -nI 1 then (nI k, nI (h k)) else if (jsc P h k).2 ≤ nI (h k) then jsc P h k else (nI k, nI (h k)) := by
  rw [jsc, if_pos hp]
theorem jsub_self (x : Nat) : jdf2 x x = 0 := jsub_iff.mpr fun _ h => h
theorem jxor2 (x t : Nat) : x ^^^ (x ^^^ t) = t := by rw [← Nat.xor_assoc, Nat.xor_self, Nat.zero_xor]
theorem jPlt {x t b B : Nat} (hx : x < 2 ^ B) (ht : jdf2 t x = 0) (hp : (x ^^^ t).testBit b = true) : b < B := by
  rw [jsub_P ht] at hp
  refine Nat.lt_of_not_le fun h => ?_
  rw [Nat.testBit_lt_two_pow (Nat.lt_of_lt_of_le hx (Nat.pow_le_pow_right (n := 2) (by omega) h)), Bool.false_and] at hp
  exact absurd hp (by decide)
theorem jP_b {x t b : Nat} (ht : jdf2 t x = 0) (hp : (x ^^^ t).testBit b = true) : x.testBit b = true ∧ t.testBit b = false := by
  rw [jsub_P ht] at hp
  cases hx : x.testBit b <;> cases h : t.testBit b <;> rw [hx, h] at hp <;> first | exact ⟨rfl, rfl⟩ | exact absurd hp (by decide)
def jhM (f : Nat → Nat → Nat) (m : Nat → Int32) (t b : Nat) : Nat := f b (jpop t) + (m (t ^^^ 2 ^ b)).toNatClampNeg
def jPM (x t : Nat) : Nat → Bool := fun b => (x ^^^ t).testBit b
def jLM (f : Nat → Nat → Nat) (B x s : Nat) (m : Nat → Int32) : Prop := ∀ t, s ≤ t → jdf2 t x = 0 → ∃ w, w ≤ 99 * (256 - t) ∧ m t = nI w ∧ ((t = x ∧ w = 0) ∨ t ≠ x ∧ (jsc (jPM x t) (jhM f m t) B).2 = nI w)
theorem jhM_upd {f : Nat → Nat → Nat} {m : Nat → Int32} {B x s t : Nat} {v : Int32} (hB : B ≤ 8) (hx : x < 2 ^ B) (htx : jdf2 t x = 0) (hst : s ≤ t) : jsc (jPM x t) (jhM f (upd m s v) t) B = jsc (jPM x t) (jhM f m t) B := by
  have hx8 : x < 256 := Nat.lt_of_lt_of_le hx (Nat.pow_le_pow_right (n := 2) (by omega) hB)
  have := jsub_le htx
  refine jsc_congr B (fun i hi => rfl) (fun i hi hp => ?_)
  unfold jhM
  have h := jfput t (by omega) i (by omega) (jP_b htx hp).2
  rw [pk_un (by omega)]
theorem jLM_keep {f : Nat → Nat → Nat} {m : Nat → Int32} {B x s : Nat} (hB : B ≤ 8) (hx : x < 2 ^ B) (h : jLM f B x (s + 1) m) (v : Int32) : jLM f B x (s + 1) (upd m s v) := by
  intro t ht htx
  obtain ⟨w, h1, h2, h3⟩ := h t ht htx
  refine ⟨w, h1, by rw [pk_un (by omega)]; exact h2, ?_⟩
  rcases h3 with h3 | ⟨h3, h4⟩
  · exact Or.inl h3
  · exact Or.inr ⟨h3, by rw [jhM_upd hB hx htx (by omega)]; exact h4⟩
section FM
variable {N9 G L B c n : Nat} {gt nu fo kk vv no bo tk : Nat → Nat} {bk_forgives bk_tolls bk_lengths : Nat → Int32} {bk_numbers : Nat → Nat → Int32} {m_told : Nat → Int32} {m_gate m_list : Nat → Nat → Int32}
variable {lw_kinds lw_values : Nat → Int32} {lw_length m_lawMany : Int32} {m_law : Nat → Nat → Int32} {st_now st_born st_age st_passed st_gone st_took : Nat → Int32} {st_year re ra : Int32} {m_now m_refused : Nat → Int32}
theorem jmrow (hN : 70000 < N9) (hk : jBk G L gt nu fo bk_forgives bk_tolls bk_lengths bk_numbers m_told m_gate m_list) (hl : jLw n kk vv lw_kinds lw_values lw_length m_lawMany m_law) (hs : jSt G B no bo c tk st_now st_born st_age st_passed st_gone st_took (nI B) st_year (nI c) m_now) {g : Nat} (hg : g < G) {f : Nat → Nat → Nat} (hfo : ∀ b j, jfo kk vv n gt nu L bk_tolls no st_age st_passed b g (st_gone g + nI j) = nI (f b j)) (hf : ∀ b j, f b j ≤ 99) {x t : Nat} (hx : x < 2 ^ B) (htx : jdf2 t x = 0) (m0 : Nat → Int32) (hM : ∀ b, (x ^^^ t).testBit b = true → ∃ w, w ≤ 99 * 256 ∧ m0 (t ^^^ 2 ^ b) = nI w) (k140 : (Nat → Int32) → (Nat → Int32) → (Nat → Int32) → Int32 → Option ((Nat → Int32) × (Nat → Int32) × (Nat → Int32))) :
    ∀ e k fu (stk kn : Nat → Int32), k + e = B → e < fu → ∃ stk' kn', pM_laysFile_43 N9 m_told m_gate m_list m_lawMany m_law m_now (nI g) (nI x) k140 fu stk kn (upd m0 t (jsc (jPM x t) (jhM f m0 t) k).2) (nI t) (nI k) = k140 stk' kn' (upd m0 t (jsc (jPM x t) (jhM f m0 t) B).2) (nI t) := by
  have hB := hs.1
  have h42 := hs.2.2.1
  have hx8 : x < 256 := Nat.lt_of_lt_of_le hx (Nat.pow_le_pow_right (n := 2) (by omega) hB)
  have ht8 : t < 256 := by have := jsub_le htx; omega
  have z42 : zin (nI 42) 46 = true := by decide
  have zt : zin (nI t) 256 = true := (jzin (by omega) (by omega)).mpr trivial
  have c42 : (nI 42).toNatClampNeg = 42 := jcl (by omega)
  have ct : (nI t).toNatClampNeg = t := jcl (by omega)
  intro e
  induction e with
  | zero =>
    intro k fu stk kn h1 h2
    obtain ⟨fu, rfl⟩ : ∃ q, fu = q + 1 := ⟨fu - 1, by omega⟩
    obtain rfl : k = B := by omega
    refine ⟨stk, kn, ?_⟩
    simp only [pM_laysFile_43, jlit]
    rw [if_pos z42, c42, h42, if_pos (nI_le (Nat.le_refl _) (by omega))]
  | succ e ih =>
    intro k fu stk kn h1 h2
    obtain ⟨fu, rfl⟩ : ∃ q, fu = q + 1 := ⟨fu - 1, by omega⟩
    have hkB : k < B := by omega
    have hP : jPM x t k = (x.testBit k && !t.testBit k) := jsub_P htx k
    simp only [pM_laysFile_43, pM_laysFile_134, pM_laysFile_126, jlit, jN1, zlet]
    rw [if_pos z42, c42, h42, if_neg (nI_ge hkB (by omega)), jmhasT (by omega) (by omega), jb1]
    cases hxb : x.testBit k with
    | false =>
      obtain ⟨stk', kn', hh⟩ := ih (k + 1) fu stk kn (by omega) (by omega)
      refine ⟨stk', kn', ?_⟩
      rw [← hh, if_pos (show jB false = nI 0 from rfl), jadd, jsc_f (by rw [hP, hxb]; rfl)]
    | true =>
      rw [if_neg (show ¬ jB true = nI 0 by decide), jmhasT (by omega) (by omega), jb1]
      cases htb : t.testBit k with
      | true =>
        obtain ⟨stk', kn', hh⟩ := ih (k + 1) fu stk kn (by omega) (by omega)
        refine ⟨stk', kn', ?_⟩
        rw [← hh, if_neg (show ¬ jB true = nI 0 by decide), jadd, jsc_f (by rw [hP, hxb, htb]; rfl)]
      | false =>
        have hpk : jPM x t k = true := by rw [hP, hxb, htb]; rfl
        obtain ⟨p1, p2, p3, p4⟩ := jfput t ht8 k (by omega) htb
        obtain ⟨st, kn1, w1⟩ := jmfeeOf hN hk hl hs hkB hg stk kn (nI (jpop t))
        obtain ⟨w, w2, w3⟩ := hM k hpk
        have hfk := hf k (jpop t)
        have hh1 : jhM f m0 t k = f k (jpop t) + w := by unfold jhM; rw [w3, jcl (by omega)]
        obtain ⟨stk', kn', hh⟩ := ih (k + 1) fu st kn1 (by omega) (by omega)
        refine ⟨stk', kn', ?_⟩
        rw [← hh, if_pos (show jB false = nI 0 from rfl), jo hN ht8, jb1, w1, jb3, jshl k (by omega), p1, if_pos ((jzin p3 (by omega)).mpr trivial), if_pos zt, ct, jcl (by omega), pk_us, pk_un (by omega), hfo, w3, jadd, jadd, jsc_t hpk, hh1]
        by_cases q1 : (jsc (jPM x t) (jhM f m0 t) k).2 = -nI 1
        · rw [if_pos q1, if_pos q1, if_pos zt, jupd2]
        · rw [if_neg q1, if_neg q1]
          by_cases q2 : (jsc (jPM x t) (jhM f m0 t) k).2 ≤ nI (f k (jpop t) + w)
          · rw [if_pos q2, if_pos q2]
          · rw [if_neg q2, if_neg q2, if_pos zt, jupd2]
theorem jmlays (hN : 70000 < N9) (hk : jBk G L gt nu fo bk_forgives bk_tolls bk_lengths bk_numbers m_told m_gate m_list) (hl : jLw n kk vv lw_kinds lw_values lw_length m_lawMany m_law) (hs : jSt G B no bo c tk st_now st_born st_age st_passed st_gone st_took (nI B) st_year (nI c) m_now) {g : Nat} (hg : g < G) {f : Nat → Nat → Nat} (hfo : ∀ b j, jfo kk vv n gt nu L bk_tolls no st_age st_passed b g (st_gone g + nI j) = nI (f b j)) (hf : ∀ b j, f b j ≤ 99) {x : Nat} (hx : x < 2 ^ B) :
    ∀ s fu (stk kn m : Nat → Int32), s ≤ 256 → s < fu → jLM f B x s m → ∃ stk' kn' m', pM_laysFile_4 N9 m_told m_gate m_list m_lawMany m_law m_now (nI g) (nI x) fu stk kn m (nI s + -nI 1) = some (stk', kn', m') ∧ jLM f B x 0 m' := by
  have hB := hs.1
  have hx8 : x < 256 := Nat.lt_of_lt_of_le hx (Nat.pow_le_pow_right (n := 2) (by omega) hB)
  intro s
  induction s with
  | zero =>
    intro fu stk kn m h1 h2 h3
    obtain ⟨fu, rfl⟩ : ∃ q, fu = q + 1 := ⟨fu - 1, by omega⟩
    refine ⟨stk, kn, m, ?_, h3⟩
    simp only [pM_laysFile_4, jlit]
    rw [if_pos (by decide)]
  | succ s ih =>
    intro fu stk kn m h1 h2 h3
    obtain ⟨fu, rfl⟩ : ∃ q, fu = q + 1 := ⟨fu - 1, by omega⟩
    have hs1 : nI (s + 1) + -nI 1 = nI s := by rw [← Int32.sub_eq_add_neg, jsub (by omega), Nat.add_sub_cancel]
    have zs : zin (nI s) 256 = true := (jzin (by omega) (by omega)).mpr trivial
    have cs : (nI s).toNatClampNeg = s := jcl (by omega)
    rw [hs1]
    simp only [pM_laysFile_4, pM_laysFile_23, pM_laysFile_140, jlit, jN1]
    rw [if_neg (nI_nlt (Nat.zero_le _) (by omega)), (jandn s (by omega) x hx8).1, if_pos zs, if_pos zs, cs]
    by_cases hsx : s = x
    · subst hsx
      rw [if_pos rfl, jsub_self, if_pos rfl, if_pos rfl]
      refine ih fu stk kn _ (by omega) (by omega) (fun t ht htx => ?_)
      have := jsub_le htx
      obtain rfl : t = s := by omega
      exact ⟨0, Nat.zero_le _, pk_us, Or.inl ⟨rfl, rfl⟩⟩
    · have hne : ¬ nI s = nI x := fun h => hsx ((nI_eq (by omega) (by omega)).mp h)
      rw [if_neg hne]
      by_cases hsub : jdf2 s x = 0
      · rw [hsub, if_pos rfl, if_neg hne]
        have hM : ∀ b, (x ^^^ s).testBit b = true → ∃ w, w ≤ 99 * (256 - s - 1) ∧ m (s ^^^ 2 ^ b) = nI w := by
          intro b hb
          have hbB := jPlt hx hsub hb
          obtain ⟨b1, b2⟩ := jP_b hsub hb
          obtain ⟨p1, p2, p3, p4⟩ := jfput s (by omega) b (by omega) b2
          obtain ⟨w, w1, w2, -⟩ := h3 (s ^^^ 2 ^ b) (by omega) (jsub_put hsub b1)
          exact ⟨w, by omega, w2⟩
        obtain ⟨stk', kn', hh⟩ := jmrow hN hk hl hs hg hfo hf hx hsub m (fun b hb => by obtain ⟨w, w1, w2⟩ := hM b hb; exact ⟨w, by omega, w2⟩) (pM_laysFile_140 N9 (nI g) (nI x) (pM_laysFile_4 N9 m_told m_gate m_list m_lawMany m_law m_now (nI g) (nI x) fu)) B 0 N9 stk kn (by omega) (by omega)
        obtain ⟨stk2, kn2, m2, a1, a2⟩ := ih fu stk' kn' (upd m s (jsc (jPM x s) (jhM f m s) B).2) (by omega) (by omega) (fun t ht htx => by
          by_cases hts : t = s
          · subst hts
            have hb256 : ∀ i, i < B → jPM x t i = true → jhM f m t i ≤ 99 * (256 - t) := by
              intro i hi hp
              obtain ⟨w, w1, w2⟩ := hM i hp
              have := hf i (jpop t)
              unfold jhM
              rw [w2, jcl (by omega)]
              omega
            rcases jsc_spec (P := jPM x t) (h := jhM f m t) B (fun i hi hp => by have := hb256 i hi hp; omega) with ⟨g1, g2⟩ | ⟨b, g1, g2, g3, -⟩
            · exfalso
              obtain ⟨b, b1, b2⟩ := jnonz (x ^^^ t) (jxor_lt hx8 (by omega)) (fun h => hsx (by rw [← jxor2 x t, h, Nat.xor_zero]))
              have := g1 b (jPlt hx htx b2)
              rw [show jPM x t b = (x ^^^ t).testBit b from rfl, b2] at this
              exact absurd this (by decide)
            · refine ⟨jhM f m t b, hb256 b g1 g2, by rw [pk_us, g3], Or.inr ⟨hsx, ?_⟩⟩
              rw [jhM_upd hB hx htx (Nat.le_refl _), g3]
          · exact jLM_keep hB hx h3 _ t (by omega) htx)
        refine ⟨stk2, kn2, m2, ?_, a2⟩
        rw [← a1]
        exact hh
      · rw [if_neg (fun h => hsub ((nI_eq (by have := (jandn s (by omega) x hx8).2; omega) (by omega)).mp h))]
        refine ih fu stk kn _ (by omega) (by omega) (fun t ht htx => ?_)
        by_cases hts : t = s
        · subst hts; exact absurd htx hsub
        · exact jLM_keep hB hx h3 _ t (by omega) htx
end FM
