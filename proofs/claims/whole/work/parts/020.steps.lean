/-- a loop of the reference over steps: where it stops, goes on, and ends behind a fault -/
def jLoopM {R : Type} (n : Nat) (by' : Nat → Nat) (m_fed m_told m_now : Nat → Int32) (N9 : Nat) (c : Int32) (um : jMsf) (Lm : Nat → Int32 → Int32 → Int32 → Int32 → (Nat → Nat → Int32) → Int32 → Option R) (K : Int32 → Int32 → Int32 → Int32 → (Nat → Nat → Int32) → Int32 → Option R) : Prop :=
  (∀ q a fa op st sp, a ≤ n → jby n by' a = c → Lm (q + 1) (nI a) (nI 0) fa op st sp = K (nI a) (nI 0) fa op st sp) ∧
  (∀ q a fa op st sp, a ≤ n → jby n by' a ≠ c → Lm (q + 1) (nI a) (nI 0) fa op st sp = zb6 (um (nI n) (nI a) (nI 0) fa op m_fed m_told st sp m_now) fun at1 f1 fa1 op1 st1 sp1 => zb1 (pM_blanks N9 (nI n) at1 m_fed) fun at2 => Lm q at2 f1 fa1 op1 st1 sp1) ∧
  (∀ q at' f fa op st sp, f ≠ nI 0 → Lm (q + 1) at' f fa op st sp = K at' f fa op st sp)
section NS
variable {n : Nat} {by' : Nat → Nat} {tp_bytes m_fed m_told m_now : Nat → Int32} {N9 B0 G : Nat}
theorem jloop_steps (hN : 70000 < N9) (ht : jTx n by' tp_bytes m_fed) (hn : n ≤ 150) {r : Nat} (hr6 : r ≤ 6) {c : Int32} (hc : ∀ x y : Option jX10, (if nI (6 - r) = 0 then x else y) = if c = -1 then x else y) (hcc : c = -1 ∨ c = 93) {ux : jXsf} {um : jMsf}
    (hst : ∀ (a m : Nat) (wp np : Int32) (k0 f0 s0 : Nat → Int32) (t0 : Nat → Nat → Int32), a ≤ n → 2 * m ≤ a → jev (jSPost n by' B0 G a r m k0 f0 s0 t0) (ux tp_bytes (nI n) (nI a) wp np (nI 0) (-nI 1) k0 f0 s0 (nI m) (nI B0) (nI G) (nI (6 - r))) (um (nI n) (nI a) (nI 0) (-nI 1) (nI (6 - r)) m_fed m_told t0 (nI m) m_now))
    {a m : Nat} {k0 f0 s0 : Nat → Int32} {t0 : Nat → Nat → Int32} :
    ∀ u a1 m1 cnt i f f9 (wp np : Int32) (kinds firsts seconds : Nat → Int32) (step : Nat → Nat → Int32), n - a1 ≤ u → u < f → u + 1 < f9 → i ≤ a1 → a ≤ a1 → a1 ≤ n → m ≤ m1 → 2 * m1 ≤ a1 → jRows B0 G m m1 k0 f0 s0 t0 kinds firsts seconds step → jChain (jItem (jLv (jn kinds) (jn seconds) r) (jn kinds) (jn seconds)) cnt m m1 →
    ∃ rx at' f' fa op st sp, pX4_readStepso_2 N9 ux tp_bytes (nI n) (nI B0) (nI G) (nI (6 - r)) f (nI a1) wp np (nI 0) (-nI 1) kinds firsts seconds (nI m1) (nI i) = some rx ∧ jNPost n by' c B0 G a r m k0 f0 s0 t0 rx (at', f', fa, op, st, sp) ∧
      ∀ {R : Type} (Lm : Nat → Int32 → Int32 → Int32 → Int32 → (Nat → Nat → Int32) → Int32 → Option R) (K : Int32 → Int32 → Int32 → Int32 → (Nat → Nat → Int32) → Int32 → Option R), jLoopM n by' m_fed m_told m_now N9 c um Lm K → Lm f9 (nI (jsk n by' a1)) (nI 0) (-nI 1) (nI (6 - r)) step (nI m1) = K at' f' fa op st sp := by
  intro u
  induction u with
  | zero =>
    intro a1 m1 cnt i f f9 wp np kinds firsts seconds step h0 h1 h2 h3 h4 h5 h6 h7 hrows hch
    obtain ⟨f, rfl⟩ : ∃ z, f = z + 1 := ⟨f - 1, by omega⟩
    obtain ⟨f9, rfl⟩ : ∃ z, f9 = z + 1 + 1 := ⟨f9 - 2, by omega⟩
    have ha1 : a1 = n := by omega
    subst ha1
    have hk := jsk_rng (by' := by') h5
    have hka : jsk a1 by' a1 = a1 := by omega
    have hb : jby a1 by' a1 = -1 := by unfold jby; rw [if_neg (by omega)]; rfl
    simp only [pX4_readStepso_2]
    rw [if_neg (show ¬ (150 : Int32) < nI i from nI_nlt (a := 150) (b := i) (by omega) (by omega)), jsignX hN ht h5, jb2, hka, hb, hc]
    rcases hcc with rfl | rfl
    · rw [if_pos rfl]
      unfold pX4_readStepso_27
      rw [if_pos rfl]
      exact ⟨_, _, _, _, _, _, _, rfl, Or.inl ⟨a1, m1, h4, h5, h6, h7, rfl, rfl, rfl, rfl, rfl, hrows, jForest_eq.mpr ⟨cnt, hch⟩, rfl, rfl, rfl, rfl, rfl, hka, hb⟩, fun Lm K hL => hL.1 _ _ _ _ _ _ h5 hb⟩
    · rw [if_neg (show ¬ (93 : Int32) = -1 by decide)]
      unfold pX4_readStepso_27
      rw [if_neg (show ¬ (-1 : Int32) = 93 by decide)]
      obtain ⟨⟨r0, pl, wp1, np1, fk, fp, ks, fs, ss, ln⟩, ⟨at1, f1, fa1, op1, st1, sp1⟩, e1, e2, hP⟩ := hst a1 m1 wp np kinds firsts seconds step h5 h7
      rw [e1, jb10]
      rcases hP with ⟨a2, m', p1, p2, p3⟩ | ⟨q, g, a2, p1, p2, p3, p4, rfl, rfl, rfl, rfl, rfl, rfl⟩
      · omega
      · have hfq : nI q ≠ nI 0 := jhfz q p1 p2
        rw [if_pos jz00]
        unfold pX4_readStepso_50
        refine ⟨_, nI (jsk a1 by' a2), nI q, nI g, op1, st1, sp1, rfl, Or.inr ⟨q, g, _, p1, p2, p3, (jsk_rng p4).2, rfl, rfl, rfl, rfl, rfl, rfl⟩, fun Lm K hL => ?_⟩
        rw [hL.2.1 _ _ _ _ _ _ h5 (by rw [hb]; decide), e2, jb6, jblankM hN ht p4, jb1, hL.2.2 _ _ _ _ _ _ _ hfq]
  | succ u ih =>
    intro a1 m1 cnt i f f9 wp np kinds firsts seconds step h0 h1 h2 h3 h4 h5 h6 h7 hrows hch
    obtain ⟨f, rfl⟩ : ∃ z, f = z + 1 := ⟨f - 1, by omega⟩
    obtain ⟨f9, rfl⟩ : ∃ z, f9 = z + 1 + 1 := ⟨f9 - 2, by omega⟩
    have hk := jsk_rng (by' := by') h5
    have hsk := jsk_sk (by' := by') h5
    simp only [pX4_readStepso_2]
    rw [if_neg (show ¬ (150 : Int32) < nI i from nI_nlt (a := 150) (b := i) (by omega) (by omega)), jsignX hN ht h5, jb2, hc]
    have h27 : ∀ s, (if c = -1 then pX4_readStepso_27 N9 ux tp_bytes (nI n) (nI B0) (nI G) (nI (6 - r)) (pX4_readStepso_2 N9 ux tp_bytes (nI n) (nI B0) (nI G) (nI (6 - r)) f) (nI (jsk n by' a1)) wp np (nI 0) (-nI 1) kinds firsts seconds (nI m1) (nI i) s (-1) else pX4_readStepso_27 N9 ux tp_bytes (nI n) (nI B0) (nI G) (nI (6 - r)) (pX4_readStepso_2 N9 ux tp_bytes (nI n) (nI B0) (nI G) (nI (6 - r)) f) (nI (jsk n by' a1)) wp np (nI 0) (-nI 1) kinds firsts seconds (nI m1) (nI i) s 93) = pX4_readStepso_27 N9 ux tp_bytes (nI n) (nI B0) (nI G) (nI (6 - r)) (pX4_readStepso_2 N9 ux tp_bytes (nI n) (nI B0) (nI G) (nI (6 - r)) f) (nI (jsk n by' a1)) wp np (nI 0) (-nI 1) kinds firsts seconds (nI m1) (nI i) s c := by
      intro s
      rcases hcc with rfl | rfl
      · rw [if_pos rfl]
      · rw [if_neg (show ¬ (93 : Int32) = -1 by decide)]
    rw [h27]
    unfold pX4_readStepso_27
    by_cases hb : jby n by' (jsk n by' a1) = c
    · rw [if_pos hb]
      exact ⟨_, _, _, _, _, _, _, rfl, Or.inl ⟨_, m1, by omega, hk.2, h6, by omega, rfl, rfl, rfl, rfl, rfl, hrows, jForest_eq.mpr ⟨cnt, hch⟩, rfl, rfl, rfl, rfl, rfl, hsk, hb⟩, fun Lm K hL => hL.1 _ _ _ _ _ _ hk.2 hb⟩
    · rw [if_neg hb]
      obtain ⟨⟨r0, pl, wp1, np1, fk, fp, ks, fs, ss, ln⟩, ⟨at1, f1, fa1, op1, st1, sp1⟩, e1, e2, hP⟩ := hst (jsk n by' a1) m1 wp np kinds firsts seconds step hk.2 (by omega)
      rw [e1, jb10]
      rcases hP with ⟨a2, m', p1, p2, p3, p4, rfl, rfl, rfl, rfl, rfl, hr2, hit, rfl, rfl, h59⟩ | ⟨q, g, a2, p1, p2, p3, p4, rfl, rfl, rfl, rfl, rfl, rfl⟩
      · have hj := jsk_rng (by' := by') p2
        rw [if_neg jz10, jtakeX hN ht p2]
        by_cases h : jby n by' (jsk n by' a2) = 59
        · have hlt := jby_lt (s := 59) h (by omega)
          rw [if_pos h] at h59 ⊢
          injection h59 with g1 g2
          injection g2 with g2 g3
          subst g1 g2 g3
          rw [jb4, if_neg jz10, nI_1]
          obtain ⟨hr1a, hr1b⟩ := hrows
          obtain ⟨hr2a, hr2b⟩ := hr2
          have hkd : ∀ i, i < m1 → jn kinds i = jn ks i ∧ jn seconds i = jn ss i := fun i hi => by
            obtain ⟨d1, d2, d3, d4⟩ := hr2b i hi
            unfold jn
            rw [d1, d3]
            exact ⟨rfl, rfl⟩
          obtain ⟨rx, at2, f2, fa2, op2, st2, sp2, x1, x2, x3⟩ := ih (jsk n by' a2 + 1) m' (cnt + 1) (i + 1) f (f9 + 1) wp1 np1 ks fs ss st1 (by omega) (by omega) (by omega) (by omega) (by omega) (by omega) (by omega) (by omega)
            ⟨fun i hi1 hi2 => by
              by_cases him : i < m1
              · obtain ⟨k', f', s', e', d1, d2, d3, d4, d5, d6, d7, d8, d9⟩ := hr1a i hi1 him
                obtain ⟨c1, c2, c3, c4⟩ := hr2b i him
                exact ⟨k', f', s', e', d1, d2, by rw [c1]; exact d3, by rw [c4]; exact d4, d5, fun q => ⟨by rw [c2]; exact (d6 q).1, by rw [c4]; exact (d6 q).2⟩, fun q => ⟨by rw [c3]; exact (d7 q).1, by rw [c4]; exact (d7 q).2⟩, by rw [c4]; exact d8, fun q => ⟨(d9 q).1, by rw [c3]; exact (d9 q).2⟩⟩
              · exact hr2a i (by omega) hi2,
             fun i hi => by
              obtain ⟨c1, c2, c3, c4⟩ := hr2b i (by omega)
              obtain ⟨d1, d2, d3, d4⟩ := hr1b i hi
              exact ⟨c1.trans d1, c2.trans d2, c3.trans d3, fun j => (c4 j).trans (d4 j)⟩⟩
            ⟨m1, jChain_congr (fun i hi1 hi2 => hkd i hi2) (fun x y hx hy => jLv_congr (fun i hi1 hi2 => hkd i (by omega))) hch, hit⟩
          refine ⟨rx, at2, f2, fa2, op2, st2, sp2, x1, x2, fun Lm K hL => ?_⟩
          rw [hL.2.1 _ _ _ _ _ _ hk.2 hb, e2, jb6, jblankM hN ht (by omega), jb1]
          exact x3 Lm K hL
        · rw [if_neg h] at h59 ⊢
          injection h59 with g1 g2
          injection g2 with g2 g3
          subst g1 g2 g3
          rw [jb4, if_pos jz00]
          unfold pX4_readStepso_50
          refine ⟨_, nI (jsk n by' (jsk n by' a2)), nI 1, nI (jsk n by' a2), nI (6 - r), st1, nI m', rfl, Or.inr ⟨1, _, _, by omega, by omega, hj.2, (jsk_rng hj.2).2, rfl, rfl, rfl, rfl, rfl, rfl⟩, fun Lm K hL => ?_⟩
          rw [hL.2.1 _ _ _ _ _ _ hk.2 hb, e2, jb6, jblankM hN ht hj.2, jb1, hL.2.2 _ _ _ _ _ _ _ (show nI 1 ≠ nI 0 by decide)]
      · have hfq : nI q ≠ nI 0 := jhfz q p1 p2
        rw [if_pos jz00]
        unfold pX4_readStepso_50
        refine ⟨_, nI (jsk n by' a2), nI q, nI g, op1, st1, sp1, rfl, Or.inr ⟨q, g, _, p1, p2, p3, (jsk_rng p4).2, rfl, rfl, rfl, rfl, rfl, rfl⟩, fun Lm K hL => ?_⟩
        rw [hL.2.1 _ _ _ _ _ _ hk.2 hb, e2, jb6, jblankM hN ht p4, jb1, hL.2.2 _ _ _ _ _ _ _ hfq]
end NS
