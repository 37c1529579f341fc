section WA
variable {n : Nat} {by' : Nat → Nat} {tp_bytes m_fed m_told m_now : Nat → Int32} {N9 B0 G : Nat}
theorem jnest_loopM (hN : 70000 < N9) (ht : jTx n by' tp_bytes m_fed) (um : jMsf) (r2 : Int32) (k253 : Int32 → Int32 → Int32 → Int32 → (Nat → Nat → Int32) → Int32 → Option jMs) : jLoopM n by' m_fed m_told m_now N9 93 um (fun q at' f fa op st sp => pM_readsStepo_206 N9 um (nI n) m_fed m_told m_now r2 k253 q at' f fa op st sp) (fun at' f fa op st sp => pM_readsStepo_237 N9 um (nI n) m_fed r2 k253 at' f fa op st sp) := by
  refine ⟨fun q a fa op st sp ha hb => ?_, fun q a fa op st sp ha hb => ?_, fun q at' f fa op st sp hf => ?_⟩
  · simp only [pM_readsStepo_206]
    rw [if_pos jz00, jbyteAt ht ha, jb1, if_pos hb]
  · simp only [pM_readsStepo_206]
    rw [if_pos jz00, jbyteAt ht ha, jb1, if_neg hb]
  · simp only [pM_readsStepo_206]
    rw [if_neg (show ¬ f = 0 from hf)]
theorem jnest_of (hN : 70000 < N9) (ht : jTx n by' tp_bytes m_fed) (hn : n ≤ 150) {r : Nat} (hr5 : r ≤ 5) {ux : jXsf} {um : jMsf}
    (hst : ∀ (a m : Nat) (wp np : Int32) (k0 f0 s0 : Nat → Int32) (t0 : Nat → Nat → Int32), a ≤ n → 2 * m ≤ a → jev (jSPost n by' B0 G a r m k0 f0 s0 t0) (ux tp_bytes (nI n) (nI a) wp np (nI 0) (-nI 1) k0 f0 s0 (nI m) (nI B0) (nI G) (nI (6 - r))) (um (nI n) (nI a) (nI 0) (-nI 1) (nI (6 - r)) m_fed m_told t0 (nI m) m_now)) :
    jNest n by' tp_bytes m_fed m_told m_now B0 G N9 r (pX4_readStepso N9 ux) um := by
  intro a m wp np k0 f0 s0 t0 ha hma
  have hc : ∀ x y : Option jX10, (if nI (6 - r) = 0 then x else y) = if (93 : Int32) = -1 then x else y := fun x y => by
    rw [if_neg (show ¬ nI (6 - r) = 0 from nI_ne0 (by omega) (by omega)), if_neg (show ¬ (93 : Int32) = -1 by decide)]
  obtain ⟨rx, at', f, fa, op, st, sp, h1, h2, h3⟩ := jloop_steps hN ht hn (by omega) hc (Or.inr rfl) hst (a := a) (m := m) (k0 := k0) (f0 := f0) (s0 := s0) (t0 := t0) (n - a) a m 0 0 N9 N9 wp np k0 f0 s0 t0 (Nat.le_refl _) (by omega) (by omega) (Nat.zero_le a) (Nat.le_refl a) ha (Nat.le_refl m) hma ⟨fun i h1 h2 => absurd h2 (by omega), fun i hi => ⟨rfl, rfl, rfl, fun j => rfl⟩⟩ rfl
  refine ⟨rx, at', f, fa, op, st, sp, ?_, fun r2 k253 => h3 _ _ (jnest_loopM hN ht um r2 k253), h2⟩
  unfold pX4_readStepso
  exact h1
theorem jnest_all (hN : 70000 < N9) (ht : jTx n by' tp_bytes m_fed) (hn : n ≤ 150) (hB : B0 ≤ 8) (hG : G ≤ 5) (hnow : m_now 42 = nI B0) (htold : m_told 1 = nI G) : ∀ r, r ≤ 5 → ∀ d e, jNest n by' tp_bytes m_fed m_told m_now B0 G N9 r (gpX4_readRounds N9 (3 * r + 3 + d)).2.2 (gpM_readsStep N9 (r + 1 + e)) := by
  intro r
  induction r with
  | zero =>
    intro hr d e
    have ex : 3 * 0 + 3 + d = d + 1 + 1 + 1 := by omega
    have em : 0 + 1 + e = e + 1 := by omega
    rw [ex, em]
    exact jnest_of hN ht hn hr (jstep_read hN ht hn hB hG hnow htold (by omega) (sx := (gpX4_readRounds N9 d).2.2) (sm := gpM_readsStep N9 e) (fun h => absurd h (by omega)))
  | succ r ih =>
    intro hr d e
    have h1 := ih (by omega) d e
    have ex : 3 * (r + 1) + 3 + d = 3 * r + 3 + d + 1 + 1 + 1 := by omega
    have em : r + 1 + 1 + e = r + 1 + e + 1 := by omega
    rw [ex, em]
    exact jnest_of hN ht hn hr (jstep_read hN ht hn hB hG hnow htold (by omega) (sx := (gpX4_readRounds N9 (3 * r + 3 + d)).2.2) (sm := gpM_readsStep N9 (r + 1 + e)) (fun _ => h1))
/-- the whole text of a work -/
theorem jwork_read (hN : 70000 < N9) (ht : jTx n by' tp_bytes m_fed) (hn : n ≤ 150) (hB : B0 ≤ 8) (hG : G ≤ 5) (hnow : m_now 42 = nI B0) (htold : m_told 1 = nI G) (wp np : Int32) (k0 f0 s0 : Nat → Int32) (t0 : Nat → Nat → Int32) :
    ∃ rx at' f fa op st sp, pX4_readSteps N9 tp_bytes (nI n) (nI 0) wp np (nI 0) (-nI 1) k0 f0 s0 (nI 0) (nI B0) (nI G) (nI 0) = some rx ∧ jNPost n by' (-1) B0 G 0 6 0 k0 f0 s0 t0 rx (at', f, fa, op, st, sp) ∧
      ∀ {R : Type} (Lm : Nat → Int32 → Int32 → Int32 → Int32 → (Nat → Nat → Int32) → Int32 → Option R) (K : Int32 → Int32 → Int32 → Int32 → (Nat → Nat → Int32) → Int32 → Option R), jLoopM n by' m_fed m_told m_now N9 (-1) (pM_readsStep N9) Lm K → Lm N9 (nI (jsk n by' 0)) (nI 0) (-nI 1) (nI 0) t0 (nI 0) = K at' f fa op st sp := by
  have hst := jstep_read hN ht hn hB hG hnow htold (Nat.le_refl 6) (sx := (gpX4_readRounds N9 45).2.2) (sm := gpM_readsStep N9 47) (fun _ => jnest_all hN ht hn hB hG hnow htold 5 (Nat.le_refl 5) 27 41)
  have hc : ∀ x y : Option jX10, (if nI (6 - 6) = 0 then x else y) = if (-1 : Int32) = -1 then x else y := fun x y => by
    rw [if_pos (show nI (6 - 6) = 0 from rfl), if_pos rfl]
  obtain ⟨rx, at', f, fa, op, st, sp, h1, h2, h3⟩ := jloop_steps hN ht hn (Nat.le_refl 6) hc (Or.inl rfl) hst (a := 0) (m := 0) (k0 := k0) (f0 := f0) (s0 := s0) (t0 := t0) n 0 0 0 0 N9 N9 wp np k0 f0 s0 t0 (by omega) (by omega) (by omega) (Nat.zero_le 0) (Nat.le_refl 0) (Nat.zero_le n) (Nat.le_refl 0) (Nat.le_refl 0) ⟨fun i h1 h2 => absurd h2 (by omega), fun i hi => ⟨rfl, rfl, rfl, fun j => rfl⟩⟩ rfl
  refine ⟨rx, at', f, fa, op, st, sp, ?_, h2, fun Lm K hL => h3 Lm K hL⟩
  unfold pX4_readSteps
  exact h1
end WA
