/-! code: the class -/
def jNr (d a b : Nat) : Bool := decide (jpop (a ^^^ b) < d)
theorem jNr_comm (d a b : Nat) : jNr d a b = jNr d b a := by unfold jNr; rw [Nat.xor_comm]
def jCode (d y : Nat) : Prop := ∀ a b, y.testBit a = true → y.testBit b = true → a ≠ b → jNr d a b = false
def jFam (d c f y : Nat) : Prop := ∃ s, (∀ i, s.testBit i = true → f.testBit i = true) ∧ y = c ||| s ∧ jCode d y
def jXC (d c f best res : Nat) : Prop := (res = best ∧ ∀ y, jFam d c f y → jcb y 16 ≤ jcb best 16) ∨ (jFam d c f res ∧ jcb best 16 < jcb res 16 ∧ ∀ y, jFam d c f y → jcb y 16 ≤ jcb res 16 ∧ (y < res → jcb y 16 < jcb res 16))
theorem jtb {n k : Nat} (h : n < 2 ^ k) {i : Nat} (hi : n.testBit i = true) : i < k := by
  refine Nat.lt_of_not_le fun hk => ?_
  rw [Nat.testBit_lt_two_pow (Nat.lt_of_lt_of_le h (Nat.pow_le_pow_right (n := 2) (by omega) hk))] at hi
  exact absurd hi (by decide)
theorem jtb2 (k i : Nat) : (2 ^ k).testBit i = decide (k = i) := Nat.testBit_two_pow
theorem jdf2_t {s g i : Nat} : (jdf2 s g).testBit i = true ↔ s.testBit i = true ∧ g.testBit i = false := by
  rw [jdf2_bit]
  cases s.testBit i <;> cases g.testBit i <;> decide
theorem jor_t {a b i : Nat} : (a ||| b).testBit i = true ↔ a.testBit i = true ∨ b.testBit i = true := by
  rw [Nat.testBit_or]
  cases a.testBit i <;> cases b.testBit i <;> decide
theorem jp2_t {k i : Nat} : (2 ^ k).testBit i = true ↔ k = i := by rw [jtb2, decide_eq_true_eq]
theorem jp2_f {k i : Nat} : (2 ^ k).testBit i = false ↔ k ≠ i := by rw [jtb2, decide_eq_false_iff_not]
theorem jext {a b : Nat} (h : ∀ i, a.testBit i = true ↔ b.testBit i = true) : a = b := by
  refine Nat.eq_of_testBit_eq fun i => ?_
  have h1 := h i
  cases ha : a.testBit i <;> cases hb : b.testBit i <;> rw [ha, hb] at h1 <;> first | rfl | exact absurd h1 (by decide)
theorem jdf2_lt {f k : Nat} (h : f < 2 ^ (k + 1)) : jdf2 f (2 ^ k) < 2 ^ k := by
  refine Nat.lt_pow_two_of_testBit _ fun i hi => ?_
  cases hb : (jdf2 f (2 ^ k)).testBit i with
  | false => rfl
  | true =>
    rw [jdf2_t, jp2_f] at hb
    have := jtb h hb.1
    omega
theorem jdf2_lt2 {f g k : Nat} (h : f < 2 ^ k) : jdf2 f g < 2 ^ k := by
  refine Nat.lt_pow_two_of_testBit _ fun i hi => ?_
  cases hb : (jdf2 f g).testBit i with
  | false => rfl
  | true =>
    rw [jdf2_t] at hb
    have := jtb h hb.1
    omega
theorem jfam_split {d c f k tn y : Nat} (hf : f < 2 ^ (k + 1)) (hk : k < 16) (htn : ∀ b, b < 16 → tn.testBit b = jNr d k b) (h : jFam d c f y) : jFam d c (jdf2 f (2 ^ k)) y ∨ jFam d (c ||| 2 ^ k) (jdf2 (jdf2 f (2 ^ k)) tn) y := by
  obtain ⟨s, h1, rfl, h3⟩ := h
  by_cases hs : s.testBit k = true
  · refine Or.inr ⟨jdf2 s (2 ^ k), fun i hi => ?_, ?_, h3⟩
    · rw [jdf2_t, jp2_f] at hi
      have hi16 := jtb hf (h1 i hi.1)
      rw [jdf2_t, jdf2_t, jp2_f, htn i (by omega)]
      exact ⟨⟨h1 i hi.1, hi.2⟩, h3 k i (jor_t.mpr (Or.inr hs)) (jor_t.mpr (Or.inr hi.1)) hi.2⟩
    · refine jext fun i => ?_
      rw [jor_t, jor_t, jor_t, jdf2_t, jp2_t, jp2_f]
      constructor
      · rintro (h | h)
        · exact Or.inl (Or.inl h)
        · by_cases hik : k = i
          · exact Or.inl (Or.inr hik)
          · exact Or.inr ⟨h, hik⟩
      · rintro ((h | h) | h)
        · exact Or.inl h
        · subst h; exact Or.inr hs
        · exact Or.inr h.1
  · refine Or.inl ⟨s, fun i hi => ?_, rfl, h3⟩
    rw [jdf2_t, jp2_f]
    exact ⟨h1 i hi, fun hik => by subst hik; exact hs hi⟩
theorem jfam_1 {d c f k y : Nat} (h : jFam d c (jdf2 f (2 ^ k)) y) : jFam d c f y := by
  obtain ⟨s, h1, h2, h3⟩ := h
  exact ⟨s, fun i hi => (jdf2_t.mp (h1 i hi)).1, h2, h3⟩
theorem jfam_2 {d c f k tn y : Nat} (hfk : f.testBit k = true) (h : jFam d (c ||| 2 ^ k) (jdf2 (jdf2 f (2 ^ k)) tn) y) : jFam d c f y := by
  obtain ⟨s, h1, h2, h3⟩ := h
  refine ⟨2 ^ k ||| s, fun i hi => ?_, by rw [h2, Nat.or_assoc], h3⟩
  rw [jor_t, jp2_t] at hi
  rcases hi with rfl | hi
  · exact hfk
  · exact (jdf2_t.mp (jdf2_t.mp (h1 i hi)).1).1
theorem jfam_lt {d c f g k y1 y2 : Nat} (hf : f < 2 ^ k) (hc : c.testBit k = false) (h1 : jFam d c f y1) (h2 : jFam d (c ||| 2 ^ k) g y2) : y1 < y2 := by
  obtain ⟨s, a1, a2, -⟩ := h1
  obtain ⟨t, b1, b2, -⟩ := h2
  have hs : s < 2 ^ k := Nat.lt_pow_two_of_testBit _ fun i hi => by
    cases h : s.testBit i with
    | false => rfl
    | true => have := jtb hf (a1 i h); omega
  have e1 : y1 / 2 ^ k = c / 2 ^ k := by
    rw [a2, Nat.or_div_two_pow, Nat.div_eq_of_lt hs, Nat.or_zero]
  have hle : c ||| 2 ^ k ≤ y2 := by rw [b2]; exact Nat.left_le_or
  have e2 : (c ||| 2 ^ k) / 2 ^ k = c / 2 ^ k ||| 1 := by
    rw [Nat.or_div_two_pow, Nat.div_self (Nat.two_pow_pos k)]
  have e3 : (c / 2 ^ k).testBit 0 = false := by rw [Nat.testBit_div_two_pow, Nat.zero_add]; exact hc
  have e4 : c / 2 ^ k ≤ c / 2 ^ k ||| 1 := Nat.left_le_or
  have e5 : c / 2 ^ k ≠ c / 2 ^ k ||| 1 := fun h => by
    have h6 : (c / 2 ^ k ||| 1).testBit 0 = true := by rw [jor_t]; exact Or.inr (by decide)
    rw [← h, e3] at h6
    exact absurd h6 (by decide)
  have e6 : c / 2 ^ k < (c ||| 2 ^ k) / 2 ^ k := by rw [e2]; omega
  have e7 : (c ||| 2 ^ k) / 2 ^ k ≤ y2 / 2 ^ k := Nat.div_le_div_right hle
  exact Nat.lt_of_not_le fun hge => by
    have := Nat.div_le_div_right (c := 2 ^ k) hge
    omega
theorem jXC_join {d c f k tn best r1 r2 : Nat} (hf : f < 2 ^ (k + 1)) (hfk : f.testBit k = true) (hk : k < 16) (htn : ∀ b, b < 16 → tn.testBit b = jNr d k b) (hc : c.testBit k = false) (h1 : jXC d c (jdf2 f (2 ^ k)) best r1) (h2 : jXC d (c ||| 2 ^ k) (jdf2 (jdf2 f (2 ^ k)) tn) r1 r2) : jXC d c f best r2 := by
  have hlt : ∀ y1 y2, jFam d c (jdf2 f (2 ^ k)) y1 → jFam d (c ||| 2 ^ k) (jdf2 (jdf2 f (2 ^ k)) tn) y2 → y1 < y2 := fun y1 y2 => jfam_lt (jdf2_lt hf) hc
  have hsp : ∀ y, jFam d c f y → jFam d c (jdf2 f (2 ^ k)) y ∨ jFam d (c ||| 2 ^ k) (jdf2 (jdf2 f (2 ^ k)) tn) y := fun y => jfam_split hf hk htn
  rcases h2 with ⟨rfl, h2⟩ | ⟨g1, g2, g3⟩
  · rcases h1 with ⟨rfl, h1⟩ | ⟨g1, g2, g3⟩
    · refine Or.inl ⟨rfl, fun y hy => ?_⟩
      rcases hsp y hy with h | h
      · exact h1 y h
      · exact h2 y h
    · refine Or.inr ⟨jfam_1 g1, g2, fun y hy => ?_⟩
      rcases hsp y hy with h | h
      · exact g3 y h
      · exact ⟨h2 y h, fun hl => by have := hlt _ _ g1 h; omega⟩
  · have hb : jcb best 16 ≤ jcb r1 16 ∧ ∀ y, jFam d c (jdf2 f (2 ^ k)) y → jcb y 16 ≤ jcb r1 16 := by
      rcases h1 with ⟨rfl, h1⟩ | ⟨f1, f2, f3⟩
      · exact ⟨Nat.le_refl _, h1⟩
      · exact ⟨by omega, fun y hy => (f3 y hy).1⟩
    refine Or.inr ⟨jfam_2 hfk g1, by omega, fun y hy => ?_⟩
    rcases hsp y hy with h | h
    · have := hb.2 y h
      exact ⟨by omega, fun _ => by omega⟩
    · exact g3 y h
theorem jxlc {d : Nat} {se : Nat → Int32} {tn : Nat → Nat} (hse : ∀ a, a < 16 → se a = nI (tn a)) (htn : ∀ a, a < 16 → ∀ b, b < 16 → (tn a).testBit b = jNr d a b) (N9 : Nat) :
    ∀ k, k ≤ 16 → ∀ fu c f best dp, k < fu → dp + k ≤ 16 → f < 2 ^ k → c < 65536 → (∀ i, c.testBit i = true → k ≤ i) → jCode d c → (∀ a b, c.testBit a = true → f.testBit b = true → jNr d a b = false) → best < 65536 → ∃ res, gpX6_largerCode N9 fu se (nI c) (nI f) (nI best) (nI dp) = some (nI res) ∧ res < 65536 ∧ jXC d c f best res := by
  intro k
  induction k with
  | zero =>
    intro _ fu c f best dp h1 h2 h3 h4 h5 h6 h7 h8
    obtain ⟨fu, rfl⟩ : ∃ q, fu = q + 1 := ⟨fu - 1, by omega⟩
    have hf0 : f = 0 := by rw [Nat.pow_zero] at h3; omega
    subst hf0
    have hfam : ∀ y, jFam d c 0 y → y = c := by
      rintro y ⟨s, a1, a2, -⟩
      rw [a2]
      refine jext fun i => ?_
      rw [jor_t]
      exact ⟨fun h => h.elim id (fun h => absurd (a1 i h) (by rw [Nat.zero_testBit]; decide)), Or.inl⟩
    have hc0 : jFam d c 0 c := ⟨0, fun i h => h, (Nat.or_zero c).symm, h6⟩
    have hj1 := jcb_le c 16
    have hj2 := jcb_le best 16
    have hp0 : jp16 0 = 0 := rfl
    simp only [gpX6_largerCode, pX6_largerCodeo, pX6_largerCodeo_46, jlit]
    rw [jbc16 h4, jb1, jbc16 (by omega), jb1, jbc16 h8, jb1, jadd, jp16_cb c, jp16_cb best, hp0, Nat.add_zero, jnz0, jb1]
    by_cases hlt : jcb best 16 < jcb c 16
    · rw [if_pos (nI_lt hlt (by omega)), if_pos (by decide)]
      exact ⟨c, rfl, h4, Or.inr ⟨hc0, hlt, fun y hy => by rw [hfam y hy]; exact ⟨Nat.le_refl _, fun h => absurd h (Nat.lt_irrefl _)⟩⟩⟩
    · rw [if_neg (nI_nlt (by omega) (by omega))]
      exact ⟨best, rfl, h8, Or.inl ⟨rfl, fun y hy => by rw [hfam y hy]; omega⟩⟩
  | succ k ih =>
    intro hk16 fu c f best dp h1 h2 h3 h4 h5 h6 h7 h8
    cases hfk : f.testBit k with
    | false =>
      have hf : f < 2 ^ k := Nat.lt_pow_two_of_testBit _ fun i hi => by
        cases hb : f.testBit i with
        | false => rfl
        | true =>
          have := jtb h3 hb
          obtain rfl : i = k := by omega
          rw [hfk] at hb
          exact absurd hb (by decide)
      exact ih (by omega) fu c f best dp (by omega) (by omega) hf h4 (fun i hi => by have := h5 i hi; omega) h6 h7 h8
    | true =>
      obtain ⟨fu, rfl⟩ : ∃ q, fu = q + 1 := ⟨fu - 1, by omega⟩
      have hp16 : (2 : Nat) ^ (k + 1) ≤ 65536 := Nat.pow_le_pow_right (n := 2) (by omega) hk16
      have hck : c.testBit k = false := by
        cases hb : c.testBit k with
        | false => rfl
        | true => have := h5 k hb; omega
      have hlo := Nat.ge_two_pow_of_testBit hfk
      have hj1 := jcb_le c 16
      have hj2 := jcb_le best 16
      have hj3 := jcb_le f 16
      simp only [gpX6_largerCode, pX6_largerCodeo, pX6_largerCodeo_46, jlit, jN1, zlet]
      rw [jbc16 h4, jb1, jbc16 (by omega), jb1, jbc16 h8, jb1, jadd, jp16_cb c, jp16_cb best, jp16_cb f, jnz (by omega) hlo h3, jb1, jsub (by omega : 31 - k ≤ 31), show 31 - (31 - k) = k by omega]
      by_cases hlt : jcb best 16 < jcb c 16 + jcb f 16
      · have htk := htn k (by omega)
        obtain ⟨r1, a1, a2, a3⟩ := ih (by omega) fu c (jdf2 f (2 ^ k)) best (dp + 1) (by omega) (by omega) (jdf2_lt h3) h4 (fun i hi => by have := h5 i hi; omega) h6 (fun a b ha hb => h7 a b ha (jdf2_t.mp hb).1) h8
        obtain ⟨r2, b1, b2, b3⟩ := ih (by omega) fu (c ||| 2 ^ k) (jdf2 (jdf2 f (2 ^ k)) (tn k)) r1 (dp + 1) (by omega) (by omega) (jdf2_lt2 (jdf2_lt h3)) (Nat.or_lt_two_pow (n := 16) h4 (by rw [Nat.pow_succ] at hp16; show 2 ^ k < 65536; omega)) (fun i hi => by
          rw [jor_t, jp2_t] at hi
          rcases hi with hi | hi
          · have := h5 i hi; omega
          · omega) (fun a b ha hb hab => by
          rw [jor_t, jp2_t] at ha hb
          rcases ha with ha | rfl
          · rcases hb with hb | rfl
            · exact h6 a b ha hb hab
            · exact h7 a k ha hfk
          · rcases hb with hb | rfl
            · rw [jNr_comm]; exact h7 b k hb hfk
            · exact absurd rfl hab) (fun a b ha hb => by
          rw [jdf2_t, jdf2_t] at hb
          rw [jor_t, jp2_t] at ha
          rcases ha with ha | rfl
          · exact h7 a b ha hb.1.1
          · have := jtb h3 hb.1.1
            rw [← htk b (by omega)]
            exact hb.2) a2
        refine ⟨r2, ?_, b2, jXC_join h3 hfk (by omega) htk hck a3 b3⟩
        rw [if_pos (nI_lt hlt (by omega)), if_neg (nI_nlt (Nat.zero_le _) (by omega)), if_neg (nI_ge (by omega : k < 16) (by omega)), if_pos (nI_le (by omega : dp ≤ 16) (by omega)), jshl k (by omega), jdfI, jadd, a1, jb1, if_pos ((jzin (by omega : k < 16) (by omega)).mpr trivial), jcl (by omega), hse k (by omega), jdfI, jor, b1, jb1]
      · refine ⟨best, by rw [if_neg (nI_nlt (by omega) (by omega))], h8, Or.inl ⟨rfl, ?_⟩⟩
        rintro y ⟨s, c1, rfl, -⟩
        have hs := jcb_mono c1 16
        rw [jcb_or (fun i hi => by
          cases hb : s.testBit i with
          | false => rfl
          | true => have := jtb h3 (c1 i hb); have := h5 i hi; omega) 16]
        omega
