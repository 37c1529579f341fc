/-! the file: one scan for the least, of alike the first -/
def jsc (P : Nat → Bool) (h : Nat → Nat) : Nat → Int32 × Int32 | 0 => (nI 0, -nI 1) | k + 1 => if P k = true then (if (jsc P h k).2 = -nI 1 then (nI k, nI (h k)) else if (jsc P h k).2 ≤ nI (h k) then jsc P h k else (nI k, nI (h k))) else jsc P h k
theorem jsc_spec {P : Nat → Bool} {h : Nat → Nat} : ∀ k, (∀ i, i < k → P i = true → h i < 2000000) → ((∀ i, i < k → P i = false) ∧ jsc P h k = (nI 0, -nI 1)) ∨ ∃ b, b < k ∧ P b = true ∧ jsc P h k = (nI b, nI (h b)) ∧ (∀ i, i < k → P i = true → h b ≤ h i) ∧ ∀ i, i < b → P i = true → h b < h i := by
  intro k
  induction k with
  | zero => intro _; exact Or.inl ⟨fun i hi => absurd hi (Nat.not_lt_zero i), rfl⟩
  | succ k ih =>
    intro hh
    rw [jsc]
    cases hP : P k with
    | false =>
      rw [if_neg (by decide)]
      rcases ih (fun i hi => hh i (by omega)) with ⟨h1, h2⟩ | ⟨b, h1, h2, h3, h4, h5⟩
      · refine Or.inl ⟨fun i hi => ?_, h2⟩
        by_cases hik : i = k
        · subst hik; exact hP
        · exact h1 i (by omega)
      · refine Or.inr ⟨b, by omega, h2, h3, fun i hi hp => ?_, h5⟩
        by_cases hik : i = k
        · subst hik; rw [hP] at hp; exact absurd hp (by decide)
        · exact h4 i (by omega) hp
    | true =>
      rw [if_pos rfl]
      have hk := hh k (by omega) hP
      rcases ih (fun i hi => hh i (by omega)) with ⟨h1, h2⟩ | ⟨b, h1, h2, h3, h4, h5⟩
      · rw [h2, if_pos rfl]
        refine Or.inr ⟨k, by omega, hP, rfl, fun i hi hp => ?_, fun i hi hp => ?_⟩
        · by_cases hik : i = k
          · subst hik; exact Nat.le_refl _
          · rw [h1 i (by omega)] at hp; exact absurd hp (by decide)
        · rw [h1 i (by omega)] at hp; exact absurd hp (by decide)
      · have hb := hh b (by omega) h2
        rw [h3]
        show (_ ∧ (if nI (h b) = -nI 1 then (nI k, nI (h k)) else if nI (h b) ≤ nI (h k) then (nI b, nI (h b)) else (nI k, nI (h k))) = _) ∨ ∃ b', _ ∧ _ ∧ (if nI (h b) = -nI 1 then (nI k, nI (h k)) else if nI (h b) ≤ nI (h k) then (nI b, nI (h b)) else (nI k, nI (h k))) = _ ∧ _
        rw [if_neg (jeqN_f (by omega)).mp]
        by_cases hle : h b ≤ h k
        · rw [if_pos (nI_le hle (by omega))]
          refine Or.inr ⟨b, by omega, h2, rfl, fun i hi hp => ?_, h5⟩
          by_cases hik : i = k
          · subst hik; exact hle
          · exact h4 i (by omega) hp
        · rw [if_neg (nI_ge (by omega) (by omega))]
          refine Or.inr ⟨k, by omega, hP, rfl, fun i hi hp => ?_, fun i hi hp => ?_⟩
          · by_cases hik : i = k
            · subst hik; exact Nat.le_refl _
            · have := h4 i (by omega) hp; omega
          · have := h4 i (by omega) hp; omega
theorem jsc_congr {P Q : Nat → Bool} {h h' : Nat → Nat} : ∀ k, (∀ i, i < k → P i = Q i) → (∀ i, i < k → P i = true → h i = h' i) → jsc P h k = jsc Q h' k := by
  intro k
  induction k with
  | zero => intro _ _; rfl
  | succ k ih =>
    intro h1 h2
    rw [jsc, jsc, ih (fun i hi => h1 i (by omega)) (fun i hi => h2 i (by omega)), ← h1 k (by omega)]
    cases hP : P k with
    | false => rw [if_neg (by decide), if_neg (by decide)]
    | true => rw [h2 k (by omega) hP]
theorem jsc_ext {P : Nat → Bool} {h : Nat → Nat} {B : Nat} (hP : ∀ i, B ≤ i → P i = false) : ∀ d, jsc P h (B + d) = jsc P h B := by
  intro d
  induction d with
  | zero => rfl
  | succ d ih => rw [← Nat.add_assoc, jsc, hP (B + d) (by omega), if_neg (by decide), ih]
theorem jclr : ∀ r, r < 256 → ∀ b, b < 8 → r.testBit b = true → nI r &&& (nI (2 ^ b) ^^^ -nI 1) = nI (r ^^^ 2 ^ b) ∧ r ^^^ 2 ^ b < r ∧ jpop (r ^^^ 2 ^ b) + 1 = jpop r := by decide +kernel
theorem jfput : ∀ t, t < 256 → ∀ b, b < 8 → t.testBit b = false → nI t ||| nI (2 ^ b) = nI (t ^^^ 2 ^ b) ∧ t < t ^^^ 2 ^ b ∧ t ^^^ 2 ^ b < 256 ∧ jpop (t ^^^ 2 ^ b) = jpop t + 1 := by decide +kernel
theorem jpopc : ∀ x, x < 256 → ∀ s, s < 256 → s ^^^ (s &&& x) = 0 → jpop (x ^^^ s) + jpop s = jpop x ∧ s ≤ x := by decide +kernel
theorem jbitT {n s : Nat} (hn : n < 2147483648) (hs : s < 31) : jbit (nI n) s = jB (n.testBit s) := by
  rw [jbit_nI hn hs, Nat.testBit_eq_decide_div_mod_eq]
  have : n / 2 ^ s % 2 = 0 ∨ n / 2 ^ s % 2 = 1 := by omega
  rcases this with h | h <;> rw [h] <;> rfl
theorem jmhasT {n s : Nat} (hn : n < 2147483648) (hs : s < 31) (N9 : Nat) : pM_has N9 (nI n) (nI s) = some (jB (n.testBit s)) := by
  rw [jmhas hn hs, Nat.testBit_eq_decide_div_mod_eq]
theorem jsub_iff {s x : Nat} : jdf2 s x = 0 ↔ ∀ i, s.testBit i = true → x.testBit i = true := by
  constructor
  · intro h i hi
    have h8 := jdf2_bit s x i
    rw [h, Nat.zero_testBit, hi] at h8
    cases hx : x.testBit i with
    | true => rfl
    | false => rw [hx] at h8; exact absurd h8 (by decide)
  · intro h
    refine Nat.eq_of_testBit_eq fun i => ?_
    rw [jdf2_bit, Nat.zero_testBit]
    cases hs : s.testBit i with
    | false => rfl
    | true => rw [h i hs]; rfl
theorem jsub_le {t x : Nat} (h : jdf2 t x = 0) : t ≤ x := by
  have e : t = t &&& x := Nat.eq_of_testBit_eq fun i => by
    rw [Nat.testBit_and]
    have h1 := jsub_iff.mp h i
    cases ht : t.testBit i with
    | false => rfl
    | true => rw [h1 ht]; rfl
  rw [e]; exact Nat.and_le_right
theorem jxor_bit {s b i : Nat} : (s ^^^ 2 ^ b).testBit i = (s.testBit i ^^ decide (b = i)) := by
  rw [Nat.testBit_xor, Nat.testBit_two_pow]
theorem jsub_clr {r x b : Nat} (h : jdf2 r x = 0) (hb : r.testBit b = true) : jdf2 (r ^^^ 2 ^ b) x = 0 := by
  rw [jsub_iff] at h ⊢
  intro i hi
  by_cases hbi : b = i
  · subst hbi; exact h b hb
  · rw [jxor_bit, decide_eq_false hbi, Bool.xor_false] at hi
    exact h i hi
theorem jsub_put {t x b : Nat} (h : jdf2 t x = 0) (hb : x.testBit b = true) : jdf2 (t ^^^ 2 ^ b) x = 0 := by
  rw [jsub_iff] at h ⊢
  intro i hi
  by_cases hbi : b = i
  · subst hbi; exact hb
  · rw [jxor_bit, decide_eq_false hbi, Bool.xor_false] at hi
    exact h i hi
theorem jsub_xor {t x : Nat} (h : jdf2 t x = 0) : jdf2 (x ^^^ t) x = 0 := by
  rw [jsub_iff] at h ⊢
  intro i hi
  rw [Nat.testBit_xor] at hi
  cases hx : x.testBit i with
  | true => rfl
  | false =>
    rw [hx] at hi
    have h3 := h i
    cases ht : t.testBit i with
    | true => rw [h3 ht] at hx; exact absurd hx (by decide)
    | false => rw [ht] at hi; exact absurd hi (by decide)
theorem jsub_P {t x : Nat} (h : jdf2 t x = 0) (i : Nat) : (x ^^^ t).testBit i = (x.testBit i && !t.testBit i) := by
  rw [jsub_iff] at h
  have h3 := h i
  rw [Nat.testBit_xor]
  cases hx : x.testBit i <;> cases ht : t.testBit i <;> first | rfl | (rw [hx, ht] at h3; exact absurd (h3 rfl) (by decide))
theorem jupd2 {f : Nat → Int32} {k : Nat} {a b : Int32} : upd (upd f k a) k b = upd f k b := by
  funext i
  by_cases h : i = k
  · subst h; rw [pk_us, pk_us]
  · rw [pk_un h, pk_un h, pk_un h]
def jhX (f : Nat → Nat → Nat) (q : Nat) (least : Nat → Int32) (r b : Nat) : Nat := f b (q - jpop r) + (least (r ^^^ 2 ^ b)).toNatClampNeg
def jLX (f : Nat → Nat → Nat) (q x s : Nat) (least : Nat → Int32) : Prop := least 0 = nI 0 ∧ ∀ r, r < s → r ≠ 0 → jdf2 r x = 0 → ∃ w, w ≤ 99 * r ∧ least r = nI w ∧ (jsc (fun b => r.testBit b) (jhX f q least r) 8).2 = nI w
theorem jLX_get {f : Nat → Nat → Nat} {q x s : Nat} {least : Nat → Int32} (h : jLX f q x s least) {r : Nat} (hr : r < s) (hx : jdf2 r x = 0) : ∃ w, w ≤ 99 * r ∧ least r = nI w := by
  by_cases h0 : r = 0
  · subst h0; exact ⟨0, Nat.zero_le _, h.1⟩
  · obtain ⟨w, h1, h2, -⟩ := h.2 r hr h0 hx
    exact ⟨w, h1, h2⟩
section FX
variable {N9 : Nat} {f : Nat → Nat → Nat} {q x : Nat} {fees : Nat → Int32}
theorem jxwhen (hf : ∀ b j, f b j ≤ 99) (hq : q ≤ 8) (hx : x < 256) (hfe : ∀ b, x.testBit b = true → ∀ i, i < q → fees (b * 8 + i) = nI (f b i)) {s r b : Nat} {least : Nat → Int32} (hl : jLX f q x s least) (hrs : r ≤ s) (hrx : jdf2 r x = 0) (hpr : jpop r ≤ q) (hb8 : b < 8) (hb : r.testBit b = true) :
    pX6_feesWhenNext N9 least fees (nI r) (nI b) (nI q) = some (nI (jhX f q least r b)) ∧ jhX f q least r b ≤ 99 + 99 * (r ^^^ 2 ^ b) ∧ r ^^^ 2 ^ b < r := by
  have hr : r < 256 := by have := jsub_le hrx; omega
  obtain ⟨h1, h2, h3⟩ := jclr r hr b hb8 hb
  obtain ⟨w, w1, w2⟩ := jLX_get hl (by omega : r ^^^ 2 ^ b < s) (jsub_clr hrx hb)
  have h4 := hfe b (jsub_iff.mp hrx b hb) (q - jpop r) (by omega)
  have h5 := hf b (q - jpop r)
  unfold jhX
  rw [w2, jcl (by omega)]
  refine ⟨?_, by omega, h2⟩
  unfold pX6_feesWhenNext
  have hsh := jshl b (by omega)
  have e1 : b * 8 + q - jpop r = b * 8 + (q - jpop r) := by omega
  rw [jbc hr, jb1]
  simp only [jlit, jN1]
  rw [jmul, jadd, jsub (by omega), e1, jcl (by omega), hsh, h1, jcl (by omega), if_pos ((jzin (by omega) (by omega)).mpr trivial), if_pos ((jzin (by omega) (by omega)).mpr trivial), h4, w2, jadd]
theorem jxnext (hN : 70000 < N9) (hf : ∀ b j, f b j ≤ 99) (hq : q ≤ 8) (hx : x < 256) (hfe : ∀ b, x.testBit b = true → ∀ i, i < q → fees (b * 8 + i) = nI (f b i)) {s r : Nat} {least : Nat → Int32} (hl : jLX f q x s least) (hrs : r ≤ s) (hr : r < 256) (hrx : jdf2 r x = 0) (hpr : jpop r ≤ q) :
    pX6_nextInFile N9 least fees (nI r) (nI q) = some (jsc (fun b => r.testBit b) (jhX f q least r) 8).1 := by
  unfold pX6_nextInFile
  refine jloop0 (fun n (s : Int32 × Int32) i => pX6_nextInFile_8 N9 least fees (nI r) (nI q) n s.1 s.2 i) 8 (fun k => jsc (fun b => r.testBit b) (jhX f q least r) k) (fun n b hb => ?_) (fun n => ?_) (by omega) (s := (nI 0, -nI 1)) rfl
  · show pX6_nextInFile_8 N9 least fees (nI r) (nI q) (n + 1) _ _ _ = pX6_nextInFile_8 N9 least fees (nI r) (nI q) n _ _ _
    have hbt := jbitT (n := r) (s := b) (by omega) (by omega)
    unfold jbit at hbt
    generalize hs' : jsc (fun b => r.testBit b) (jhX f q least r) b = p
    have e : jsc (fun b => r.testBit b) (jhX f q least r) (b + 1) = if r.testBit b = true then (if p.2 = -nI 1 then (nI b, nI (jhX f q least r b)) else if p.2 ≤ nI (jhX f q least r b) then p else (nI b, nI (jhX f q least r b))) else p := by rw [jsc, hs']
    rw [e]
    simp only [pX6_nextInFile_8, pX6_nextInFile_48, pX6_nextInFile_55, jlit, jN1]
    rw [if_neg (nI_ge hb (by omega)), hbt]
    cases hc : r.testBit b with
    | false => rw [if_neg (show ¬ jB false = nI 1 by decide), if_neg (by decide), jadd]
    | true =>
      obtain ⟨w1, w2, w3⟩ := jxwhen (N9 := N9) hf hq hx hfe hl hrs hrx hpr hb hc
      rw [if_pos (show jB true = nI 1 from rfl), if_pos rfl, w1, jb1, jadd]
      by_cases h1 : p.2 = -nI 1
      · rw [if_pos h1, if_pos h1]
      · rw [if_neg h1, if_neg h1]
        by_cases h2 : p.2 ≤ nI (jhX f q least r b)
        · rw [if_pos h2, if_pos h2]
        · rw [if_neg h2, if_neg h2]
  · show pX6_nextInFile_8 N9 least fees (nI r) (nI q) (n + 1) _ _ _ = _
    simp only [pX6_nextInFile_8, jlit]
    rw [if_pos (nI_le (Nat.le_refl 8) (by omega))]
theorem jnonz : ∀ r, r < 256 → r ≠ 0 → ∃ b, b < 8 ∧ r.testBit b = true := by decide +kernel
/-- what the class keeps for all the rests of a file -/
theorem jxleast (hN : 70000 < N9) (hf : ∀ b j, f b j ≤ 99) (hq : jpop x = q) (hx : x < 256) (hfe : ∀ b, x.testBit b = true → ∀ i, i < q → fees (b * 8 + i) = nI (f b i)) (lw ru : Nat → Int32) :
    ∀ e s n (least : Nat → Int32), s + e = x + 1 → e < n → 1 ≤ s → jLX f q x s least → ∃ least', pX6_leastFees_81 N9 (nI x) (nI q) n lw ru least fees (nI s) = some (least' x, lw, ru, least', fees) ∧ jLX f q x (x + 1) least' := by
  have hq8 : q ≤ 8 := by rw [← hq]; exact jpop_le x
  intro e
  induction e with
  | zero =>
    intro s n least h1 h2 h3 h4
    obtain ⟨n, rfl⟩ : ∃ q, n = q + 1 := ⟨n - 1, by omega⟩
    obtain rfl : s = x + 1 := by omega
    refine ⟨least, ?_, h4⟩
    simp only [pX6_leastFees_81]
    rw [if_pos (nI_lt (by omega) (by omega)), if_pos ((jzin (by omega) (by omega)).mpr trivial), jcl (by omega)]
  | succ e ih =>
    intro s n least h1 h2 h3 h4
    obtain ⟨n, rfl⟩ : ∃ q, n = q + 1 := ⟨n - 1, by omega⟩
    have hand := (jandn s (by omega) x hx).1
    have hdl := (jandn s (by omega) x hx).2
    simp only [pX6_leastFees_81, pX6_leastFees_121, jlit, jN1]
    rw [if_neg (nI_nlt (by omega) (by omega)), hand, jadd]
    by_cases hsx : jdf2 s x = 0
    · obtain ⟨hp1, hp2⟩ := jpopc x hx s (by omega) hsx
      have hnx := jxnext hN hf hq8 hx hfe h4 (Nat.le_refl s) (by omega) hsx (by omega)
      rw [hsx, if_pos rfl, hnx, jb1]
      rcases jsc_spec (P := fun b => s.testBit b) (h := jhX f q least s) 8 (fun i hi hp => by
        obtain ⟨-, w2, w3⟩ := jxwhen (N9 := N9) hf hq8 hx hfe h4 (Nat.le_refl s) hsx (by omega) hi hp
        omega) with ⟨g1, g2⟩ | ⟨b, g1, g2, g3, g4, g5⟩
      · obtain ⟨b, b1, b2⟩ := jnonz s (by omega) (by omega)
        exact absurd (g1 b b1) (by rw [b2]; decide)
      · obtain ⟨w1, w2, w3⟩ := jxwhen (N9 := N9) hf hq8 hx hfe h4 (Nat.le_refl s) hsx (by omega) g1 g2
        rw [g3, w1, jb1, if_pos ((jzin (by omega) (by omega)).mpr trivial), jcl (by omega)]
        refine ih (s + 1) n _ (by omega) (by omega) (by omega) ⟨?_, fun r hr hr0 hrx => ?_⟩
        · rw [pk_un (by omega)]; exact h4.1
        · have key : ∀ r, r ≤ s → jsc (fun b => r.testBit b) (jhX f q (upd least s (nI (jhX f q least s b))) r) 8 = jsc (fun b => r.testBit b) (jhX f q least r) 8 := fun r hr => jsc_congr 8 (fun i hi => rfl) (fun i hi hp => by
            unfold jhX
            rw [pk_un (by have := (jclr r (by omega) i hi hp).2.1; omega)])
          by_cases hrs : r = s
          · subst hrs
            refine ⟨jhX f q least r b, by omega, pk_us, ?_⟩
            rw [key r (Nat.le_refl r), g3]
          · obtain ⟨w, q1, q2, q3⟩ := h4.2 r (by omega) hr0 hrx
            refine ⟨w, q1, ?_, ?_⟩
            · rw [pk_un hrs]; exact q2
            · rw [key r (by omega)]; exact q3
    · rw [if_neg (fun h => hsx ((nI_eq (by omega) (by omega)).mp h))]
      refine ih (s + 1) n least (by omega) (by omega) (by omega) ⟨h4.1, fun r hr hr0 hrx => ?_⟩
      by_cases hrs : r = s
      · subst hrs; exact absurd hrx hsx
      · exact h4.2 r (by omega) hr0 hrx
end FX
