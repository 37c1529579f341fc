/-! the reading of a work, side by side -/
abbrev jX10 : Type := Int32 × Int32 × Int32 × Int32 × Int32 × Int32 × (Nat → Int32) × (Nat → Int32) × (Nat → Int32) × Int32
abbrev jMs : Type := Int32 × Int32 × Int32 × Int32 × (Nat → Nat → Int32) × Int32
abbrev jXsf : Type := (Nat → Int32) → Int32 → Int32 → Int32 → Int32 → Int32 → Int32 → (Nat → Int32) → (Nat → Int32) → (Nat → Int32) → Int32 → Int32 → Int32 → Int32 → Option jX10
abbrev jMsf : Type := Int32 → Int32 → Int32 → Int32 → Int32 → (Nat → Int32) → (Nat → Int32) → (Nat → Nat → Int32) → Int32 → (Nat → Int32) → Option jMs
def jn (f : Nat → Int32) : Nat → Nat := fun i => (f i).toNatClampNeg
def jRowA (B0 G : Nat) (kinds firsts seconds : Nat → Int32) (step : Nat → Nat → Int32) (i : Nat) : Prop :=
  ∃ k f s e, k ≤ 6 ∧ e ≤ 150 ∧ kinds i = nI k ∧ step i 0 = nI k ∧ (k < 6 → jok B0 G k f s) ∧ ((k < 5 ∨ k = 6) → firsts i = nI f ∧ step i 1 = nI f) ∧ ((k < 2 ∨ k = 3 ∨ k = 4) → seconds i = nI s ∧ step i 2 = nI s) ∧
    step i 3 = nI (if k = 6 then e else i + 1) ∧ (k = 6 → f ≤ 30 ∧ seconds i = nI e)
/-- rows lo to m are read; those ahead of lo are as they were -/
def jRows (B0 G lo m : Nat) (k0 f0 s0 : Nat → Int32) (t0 : Nat → Nat → Int32) (kinds firsts seconds : Nat → Int32) (step : Nat → Nat → Int32) : Prop :=
  (∀ i, lo ≤ i → i < m → jRowA B0 G kinds firsts seconds step i) ∧ (∀ i, i < lo → kinds i = k0 i ∧ firsts i = f0 i ∧ seconds i = s0 i ∧ ∀ j, step i j = t0 i j)
theorem jChain_congr {kd en kd' en' : Nat → Nat} {S S' : Nat → Nat → Prop} : ∀ {m a b : Nat}, (∀ i, a ≤ i → i < b → kd i = kd' i ∧ en i = en' i) → (∀ x y, a ≤ x → y ≤ b → S x y → S' x y) → jChain (jItem S kd en) m a b → jChain (jItem S' kd' en') m a b := by
  intro m
  induction m with
  | zero => intro a b _ _ h; exact h
  | succ m ih =>
    rintro a b h hS ⟨c, h1, h2⟩
    have hl := jItem_lt h2
    have hc := jChain_le h1
    refine ⟨c, ih (fun i hi1 hi2 => h i hi1 (by omega)) (fun x y hx hy => hS x y hx (by omega)) h1, ?_⟩
    obtain ⟨e1, e2⟩ := h c (by omega) hl
    rcases h2 with ⟨h3, h4⟩ | ⟨h3, h4, h5, h6⟩
    · exact Or.inl ⟨by rw [← e1]; exact h3, h4⟩
    · exact Or.inr ⟨by rw [← e1]; exact h3, by rw [← e2]; exact h4, h5, hS _ _ (by omega) (Nat.le_refl b) h6⟩
theorem jForest_congr {kd en kd' en' : Nat → Nat} : ∀ {r a b : Nat}, (∀ i, a ≤ i → i < b → kd i = kd' i ∧ en i = en' i) → jForest kd en r a b → jForest kd' en' r a b := by
  intro r
  induction r with
  | zero =>
    rintro a b h ⟨m, hm⟩
    exact ⟨m, jChain_congr h (fun x y _ _ q => q) hm⟩
  | succ r ih =>
    rintro a b h ⟨m, hm⟩
    exact ⟨m, jChain_congr h (fun x y hx hy q => ih (fun i h1 h2 => h i (by omega) (by omega)) q) hm⟩
/-- which step a word names -/
def jstk (by' : Nat → Nat) (k m : Nat) : Int32 := if jisw by' k m 14 then nI 0 else if jisw by' k m 15 then nI 1 else if jisw by' k m 16 then nI 2 else if jisw by' k m 17 then nI 3 else if jisw by' k m 18 then nI 4 else if jisw by' k m 19 then nI 5 else if jisw by' k m 20 then nI 6 else -nI 1
theorem jstk_rng (by' : Nat → Nat) (k m : Nat) : jstk by' k m = -nI 1 ∨ ∃ v, v ≤ 6 ∧ 3 ≤ m ∧ jstk by' k m = nI v := by
  have hl : ∀ w, jisw by' k m w = true → m = (jw w).length := fun w h => by
    unfold jisw at h
    rw [Bool.and_eq_true, decide_eq_true_eq] at h
    exact h.1
  have h3 : ∀ w, w ≤ 20 → 14 ≤ w → 3 ≤ (jw w).length := by decide +kernel
  unfold jstk
  split
  · rename_i h; exact Or.inr ⟨0, by omega, by rw [hl _ h]; exact h3 14 (by omega) (by omega), rfl⟩
  · split
    · rename_i h; exact Or.inr ⟨1, by omega, by rw [hl _ h]; exact h3 15 (by omega) (by omega), rfl⟩
    · split
      · rename_i h; exact Or.inr ⟨2, by omega, by rw [hl _ h]; exact h3 16 (by omega) (by omega), rfl⟩
      · split
        · rename_i h; exact Or.inr ⟨3, by omega, by rw [hl _ h]; exact h3 17 (by omega) (by omega), rfl⟩
        · split
          · rename_i h; exact Or.inr ⟨4, by omega, by rw [hl _ h]; exact h3 18 (by omega) (by omega), rfl⟩
          · split
            · rename_i h; exact Or.inr ⟨5, by omega, by rw [hl _ h]; exact h3 19 (by omega) (by omega), rfl⟩
            · split
              · rename_i h; exact Or.inr ⟨6, by omega, by rw [hl _ h]; exact h3 20 (by omega) (by omega), rfl⟩
              · exact Or.inl rfl
theorem jbB2 {A : Type} {b : Bool} {u : Int32} {x y : Int32 → Option A} : zb2 (some (jB b, u)) (fun r t => if r = 0 then x t else y t) = if b = true then y u else x u := by
  cases b <;> rfl
theorem jle_pred {v B : Nat} (hv : v ≤ 100000) (hB : B ≤ 100) : nI v ≤ nI B - 1 ↔ v < B := by
  by_cases h : 1 ≤ B
  · rw [show nI B - 1 = nI (B - 1) from jsub h, nI_leI (by omega) (by omega)]
    omega
  · have : B = 0 := by omega
    subst this
    constructor
    · intro q
      have h1 : nI 0 - 1 = -nI 1 := by decide
      rw [h1] at q
      have h2 := jneg_lt (a := v) (by omega)
      exact absurd q (jnlt.mpr h2)
    · intro q; omega
section WR
variable {n : Nat} {by' : Nat → Nat} {tp_bytes m_fed : Nat → Int32} {N9 : Nat}
theorem jstkX (hN : 70000 < N9) (ht : jTx n by' tp_bytes m_fed) {k e : Nat} (hk : k ≤ e) (he : e ≤ n) : pX4_stepKind N9 tp_bytes (nI e) (nI k) = some (jstk by' k (e - k)) := by
  have h := fun w h1 h2 => jisX (w := w) hN ht hk he h1 h2
  unfold pX4_stepKind pX4_stepKind_81 jstk
  simp only [h 14 (by omega) (by omega), h 15 (by omega) (by omega), h 16 (by omega) (by omega), h 17 (by omega) (by omega), h 18 (by omega) (by omega), h 19 (by omega) (by omega), h 20 (by omega) (by omega), jbB]
  repeat' split
  all_goals rfl
theorem jstkM (hN : 70000 < N9) (ht : jTx n by' tp_bytes m_fed) {a : Nat} (ha : a ≤ n) : pM_stepHere N9 (nI n) (nI a) (nI 0) m_fed = some (jstk by' (jsk n by' a) (jle n by' (jsk n by' a) - jsk n by' a), nI (jsk n by' a)) := by
  have hk := jsk_rng (by' := by') ha
  have hsk := jsk_sk (by' := by') ha
  have h0 := jisM (N9 := N9) (w := 14) hN ht ha (by omega) (by omega) (x1 := 20) (x2 := 1) (x3 := 18) (x4 := 0) (x5 := 0) (x6 := 0) rfl
  have h := fun w h1 h2 x1 x2 x3 x4 x5 x6 h6 => jisM (N9 := N9) (w := w) hN ht hk.2 h1 h2 (x1 := x1) (x2 := x2) (x3 := x3) (x4 := x4) (x5 := x5) (x6 := x6) h6
  rw [hsk] at h
  unfold pM_stepHere pM_stepHere_127 jstk
  simp only [h0, h 15 (by omega) (by omega) 18 21 2 0 0 0 rfl, h 16 (by omega) (by omega) 23 1 19 8 0 0 rfl, h 17 (by omega) (by omega) 16 1 19 19 0 0 rfl, h 18 (by omega) (by omega) 6 15 1 12 0 0 rfl, h 19 (by omega) (by omega) 25 5 1 18 0 0 rfl, h 20 (by omega) (by omega) 1 7 1 9 14 0 rfl, jbB2]
  repeat' split
  all_goals rfl
theorem jnum2 (hN : 70000 < N9) (ht : jTx n by' tp_bytes m_fed) {a : Nat} (ha : a ≤ n) (np hi : Int32) :
    (∃ q f a' p, 1 ≤ q ∧ q ≤ 3 ∧ f ≤ n ∧ a' ≤ n ∧ pX8_readNumber N9 tp_bytes (nI n) (nI a) np (nI 0) (-nI 1) hi = some (-nI 1, nI a', nI p, nI q, nI f) ∧ pM_number N9 (nI n) (nI a) (nI 0) (-nI 1) m_fed (nI 0) hi = some (nI 0, nI a', nI q, nI f)) ∨
    (∃ v e, a < e ∧ e ≤ n ∧ v ≤ 100000 ∧ nI v ≤ hi ∧ pX8_readNumber N9 tp_bytes (nI n) (nI a) np (nI 0) (-nI 1) hi = some (nI v, nI e, nI (jsk n by' a), nI 0, -nI 1) ∧ pM_number N9 (nI n) (nI a) (nI 0) (-nI 1) m_fed (nI 0) hi = some (nI v, nI e, nI 0, -nI 1)) := by
  have hk := jsk_rng (by' := by') ha
  have hd := jdi_rng (by' := by') hk.2
  rw [jnumX hN ht ha, jnumM hN ht ha]
  by_cases h1 : jdi n by' (jsk n by' a) = jsk n by' a
  · rw [if_pos h1, if_pos h1]
    exact Or.inl ⟨1, _, _, _, by omega, by omega, hk.2, hk.2, rfl, rfl⟩
  · rw [if_neg h1, if_neg h1]
    by_cases h2 : nI (jval by' (jsk n by' a) (jdi n by' (jsk n by' a) - jsk n by' a)) ≤ hi
    · rw [if_pos h2, if_pos h2]
      exact Or.inr ⟨_, _, by omega, hd.2, jval_le _ _ _, h2, rfl, rfl⟩
    · rw [if_neg h2, if_neg h2]
      exact Or.inl ⟨2, _, _, _, by omega, by omega, hk.2, hd.2, rfl, rfl⟩
end WR
