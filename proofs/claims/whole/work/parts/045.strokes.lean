/-! strokes -/
def jTab : Nat := 95125173855764218123276304889944061997689682402263585766959741291920687686033329201817409157123347502415384089435969498586180241031507595463600295898153685276653211633572815512294064538494957912327413386667662218713394765509704508661031522276467630197481635010039778342554499416459730172574551513689147646224
def jpt (n : Nat) : Nat := jTab / 16 ^ n % 16
theorem jpt_eq : ∀ n, n < 256 → jpop n = jpt n := by decide +kernel
def jlow (n : Nat) : Nat := if 128 ≤ n then n - 128 else if 64 ≤ n then n - 64 else if 32 ≤ n then n - 32 else if 16 ≤ n then n - 16 else if 8 ≤ n then n - 8 else if 4 ≤ n then n - 4 else if 2 ≤ n then n - 2 else 0
theorem jlow_le (n : Nat) : jlow n ≤ n := by
  unfold jlow
  (repeat' split) <;> omega
def jdr : Nat → Nat → Nat | 0, d => d | K + 1, d => jdr K (jlow d)
theorem jdr_le : ∀ K d, jdr K d ≤ d := by
  intro K
  induction K with
  | zero => intro d; exact Nat.le_refl _
  | succ K ih => intro d; exact Nat.le_trans (ih _) (jlow_le d)
def jchk1 (K c d : Nat) : Nat → Bool | 0 => true | s + 1 => (Nat.blt K (jpt (s ^^^ d)) || Nat.ble (jpt c * 256 + c) (jpt s * 256 + s)) && jchk1 K c d s
def jchk (K : Nat) : Nat → Bool | 0 => true | d + 1 => jchk1 K (jdr K d) d 256 && Nat.ble (jpt (jdr K d ^^^ d)) K && jchk K d
theorem jchk_ok : ∀ K, K < 4 → jchk K 256 = true := by decide +kernel
theorem jhi0 : ∀ n, n < 256 → (zb1 (pXJ_highestOneBit 0 (nI n)) fun r => some (nI n &&& (r ^^^ -nI 1))) = some (nI (jlow n)) := by decide +kernel
theorem jchk1_use {K c d : Nat} : ∀ n, jchk1 K c d n = true → ∀ s, s < n → jpt (s ^^^ d) ≤ K → jpt c * 256 + c ≤ jpt s * 256 + s := by
  intro n
  induction n with
  | zero => intro _ s hs; exact absurd hs (Nat.not_lt_zero s)
  | succ n ih =>
    intro h s hs hK
    rw [jchk1, Bool.and_eq_true, Bool.or_eq_true] at h
    by_cases hsn : s = n
    · subst hsn
      rcases h.1 with h1 | h1
      · have := Nat.le_of_ble_eq_true (show Nat.ble (K + 1) _ = true from h1)
        omega
      · exact Nat.le_of_ble_eq_true h1
    · exact ih h.2 s (by omega) hK
theorem jchk_use {K : Nat} : ∀ n, jchk K n = true → ∀ d, d < n → jchk1 K (jdr K d) d 256 = true ∧ jpt (jdr K d ^^^ d) ≤ K := by
  intro n
  induction n with
  | zero => intro _ s hs; exact absurd hs (Nat.not_lt_zero s)
  | succ n ih =>
    intro h d hd
    rw [jchk, Bool.and_eq_true, Bool.and_eq_true] at h
    by_cases hsn : d = n
    · subst hsn
      exact ⟨h.1.1, Nat.le_of_ble_eq_true h.1.2⟩
    · exact ih h.2 d (by omega)
/-- before: fewer bits, or as many and not larger -/
def jbf (a b : Nat) : Prop := jpop a < jpop b ∨ (jpop a = jpop b ∧ a ≤ b)
theorem jbf_key {a b : Nat} (ha : a < 256) (hb : b < 256) : jbf a b ↔ jpop a * 256 + a ≤ jpop b * 256 + b := by
  unfold jbf
  omega
theorem jdr_best {K d s : Nat} (hK : K < 4) (hd : d < 256) (hs : s < 256) (h : jpop (s ^^^ d) ≤ K) : jbf (jdr K d) s := by
  have hc := jdr_le K d
  obtain ⟨h1, -⟩ := jchk_use 256 (jchk_ok K hK) d hd
  have hx := jxor_lt hs hd
  rw [jbf_key (by omega) hs, jpt_eq _ (by omega : jdr K d < 256), jpt_eq s hs]
  rw [jpt_eq _ hx] at h
  exact jchk1_use 256 h1 s hs h
theorem jdr_ok {K d : Nat} (hK : K < 4) (hd : d < 256) : jpop (jdr K d ^^^ d) ≤ K := by
  have hc := jdr_le K d
  obtain ⟨-, h1⟩ := jchk_use 256 (jchk_ok K hK) d hd
  rw [jpt_eq _ (jxor_lt (by omega) hd)]
  exact h1
/-- open: some number is near enough -/
theorem jopen_iff (gt nu fo : Nat → Nat) (L g v : Nat) (hf : fo g ≤ 3) : jopen gt nu fo L g v = true ↔ ∃ k, k < L ∧ gt k = g ∧ jpop (v ^^^ nu k) ≤ fo g := by
  have key : ∀ L, (jnear gt nu g L v = -nI 1 ∧ ∀ k, k < L → gt k ≠ g) ∨ ∃ n, n ≤ 8 ∧ jnear gt nu g L v = nI n ∧ (∃ k, k < L ∧ gt k = g ∧ jpop (v ^^^ nu k) = n) ∧ ∀ k, k < L → gt k = g → n ≤ jpop (v ^^^ nu k) := by
    intro L
    induction L with
    | zero => exact Or.inl ⟨rfl, fun k hk => absurd hk (Nat.not_lt_zero k)⟩
    | succ L ih =>
      unfold jnear at ih ⊢
      rw [jfl]
      have hp := jpop_le (v ^^^ nu L)
      by_cases hg : gt L = g
      · rw [if_pos hg]
        right
        rcases ih with ⟨h1, h2⟩ | ⟨n, h1, h2, ⟨j, j1, j2, j3⟩, h4⟩
        · rw [h1]
          refine ⟨jpop (v ^^^ nu L), hp, if_pos rfl, ⟨L, by omega, hg, rfl⟩, fun k hk hgk => ?_⟩
          by_cases hkL : k = L
          · subst hkL; exact Nat.le_refl _
          · exact absurd hgk (h2 k (by omega))
        · rw [h2]
          unfold jns
          rw [if_neg (jeqN_f (by omega)).mp]
          by_cases hlt : jpop (v ^^^ nu L) < n
          · rw [if_pos (nI_lt hlt (by omega))]
            refine ⟨jpop (v ^^^ nu L), hp, rfl, ⟨L, by omega, hg, rfl⟩, fun k hk hgk => ?_⟩
            by_cases hkL : k = L
            · subst hkL; exact Nat.le_refl _
            · have := h4 k (by omega) hgk
              omega
          · rw [if_neg (nI_nlt (by omega) (by omega))]
            refine ⟨n, h1, rfl, ⟨j, by omega, j2, j3⟩, fun k hk hgk => ?_⟩
            by_cases hkL : k = L
            · subst hkL; omega
            · exact h4 k (by omega) hgk
      · rw [if_neg hg]
        rcases ih with ⟨h1, h2⟩ | ⟨n, h1, h2, ⟨j, j1, j2, j3⟩, h4⟩
        · refine Or.inl ⟨h1, fun k hk => ?_⟩
          by_cases hkL : k = L
          · subst hkL; exact hg
          · exact h2 k (by omega)
        · refine Or.inr ⟨n, h1, h2, ⟨j, by omega, j2, j3⟩, fun k hk hgk => ?_⟩
          by_cases hkL : k = L
          · subst hkL; exact absurd hgk hg
          · exact h4 k (by omega) hgk
  unfold jopen
  rw [Bool.and_eq_true, decide_eq_true_eq, decide_eq_true_eq]
  rcases key L with ⟨h1, h2⟩ | ⟨n, h1, h2, ⟨j, j1, j2, j3⟩, h4⟩
  · rw [h1]
    exact ⟨fun q => absurd rfl q.1, fun ⟨k, k1, k2, _⟩ => absurd k2 (h2 k k1)⟩
  · rw [h2, nI_leI (by omega) (by omega)]
    constructor
    · exact fun q => ⟨j, j1, j2, by omega⟩
    · rintro ⟨k, k1, k2, k3⟩
      have := h4 k k1 k2
      exact ⟨(jeqN_f (by omega)).mp, by omega⟩
