/-! the lists of the gates, told one behind the other -/
/-- how many of the first k entries are of gate g -/
def jcnt (gt : Nat → Nat) (g : Nat) : Nat → Nat | 0 => 0 | k + 1 => jcnt gt g k + (if gt k = g then 1 else 0)
/-- a fold over the entries of gate g -/
def jfl {S : Type} (gt nu : Nat → Nat) (g : Nat) (f : Nat → S → S) (s : S) : Nat → S | 0 => s | k + 1 => if gt k = g then f (nu k) (jfl gt nu g f s k) else jfl gt nu g f s k
theorem jcnt_le (gt : Nat → Nat) (g : Nat) : ∀ k, jcnt gt g k ≤ k := by
  intro k
  induction k with
  | zero => exact Nat.le_refl 0
  | succ k ih => rw [jcnt]; split <;> omega
theorem jcnt_mono {gt : Nat → Nat} {g k n : Nat} (h : k ≤ n) : jcnt gt g k ≤ jcnt gt g n := by
  induction n with
  | zero => rw [Nat.le_zero.mp h]; exact Nat.le_refl _
  | succ n ih =>
    by_cases hk : k = n + 1
    · rw [hk]; exact Nat.le_refl _
    · have := ih (by omega)
      rw [jcnt]; omega
theorem jcnt_lt {gt : Nat → Nat} {g k n : Nat} (h : k < n) (hg : gt k = g) : jcnt gt g k < jcnt gt g n := by
  have h1 := jcnt_mono (gt := gt) (g := g) (k := k + 1) (n := n) (by omega)
  rw [jcnt, if_pos hg] at h1
  omega
theorem jloopG {S R : Type} (Lx : Nat → S → Int32 → Option R) (gt nu : Nat → Nat) (g L : Nat) (f : Nat → S → S) (s0 : S) {r : Option R}
    (hs : ∀ n k, k < L → gt k = g → Lx (n + 1) (jfl gt nu g f s0 k) (nI (jcnt gt g k)) = Lx n (f (nu k) (jfl gt nu g f s0 k)) (nI (jcnt gt g k + 1)))
    (hx : ∀ n, Lx (n + 1) (jfl gt nu g f s0 L) (nI (jcnt gt g L)) = r) {N : Nat} (hN : L < N) : Lx N s0 (nI 0) = r := by
  have key : ∀ d k n, k + d = L → d < n → Lx n (jfl gt nu g f s0 k) (nI (jcnt gt g k)) = r := by
    intro d
    induction d with
    | zero =>
      intro k n h1 h2
      obtain ⟨n, rfl⟩ : ∃ q, n = q + 1 := ⟨n - 1, by omega⟩
      obtain rfl : k = L := by omega
      exact hx n
    | succ d ih =>
      intro k n h1 h2
      obtain ⟨n, rfl⟩ : ∃ q, n = q + 1 := ⟨n - 1, by omega⟩
      by_cases hg : gt k = g
      · rw [hs n k (by omega) hg]
        have h3 := ih (k + 1) n (by omega) (by omega)
        rw [jfl, if_pos hg, jcnt, if_pos hg] at h3
        exact h3
      · have h3 := ih (k + 1) (n + 1) (by omega) (by omega)
        rw [jfl, if_neg hg, jcnt, if_neg hg] at h3
        exact h3
  exact key L 0 N (by omega) hN
/-- the class's book and the reference's tell the same: G gates, L entries -/
def jBk (G L : Nat) (gt nu fo : Nat → Nat) (bk_forgives bk_tolls bk_lengths : Nat → Int32) (bk_numbers : Nat → Nat → Int32) (m_told : Nat → Int32) (m_gate m_list : Nat → Nat → Int32) : Prop :=
  G ≤ 5 ∧ L ≤ 24 ∧ m_told 1 = nI G ∧ m_told 2 = nI L ∧ (∀ g, g < G → fo g ≤ 3 ∧ bk_forgives g = nI (fo g) ∧ m_gate g 0 = nI (fo g)) ∧ (∀ g, g < G → bk_tolls g = m_gate g 1) ∧
  (∀ g, g < G → bk_lengths g = nI (jcnt gt g L)) ∧ (∀ k, k < L → gt k < G ∧ nu k < 256 ∧ m_list k 0 = nI (gt k) ∧ m_list k 1 = nI (nu k) ∧ bk_numbers (gt k) (jcnt gt (gt k) k) = nI (nu k))
/-- a step to the nearest number: the slips of those looked at, none yet: -1 -/
def jns (v n : Nat) (a : Int32) : Int32 := if a = -nI 1 then nI (jpop (v ^^^ n)) else if nI (jpop (v ^^^ n)) < a then nI (jpop (v ^^^ n)) else a
def jnear (gt nu : Nat → Nat) (g L v : Nat) : Int32 := jfl gt nu g (jns v) (-nI 1) L
theorem jfl_inv {S : Type} {gt nu : Nat → Nat} {g : Nat} {f : Nat → S → S} {s : S} (I : S → Prop) (h0 : I s) : ∀ {L : Nat}, (∀ k s, k < L → gt k = g → I s → I (f (nu k) s)) → I (jfl gt nu g f s L) := by
  intro L
  induction L with
  | zero => intro _; exact h0
  | succ L ih =>
    intro h
    have h1 := ih (fun k s hk => h k s (by omega))
    rw [jfl]
    split
    · exact h L _ (by omega) (by assumption) h1
    · exact h1
/-- near: none, or at most 8 -/
theorem jnear_rng (gt nu : Nat → Nat) (g L v : Nat) : jnear gt nu g L v = -nI 1 ∨ ∃ n, n ≤ 8 ∧ jnear gt nu g L v = nI n := by
  refine jfl_inv (fun a => a = -nI 1 ∨ ∃ n, n ≤ 8 ∧ a = nI n) (Or.inl rfl) (fun k s hk hg hs => Or.inr ?_)
  unfold jns
  have hp := jpop_le (v ^^^ nu k)
  split
  · exact ⟨_, hp, rfl⟩
  · split
    · exact ⟨_, hp, rfl⟩
    · rcases hs with hs | hs
      · contradiction
      · exact hs
section BK
variable {G L : Nat} {gt nu fo : Nat → Nat} {bk_forgives bk_tolls bk_lengths : Nat → Int32} {bk_numbers : Nat → Nat → Int32} {m_told : Nat → Int32} {m_gate m_list : Nat → Nat → Int32} {N9 : Nat}
theorem jxnear (hN : 70000 < N9) (hb : jBk G L gt nu fo bk_forgives bk_tolls bk_lengths bk_numbers m_told m_gate m_list) {v g : Nat} (hv : v < 256) (hg : g < G) : pX5_slipsToNearest N9 bk_lengths bk_numbers (nI v) (nI g) = some (jnear gt nu g L v) := by
  obtain ⟨hG, hL, -, -, -, -, hlen, hnum⟩ := hb
  unfold pX5_slipsToNearest
  refine jloopG (fun n a i => pX5_slipsToNearest_5 N9 bk_lengths bk_numbers (nI v) (nI g) n a i) gt nu g L (jns v) (-nI 1) (fun n k hk hgk => ?_) (fun n => ?_) (by omega)
  · have h1 := jcnt_lt hk hgk
    have h2 := jcnt_le gt g L
    obtain ⟨-, h3, -, -, h4⟩ := hnum k hk
    rw [hgk] at h4
    have h5 := jxor_lt hv h3
    show pX5_slipsToNearest_5 N9 bk_lengths bk_numbers (nI v) (nI g) (n + 1) _ _ = _
    simp only [pX5_slipsToNearest_5, pX5_slipsToNearest_54]
    simp (disch := omega) only [jb1, jb2, jb3, jb4, jb5, jb6, jb7, jb8, jb9, jb10, jb11, jb12, jb13, jb14, jb15, jb16, jb17, jb18, jb19, jb20, jb21, jb22, jb23, jb24, jb25, jb26, jb27, jb28, jb29, jb30, jb31, jb32, jb33, jb34, jb35, jb36, jb37, jb38, jb39, jb40, jb41, jb42, jb43, jb44, jb45, jb46, jb47, jb48, jb49, jb50, zlet, jlit, jle_t, jle_f, jlt_t, jlt_f, jeq_t, jeq_f, jeqN_f, jNeq_f, jNN, jN1, jadd, jsub, jzin, jcl, if_true, if_false, ite_true, ite_false, not_true, not_false_iff, not_true_eq_false, not_false_eq_true, jB_t, jB_f, jB0_t, jB0_f, jBa, jand11, jand00, ↓reduceIte, Nat.reduceEqDiff, Nat.reduceAdd, Nat.reduceSub, hlen g hg, h4, jxor, jbc h5]
    generalize jfl gt nu g (jns v) (-nI 1) k = a
    unfold jns zmin
    split <;> rfl
  · have h2 := jcnt_le gt g L
    show pX5_slipsToNearest_5 N9 bk_lengths bk_numbers (nI v) (nI g) (n + 1) _ _ = _
    simp only [pX5_slipsToNearest_5, pX5_slipsToNearest_54]
    simp (disch := omega) only [jb1, jb2, jb3, jb4, jb5, jb6, jb7, jb8, jb9, jb10, jb11, jb12, jb13, jb14, jb15, jb16, jb17, jb18, jb19, jb20, jb21, jb22, jb23, jb24, jb25, jb26, jb27, jb28, jb29, jb30, jb31, jb32, jb33, jb34, jb35, jb36, jb37, jb38, jb39, jb40, jb41, jb42, jb43, jb44, jb45, jb46, jb47, jb48, jb49, jb50, zlet, jlit, jle_t, jle_f, jlt_t, jlt_f, jeq_t, jeq_f, jeqN_f, jNeq_f, jNN, jN1, jadd, jsub, jzin, jcl, if_true, if_false, ite_true, ite_false, not_true, not_false_iff, not_true_eq_false, not_false_eq_true, jB_t, jB_f, jB0_t, jB0_f, jBa, jand11, jand00, ↓reduceIte, Nat.reduceEqDiff, Nat.reduceAdd, Nat.reduceSub, hlen g hg]
    rfl
theorem jmnear (hN : 70000 < N9) (hb : jBk G L gt nu fo bk_forgives bk_tolls bk_lengths bk_numbers m_told m_gate m_list) {v g : Nat} (hv : v < 256) (hg : g < G) : pM_nearOf N9 m_told m_list (nI v) (nI g) = some (jnear gt nu g L v) := by
  obtain ⟨hG, hL, -, hl, -, -, -, hnum⟩ := hb
  unfold pM_nearOf
  refine jloop0 (fun n a i => pM_nearOf_5 N9 m_told m_list (nI v) (nI g) n a i) L (fun k => jnear gt nu g k v) (fun n k hk => ?_) (fun n => ?_) (by omega) rfl
  · obtain ⟨h0, h3, h6, h7, h4⟩ := hnum k hk
    have h5 := jxor_lt hv h3
    show pM_nearOf_5 N9 m_told m_list (nI v) (nI g) (n + 1) _ _ = _
    simp only [pM_nearOf_5, pM_nearOf_56, pM_nearOf_59]
    simp (disch := omega) only [jb1, jb2, jb3, jb4, jb5, jb6, jb7, jb8, jb9, jb10, jb11, jb12, jb13, jb14, jb15, jb16, jb17, jb18, jb19, jb20, jb21, jb22, jb23, jb24, jb25, jb26, jb27, jb28, jb29, jb30, jb31, jb32, jb33, jb34, jb35, jb36, jb37, jb38, jb39, jb40, jb41, jb42, jb43, jb44, jb45, jb46, jb47, jb48, jb49, jb50, zlet, jlit, jle_t, jle_f, jlt_t, jlt_f, jeq_t, jeq_f, jeqN_f, jNeq_f, jNN, jN1, jadd, jsub, jzin, jcl, if_true, if_false, ite_true, ite_false, not_true, not_false_iff, not_true_eq_false, not_false_eq_true, jB_t, jB_f, jB0_t, jB0_f, jBa, jand11, jand00, ↓reduceIte, Nat.reduceEqDiff, Nat.reduceAdd, Nat.reduceSub, hl, h6, h7, jxor, jo hN h5]
    unfold jnear
    rw [jfl]
    generalize jfl gt nu g (jns v) (-nI 1) k = a
    by_cases hgk : gt k = g
    · rw [if_pos hgk]
      simp (disch := omega) only [jb1, jb2, jb3, jb4, jb5, jb6, jb7, jb8, jb9, jb10, jb11, jb12, jb13, jb14, jb15, jb16, jb17, jb18, jb19, jb20, jb21, jb22, jb23, jb24, jb25, jb26, jb27, jb28, jb29, jb30, jb31, jb32, jb33, jb34, jb35, jb36, jb37, jb38, jb39, jb40, jb41, jb42, jb43, jb44, jb45, jb46, jb47, jb48, jb49, jb50, zlet, jlit, jle_t, jle_f, jlt_t, jlt_f, jeq_t, jeq_f, jeqN_f, jNeq_f, jNN, jN1, jadd, jsub, jzin, jcl, if_true, if_false, ite_true, ite_false, not_true, not_false_iff, not_true_eq_false, not_false_eq_true, jB_t, jB_f, jB0_t, jB0_f, jBa, jand11, jand00, ↓reduceIte, Nat.reduceEqDiff, Nat.reduceAdd, Nat.reduceSub]
      unfold jns
      by_cases ha : a = -nI 1
      · rw [if_pos ha, if_pos ha]
      · rw [if_neg ha, if_neg ha]
        by_cases hc : a ≤ nI (jpop (v ^^^ nu k))
        · rw [if_pos hc, if_neg (jnle.mpr hc)]
        · rw [if_neg hc, if_pos (jnlt.mp hc)]
    · rw [if_neg hgk]
      simp (disch := omega) only [jb1, jb2, jb3, jb4, jb5, jb6, jb7, jb8, jb9, jb10, jb11, jb12, jb13, jb14, jb15, jb16, jb17, jb18, jb19, jb20, jb21, jb22, jb23, jb24, jb25, jb26, jb27, jb28, jb29, jb30, jb31, jb32, jb33, jb34, jb35, jb36, jb37, jb38, jb39, jb40, jb41, jb42, jb43, jb44, jb45, jb46, jb47, jb48, jb49, jb50, zlet, jlit, jle_t, jle_f, jlt_t, jlt_f, jeq_t, jeq_f, jeqN_f, jNeq_f, jNN, jN1, jadd, jsub, jzin, jcl, if_true, if_false, ite_true, ite_false, not_true, not_false_iff, not_true_eq_false, not_false_eq_true, jB_t, jB_f, jB0_t, jB0_f, jBa, jand11, jand00, ↓reduceIte, Nat.reduceEqDiff, Nat.reduceAdd, Nat.reduceSub]
  · show pM_nearOf_5 N9 m_told m_list (nI v) (nI g) (n + 1) _ _ = _
    simp only [pM_nearOf_5, pM_nearOf_56, pM_nearOf_59]
    simp (disch := omega) only [jb1, jb2, jb3, jb4, jb5, jb6, jb7, jb8, jb9, jb10, jb11, jb12, jb13, jb14, jb15, jb16, jb17, jb18, jb19, jb20, jb21, jb22, jb23, jb24, jb25, jb26, jb27, jb28, jb29, jb30, jb31, jb32, jb33, jb34, jb35, jb36, jb37, jb38, jb39, jb40, jb41, jb42, jb43, jb44, jb45, jb46, jb47, jb48, jb49, jb50, zlet, jlit, jle_t, jle_f, jlt_t, jlt_f, jeq_t, jeq_f, jeqN_f, jNeq_f, jNN, jN1, jadd, jsub, jzin, jcl, if_true, if_false, ite_true, ite_false, not_true, not_false_iff, not_true_eq_false, not_false_eq_true, jB_t, jB_f, jB0_t, jB0_f, jBa, jand11, jand00, ↓reduceIte, Nat.reduceEqDiff, Nat.reduceAdd, Nat.reduceSub, hl]
def jopen (gt nu fo : Nat → Nat) (L g v : Nat) : Bool := decide (jnear gt nu g L v ≠ -nI 1) && decide (jnear gt nu g L v ≤ nI (fo g))
theorem jxopen (hN : 70000 < N9) (hb : jBk G L gt nu fo bk_forgives bk_tolls bk_lengths bk_numbers m_told m_gate m_list) {v g : Nat} (hv : v < 256) (hg : g < G) : pX5_isOpen N9 bk_forgives bk_lengths bk_numbers (nI v) (nI g) = some (jB (jopen gt nu fo L g v)) := by
  have h1 := jxnear hN hb hv hg
  obtain ⟨hG, hL, -, -, hfo, -⟩ := hb
  obtain ⟨hf1, hf2, -⟩ := hfo g hg
  unfold pX5_isOpen pX5_isOpen_29 pX5_isOpen_30 jopen
  simp (disch := omega) only [jb1, jb2, jb3, jb4, jb5, jb6, jb7, jb8, jb9, jb10, jb11, jb12, jb13, jb14, jb15, jb16, jb17, jb18, jb19, jb20, jb21, jb22, jb23, jb24, jb25, jb26, jb27, jb28, jb29, jb30, jb31, jb32, jb33, jb34, jb35, jb36, jb37, jb38, jb39, jb40, jb41, jb42, jb43, jb44, jb45, jb46, jb47, jb48, jb49, jb50, zlet, jlit, jle_t, jle_f, jlt_t, jlt_f, jeq_t, jeq_f, jeqN_f, jNeq_f, jNN, jN1, jadd, jsub, jzin, jcl, if_true, if_false, ite_true, ite_false, not_true, not_false_iff, not_true_eq_false, not_false_eq_true, jB_t, jB_f, jB0_t, jB0_f, jBa, jand11, jand00, ↓reduceIte, Nat.reduceEqDiff, Nat.reduceAdd, Nat.reduceSub, h1, hf2]
  rcases jnear_rng gt nu g L v with h | ⟨n, h2, h⟩
  · rw [h]; rfl
  · rw [h]
    by_cases hc : n ≤ fo g
    · simp (disch := omega) only [jb1, jb2, jb3, jb4, jb5, jb6, jb7, jb8, jb9, jb10, jb11, jb12, jb13, jb14, jb15, jb16, jb17, jb18, jb19, jb20, jb21, jb22, jb23, jb24, jb25, jb26, jb27, jb28, jb29, jb30, jb31, jb32, jb33, jb34, jb35, jb36, jb37, jb38, jb39, jb40, jb41, jb42, jb43, jb44, jb45, jb46, jb47, jb48, jb49, jb50, zlet, jlit, jle_t, jle_f, jlt_t, jlt_f, jeq_t, jeq_f, jeqN_f, jNeq_f, jNN, jN1, jadd, jsub, jzin, jcl, if_true, if_false, ite_true, ite_false, not_true, not_false_iff, not_true_eq_false, not_false_eq_true, jB_t, jB_f, jB0_t, jB0_f, jBa, jand11, jand00, ↓reduceIte, Nat.reduceEqDiff, Nat.reduceAdd, Nat.reduceSub, ne_eq, not_false_eq_true, decide_true, Bool.and_true]
    · simp (disch := omega) only [jb1, jb2, jb3, jb4, jb5, jb6, jb7, jb8, jb9, jb10, jb11, jb12, jb13, jb14, jb15, jb16, jb17, jb18, jb19, jb20, jb21, jb22, jb23, jb24, jb25, jb26, jb27, jb28, jb29, jb30, jb31, jb32, jb33, jb34, jb35, jb36, jb37, jb38, jb39, jb40, jb41, jb42, jb43, jb44, jb45, jb46, jb47, jb48, jb49, jb50, zlet, jlit, jle_t, jle_f, jlt_t, jlt_f, jeq_t, jeq_f, jeqN_f, jNeq_f, jNN, jN1, jadd, jsub, jzin, jcl, if_true, if_false, ite_true, ite_false, not_true, not_false_iff, not_true_eq_false, not_false_eq_true, jB_t, jB_f, jB0_t, jB0_f, jBa, jand11, jand00, ↓reduceIte, Nat.reduceEqDiff, Nat.reduceAdd, Nat.reduceSub, ne_eq, not_false_eq_true, decide_true, decide_false, Bool.and_false]
theorem jmopen (hN : 70000 < N9) (hb : jBk G L gt nu fo bk_forgives bk_tolls bk_lengths bk_numbers m_told m_gate m_list) {v g : Nat} (hv : v < 256) (hg : g < G) : pM_opens N9 m_told m_gate m_list (nI v) (nI g) = some (jB (jopen gt nu fo L g v)) := by
  have h1 := jmnear hN hb hv hg
  obtain ⟨hG, hL, -, -, hfo, -⟩ := hb
  obtain ⟨hf1, -, hf2⟩ := hfo g hg
  unfold pM_opens pM_opens_28 pM_opens_29 jopen
  simp (disch := omega) only [jb1, jb2, jb3, jb4, jb5, jb6, jb7, jb8, jb9, jb10, jb11, jb12, jb13, jb14, jb15, jb16, jb17, jb18, jb19, jb20, jb21, jb22, jb23, jb24, jb25, jb26, jb27, jb28, jb29, jb30, jb31, jb32, jb33, jb34, jb35, jb36, jb37, jb38, jb39, jb40, jb41, jb42, jb43, jb44, jb45, jb46, jb47, jb48, jb49, jb50, zlet, jlit, jle_t, jle_f, jlt_t, jlt_f, jeq_t, jeq_f, jeqN_f, jNeq_f, jNN, jN1, jadd, jsub, jzin, jcl, if_true, if_false, ite_true, ite_false, not_true, not_false_iff, not_true_eq_false, not_false_eq_true, jB_t, jB_f, jB0_t, jB0_f, jBa, jand11, jand00, ↓reduceIte, Nat.reduceEqDiff, Nat.reduceAdd, Nat.reduceSub, h1, hf2]
  rcases jnear_rng gt nu g L v with h | ⟨n, h2, h⟩
  · rw [h]; rfl
  · rw [h]
    by_cases hc : n ≤ fo g
    · simp (disch := omega) only [jb1, jb2, jb3, jb4, jb5, jb6, jb7, jb8, jb9, jb10, jb11, jb12, jb13, jb14, jb15, jb16, jb17, jb18, jb19, jb20, jb21, jb22, jb23, jb24, jb25, jb26, jb27, jb28, jb29, jb30, jb31, jb32, jb33, jb34, jb35, jb36, jb37, jb38, jb39, jb40, jb41, jb42, jb43, jb44, jb45, jb46, jb47, jb48, jb49, jb50, zlet, jlit, jle_t, jle_f, jlt_t, jlt_f, jeq_t, jeq_f, jeqN_f, jNeq_f, jNN, jN1, jadd, jsub, jzin, jcl, if_true, if_false, ite_true, ite_false, not_true, not_false_iff, not_true_eq_false, not_false_eq_true, jB_t, jB_f, jB0_t, jB0_f, jBa, jand11, jand00, ↓reduceIte, Nat.reduceEqDiff, Nat.reduceAdd, Nat.reduceSub, ne_eq, not_false_eq_true, decide_true, Bool.and_true]
    · simp (disch := omega) only [jb1, jb2, jb3, jb4, jb5, jb6, jb7, jb8, jb9, jb10, jb11, jb12, jb13, jb14, jb15, jb16, jb17, jb18, jb19, jb20, jb21, jb22, jb23, jb24, jb25, jb26, jb27, jb28, jb29, jb30, jb31, jb32, jb33, jb34, jb35, jb36, jb37, jb38, jb39, jb40, jb41, jb42, jb43, jb44, jb45, jb46, jb47, jb48, jb49, jb50, zlet, jlit, jle_t, jle_f, jlt_t, jlt_f, jeq_t, jeq_f, jeqN_f, jNeq_f, jNN, jN1, jadd, jsub, jzin, jcl, if_true, if_false, ite_true, ite_false, not_true, not_false_iff, not_true_eq_false, not_false_eq_true, jB_t, jB_f, jB0_t, jB0_f, jBa, jand11, jand00, ↓reduceIte, Nat.reduceEqDiff, Nat.reduceAdd, Nat.reduceSub, ne_eq, not_false_eq_true, decide_true, decide_false, Bool.and_false]
end BK
