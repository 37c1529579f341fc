theorem jlays {N9 : Nat} (hN : 70000 < N9) (rl tb : Nat → Nat → Int32) {m : Nat} (hm : m ≤ 8) : ∃ t, pM_lays N9 rl tb (nI m) = some t ∧ ∀ q, q < m → t q 0 = rl q 0 ∧ t q 1 = rl q 1 := by
  have inner : ∀ (k : (Nat → Nat → Int32) → Int32 → Option (Nat → Nat → Int32)) (t : Nat → Nat → Int32) (i : Nat), i < 8 → pM_lays_10 N9 rl (nI m) k N9 t (nI i) 0 = k (va_up (va_up t i (upd (t i) 0 (rl i 0))) i (upd ((va_up t i (upd (t i) 0 (rl i 0))) i) 1 (rl i 1))) (nI (i + 1)) := by
    intro k t i hi
    obtain ⟨q, rfl⟩ : ∃ q, N9 = q + 1 + 1 + 1 := ⟨N9 - 3, by omega⟩
    simp only [pM_lays_10]
    simp (disch := omega) only [jb1, jb2, jb3, jb4, jb5, jb6, jb7, jb8, jb9, jb10, jb11, jb12, jb13, jb14, jb15, jb16, jb17, jb18, jb19, jb20, jb21, jb22, jb23, jb24, jb25, jb26, jb27, jb28, jb29, jb30, jb31, jb32, jb33, jb34, jb35, jb36, jb37, jb38, jb39, jb40, jb41, jb42, jb43, jb44, jb45, jb46, jb47, jb48, jb49, jb50, zlet, jlit, jle_t, jle_f, jlt_t, jlt_f, jeq_t, jeq_f, jeqN_f, jNeq_f, jNN, jN1, jadd, jsub, jzin, jcl, if_true, if_false, ite_true, ite_false, not_true, not_false_iff, not_true_eq_false, not_false_eq_true, jB_t, jB_f, jB0_t, jB0_f, jBa, jand11, jand00, ↓reduceIte, Nat.reduceEqDiff, Nat.reduceAdd, Nat.reduceSub]
  unfold pM_lays
  refine jloopR (fun n t i => pM_lays_2 N9 rl (nI m) n t i) m (fun i t => ∀ q, q < i → t q 0 = rl q 0 ∧ t q 1 = rl q 1) _ (fun n i t hi ht => ?_) (fun n t ht => ?_) m 0 tb N9 (by omega) (by omega) (fun q hq => absurd hq (Nat.not_lt_zero q))
  · show ∃ s', pM_lays_2 N9 rl (nI m) (n + 1) t (nI i) = _ ∧ _
    simp only [pM_lays_2]
    rw [if_neg (nI_ge (by omega) (by omega)), inner _ t i (by omega)]
    refine ⟨_, rfl, fun q hq => ?_⟩
    by_cases hqi : q = i
    · subst hqi
      simp [va_up, upd]
    · have := ht q (by omega)
      simp [va_up, hqi, this]
  · show ∃ r, pM_lays_2 N9 rl (nI m) (n + 1) t (nI m) = _ ∧ _
    simp only [pM_lays_2]
    rw [if_pos (nI_le (Nat.le_refl m) (by omega))]
    exact ⟨_, rfl, ht⟩
theorem jlays_i1 {N9 : Nat} (hN : 70000 < N9) (rl tb : Nat → Nat → Int32) {m : Nat} (hm : m ≤ 5) : ∃ t, pM_lays_i1 N9 rl tb (nI m) = some t ∧ ∀ q, q < m → t q 0 = rl q 0 ∧ t q 1 = rl q 1 := by
  have inner : ∀ (k : (Nat → Nat → Int32) → Int32 → Option (Nat → Nat → Int32)) (t : Nat → Nat → Int32) (i : Nat), i < 5 → pM_lays_i1_10 N9 rl (nI m) k N9 t (nI i) 0 = k (va_up (va_up t i (upd (t i) 0 (rl i 0))) i (upd ((va_up t i (upd (t i) 0 (rl i 0))) i) 1 (rl i 1))) (nI (i + 1)) := by
    intro k t i hi
    obtain ⟨q, rfl⟩ : ∃ q, N9 = q + 1 + 1 + 1 := ⟨N9 - 3, by omega⟩
    simp only [pM_lays_i1_10]
    simp (disch := omega) only [jb1, jb2, jb3, jb4, jb5, jb6, jb7, jb8, jb9, jb10, jb11, jb12, jb13, jb14, jb15, jb16, jb17, jb18, jb19, jb20, jb21, jb22, jb23, jb24, jb25, jb26, jb27, jb28, jb29, jb30, jb31, jb32, jb33, jb34, jb35, jb36, jb37, jb38, jb39, jb40, jb41, jb42, jb43, jb44, jb45, jb46, jb47, jb48, jb49, jb50, zlet, jlit, jle_t, jle_f, jlt_t, jlt_f, jeq_t, jeq_f, jeqN_f, jNeq_f, jNN, jN1, jadd, jsub, jzin, jcl, if_true, if_false, ite_true, ite_false, not_true, not_false_iff, not_true_eq_false, not_false_eq_true, jB_t, jB_f, jB0_t, jB0_f, jBa, jand11, jand00, ↓reduceIte, Nat.reduceEqDiff, Nat.reduceAdd, Nat.reduceSub]
  unfold pM_lays_i1
  refine jloopR (fun n t i => pM_lays_i1_2 N9 rl (nI m) n t i) m (fun i t => ∀ q, q < i → t q 0 = rl q 0 ∧ t q 1 = rl q 1) _ (fun n i t hi ht => ?_) (fun n t ht => ?_) m 0 tb N9 (by omega) (by omega) (fun q hq => absurd hq (Nat.not_lt_zero q))
  · show ∃ s', pM_lays_i1_2 N9 rl (nI m) (n + 1) t (nI i) = _ ∧ _
    simp only [pM_lays_i1_2]
    rw [if_neg (nI_ge (by omega) (by omega)), inner _ t i (by omega)]
    refine ⟨_, rfl, fun q hq => ?_⟩
    by_cases hqi : q = i
    · subst hqi
      simp [va_up, upd]
    · have := ht q (by omega)
      simp [va_up, hqi, this]
  · show ∃ r, pM_lays_i1_2 N9 rl (nI m) (n + 1) t (nI m) = _ ∧ _
    simp only [pM_lays_i1_2]
    rw [if_pos (nI_le (Nat.le_refl m) (by omega))]
    exact ⟨_, rfl, ht⟩
theorem jlays_i2 {N9 : Nat} (hN : 70000 < N9) (rl tb : Nat → Nat → Int32) {m : Nat} (hm : m ≤ 24) : ∃ t, pM_lays_i2 N9 rl tb (nI m) = some t ∧ ∀ q, q < m → t q 0 = rl q 0 ∧ t q 1 = rl q 1 := by
  have inner : ∀ (k : (Nat → Nat → Int32) → Int32 → Option (Nat → Nat → Int32)) (t : Nat → Nat → Int32) (i : Nat), i < 24 → pM_lays_i2_10 N9 rl (nI m) k N9 t (nI i) 0 = k (va_up (va_up t i (upd (t i) 0 (rl i 0))) i (upd ((va_up t i (upd (t i) 0 (rl i 0))) i) 1 (rl i 1))) (nI (i + 1)) := by
    intro k t i hi
    obtain ⟨q, rfl⟩ : ∃ q, N9 = q + 1 + 1 + 1 := ⟨N9 - 3, by omega⟩
    simp only [pM_lays_i2_10]
    simp (disch := omega) only [jb1, jb2, jb3, jb4, jb5, jb6, jb7, jb8, jb9, jb10, jb11, jb12, jb13, jb14, jb15, jb16, jb17, jb18, jb19, jb20, jb21, jb22, jb23, jb24, jb25, jb26, jb27, jb28, jb29, jb30, jb31, jb32, jb33, jb34, jb35, jb36, jb37, jb38, jb39, jb40, jb41, jb42, jb43, jb44, jb45, jb46, jb47, jb48, jb49, jb50, zlet, jlit, jle_t, jle_f, jlt_t, jlt_f, jeq_t, jeq_f, jeqN_f, jNeq_f, jNN, jN1, jadd, jsub, jzin, jcl, if_true, if_false, ite_true, ite_false, not_true, not_false_iff, not_true_eq_false, not_false_eq_true, jB_t, jB_f, jB0_t, jB0_f, jBa, jand11, jand00, ↓reduceIte, Nat.reduceEqDiff, Nat.reduceAdd, Nat.reduceSub]
  unfold pM_lays_i2
  refine jloopR (fun n t i => pM_lays_i2_2 N9 rl (nI m) n t i) m (fun i t => ∀ q, q < i → t q 0 = rl q 0 ∧ t q 1 = rl q 1) _ (fun n i t hi ht => ?_) (fun n t ht => ?_) m 0 tb N9 (by omega) (by omega) (fun q hq => absurd hq (Nat.not_lt_zero q))
  · show ∃ s', pM_lays_i2_2 N9 rl (nI m) (n + 1) t (nI i) = _ ∧ _
    simp only [pM_lays_i2_2]
    rw [if_neg (nI_ge (by omega) (by omega)), inner _ t i (by omega)]
    refine ⟨_, rfl, fun q hq => ?_⟩
    by_cases hqi : q = i
    · subst hqi
      simp [va_up, upd]
    · have := ht q (by omega)
      simp [va_up, hqi, this]
  · show ∃ r, pM_lays_i2_2 N9 rl (nI m) (n + 1) t (nI m) = _ ∧ _
    simp only [pM_lays_i2_2]
    rw [if_pos (nI_le (Nat.le_refl m) (by omega))]
    exact ⟨_, rfl, ht⟩
theorem jlays_i3 {N9 : Nat} (hN : 70000 < N9) (rl tb : Nat → Nat → Int32) {m : Nat} (hm : m ≤ 160) : ∃ t, pM_lays_i3 N9 tb rl (nI m) = some t ∧ ∀ q, q < m → t q 0 = rl q 0 ∧ t q 1 = rl q 1 := by
  have inner : ∀ (k : (Nat → Nat → Int32) → Int32 → Option (Nat → Nat → Int32)) (t : Nat → Nat → Int32) (i : Nat), i < 160 → pM_lays_i3_10 N9 rl (nI m) k N9 t (nI i) 0 = k (va_up (va_up t i (upd (t i) 0 (rl i 0))) i (upd ((va_up t i (upd (t i) 0 (rl i 0))) i) 1 (rl i 1))) (nI (i + 1)) := by
    intro k t i hi
    obtain ⟨q, rfl⟩ : ∃ q, N9 = q + 1 + 1 + 1 := ⟨N9 - 3, by omega⟩
    simp only [pM_lays_i3_10]
    simp (disch := omega) only [jb1, jb2, jb3, jb4, jb5, jb6, jb7, jb8, jb9, jb10, jb11, jb12, jb13, jb14, jb15, jb16, jb17, jb18, jb19, jb20, jb21, jb22, jb23, jb24, jb25, jb26, jb27, jb28, jb29, jb30, jb31, jb32, jb33, jb34, jb35, jb36, jb37, jb38, jb39, jb40, jb41, jb42, jb43, jb44, jb45, jb46, jb47, jb48, jb49, jb50, zlet, jlit, jle_t, jle_f, jlt_t, jlt_f, jeq_t, jeq_f, jeqN_f, jNeq_f, jNN, jN1, jadd, jsub, jzin, jcl, if_true, if_false, ite_true, ite_false, not_true, not_false_iff, not_true_eq_false, not_false_eq_true, jB_t, jB_f, jB0_t, jB0_f, jBa, jand11, jand00, ↓reduceIte, Nat.reduceEqDiff, Nat.reduceAdd, Nat.reduceSub]
  unfold pM_lays_i3
  refine jloopR (fun n t i => pM_lays_i3_2 N9 rl (nI m) n t i) m (fun i t => ∀ q, q < i → t q 0 = rl q 0 ∧ t q 1 = rl q 1) _ (fun n i t hi ht => ?_) (fun n t ht => ?_) m 0 tb N9 (by omega) (by omega) (fun q hq => absurd hq (Nat.not_lt_zero q))
  · show ∃ s', pM_lays_i3_2 N9 rl (nI m) (n + 1) t (nI i) = _ ∧ _
    simp only [pM_lays_i3_2]
    rw [if_neg (nI_ge (by omega) (by omega)), inner _ t i (by omega)]
    refine ⟨_, rfl, fun q hq => ?_⟩
    by_cases hqi : q = i
    · subst hqi
      simp [va_up, upd]
    · have := ht q (by omega)
      simp [va_up, hqi, this]
  · show ∃ r, pM_lays_i3_2 N9 rl (nI m) (n + 1) t (nI m) = _ ∧ _
    simp only [pM_lays_i3_2]
    rw [if_pos (nI_le (Nat.le_refl m) (by omega))]
    exact ⟨_, rfl, ht⟩
theorem jcpy {f g : Nat → Int32} {n k : Nat} (h : k < n) : va_cpy f g 0 0 n k = f k := by
  unfold va_cpy
  rw [if_pos ⟨Nat.zero_le k, by omega⟩]
  congr 1
  omega
theorem jcpy_at {f g : Nat → Int32} {sp dp n k : Nat} (h : k < n) : va_cpy f g sp dp n (dp + k) = f (sp + k) := by
  unfold va_cpy
  rw [if_pos ⟨Nat.le_add_right dp k, by omega⟩]
  congr 1
  omega
theorem jcpy_out {f g : Nat → Int32} {sp dp n k : Nat} (h : k < dp ∨ dp + n ≤ k) : va_cpy f g sp dp n k = g k := by
  unfold va_cpy
  rw [if_neg (by omega)]
/-! what stays between calls -/
def jTape (tp_bytes m_fed : Nat → Int32) (tp_many m_tape : Int32) : Prop := ∃ (by' : Nat → Nat) (n : Nat), n ≤ 600 ∧ tp_many = nI n ∧ m_tape = nI n ∧ ∀ i, i < 600 → by' i < 256 ∧ tp_bytes i = nI (by' i) ∧ m_fed i = nI (by' i)
/-- answers: none thrown and the same, or the same thrown (A: the argument's is told as 1; B: as 2) -/
def jOutA (z th r r' : Int32) : Prop := (z = 0 ∧ th = 0 ∧ r = r') ∨ (z = 2 ∧ th = 1)
def jOutE (z th r r' : Int32) : Prop := (z = 0 ∧ th = 0 ∧ r = r') ∨ (z = 1 ∧ th = 1)
def jOutB (z th r r' : Int32) : Prop := (z = 0 ∧ th = 0 ∧ r = r') ∨ (z = 1 ∧ th = 1) ∨ (z = 2 ∧ th = 2)
/-- the refused calls -/
def jRf (re ra : Int32) (rf : Nat → Int32) : Prop := re = rf 0 ∧ ra = rf 1
theorem jRf.arg {re ra : Int32} {rf : Nat → Int32} (h : jRf re ra rf) : jRf re (ra + 1) (upd rf 1 (rf 1 + 1)) := ⟨by rw [pk_un (by omega)]; exact h.1, by rw [pk_us, h.2]⟩
theorem jRf.elem {re ra : Int32} {rf : Nat → Int32} (h : jRf re ra rf) : jRf (re + 1) ra (upd rf 0 (rf 0 + 1)) := ⟨by rw [pk_us, h.1], by rw [pk_un (by omega)]; exact h.2⟩
theorem jtext {tp_bytes m_fed : Nat → Int32} {by' : Nat → Nat} (h : ∀ i, i < 600 → by' i < 256 ∧ tp_bytes i = nI (by' i) ∧ m_fed i = nI (by' i)) {n : Nat} (hn : n ≤ 600) : jTx n by' tp_bytes m_fed := ⟨hn, fun i hi => h i (by omega)⟩
theorem jzmin {a b : Nat} (ha : a < 2147483648) (hb : b < 2147483648) : zmin (nI a) (nI b) = nI (if b < a then b else a) := by
  unfold zmin
  by_cases h : b < a
  · rw [if_pos h, if_pos (nI_lt h ha)]
  · rw [if_neg h, if_neg (nI_nlt (by omega) (by omega))]
theorem jopenX (N9 : Nat) {n k : Nat} (hk : k ≤ n) (hn : n ≤ 600) (e p f g : Int32) : pX8_open N9 (nI n) e p f g (nI k) = some (nI k, nI 0, nI 0, -nI 1) := by
  unfold pX8_open
  rw [jzmin (by omega) (by omega), if_neg (by omega)]
  unfold zmax
  by_cases h : k = 0
  · subst h; rfl
  · rw [if_pos (show (0 : Int32) < nI k from nI_lt (a := 0) (by omega) (by omega))]
    rfl
theorem jstarts {N9 n : Nat} {by' : Nat → Nat} {tp_bytes m_fed : Nat → Int32} (hN : 70000 < N9) (ht : jTx n by' tp_bytes m_fed) (a b c d e f g : Int32) : pM_starts N9 a b c d e f g m_fed (nI n) = some (nI 0, nI n, nI (jsk n by' 0), nI 0, -nI 1, nI 0, nI 0) := by
  unfold pM_starts
  rw [show (0 : Int32) = nI 0 from rfl, jblankM hN ht (Nat.zero_le n), jb1]
  rfl
section LW
variable {N9 n : Nat} {by' : Nat → Nat} {tp_bytes m_fed : Nat → Int32}
theorem jsum_sk (hN : 70000 < N9) (ht : jTx n by' tp_bytes m_fed) (d : Nat) (fa op mn : Int32) (lw : Nat → Nat → Int32) : (gpM_one N9 (d + 1 + 1 + 1)).2.2 (nI n) (nI (jsk n by' 0)) (nI 0) fa op m_fed mn lw = (gpM_one N9 (d + 1 + 1 + 1)).2.2 (nI n) (nI 0) (nI 0) fa op m_fed mn lw := by
  have hk := jsk_rng (by' := by') (Nat.zero_le n)
  simp only [gpM_one]
  have h1 : pM_oneo N9 (gpM_one N9 d).2.2 (nI n) (nI (jsk n by' 0)) (nI 0) fa op m_fed mn lw = pM_oneo N9 (gpM_one N9 d).2.2 (nI n) (nI 0) (nI 0) fa op m_fed mn lw := by
    unfold pM_oneo
    rw [jblankM hN ht hk.2, jsk_sk (Nat.zero_le n), jblankM hN ht (Nat.zero_le n), if_pos (show nI 0 = 0 from rfl), if_pos (show nI 0 = 0 from rfl)]
  unfold pM_sumo pM_producto
  rw [h1]
theorem jlaw_read (hN : 70000 < N9) (ht : jTx n by' tp_bytes m_fed) (hn : n ≤ 150) (wp np : Int32) (kd vl : Nat → Int32) (lw : Nat → Nat → Int32) :
    jev (jLPost n 0 6 0 0) (pX2_readSum N9 tp_bytes (nI n) (nI 0) wp np (nI 0) (-nI 1) kd vl (nI 0) (nI 0)) (pM_sum N9 (nI n) (nI (jsk n by' 0)) (nI 0) (-nI 1) (nI 0) m_fed (nI 0) lw) := by
  obtain ⟨h, -⟩ := jsum_all hN ht hn 6 (Nat.le_refl 6) 20 27
  have h1 := h 0 0 (fun _ => 0) (fun _ => 0) wp np kd vl (nI 0) (nI 0) lw (Nat.zero_le n) (Nat.le_refl 0) ⟨rfl, rfl, fun i hi => absurd hi (Nat.not_lt_zero i), fun i hi => absurd hi (Nat.not_lt_zero i)⟩
  unfold pX2_readSum pM_sum
  rw [show 48 = 45 + 1 + 1 + 1 from rfl, jsum_sk hN ht 45]
  exact h1
end LW
