/-! the reading of a law, side by side -/
abbrev jX9 : Type := Int32 × Int32 × Int32 × Int32 × Int32 × Int32 × (Nat → Int32) × (Nat → Int32) × Int32
abbrev jM6 : Type := Int32 × Int32 × Int32 × Int32 × Int32 × (Nat → Nat → Int32)
abbrev jXf : Type := (Nat → Int32) → Int32 → Int32 → Int32 → Int32 → Int32 → Int32 → (Nat → Int32) → (Nat → Int32) → Int32 → Int32 → Option jX9
abbrev jMf : Type := Int32 → Int32 → Int32 → Int32 → Int32 → (Nat → Int32) → Int32 → (Nat → Nat → Int32) → Option jM6
def jCd (m : Nat) (kk vv : Nat → Nat) (kd vl : Nat → Int32) (ln mn : Int32) (lw : Nat → Nat → Int32) : Prop :=
  ln = nI m ∧ mn = nI m ∧ (∀ i, i < m → kd i = nI (kk i) ∧ vl i = nI (vv i) ∧ lw i 0 = nI (kk i) ∧ lw i 1 = nI (vv i)) ∧ (∀ i, i < m → kk i ≤ 8 ∧ vv i ≤ 999 ∧ (kk i = 1 → vv i < 8) ∧ (2 ≤ kk i → 2 ≤ jdp kk i))
def jLPost (n a r m d : Nat) (rx : jX9) (rm : jM6) : Prop := match rx, rm with
  | (r0, pl, _, _, fk, fp, kd, vl, ln), (at', f, fa, op, mn, lw) =>
    (∃ a' m' kk vv, a < a' ∧ a' ≤ n ∧ m ≤ m' ∧ m' + a ≤ m + a' ∧ r0 = nI 1 ∧ pl = nI a' ∧ fk = nI 0 ∧ fp = -nI 1 ∧ at' = nI a' ∧ f = nI 0 ∧ fa = -nI 1 ∧ op = nI (6 - r) ∧ jCd m' kk vv kd vl ln mn lw ∧ jdp kk m' = d + 1) ∨
    (∃ k q a' m2, 1 ≤ k ∧ k ≤ 3 ∧ q ≤ n ∧ a' ≤ n ∧ m2 ≤ 150 ∧ ln = nI m2 ∧ r0 = nI 0 ∧ fk = nI k ∧ fp = nI q ∧ at' = nI a' ∧ f = nI k ∧ fa = nI q)
def jLock (n : Nat) (tp_bytes m_fed : Nat → Int32) (r : Nat) (fx : jXf) (fm : jMf) : Prop :=
  ∀ (a m : Nat) (kk vv : Nat → Nat) (wp np : Int32) (kd vl : Nat → Int32) (ln mn : Int32) (lw : Nat → Nat → Int32), a ≤ n → m ≤ a → jCd m kk vv kd vl ln mn lw →
    jev (jLPost n a r m (jdp kk m)) (fx tp_bytes (nI n) (nI a) wp np (nI 0) (-nI 1) kd vl ln (nI (6 - r))) (fm (nI n) (nI a) (nI 0) (-nI 1) (nI (6 - r)) m_fed mn lw)
/-- behind a fault nothing more is read -/
def jDead (fm : jMf) : Prop := ∀ (sz at' f fa op : Int32) (fed : Nat → Int32) (mn : Int32) (lw : Nat → Nat → Int32), f ≠ nI 0 → fm sz at' f fa op fed mn lw = some (at', f, fa, op, mn, lw)
theorem jdp_congr {k1 k2 : Nat → Nat} : ∀ i, (∀ j, j < i → k1 j = k2 j) → jdp k1 i = jdp k2 i := by
  intro i
  induction i with
  | zero => intro _; rfl
  | succ i ih => intro h; rw [jdp_step, jdp_step, ih (fun j hj => h j (by omega)), h i (by omega)]
theorem jwh_fix (p : Nat → Bool) {k u : Nat} (h : u = 0 ∨ p k = false) : jwh p u k = k := by
  cases u with
  | zero => rfl
  | succ u =>
    rw [jwh]
    rcases h with h | h
    · cases h
    · rw [h]; rfl
theorem jsk_sk {n : Nat} {by' : Nat → Nat} {a : Nat} (ha : a ≤ n) : jsk n by' (jsk n by' a) = jsk n by' a := by
  have hk := jsk_rng (by' := by') ha
  refine jwh_fix _ ?_
  by_cases h : jsk n by' a = n
  · left; omega
  · right
    exact jwh_out (fun k => jblank (by' k)) (n - a) a (by unfold jsk at h hk; omega)
theorem jbB {A : Type} {b : Bool} {x y : Option A} : zb1 (some (jB b)) (fun r => if r = 0 then x else y) = if b = true then y else x := by
  cases b <;> rfl
section LR
variable {n : Nat} {by' : Nat → Nat} {tp_bytes m_fed : Nat → Int32} {N9 : Nat}
theorem jcode_add {m k v : Nat} {kk vv : Nat → Nat} {kd vl : Nat → Int32} {ln mn : Int32} {lw : Nat → Nat → Int32} (hc : jCd m kk vv kd vl ln mn lw) (hm : m < 150) (hk : k ≤ 8) (hv : v ≤ 999) (h1 : k = 1 → v < 8) (h2 : 2 ≤ k → 2 ≤ jdp kk m) :
    ∃ kd' vl' lw' kk' vv', pX2_add_i1 N9 kd vl ln (nI k) (nI v) = some (kd', vl', nI (m + 1)) ∧ pM_notes N9 (nI 0) mn lw (nI k) (nI v) = some (nI (m + 1), lw') ∧ jCd (m + 1) kk' vv' kd' vl' (nI (m + 1)) (nI (m + 1)) lw' ∧ jdp kk' (m + 1) = if k < 2 then jdp kk m + 1 else jdp kk m - 1 := by
  obtain ⟨hl, hn, hr, hw⟩ := hc
  unfold pX2_add_i1 pX2_add_i1_40 pM_notes
  simp (disch := omega) only [jb1, jb2, jb3, jb4, jb5, jb6, jb7, jb8, jb9, jb10, jb11, jb12, jb13, jb14, jb15, jb16, jb17, jb18, jb19, jb20, jb21, jb22, jb23, jb24, jb25, jb26, jb27, jb28, jb29, jb30, jb31, jb32, jb33, jb34, jb35, jb36, jb37, jb38, jb39, jb40, jb41, jb42, jb43, jb44, jb45, jb46, jb47, jb48, jb49, jb50, zlet, jlit, jle_t, jle_f, jlt_t, jlt_f, jeq_t, jeq_f, jeqN_f, jNeq_f, jNN, jN1, jadd, jsub, jzin, jcl, if_true, if_false, ite_true, ite_false, not_true, not_false_iff, not_true_eq_false, not_false_eq_true, jB_t, jB_f, jB0_t, jB0_f, jBa, jand11, jand00, ↓reduceIte, Nat.reduceEqDiff, Nat.reduceAdd, Nat.reduceSub, hl, hn]
  have hdp : ∀ i, i ≤ m → jdp (fun i => if i = m then k else kk i) i = jdp kk i := fun i hi => jdp_congr i (fun j hj => by rw [if_neg (by omega)])
  refine ⟨_, _, _, fun i => if i = m then k else kk i, fun i => if i = m then v else vv i, rfl, rfl, ⟨rfl, rfl, fun i hi => ?_, fun i hi => ?_⟩, ?_⟩
  · by_cases him : i = m
    · subst him
      simp (disch := omega) only [jb1, jb2, jb3, jb4, jb5, jb6, jb7, jb8, jb9, jb10, jb11, jb12, jb13, jb14, jb15, jb16, jb17, jb18, jb19, jb20, jb21, jb22, jb23, jb24, jb25, jb26, jb27, jb28, jb29, jb30, jb31, jb32, jb33, jb34, jb35, jb36, jb37, jb38, jb39, jb40, jb41, jb42, jb43, jb44, jb45, jb46, jb47, jb48, jb49, jb50, zlet, jlit, jle_t, jle_f, jlt_t, jlt_f, jeq_t, jeq_f, jeqN_f, jNeq_f, jNN, jN1, jadd, jsub, jzin, jcl, if_true, if_false, ite_true, ite_false, not_true, not_false_iff, not_true_eq_false, not_false_eq_true, jB_t, jB_f, jB0_t, jB0_f, jBa, jand11, jand00, ↓reduceIte, Nat.reduceEqDiff, Nat.reduceAdd, Nat.reduceSub, jn1, jn2, jn3, jn4, jn5, jn6, pk_us, pk_un, va_up]
      exact ⟨True.intro, True.intro, True.intro, True.intro⟩
    · obtain ⟨e1, e2, e3, e4⟩ := hr i (by omega)
      simp (disch := omega) only [jb1, jb2, jb3, jb4, jb5, jb6, jb7, jb8, jb9, jb10, jb11, jb12, jb13, jb14, jb15, jb16, jb17, jb18, jb19, jb20, jb21, jb22, jb23, jb24, jb25, jb26, jb27, jb28, jb29, jb30, jb31, jb32, jb33, jb34, jb35, jb36, jb37, jb38, jb39, jb40, jb41, jb42, jb43, jb44, jb45, jb46, jb47, jb48, jb49, jb50, zlet, jlit, jle_t, jle_f, jlt_t, jlt_f, jeq_t, jeq_f, jeqN_f, jNeq_f, jNN, jN1, jadd, jsub, jzin, jcl, if_true, if_false, ite_true, ite_false, not_true, not_false_iff, not_true_eq_false, not_false_eq_true, jB_t, jB_f, jB0_t, jB0_f, jBa, jand11, jand00, ↓reduceIte, Nat.reduceEqDiff, Nat.reduceAdd, Nat.reduceSub, jn1, jn2, jn3, jn4, jn5, jn6, pk_us, pk_un, va_up, e1, e2, e3, e4]
      exact ⟨True.intro, True.intro, True.intro, True.intro⟩
  · rw [hdp i (by omega)]
    dsimp only
    by_cases him : i = m
    · subst him
      rw [if_pos rfl, if_pos rfl]
      exact ⟨hk, hv, h1, h2⟩
    · rw [if_neg him, if_neg him]
      exact hw i (by omega)
  · rw [jdp_step, hdp m (Nat.le_refl m), if_pos rfl]
theorem jnotes_f {N9 : Nat} {f mn x y : Int32} {lw : Nat → Nat → Int32} (hf : f ≠ nI 0) : pM_notes N9 f mn lw x y = some (mn, lw) := by
  unfold pM_notes
  rw [if_neg (show ¬ f = 0 from hf)]
theorem jopens_ok {N9 : Nat} {at' fa : Int32} {r : Nat} (hr : 1 ≤ r) (hr6 : r ≤ 6) : pM_opensOne N9 at' (nI 0) fa (nI (6 - r)) = some (nI 1, nI 0, fa, nI (6 - r + 1)) := by
  unfold pM_opensOne pM_opensOne_28 pM_opensOne_45 pM_opensOne_57
  simp (disch := omega) only [jb1, jb2, jb3, jb4, jb5, jb6, jb7, jb8, jb9, jb10, jb11, jb12, jb13, jb14, jb15, jb16, jb17, jb18, jb19, jb20, jb21, jb22, jb23, jb24, jb25, jb26, jb27, jb28, jb29, jb30, jb31, jb32, jb33, jb34, jb35, jb36, jb37, jb38, jb39, jb40, jb41, jb42, jb43, jb44, jb45, jb46, jb47, jb48, jb49, jb50, zlet, jlit, jle_t, jle_f, jlt_t, jlt_f, jeq_t, jeq_f, jeqN_f, jNeq_f, jNN, jN1, jadd, jsub, jzin, jcl, if_true, if_false, ite_true, ite_false, not_true, not_false_iff, not_true_eq_false, not_false_eq_true, jB_t, jB_f, jB0_t, jB0_f, jBa, jand11, jand00, ↓reduceIte, Nat.reduceEqDiff, Nat.reduceAdd, Nat.reduceSub]
theorem jopens_full {N9 : Nat} {at' fa : Int32} : pM_opensOne N9 at' (nI 0) fa (nI 6) = some (nI 0, nI 3, at', nI 6) := by
  unfold pM_opensOne pM_opensOne_28 pM_opensOne_45 pM_opensOne_57 pM_wrong pM_wrong_17
  simp (disch := omega) only [jb1, jb2, jb3, jb4, jb5, jb6, jb7, jb8, jb9, jb10, jb11, jb12, jb13, jb14, jb15, jb16, jb17, jb18, jb19, jb20, jb21, jb22, jb23, jb24, jb25, jb26, jb27, jb28, jb29, jb30, jb31, jb32, jb33, jb34, jb35, jb36, jb37, jb38, jb39, jb40, jb41, jb42, jb43, jb44, jb45, jb46, jb47, jb48, jb49, jb50, zlet, jlit, jle_t, jle_f, jlt_t, jlt_f, jeq_t, jeq_f, jeqN_f, jNeq_f, jNN, jN1, jadd, jsub, jzin, jcl, if_true, if_false, ite_true, ite_false, not_true, not_false_iff, not_true_eq_false, not_false_eq_true, jB_t, jB_f, jB0_t, jB0_f, jBa, jand11, jand00, ↓reduceIte, Nat.reduceEqDiff, Nat.reduceAdd, Nat.reduceSub]
/-- which fact a word names -/
def jfact (by' : Nat → Nat) (k m : Nat) : Int32 := if jisw by' k m 7 then nI 0 else if jisw by' k m 8 then nI 1 else if jisw by' k m 9 then nI 2 else if jisw by' k m 10 then nI 3 else if jisw by' k m 11 then nI 4 else if jisw by' k m 12 then nI 5 else if jisw by' k m 13 then nI 6 else if jisw by' k m 2 then nI 7 else -nI 1
theorem jfact_rng (by' : Nat → Nat) (k m : Nat) : jfact by' k m = -nI 1 ∨ ∃ v, v < 8 ∧ jfact by' k m = nI v := by
  unfold jfact
  repeat' split
  all_goals first | exact Or.inl rfl | exact Or.inr ⟨_, by decide, rfl⟩
theorem jfactX (hN : 70000 < N9) (ht : jTx n by' tp_bytes m_fed) {k e : Nat} (hk : k ≤ e) (he : e ≤ n) : pX2_factNamed N9 tp_bytes (nI e) (nI k) = some (jfact by' k (e - k)) := by
  have h := fun w h1 h2 => jisX (w := w) hN ht hk he h1 h2
  unfold pX2_factNamed pX2_factNamed_93 jfact
  simp only [h 7 (by omega) (by omega), h 8 (by omega) (by omega), h 9 (by omega) (by omega), h 10 (by omega) (by omega), h 11 (by omega) (by omega), h 12 (by omega) (by omega), h 13 (by omega) (by omega), h 2 (by omega) (by omega), jbB]
  repeat' split
  all_goals rfl
end LR
