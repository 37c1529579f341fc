/-! the law: a row of codes for a machine with a stack -/
def jdp (kk : Nat → Nat) : Nat → Nat | 0 => 0 | i + 1 => if kk i < 2 then jdp kk i + 1 else jdp kk i - 1
def jwf (kk vv : Nat → Nat) (n : Nat) : Prop := (∀ i, i < n → kk i ≤ 8 ∧ vv i ≤ 999 ∧ (kk i = 1 → vv i < 8) ∧ (2 ≤ kk i → 2 ≤ jdp kk i)) ∧ 1 ≤ jdp kk n
def jop (k : Nat) (a b : Int32) : Int32 :=
  if k = 2 then a + b else if k = 3 then a - b else if k = 4 then a * b else if k = 5 then (if b = nI 0 then nI 0 else a / b) else if k = 6 then (if b = nI 0 then nI 0 else a - a / b * b) else if k = 7 then (if b ≤ a then b else a) else (if a ≤ b then b else a)
/-- the stack behind i codes -/
def jrun (kk vv : Nat → Nat) (fa : Nat → Int32) : Nat → Nat → Int32
  | 0 => fun _ => nI 0
  | i + 1 => if kk i = 0 then upd (jrun kk vv fa i) (jdp kk i) (nI (vv i)) else if kk i = 1 then upd (jrun kk vv fa i) (jdp kk i) (fa (vv i)) else upd (jrun kk vv fa i) (jdp kk i - 2) (jop (kk i) (jrun kk vv fa i (jdp kk i - 2)) (jrun kk vv fa i (jdp kk i - 1)))
def jclamp (x : Int32) : Int32 := if x ≤ nI 0 then nI 0 else if nI 99 ≤ x then nI 99 else x
def jfee (kk vv : Nat → Nat) (n : Nat) (fa : Nat → Int32) : Int32 := jclamp (jrun kk vv fa n 0)
theorem jclamp_rng (x : Int32) : ∃ f, f ≤ 99 ∧ jclamp x = nI f := by
  unfold jclamp
  split
  · exact ⟨0, by omega, rfl⟩
  · rename_i h
    split
    · exact ⟨99, by omega, rfl⟩
    · rename_i h2
      obtain ⟨j, h3, rfl⟩ := nI_of (x := x) (fun q => h (by rw [Int32.le_iff_toInt_le]; rw [Int32.lt_iff_toInt_lt] at q; exact Int.le_of_lt q))
      refine ⟨j, ?_, rfl⟩
      have := (nI_ltI h3 (by omega)).mp (jnlt.mp h2)
      omega
theorem jclampX (x : Int32) : zmax (nI 0) (zmin (nI 99) x) = jclamp x := by
  have e0 : (nI 0).toInt = 0 := rfl
  have e9 : (nI 99).toInt = 99 := rfl
  unfold zmax zmin jclamp
  simp only [Int32.lt_iff_toInt_lt, Int32.le_iff_toInt_le, e0, e9]
  by_cases h1 : x.toInt < 99
  · rw [if_pos h1]
    by_cases h2 : 0 < x.toInt
    · rw [if_pos h2, if_neg (by omega), if_neg (by omega)]
    · rw [if_neg h2, if_pos (by omega)]
  · rw [if_neg h1, e9, if_pos (by omega), if_neg (by omega), if_pos (by omega)]
theorem jclampM (N9 : Nat) (x : Int32) : zb1 (pM_more N9 (nI 0) x) (fun r => pM_less N9 (nI 99) r) = some (jclamp x) := by
  have e0 : (nI 0).toInt = 0 := rfl
  have e9 : (nI 99).toInt = 99 := rfl
  unfold pM_more pM_less pM_more_10 pM_less_10 jclamp
  simp only [Int32.le_iff_toInt_le, e0, e9]
  by_cases h2 : 0 ≤ x.toInt
  · rw [if_pos h2, jb1]
    by_cases h1 : x.toInt ≤ 99
    · rw [if_pos h1]
      by_cases h3 : x.toInt ≤ 0
      · rw [if_pos h3]
        have : x = nI 0 := Int32.toInt_inj.mp (by omega)
        rw [this]
      · rw [if_neg h3]
        by_cases h4 : 99 ≤ x.toInt
        · rw [if_pos h4]
          have : x = nI 99 := Int32.toInt_inj.mp (by omega)
          rw [this]
        · rw [if_neg h4]
    · rw [if_neg h1, if_neg (by omega), if_pos (by omega)]
  · rw [if_neg h2, jb1, e0, if_pos (by omega), if_pos (by omega)]
def jLw (n : Nat) (kk vv : Nat → Nat) (lw_kinds lw_values : Nat → Int32) (lw_length m_lawMany : Int32) (m_law : Nat → Nat → Int32) : Prop :=
  n ≤ 150 ∧ lw_length = nI n ∧ (∀ i, i < n → lw_kinds i = nI (kk i) ∧ lw_values i = nI (vv i)) ∧ jwf kk vv n ∧
  ((m_lawMany = nI n ∧ ∀ i, i < n → m_law i 0 = nI (kk i) ∧ m_law i 1 = nI (vv i)) ∨ (m_lawMany = nI 0 ∧ n = 5 ∧ kk 0 = 1 ∧ vv 0 = 0 ∧ kk 1 = 1 ∧ vv 1 = 1 ∧ kk 2 = 0 ∧ vv 2 = 2 ∧ kk 3 = 4 ∧ kk 4 = 2))
theorem jdp_le (kk : Nat → Nat) : ∀ i, jdp kk i ≤ i := by
  intro i
  induction i with
  | zero => exact Nat.le_refl 0
  | succ i ih => rw [jdp]; split <;> omega
theorem jxjoin (N9 : Nat) {k : Nat} (h2 : 2 ≤ k) (h8 : k ≤ 8) (a b : Int32) : pX2_joined N9 (nI k) a b = some (jop k a b) := by
  unfold pX2_joined pX2_joined_63 pX2_joined_75 pX2_joined_86 pX2_joined_97 jop
  have : k = 2 ∨ k = 3 ∨ k = 4 ∨ k = 5 ∨ k = 6 ∨ k = 7 ∨ k = 8 := by omega
  rcases this with rfl | rfl | rfl | rfl | rfl | rfl | rfl <;> simp (disch := omega) only [jb1, jb2, jb3, jb4, jb5, jb6, jb7, jb8, jb9, jb10, jb11, jb12, jb13, jb14, jb15, jb16, jb17, jb18, jb19, jb20, jb21, jb22, jb23, jb24, jb25, jb26, jb27, jb28, jb29, jb30, jb31, jb32, jb33, jb34, jb35, jb36, jb37, jb38, jb39, jb40, jb41, jb42, jb43, jb44, jb45, jb46, jb47, jb48, jb49, jb50, zlet, jlit, jle_t, jle_f, jlt_t, jlt_f, jeq_t, jeq_f, jeqN_f, jNeq_f, jNN, jN1, jadd, jsub, jzin, jcl, if_true, if_false, ite_true, ite_false, not_true, not_false_iff, not_true_eq_false, not_false_eq_true, jB_t, jB_f, jB0_t, jB0_f, jBa, jand11, jand00, ↓reduceIte, Nat.reduceEqDiff, Nat.reduceAdd, Nat.reduceSub]
  · by_cases hb : b = nI 0
    · rw [if_pos hb, if_pos hb]
    · rw [if_neg hb, if_neg hb, if_pos hb]
  · by_cases hb : b = nI 0
    · rw [if_pos hb, if_pos hb]
    · rw [if_neg hb, if_neg hb, if_pos hb]
  · by_cases hb : b ≤ a
    · rw [if_pos hb, if_pos hb]
    · rw [if_neg hb, if_neg hb]
  · by_cases hb : a ≤ b
    · rw [if_pos hb, if_pos hb]
    · rw [if_neg hb, if_neg hb]
theorem jdivN (a : Int32) : a / (-nI 1) = -a := by
  apply Int32.toInt_inj.mp
  have : (-nI 1).toInt = -1 := by decide
  rw [Int32.toInt_div, this, Int.tdiv_neg, Int.tdiv_one, Int32.toInt_neg]
theorem jremN (a : Int32) : a - a / (-nI 1) * (-nI 1) = nI 0 := by
  rw [jdivN]
  show a - -a * -(1 : Int32) = 0
  grind
theorem jmby (N9 : Nat) {k : Nat} (h2 : 2 ≤ k) (h8 : k ≤ 8) (a b : Int32) : pM_by N9 (nI k) a b = some (jop k a b) := by
  unfold pM_by pM_by_73 pM_by_83 pM_by_90 pM_less pM_more pM_less_10 pM_more_10 jop
  have : k = 2 ∨ k = 3 ∨ k = 4 ∨ k = 5 ∨ k = 6 ∨ k = 7 ∨ k = 8 := by omega
  rcases this with rfl | rfl | rfl | rfl | rfl | rfl | rfl <;> simp (disch := omega) only [jb1, jb2, jb3, jb4, jb5, jb6, jb7, jb8, jb9, jb10, jb11, jb12, jb13, jb14, jb15, jb16, jb17, jb18, jb19, jb20, jb21, jb22, jb23, jb24, jb25, jb26, jb27, jb28, jb29, jb30, jb31, jb32, jb33, jb34, jb35, jb36, jb37, jb38, jb39, jb40, jb41, jb42, jb43, jb44, jb45, jb46, jb47, jb48, jb49, jb50, zlet, jlit, jle_t, jle_f, jlt_t, jlt_f, jeq_t, jeq_f, jeqN_f, jNeq_f, jNN, jN1, jadd, jsub, jzin, jcl, if_true, if_false, ite_true, ite_false, not_true, not_false_iff, not_true_eq_false, not_false_eq_true, jB_t, jB_f, jB0_t, jB0_f, jBa, jand11, jand00, ↓reduceIte, Nat.reduceEqDiff, Nat.reduceAdd, Nat.reduceSub]
  · by_cases hb : b = nI 0
    · rw [if_pos hb, if_pos hb]
    · rw [if_neg hb, if_neg hb]
      by_cases h1 : b = -nI 1
      · rw [if_pos h1, h1, jdivN]
      · rw [if_neg h1, if_pos hb]
  · by_cases hb : b = nI 0
    · rw [if_pos hb, if_pos hb]
    · rw [if_neg hb, if_neg hb]
      by_cases h1 : b = -nI 1
      · rw [if_pos h1, h1, jremN]
      · rw [if_neg h1, if_pos hb]
  · by_cases hb : b ≤ a
    · rw [if_pos hb, if_pos hb]; rfl
    · rw [if_neg hb, if_neg hb]; rfl
  · by_cases hb : a ≤ b
    · rw [if_pos hb, if_pos hb]; rfl
    · rw [if_neg hb, if_neg hb]; rfl
theorem jrun_step {kk vv : Nat → Nat} {fa : Nat → Int32} {i : Nat} : jrun kk vv fa (i + 1) = if kk i = 0 then upd (jrun kk vv fa i) (jdp kk i) (nI (vv i)) else if kk i = 1 then upd (jrun kk vv fa i) (jdp kk i) (fa (vv i)) else upd (jrun kk vv fa i) (jdp kk i - 2) (jop (kk i) (jrun kk vv fa i (jdp kk i - 2)) (jrun kk vv fa i (jdp kk i - 1))) := rfl
theorem jdp_step {kk : Nat → Nat} {i : Nat} : jdp kk (i + 1) = if kk i < 2 then jdp kk i + 1 else jdp kk i - 1 := rfl
/-- a stack holds what the spec's holds, below its depth -/
def jst (kk vv : Nat → Nat) (fa : Nat → Int32) (i : Nat) (f : Nat → Int32) : Prop := ∀ j, j < jdp kk i → f j = jrun kk vv fa i j
theorem jst_put {kk vv : Nat → Nat} {fa f : Nat → Int32} {i : Nat} (h : jst kk vv fa i f) (hk : kk i < 2) : jst kk vv fa (i + 1) (upd f (jdp kk i) (if kk i = 0 then nI (vv i) else fa (vv i))) := by
  intro j hj
  rw [jdp_step, if_pos hk] at hj
  rw [jrun_step]
  by_cases h0 : kk i = 0
  · rw [if_pos h0, if_pos h0]
    by_cases hd : j = jdp kk i
    · subst hd; rw [pk_us, pk_us]
    · rw [pk_un hd, pk_un hd]; exact h j (by omega)
  · rw [if_neg h0, if_neg h0, if_pos (show kk i = 1 by omega)]
    by_cases hd : j = jdp kk i
    · subst hd; rw [pk_us, pk_us]
    · rw [pk_un hd, pk_un hd]; exact h j (by omega)
theorem jst_op {kk vv : Nat → Nat} {fa f : Nat → Int32} {i : Nat} (h : jst kk vv fa i f) (hk : 2 ≤ kk i) (hd : 2 ≤ jdp kk i) : jst kk vv fa (i + 1) (upd f (jdp kk i - 2) (jop (kk i) (f (jdp kk i - 2)) (f (jdp kk i - 1)))) := by
  intro j hj
  rw [jdp_step, if_neg (by omega)] at hj
  rw [jrun_step, if_neg (by omega), if_neg (by omega), h _ (by omega), h _ (by omega)]
  by_cases hd : j = jdp kk i - 2
  · subst hd; rw [pk_us, pk_us]
  · rw [pk_un hd, pk_un hd]; exact h j (by omega)
section LAW
variable {N9 n : Nat} {kk vv : Nat → Nat} {lw_kinds lw_values : Nat → Int32} {lw_length m_lawMany : Int32} {m_law : Nat → Nat → Int32}
theorem jxfee (hN : 70000 < N9) (hl : jLw n kk vv lw_kinds lw_values lw_length m_lawMany m_law) (lw_stack ru_facts : Nat → Int32) : ∃ st, pX2_feeFor N9 lw_kinds lw_values lw_stack lw_length ru_facts = some (jfee kk vv n ru_facts, st) := by
  obtain ⟨hn, hlen, hrow, ⟨hwf, hd1⟩, -⟩ := hl
  unfold pX2_feeFor
  have h := jloopR (fun n s i => pX2_feeFor_4 N9 lw_kinds lw_values lw_length ru_facts n s.1 s.2 i) n (fun i s => jst kk vv ru_facts i s.1 ∧ s.2 = nI (jdp kk i)) (fun r => r.1 = jfee kk vv n ru_facts) ?_ ?_ n 0 (lw_stack, nI 0) N9 (by omega) (by omega) ⟨fun j hj => absurd hj (Nat.not_lt_zero j), rfl⟩
  · obtain ⟨⟨r, st⟩, h1, h2⟩ := h
    exact ⟨st, by rw [show pX2_feeFor_4 N9 lw_kinds lw_values lw_length ru_facts N9 lw_stack 0 0 = some (r, st) from h1]; rw [show r = _ from h2]⟩
  · rintro q i ⟨f, t⟩ hi ⟨hs, ht⟩
    have ht : t = nI (jdp kk i) := ht
    subst ht
    obtain ⟨h3, h4⟩ := hrow i hi
    obtain ⟨h5, h6, h7, h8⟩ := hwf i hi
    have hdl := jdp_le kk i
    show ∃ s', pX2_feeFor_4 N9 lw_kinds lw_values lw_length ru_facts (q + 1) f _ _ = _ ∧ _
    simp only [pX2_feeFor_4, pX2_feeFor_39, pX2_feeFor_120, pX2_feeFor_78, pX2_feeFor_76]
    have hk : kk i = 0 ∨ kk i = 1 ∨ 2 ≤ kk i := by omega
    rcases hk with hk | hk | hk
    · refine ⟨(upd f (jdp kk i) (nI (vv i)), nI (jdp kk i + 1)), ?_, ?_, ?_⟩
      · rw [hlen]
        simp (disch := omega) only [jb1, jb2, jb3, jb4, jb5, jb6, jb7, jb8, jb9, jb10, jb11, jb12, jb13, jb14, jb15, jb16, jb17, jb18, jb19, jb20, jb21, jb22, jb23, jb24, jb25, jb26, jb27, jb28, jb29, jb30, jb31, jb32, jb33, jb34, jb35, jb36, jb37, jb38, jb39, jb40, jb41, jb42, jb43, jb44, jb45, jb46, jb47, jb48, jb49, jb50, zlet, jlit, jle_t, jle_f, jlt_t, jlt_f, jeq_t, jeq_f, jeqN_f, jNeq_f, jNN, jN1, jadd, jsub, jzin, jcl, if_true, if_false, ite_true, ite_false, not_true, not_false_iff, not_true_eq_false, not_false_eq_true, jB_t, jB_f, jB0_t, jB0_f, jBa, jand11, jand00, ↓reduceIte, Nat.reduceEqDiff, Nat.reduceAdd, Nat.reduceSub, h3, h4, hk]
      · have := jst_put hs (by omega : kk i < 2)
        rw [if_pos hk] at this
        exact this
      · show _ = nI (jdp kk (i + 1))
        rw [jdp_step, if_pos (by omega)]
    · have h9 := h7 hk
      refine ⟨(upd f (jdp kk i) (ru_facts (vv i)), nI (jdp kk i + 1)), ?_, ?_, ?_⟩
      · rw [hlen]
        simp (disch := omega) only [jb1, jb2, jb3, jb4, jb5, jb6, jb7, jb8, jb9, jb10, jb11, jb12, jb13, jb14, jb15, jb16, jb17, jb18, jb19, jb20, jb21, jb22, jb23, jb24, jb25, jb26, jb27, jb28, jb29, jb30, jb31, jb32, jb33, jb34, jb35, jb36, jb37, jb38, jb39, jb40, jb41, jb42, jb43, jb44, jb45, jb46, jb47, jb48, jb49, jb50, zlet, jlit, jle_t, jle_f, jlt_t, jlt_f, jeq_t, jeq_f, jeqN_f, jNeq_f, jNN, jN1, jadd, jsub, jzin, jcl, if_true, if_false, ite_true, ite_false, not_true, not_false_iff, not_true_eq_false, not_false_eq_true, jB_t, jB_f, jB0_t, jB0_f, jBa, jand11, jand00, ↓reduceIte, Nat.reduceEqDiff, Nat.reduceAdd, Nat.reduceSub, h3, h4, hk]
      · have := jst_put hs (by omega : kk i < 2)
        rw [if_neg (by omega)] at this
        exact this
      · show _ = nI (jdp kk (i + 1))
        rw [jdp_step, if_pos (by omega)]
    · have h9 := h8 hk
      refine ⟨(upd f (jdp kk i - 2) (jop (kk i) (f (jdp kk i - 2)) (f (jdp kk i - 1))), nI (jdp kk i - 1)), ?_, jst_op hs hk h9, ?_⟩
      · rw [hlen]
        have e1 : nI (jdp kk i) + -nI 1 = nI (jdp kk i - 1) := by
          rw [← jsub (by omega)]; exact (Int32.sub_eq_add_neg _ _).symm
        have e2 : jdp kk i - 1 - 1 = jdp kk i - 2 := by omega
        simp (disch := omega) only [jb1, jb2, jb3, jb4, jb5, jb6, jb7, jb8, jb9, jb10, jb11, jb12, jb13, jb14, jb15, jb16, jb17, jb18, jb19, jb20, jb21, jb22, jb23, jb24, jb25, jb26, jb27, jb28, jb29, jb30, jb31, jb32, jb33, jb34, jb35, jb36, jb37, jb38, jb39, jb40, jb41, jb42, jb43, jb44, jb45, jb46, jb47, jb48, jb49, jb50, zlet, jlit, jle_t, jle_f, jlt_t, jlt_f, jeq_t, jeq_f, jeqN_f, jNeq_f, jNN, jN1, jadd, jsub, jzin, jcl, if_true, if_false, ite_true, ite_false, not_true, not_false_iff, not_true_eq_false, not_false_eq_true, jB_t, jB_f, jB0_t, jB0_f, jBa, jand11, jand00, ↓reduceIte, Nat.reduceEqDiff, Nat.reduceAdd, Nat.reduceSub, h3, h4, e1, jxjoin N9 hk h5, e2]
      · show _ = nI (jdp kk (i + 1))
        rw [jdp_step, if_neg (by omega)]
  · rintro q ⟨f, t⟩ ⟨hs, ht⟩
    show ∃ r, pX2_feeFor_4 N9 lw_kinds lw_values lw_length ru_facts (q + 1) f _ _ = _ ∧ _
    simp only [pX2_feeFor_4, pX2_feeFor_39, pX2_feeFor_120, pX2_feeFor_78, pX2_feeFor_76]
    rw [hlen, if_pos (nI_le (Nat.le_refl n) (by omega))]
    simp (disch := omega) only [jb1, jb2, jb3, jb4, jb5, jb6, jb7, jb8, jb9, jb10, jb11, jb12, jb13, jb14, jb15, jb16, jb17, jb18, jb19, jb20, jb21, jb22, jb23, jb24, jb25, jb26, jb27, jb28, jb29, jb30, jb31, jb32, jb33, jb34, jb35, jb36, jb37, jb38, jb39, jb40, jb41, jb42, jb43, jb44, jb45, jb46, jb47, jb48, jb49, jb50, zlet, jlit, jle_t, jle_f, jlt_t, jlt_f, jeq_t, jeq_f, jeqN_f, jNeq_f, jNN, jN1, jadd, jsub, jzin, jcl, if_true, if_false, ite_true, ite_false, not_true, not_false_iff, not_true_eq_false, not_false_eq_true, jB_t, jB_f, jB0_t, jB0_f, jBa, jand11, jand00, ↓reduceIte, Nat.reduceEqDiff, Nat.reduceAdd, Nat.reduceSub]
    refine ⟨_, rfl, ?_⟩
    show zmax (nI 0) (zmin (nI 99) (f 0)) = _
    rw [jclampX, show f 0 = _ from hs 0 (by omega)]
    rfl
theorem jmfee (hN : 70000 < N9) (hl : jLw n kk vv lw_kinds lw_values lw_length m_lawMany m_law) (m_stack fa : Nat → Int32) : ∃ st, pM_byLaw N9 m_lawMany m_law m_stack fa = some (jfee kk vv n fa, st) := by
  obtain ⟨hn, hlen, hrow, ⟨hwf, hd1⟩, hm⟩ := hl
  unfold pM_byLaw
  simp (disch := omega) only [jb1, jb2, jb3, jb4, jb5, jb6, jb7, jb8, jb9, jb10, jb11, jb12, jb13, jb14, jb15, jb16, jb17, jb18, jb19, jb20, jb21, jb22, jb23, jb24, jb25, jb26, jb27, jb28, jb29, jb30, jb31, jb32, jb33, jb34, jb35, jb36, jb37, jb38, jb39, jb40, jb41, jb42, jb43, jb44, jb45, jb46, jb47, jb48, jb49, jb50, zlet, jlit, jle_t, jle_f, jlt_t, jlt_f, jeq_t, jeq_f, jeqN_f, jNeq_f, jNN, jN1, jadd, jsub, jzin, jcl, if_true, if_false, ite_true, ite_false, not_true, not_false_iff, not_true_eq_false, not_false_eq_true, jB_t, jB_f, jB0_t, jB0_f, jBa, jand11, jand00, ↓reduceIte, Nat.reduceEqDiff, Nat.reduceAdd, Nat.reduceSub]
  rcases hm with ⟨hm1, hm2⟩ | ⟨hm1, rfl, k0, v0, k1, v1, k2, v2, k3, k4⟩
  · have h := jloopR (fun n s i => pM_byLaw_25 N9 m_lawMany m_law fa n s.1 s.2 i) n (fun i s => jst kk vv fa i s.1 ∧ s.2 = nI (jdp kk i)) (fun r => r.1 = jfee kk vv n fa) ?_ ?_ n 0 (upd m_stack 0 (fa 0 + nI 2 * fa 1), nI 0) N9 (by omega) (by omega) ⟨fun j hj => absurd hj (Nat.not_lt_zero j), rfl⟩
    · obtain ⟨⟨r, st⟩, h1, h2⟩ := h
      exact ⟨st, by rw [show pM_byLaw_25 N9 m_lawMany m_law fa N9 (upd m_stack 0 (fa 0 + nI 2 * fa 1)) (nI 0) (nI 0) = some (r, st) from h1]; rw [show r = _ from h2]⟩
    · rintro q i ⟨f, t⟩ hi ⟨hs, ht⟩
      have ht : t = nI (jdp kk i) := ht
      subst ht
      obtain ⟨h3, h4⟩ := hm2 i hi
      obtain ⟨h5, h6, h7, h8⟩ := hwf i hi
      have hdl := jdp_le kk i
      show ∃ s', pM_byLaw_25 N9 m_lawMany m_law fa (q + 1) f _ _ = _ ∧ _
      simp only [pM_byLaw_25, pM_byLaw_85, pM_byLaw_128]
      have hk : kk i = 0 ∨ kk i = 1 ∨ 2 ≤ kk i := by omega
      rcases hk with hk | hk | hk
      · refine ⟨(upd f (jdp kk i) (nI (vv i)), nI (jdp kk i + 1)), ?_, ?_, ?_⟩
        · rw [hm1]
          simp (disch := omega) only [jb1, jb2, jb3, jb4, jb5, jb6, jb7, jb8, jb9, jb10, jb11, jb12, jb13, jb14, jb15, jb16, jb17, jb18, jb19, jb20, jb21, jb22, jb23, jb24, jb25, jb26, jb27, jb28, jb29, jb30, jb31, jb32, jb33, jb34, jb35, jb36, jb37, jb38, jb39, jb40, jb41, jb42, jb43, jb44, jb45, jb46, jb47, jb48, jb49, jb50, zlet, jlit, jle_t, jle_f, jlt_t, jlt_f, jeq_t, jeq_f, jeqN_f, jNeq_f, jNN, jN1, jadd, jsub, jzin, jcl, if_true, if_false, ite_true, ite_false, not_true, not_false_iff, not_true_eq_false, not_false_eq_true, jB_t, jB_f, jB0_t, jB0_f, jBa, jand11, jand00, ↓reduceIte, Nat.reduceEqDiff, Nat.reduceAdd, Nat.reduceSub, h3, h4, hk]
        · have := jst_put hs (by omega : kk i < 2)
          rw [if_pos hk] at this
          exact this
        · show _ = nI (jdp kk (i + 1))
          rw [jdp_step, if_pos (by omega)]
      · have h9 := h7 hk
        refine ⟨(upd f (jdp kk i) (fa (vv i)), nI (jdp kk i + 1)), ?_, ?_, ?_⟩
        · rw [hm1]
          simp (disch := omega) only [jb1, jb2, jb3, jb4, jb5, jb6, jb7, jb8, jb9, jb10, jb11, jb12, jb13, jb14, jb15, jb16, jb17, jb18, jb19, jb20, jb21, jb22, jb23, jb24, jb25, jb26, jb27, jb28, jb29, jb30, jb31, jb32, jb33, jb34, jb35, jb36, jb37, jb38, jb39, jb40, jb41, jb42, jb43, jb44, jb45, jb46, jb47, jb48, jb49, jb50, zlet, jlit, jle_t, jle_f, jlt_t, jlt_f, jeq_t, jeq_f, jeqN_f, jNeq_f, jNN, jN1, jadd, jsub, jzin, jcl, if_true, if_false, ite_true, ite_false, not_true, not_false_iff, not_true_eq_false, not_false_eq_true, jB_t, jB_f, jB0_t, jB0_f, jBa, jand11, jand00, ↓reduceIte, Nat.reduceEqDiff, Nat.reduceAdd, Nat.reduceSub, h3, h4, hk]
        · have := jst_put hs (by omega : kk i < 2)
          rw [if_neg (by omega)] at this
          exact this
        · show _ = nI (jdp kk (i + 1))
          rw [jdp_step, if_pos (by omega)]
      · have h9 := h8 hk
        refine ⟨(upd f (jdp kk i - 2) (jop (kk i) (f (jdp kk i - 2)) (f (jdp kk i - 1))), nI (jdp kk i - 1)), ?_, jst_op hs hk h9, ?_⟩
        · rw [hm1]
          have e1 : nI (jdp kk i) + -nI 1 = nI (jdp kk i - 1) := by
            rw [← jsub (by omega)]; exact (Int32.sub_eq_add_neg _ _).symm
          have e2 : jdp kk i - 1 - 1 = jdp kk i - 2 := by omega
          simp (disch := omega) only [jb1, jb2, jb3, jb4, jb5, jb6, jb7, jb8, jb9, jb10, jb11, jb12, jb13, jb14, jb15, jb16, jb17, jb18, jb19, jb20, jb21, jb22, jb23, jb24, jb25, jb26, jb27, jb28, jb29, jb30, jb31, jb32, jb33, jb34, jb35, jb36, jb37, jb38, jb39, jb40, jb41, jb42, jb43, jb44, jb45, jb46, jb47, jb48, jb49, jb50, zlet, jlit, jle_t, jle_f, jlt_t, jlt_f, jeq_t, jeq_f, jeqN_f, jNeq_f, jNN, jN1, jadd, jsub, jzin, jcl, if_true, if_false, ite_true, ite_false, not_true, not_false_iff, not_true_eq_false, not_false_eq_true, jB_t, jB_f, jB0_t, jB0_f, jBa, jand11, jand00, ↓reduceIte, Nat.reduceEqDiff, Nat.reduceAdd, Nat.reduceSub, h3, h4, e1, jmby N9 hk h5, e2]
        · show _ = nI (jdp kk (i + 1))
          rw [jdp_step, if_neg (by omega)]
    · rintro q ⟨f, t⟩ ⟨hs, ht⟩
      show ∃ r, pM_byLaw_25 N9 m_lawMany m_law fa (q + 1) f _ _ = _ ∧ _
      simp only [pM_byLaw_25, pM_byLaw_85, pM_byLaw_128]
      rw [hm1, if_pos (nI_le (Nat.le_refl n) (by omega))]
      simp (disch := omega) only [jb1, jb2, jb3, jb4, jb5, jb6, jb7, jb8, jb9, jb10, jb11, jb12, jb13, jb14, jb15, jb16, jb17, jb18, jb19, jb20, jb21, jb22, jb23, jb24, jb25, jb26, jb27, jb28, jb29, jb30, jb31, jb32, jb33, jb34, jb35, jb36, jb37, jb38, jb39, jb40, jb41, jb42, jb43, jb44, jb45, jb46, jb47, jb48, jb49, jb50, zlet, jlit, jle_t, jle_f, jlt_t, jlt_f, jeq_t, jeq_f, jeqN_f, jNeq_f, jNN, jN1, jadd, jsub, jzin, jcl, if_true, if_false, ite_true, ite_false, not_true, not_false_iff, not_true_eq_false, not_false_eq_true, jB_t, jB_f, jB0_t, jB0_f, jBa, jand11, jand00, ↓reduceIte, Nat.reduceEqDiff, Nat.reduceAdd, Nat.reduceSub]
      have hc := jclampM N9 (f 0)
      cases hmore : pM_more N9 (nI 0) (f 0) with
      | none => rw [hmore] at hc; cases hc
      | some w =>
        rw [hmore, jb1] at hc
        rw [jb1, hc, jb1]
        refine ⟨_, rfl, ?_⟩
        show jclamp (f 0) = _
        rw [show f 0 = _ from hs 0 (by omega)]
        rfl
  · obtain ⟨q, rfl⟩ : ∃ q, N9 = q + 1 := ⟨N9 - 1, by omega⟩
    simp only [pM_byLaw_25]
    rw [hm1]
    simp (disch := omega) only [jb1, jb2, jb3, jb4, jb5, jb6, jb7, jb8, jb9, jb10, jb11, jb12, jb13, jb14, jb15, jb16, jb17, jb18, jb19, jb20, jb21, jb22, jb23, jb24, jb25, jb26, jb27, jb28, jb29, jb30, jb31, jb32, jb33, jb34, jb35, jb36, jb37, jb38, jb39, jb40, jb41, jb42, jb43, jb44, jb45, jb46, jb47, jb48, jb49, jb50, zlet, jlit, jle_t, jle_f, jlt_t, jlt_f, jeq_t, jeq_f, jeqN_f, jNeq_f, jNN, jN1, jadd, jsub, jzin, jcl, if_true, if_false, ite_true, ite_false, not_true, not_false_iff, not_true_eq_false, not_false_eq_true, jB_t, jB_f, jB0_t, jB0_f, jBa, jand11, jand00, ↓reduceIte, Nat.reduceEqDiff, Nat.reduceAdd, Nat.reduceSub, pk_us]
    have hc := jclampM (q + 1) (fa 0 + nI 2 * fa 1)
    cases hmore : pM_more (q + 1) (nI 0) (fa 0 + nI 2 * fa 1) with
    | none => rw [hmore] at hc; cases hc
    | some w =>
      rw [hmore, jb1] at hc
      rw [jb1, hc, jb1]
      have : jrun kk vv fa 5 0 = fa 0 + nI 2 * fa 1 := by
        simp only [jrun, jdp, k0, v0, k1, v1, k2, v2, k3, k4]
        simp [upd, jop]
        grind
      unfold jfee
      rw [this]
      exact ⟨_, rfl⟩
/-- the eight facts of a fee -/
def jF (t a m ag go pa nu ga : Int32) : Nat → Int32 := fun i => if i = 0 then t else if i = 1 then a else if i = 2 then m else if i = 3 then ag else if i = 4 then go else if i = 5 then pa else if i = 6 then nu else ga
theorem jrun_congr {fa fb : Nat → Int32} (h : ∀ i, i < 8 → fa i = fb i) : ∀ i, (∀ j, j < i → (kk j = 1 → vv j < 8)) → jrun kk vv fa i = jrun kk vv fb i := by
  intro i
  induction i with
  | zero => intro _; rfl
  | succ i ih =>
    intro hw
    rw [jrun_step, jrun_step, ih (fun j hj => hw j (by omega))]
    by_cases h0 : kk i = 0
    · rw [if_pos h0, if_pos h0]
    · rw [if_neg h0, if_neg h0]
      by_cases h1 : kk i = 1
      · rw [if_pos h1, if_pos h1, h _ (hw i (by omega) h1)]
      · rw [if_neg h1, if_neg h1]
theorem jfee_congr {fa fb : Nat → Int32} (hw : jwf kk vv n) (h : ∀ i, i < 8 → fa i = fb i) : jfee kk vv n fa = jfee kk vv n fb := by
  unfold jfee
  rw [jrun_congr h n (fun j hj => (hw.1 j hj).2.2.1)]
theorem jF_upd (f : Nat → Int32) (t a m ag go pa nu ga : Int32) : ∀ i, i < 8 → upd (upd (upd (upd (upd (upd (upd (upd f 0 t) 1 a) 2 m) 3 ag) 4 go) 5 pa) 6 nu) 7 ga i = jF t a m ag go pa nu ga i := by
  intro i hi
  have : i = 0 ∨ i = 1 ∨ i = 2 ∨ i = 3 ∨ i = 4 ∨ i = 5 ∨ i = 6 ∨ i = 7 := by omega
  rcases this with rfl | rfl | rfl | rfl | rfl | rfl | rfl | rfl <;> rfl
theorem jmfeeBy (hN : 70000 < N9) (hl : jLw n kk vv lw_kinds lw_values lw_length m_lawMany m_law) (m_stack m_known : Nat → Int32) (t a m ag go pa nu ga : Int32) : ∃ st kn, pM_feeBy N9 m_lawMany m_law m_stack m_known t a m ag go pa nu ga = some (jfee kk vv n (jF t a m ag go pa nu ga), st, kn) := by
  unfold pM_feeBy
  simp (disch := omega) only [jb1, jb2, jb3, jb4, jb5, jb6, jb7, jb8, jb9, jb10, jb11, jb12, jb13, jb14, jb15, jb16, jb17, jb18, jb19, jb20, jb21, jb22, jb23, jb24, jb25, jb26, jb27, jb28, jb29, jb30, jb31, jb32, jb33, jb34, jb35, jb36, jb37, jb38, jb39, jb40, jb41, jb42, jb43, jb44, jb45, jb46, jb47, jb48, jb49, jb50, zlet, jlit, jle_t, jle_f, jlt_t, jlt_f, jeq_t, jeq_f, jeqN_f, jNeq_f, jNN, jN1, jadd, jsub, jzin, jcl, if_true, if_false, ite_true, ite_false, not_true, not_false_iff, not_true_eq_false, not_false_eq_true, jB_t, jB_f, jB0_t, jB0_f, jBa, jand11, jand00, ↓reduceIte, Nat.reduceEqDiff, Nat.reduceAdd, Nat.reduceSub]
  obtain ⟨st, h⟩ := jmfee hN hl m_stack (upd (upd (upd (upd (upd (upd (upd (upd m_known 0 t) 1 a) 2 m) 3 ag) 4 go) 5 pa) 6 nu) 7 ga)
  rw [h, jb2, jfee_congr hl.2.2.2.1 (jF_upd m_known t a m ag go pa nu ga)]
  exact ⟨_, _, rfl⟩
end LAW
