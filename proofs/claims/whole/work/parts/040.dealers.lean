/-! dealers -/
def jmk (i : Nat) : Nat := if i < 8 then 2 ^ i else 0
theorem jmk_lt (i : Nat) : jmk i < 256 := by
  unfold jmk
  split
  · have h := Nat.pow_le_pow_right (n := 2) (by omega) (by omega : i ≤ 7)
    omega
  · omega
def jsl (d i j : Nat) : Nat := jpop ((d ^^^ jmk i) ^^^ jmk j)
def jone (s : Nat) : Nat := if 1 < s then 0 else 3
def joth (s : Nat) : Nat := if 1 < s then s else 0
theorem jsl_le (d i j : Nat) : jsl d i j ≤ 8 := jpop_le _
theorem jone_le (s : Nat) : jone s ≤ 3 := by unfold jone; split <;> omega
theorem joth_le {s : Nat} (h : s ≤ 8) : joth s ≤ 8 := by unfold joth; split <;> omega
theorem jxor0 (d : Nat) : d ^^^ 0 = d := Nat.xor_zero d
theorem jslX (N9 : Nat) {d i j : Nat} (hd : d < 256) (hi : i < 9) (hj : j < 9) : pX9_slipsAfter N9 (nI d) (nI i) (nI j) = some (nI (jsl d i j)) := by
  have h1 := jmk_lt i
  have h2 := jmk_lt j
  have h3 := jxor_lt (jxor_lt hd h1) h2
  unfold jsl
  by_cases a : i < 8
  · by_cases b : j < 8
    · have e1 : jmk i = 2 ^ i := if_pos a
      have e2 : jmk j = 2 ^ j := if_pos b
      rw [e1, e2] at h3 ⊢
      unfold pX9_slipsAfter pX9_slipsAfter_14 pX9_slipsAfter_26
      simp (disch := omega) only [jb1, jb2, jb3, jb4, jb5, jb6, jb7, jb8, jb9, jb10, jb11, jb12, jb13, jb14, jb15, jb16, jb17, jb18, jb19, jb20, jb21, jb22, jb23, jb24, jb25, jb26, jb27, jb28, jb29, jb30, jb31, jb32, jb33, jb34, jb35, jb36, jb37, jb38, jb39, jb40, jb41, jb42, jb43, jb44, jb45, jb46, jb47, jb48, jb49, jb50, zlet, jlit, jle_t, jle_f, jlt_t, jlt_f, jeq_t, jeq_f, jeqN_f, jNeq_f, jNN, jN1, jadd, jsub, jzin, jcl, if_true, if_false, ite_true, ite_false, not_true, not_false_iff, not_true_eq_false, not_false_eq_true, jB_t, jB_f, jB0_t, jB0_f, jBa, jand11, jand00, ↓reduceIte, Nat.reduceEqDiff, Nat.reduceAdd, Nat.reduceSub, jshl, jxor, jbc h3]
    · have e1 : jmk i = 2 ^ i := if_pos a
      have e2 : jmk j = 0 := if_neg b
      rw [e1, e2, jxor0] at h3 ⊢
      unfold pX9_slipsAfter pX9_slipsAfter_14 pX9_slipsAfter_26
      simp (disch := omega) only [jb1, jb2, jb3, jb4, jb5, jb6, jb7, jb8, jb9, jb10, jb11, jb12, jb13, jb14, jb15, jb16, jb17, jb18, jb19, jb20, jb21, jb22, jb23, jb24, jb25, jb26, jb27, jb28, jb29, jb30, jb31, jb32, jb33, jb34, jb35, jb36, jb37, jb38, jb39, jb40, jb41, jb42, jb43, jb44, jb45, jb46, jb47, jb48, jb49, jb50, zlet, jlit, jle_t, jle_f, jlt_t, jlt_f, jeq_t, jeq_f, jeqN_f, jNeq_f, jNN, jN1, jadd, jsub, jzin, jcl, if_true, if_false, ite_true, ite_false, not_true, not_false_iff, not_true_eq_false, not_false_eq_true, jB_t, jB_f, jB0_t, jB0_f, jBa, jand11, jand00, ↓reduceIte, Nat.reduceEqDiff, Nat.reduceAdd, Nat.reduceSub, jshl, jxor, jbc h3]
  · by_cases b : j < 8
    · have e1 : jmk i = 0 := if_neg a
      have e2 : jmk j = 2 ^ j := if_pos b
      rw [e1, e2, jxor0] at h3 ⊢
      unfold pX9_slipsAfter pX9_slipsAfter_14 pX9_slipsAfter_26
      simp (disch := omega) only [jb1, jb2, jb3, jb4, jb5, jb6, jb7, jb8, jb9, jb10, jb11, jb12, jb13, jb14, jb15, jb16, jb17, jb18, jb19, jb20, jb21, jb22, jb23, jb24, jb25, jb26, jb27, jb28, jb29, jb30, jb31, jb32, jb33, jb34, jb35, jb36, jb37, jb38, jb39, jb40, jb41, jb42, jb43, jb44, jb45, jb46, jb47, jb48, jb49, jb50, zlet, jlit, jle_t, jle_f, jlt_t, jlt_f, jeq_t, jeq_f, jeqN_f, jNeq_f, jNN, jN1, jadd, jsub, jzin, jcl, if_true, if_false, ite_true, ite_false, not_true, not_false_iff, not_true_eq_false, not_false_eq_true, jB_t, jB_f, jB0_t, jB0_f, jBa, jand11, jand00, ↓reduceIte, Nat.reduceEqDiff, Nat.reduceAdd, Nat.reduceSub, jshl, jxor, jbc h3]
    · have e1 : jmk i = 0 := if_neg a
      have e2 : jmk j = 0 := if_neg b
      rw [e1, e2, jxor0, jxor0] at h3 ⊢
      unfold pX9_slipsAfter pX9_slipsAfter_14 pX9_slipsAfter_26
      simp (disch := omega) only [jb1, jb2, jb3, jb4, jb5, jb6, jb7, jb8, jb9, jb10, jb11, jb12, jb13, jb14, jb15, jb16, jb17, jb18, jb19, jb20, jb21, jb22, jb23, jb24, jb25, jb26, jb27, jb28, jb29, jb30, jb31, jb32, jb33, jb34, jb35, jb36, jb37, jb38, jb39, jb40, jb41, jb42, jb43, jb44, jb45, jb46, jb47, jb48, jb49, jb50, zlet, jlit, jle_t, jle_f, jlt_t, jlt_f, jeq_t, jeq_f, jeqN_f, jNeq_f, jNN, jN1, jadd, jsub, jzin, jcl, if_true, if_false, ite_true, ite_false, not_true, not_false_iff, not_true_eq_false, not_false_eq_true, jB_t, jB_f, jB0_t, jB0_f, jBa, jand11, jand00, ↓reduceIte, Nat.reduceEqDiff, Nat.reduceAdd, Nat.reduceSub, jshl, jxor, jbc h3]
theorem joneX (N9 : Nat) {d i j : Nat} (hd : d < 256) (hi : i < 9) (hj : j < 9) : pX9_gainOfOne N9 (nI d) (nI i) (nI j) = some (nI (jone (jsl d i j))) := by
  have h := jsl_le d i j
  unfold pX9_gainOfOne pX9_gainOfOne_15 jone
  rw [jslX N9 hd hi hj, jb1]
  by_cases c : 1 < jsl d i j
  · simp (disch := omega) only [jb1, jb2, jb3, jb4, jb5, jb6, jb7, jb8, jb9, jb10, jb11, jb12, jb13, jb14, jb15, jb16, jb17, jb18, jb19, jb20, jb21, jb22, jb23, jb24, jb25, jb26, jb27, jb28, jb29, jb30, jb31, jb32, jb33, jb34, jb35, jb36, jb37, jb38, jb39, jb40, jb41, jb42, jb43, jb44, jb45, jb46, jb47, jb48, jb49, jb50, zlet, jlit, jle_t, jle_f, jlt_t, jlt_f, jeq_t, jeq_f, jeqN_f, jNeq_f, jNN, jN1, jadd, jsub, jzin, jcl, if_true, if_false, ite_true, ite_false, not_true, not_false_iff, not_true_eq_false, not_false_eq_true, jB_t, jB_f, jB0_t, jB0_f, jBa, jand11, jand00, ↓reduceIte, Nat.reduceEqDiff, Nat.reduceAdd, Nat.reduceSub, c]
  · simp (disch := omega) only [jb1, jb2, jb3, jb4, jb5, jb6, jb7, jb8, jb9, jb10, jb11, jb12, jb13, jb14, jb15, jb16, jb17, jb18, jb19, jb20, jb21, jb22, jb23, jb24, jb25, jb26, jb27, jb28, jb29, jb30, jb31, jb32, jb33, jb34, jb35, jb36, jb37, jb38, jb39, jb40, jb41, jb42, jb43, jb44, jb45, jb46, jb47, jb48, jb49, jb50, zlet, jlit, jle_t, jle_f, jlt_t, jlt_f, jeq_t, jeq_f, jeqN_f, jNeq_f, jNN, jN1, jadd, jsub, jzin, jcl, if_true, if_false, ite_true, ite_false, not_true, not_false_iff, not_true_eq_false, not_false_eq_true, jB_t, jB_f, jB0_t, jB0_f, jBa, jand11, jand00, ↓reduceIte, Nat.reduceEqDiff, Nat.reduceAdd, Nat.reduceSub, c]
theorem jothX (N9 : Nat) {d i j : Nat} (hd : d < 256) (hi : i < 9) (hj : j < 9) : pX9_gainOfOther N9 (nI d) (nI i) (nI j) = some (nI (joth (jsl d i j))) := by
  have h := jsl_le d i j
  unfold pX9_gainOfOther pX9_gainOfOther_17 joth
  rw [jslX N9 hd hi hj, jb1]
  by_cases c : 1 < jsl d i j
  · simp (disch := omega) only [jb1, jb2, jb3, jb4, jb5, jb6, jb7, jb8, jb9, jb10, jb11, jb12, jb13, jb14, jb15, jb16, jb17, jb18, jb19, jb20, jb21, jb22, jb23, jb24, jb25, jb26, jb27, jb28, jb29, jb30, jb31, jb32, jb33, jb34, jb35, jb36, jb37, jb38, jb39, jb40, jb41, jb42, jb43, jb44, jb45, jb46, jb47, jb48, jb49, jb50, zlet, jlit, jle_t, jle_f, jlt_t, jlt_f, jeq_t, jeq_f, jeqN_f, jNeq_f, jNN, jN1, jadd, jsub, jzin, jcl, if_true, if_false, ite_true, ite_false, not_true, not_false_iff, not_true_eq_false, not_false_eq_true, jB_t, jB_f, jB0_t, jB0_f, jBa, jand11, jand00, ↓reduceIte, Nat.reduceEqDiff, Nat.reduceAdd, Nat.reduceSub, c]
  · simp (disch := omega) only [jb1, jb2, jb3, jb4, jb5, jb6, jb7, jb8, jb9, jb10, jb11, jb12, jb13, jb14, jb15, jb16, jb17, jb18, jb19, jb20, jb21, jb22, jb23, jb24, jb25, jb26, jb27, jb28, jb29, jb30, jb31, jb32, jb33, jb34, jb35, jb36, jb37, jb38, jb39, jb40, jb41, jb42, jb43, jb44, jb45, jb46, jb47, jb48, jb49, jb50, zlet, jlit, jle_t, jle_f, jlt_t, jlt_f, jeq_t, jeq_f, jeqN_f, jNeq_f, jNN, jN1, jadd, jsub, jzin, jcl, if_true, if_false, ite_true, ite_false, not_true, not_false_iff, not_true_eq_false, not_false_eq_true, jB_t, jB_f, jB0_t, jB0_f, jBa, jand11, jand00, ↓reduceIte, Nat.reduceEqDiff, Nat.reduceAdd, Nat.reduceSub, c]
theorem jchM (N9 : Nat) {v i : Nat} (hi : i < 9) : pM_changed N9 (nI v) (nI i) = some (nI (v ^^^ jmk i)) := by
  unfold pM_changed pM_changed_15 jmk
  by_cases a : i < 8
  · simp (disch := omega) only [jb1, jb2, jb3, jb4, jb5, jb6, jb7, jb8, jb9, jb10, jb11, jb12, jb13, jb14, jb15, jb16, jb17, jb18, jb19, jb20, jb21, jb22, jb23, jb24, jb25, jb26, jb27, jb28, jb29, jb30, jb31, jb32, jb33, jb34, jb35, jb36, jb37, jb38, jb39, jb40, jb41, jb42, jb43, jb44, jb45, jb46, jb47, jb48, jb49, jb50, zlet, jlit, jle_t, jle_f, jlt_t, jlt_f, jeq_t, jeq_f, jeqN_f, jNeq_f, jNN, jN1, jadd, jsub, jzin, jcl, if_true, if_false, ite_true, ite_false, not_true, not_false_iff, not_true_eq_false, not_false_eq_true, jB_t, jB_f, jB0_t, jB0_f, jBa, jand11, jand00, ↓reduceIte, Nat.reduceEqDiff, Nat.reduceAdd, Nat.reduceSub, a, jshl, jxor]
  · simp (disch := omega) only [jb1, jb2, jb3, jb4, jb5, jb6, jb7, jb8, jb9, jb10, jb11, jb12, jb13, jb14, jb15, jb16, jb17, jb18, jb19, jb20, jb21, jb22, jb23, jb24, jb25, jb26, jb27, jb28, jb29, jb30, jb31, jb32, jb33, jb34, jb35, jb36, jb37, jb38, jb39, jb40, jb41, jb42, jb43, jb44, jb45, jb46, jb47, jb48, jb49, jb50, zlet, jlit, jle_t, jle_f, jlt_t, jlt_f, jeq_t, jeq_f, jeqN_f, jNeq_f, jNN, jN1, jadd, jsub, jzin, jcl, if_true, if_false, ite_true, ite_false, not_true, not_false_iff, not_true_eq_false, not_false_eq_true, jB_t, jB_f, jB0_t, jB0_f, jBa, jand11, jand00, ↓reduceIte, Nat.reduceEqDiff, Nat.reduceAdd, Nat.reduceSub, a, jxor0]
theorem jslM {v w i j : Nat} : (v ^^^ jmk i) ^^^ (w ^^^ jmk j) = ((v ^^^ w) ^^^ jmk i) ^^^ jmk j := by
  rw [← Nat.xor_assoc, Nat.xor_assoc v (jmk i) w, Nat.xor_comm (jmk i) w, ← Nat.xor_assoc v w (jmk i)]
theorem joneM (N9 : Nat) {s : Nat} (h : s ≤ 8) : pM_hasOne N9 (nI s) = some (nI (jone s)) := by
  unfold pM_hasOne pM_hasOne_10 jone
  by_cases c : 1 < s
  · simp (disch := omega) only [jb1, jb2, jb3, jb4, jb5, jb6, jb7, jb8, jb9, jb10, jb11, jb12, jb13, jb14, jb15, jb16, jb17, jb18, jb19, jb20, jb21, jb22, jb23, jb24, jb25, jb26, jb27, jb28, jb29, jb30, jb31, jb32, jb33, jb34, jb35, jb36, jb37, jb38, jb39, jb40, jb41, jb42, jb43, jb44, jb45, jb46, jb47, jb48, jb49, jb50, zlet, jlit, jle_t, jle_f, jlt_t, jlt_f, jeq_t, jeq_f, jeqN_f, jNeq_f, jNN, jN1, jadd, jsub, jzin, jcl, if_true, if_false, ite_true, ite_false, not_true, not_false_iff, not_true_eq_false, not_false_eq_true, jB_t, jB_f, jB0_t, jB0_f, jBa, jand11, jand00, ↓reduceIte, Nat.reduceEqDiff, Nat.reduceAdd, Nat.reduceSub, c]
  · simp (disch := omega) only [jb1, jb2, jb3, jb4, jb5, jb6, jb7, jb8, jb9, jb10, jb11, jb12, jb13, jb14, jb15, jb16, jb17, jb18, jb19, jb20, jb21, jb22, jb23, jb24, jb25, jb26, jb27, jb28, jb29, jb30, jb31, jb32, jb33, jb34, jb35, jb36, jb37, jb38, jb39, jb40, jb41, jb42, jb43, jb44, jb45, jb46, jb47, jb48, jb49, jb50, zlet, jlit, jle_t, jle_f, jlt_t, jlt_f, jeq_t, jeq_f, jeqN_f, jNeq_f, jNN, jN1, jadd, jsub, jzin, jcl, if_true, if_false, ite_true, ite_false, not_true, not_false_iff, not_true_eq_false, not_false_eq_true, jB_t, jB_f, jB0_t, jB0_f, jBa, jand11, jand00, ↓reduceIte, Nat.reduceEqDiff, Nat.reduceAdd, Nat.reduceSub, c]
theorem jothM (N9 : Nat) {s : Nat} (h : s ≤ 8) : pM_hasOther N9 (nI s) = some (nI (joth s)) := by
  unfold pM_hasOther pM_hasOther_10 joth
  by_cases c : 1 < s
  · simp (disch := omega) only [jb1, jb2, jb3, jb4, jb5, jb6, jb7, jb8, jb9, jb10, jb11, jb12, jb13, jb14, jb15, jb16, jb17, jb18, jb19, jb20, jb21, jb22, jb23, jb24, jb25, jb26, jb27, jb28, jb29, jb30, jb31, jb32, jb33, jb34, jb35, jb36, jb37, jb38, jb39, jb40, jb41, jb42, jb43, jb44, jb45, jb46, jb47, jb48, jb49, jb50, zlet, jlit, jle_t, jle_f, jlt_t, jlt_f, jeq_t, jeq_f, jeqN_f, jNeq_f, jNN, jN1, jadd, jsub, jzin, jcl, if_true, if_false, ite_true, ite_false, not_true, not_false_iff, not_true_eq_false, not_false_eq_true, jB_t, jB_f, jB0_t, jB0_f, jBa, jand11, jand00, ↓reduceIte, Nat.reduceEqDiff, Nat.reduceAdd, Nat.reduceSub, c]
  · simp (disch := omega) only [jb1, jb2, jb3, jb4, jb5, jb6, jb7, jb8, jb9, jb10, jb11, jb12, jb13, jb14, jb15, jb16, jb17, jb18, jb19, jb20, jb21, jb22, jb23, jb24, jb25, jb26, jb27, jb28, jb29, jb30, jb31, jb32, jb33, jb34, jb35, jb36, jb37, jb38, jb39, jb40, jb41, jb42, jb43, jb44, jb45, jb46, jb47, jb48, jb49, jb50, zlet, jlit, jle_t, jle_f, jlt_t, jlt_f, jeq_t, jeq_f, jeqN_f, jNeq_f, jNN, jN1, jadd, jsub, jzin, jcl, if_true, if_false, ite_true, ite_false, not_true, not_false_iff, not_true_eq_false, not_false_eq_true, jB_t, jB_f, jB0_t, jB0_f, jBa, jand11, jand00, ↓reduceIte, Nat.reduceEqDiff, Nat.reduceAdd, Nat.reduceSub, c]
def jrs (d i j : Nat) : Nat → Nat → Bool | 0, _ => true | e + 1, k => if jone (jsl d i j) < jone (jsl d k j) then false else if joth (jsl d i k) ≤ joth (jsl d i j) then jrs d i j e (k + 1) else false
theorem jrestX {N9 : Nat} (hN : 70000 < N9) {d i j : Nat} (hd : d < 256) (hi : i < 9) (hj : j < 9) : pX9_isRest N9 (nI d) (nI i) (nI j) = some (jB (jrs d i j 9 0)) := by
  have key : ∀ e k n, k + e = 9 → e < n → pX9_isRest_18 N9 (nI d) (nI i) (nI j) n (nI (jone (jsl d i j))) (nI (joth (jsl d i j))) (nI k) = some (jB (jrs d i j e k)) := by
    intro e
    induction e with
    | zero =>
      intro k n h1 h2
      obtain ⟨n, rfl⟩ : ∃ q, n = q + 1 := ⟨n - 1, by omega⟩
      obtain rfl : k = 9 := by omega
      simp only [pX9_isRest_18, jlit, jrs]
      simp (disch := omega) only [jb1, jb2, jb3, jb4, jb5, jb6, jb7, jb8, jb9, jb10, jb11, jb12, jb13, jb14, jb15, jb16, jb17, jb18, jb19, jb20, jb21, jb22, jb23, jb24, jb25, jb26, jb27, jb28, jb29, jb30, jb31, jb32, jb33, jb34, jb35, jb36, jb37, jb38, jb39, jb40, jb41, jb42, jb43, jb44, jb45, jb46, jb47, jb48, jb49, jb50, zlet, jlit, jle_t, jle_f, jlt_t, jlt_f, jeq_t, jeq_f, jeqN_f, jNeq_f, jNN, jN1, jadd, jsub, jzin, jcl, if_true, if_false, ite_true, ite_false, not_true, not_false_iff, not_true_eq_false, not_false_eq_true, jB_t, jB_f, jB0_t, jB0_f, jBa, jand11, jand00, ↓reduceIte, Nat.reduceEqDiff, Nat.reduceAdd, Nat.reduceSub]
    | succ e ih =>
      intro k n h1 h2
      obtain ⟨n, rfl⟩ : ∃ q, n = q + 1 := ⟨n - 1, by omega⟩
      have o1 := jone_le (jsl d i j)
      have o2 := jone_le (jsl d k j)
      have o3 := joth_le (jsl_le d i k)
      have o4 := joth_le (jsl_le d i j)
      simp only [pX9_isRest_18, pX9_isRest_48, jlit, jrs]
      simp (disch := omega) only [jb1, jb2, jb3, jb4, jb5, jb6, jb7, jb8, jb9, jb10, jb11, jb12, jb13, jb14, jb15, jb16, jb17, jb18, jb19, jb20, jb21, jb22, jb23, jb24, jb25, jb26, jb27, jb28, jb29, jb30, jb31, jb32, jb33, jb34, jb35, jb36, jb37, jb38, jb39, jb40, jb41, jb42, jb43, jb44, jb45, jb46, jb47, jb48, jb49, jb50, zlet, jlit, jle_t, jle_f, jlt_t, jlt_f, jeq_t, jeq_f, jeqN_f, jNeq_f, jNN, jN1, jadd, jsub, jzin, jcl, if_true, if_false, ite_true, ite_false, not_true, not_false_iff, not_true_eq_false, not_false_eq_true, jB_t, jB_f, jB0_t, jB0_f, jBa, jand11, jand00, ↓reduceIte, Nat.reduceEqDiff, Nat.reduceAdd, Nat.reduceSub, joneX N9 hd (by omega : k < 9) hj, jothX N9 hd hi (by omega : k < 9)]
      by_cases c1 : jone (jsl d i j) < jone (jsl d k j)
      · simp (disch := omega) only [jb1, jb2, jb3, jb4, jb5, jb6, jb7, jb8, jb9, jb10, jb11, jb12, jb13, jb14, jb15, jb16, jb17, jb18, jb19, jb20, jb21, jb22, jb23, jb24, jb25, jb26, jb27, jb28, jb29, jb30, jb31, jb32, jb33, jb34, jb35, jb36, jb37, jb38, jb39, jb40, jb41, jb42, jb43, jb44, jb45, jb46, jb47, jb48, jb49, jb50, zlet, jlit, jle_t, jle_f, jlt_t, jlt_f, jeq_t, jeq_f, jeqN_f, jNeq_f, jNN, jN1, jadd, jsub, jzin, jcl, if_true, if_false, ite_true, ite_false, not_true, not_false_iff, not_true_eq_false, not_false_eq_true, jB_t, jB_f, jB0_t, jB0_f, jBa, jand11, jand00, ↓reduceIte, Nat.reduceEqDiff, Nat.reduceAdd, Nat.reduceSub, c1]
      · by_cases c2 : joth (jsl d i k) ≤ joth (jsl d i j)
        · simp (disch := omega) only [jb1, jb2, jb3, jb4, jb5, jb6, jb7, jb8, jb9, jb10, jb11, jb12, jb13, jb14, jb15, jb16, jb17, jb18, jb19, jb20, jb21, jb22, jb23, jb24, jb25, jb26, jb27, jb28, jb29, jb30, jb31, jb32, jb33, jb34, jb35, jb36, jb37, jb38, jb39, jb40, jb41, jb42, jb43, jb44, jb45, jb46, jb47, jb48, jb49, jb50, zlet, jlit, jle_t, jle_f, jlt_t, jlt_f, jeq_t, jeq_f, jeqN_f, jNeq_f, jNN, jN1, jadd, jsub, jzin, jcl, if_true, if_false, ite_true, ite_false, not_true, not_false_iff, not_true_eq_false, not_false_eq_true, jB_t, jB_f, jB0_t, jB0_f, jBa, jand11, jand00, ↓reduceIte, Nat.reduceEqDiff, Nat.reduceAdd, Nat.reduceSub, c1, c2]
          exact ih (k + 1) n (by omega) (by omega)
        · simp (disch := omega) only [jb1, jb2, jb3, jb4, jb5, jb6, jb7, jb8, jb9, jb10, jb11, jb12, jb13, jb14, jb15, jb16, jb17, jb18, jb19, jb20, jb21, jb22, jb23, jb24, jb25, jb26, jb27, jb28, jb29, jb30, jb31, jb32, jb33, jb34, jb35, jb36, jb37, jb38, jb39, jb40, jb41, jb42, jb43, jb44, jb45, jb46, jb47, jb48, jb49, jb50, zlet, jlit, jle_t, jle_f, jlt_t, jlt_f, jeq_t, jeq_f, jeqN_f, jNeq_f, jNN, jN1, jadd, jsub, jzin, jcl, if_true, if_false, ite_true, ite_false, not_true, not_false_iff, not_true_eq_false, not_false_eq_true, jB_t, jB_f, jB0_t, jB0_f, jBa, jand11, jand00, ↓reduceIte, Nat.reduceEqDiff, Nat.reduceAdd, Nat.reduceSub, c1, c2]
  unfold pX9_isRest
  rw [joneX N9 hd hi hj, jb1, jothX N9 hd hi hj, jb1]
  exact key 9 0 N9 (by omega) (by omega)
theorem jrestM {N9 : Nat} (hN : 70000 < N9) {v w i j : Nat} (hv : v < 256) (hw : w < 256) (hi : i < 9) (hj : j < 9) : pM_isRest N9 (nI v) (nI w) (nI i) (nI j) = some (jB (jrs (v ^^^ w) i j 9 0)) := by
  have hx : ∀ i j, (v ^^^ w ^^^ jmk i) ^^^ jmk j < 256 := fun i j => jxor_lt (jxor_lt (jxor_lt hv hw) (jmk_lt i)) (jmk_lt j)
  have hp : ∀ i j, jpop ((v ^^^ w ^^^ jmk i) ^^^ jmk j) = jsl (v ^^^ w) i j := fun i j => rfl
  have key : ∀ e k n, k + e = 9 → e < n → pM_isRest_19 N9 (nI v) (nI w) (nI i) (nI j) n (nI (jsl (v ^^^ w) i j)) (nI k) = some (jB (jrs (v ^^^ w) i j e k)) := by
    intro e
    induction e with
    | zero =>
      intro k n h1 h2
      obtain ⟨n, rfl⟩ : ∃ q, n = q + 1 := ⟨n - 1, by omega⟩
      obtain rfl : k = 9 := by omega
      simp only [pM_isRest_19, jlit, jrs]
      simp (disch := omega) only [jb1, jb2, jb3, jb4, jb5, jb6, jb7, jb8, jb9, jb10, jb11, jb12, jb13, jb14, jb15, jb16, jb17, jb18, jb19, jb20, jb21, jb22, jb23, jb24, jb25, jb26, jb27, jb28, jb29, jb30, jb31, jb32, jb33, jb34, jb35, jb36, jb37, jb38, jb39, jb40, jb41, jb42, jb43, jb44, jb45, jb46, jb47, jb48, jb49, jb50, zlet, jlit, jle_t, jle_f, jlt_t, jlt_f, jeq_t, jeq_f, jeqN_f, jNeq_f, jNN, jN1, jadd, jsub, jzin, jcl, if_true, if_false, ite_true, ite_false, not_true, not_false_iff, not_true_eq_false, not_false_eq_true, jB_t, jB_f, jB0_t, jB0_f, jBa, jand11, jand00, ↓reduceIte, Nat.reduceEqDiff, Nat.reduceAdd, Nat.reduceSub]
    | succ e ih =>
      intro k n h1 h2
      obtain ⟨n, rfl⟩ : ∃ q, n = q + 1 := ⟨n - 1, by omega⟩
      have o1 := jone_le (jsl (v ^^^ w) i j)
      have o2 := jone_le (jsl (v ^^^ w) k j)
      have o3 := joth_le (jsl_le (v ^^^ w) i k)
      have o4 := joth_le (jsl_le (v ^^^ w) i j)
      have q1 := jsl_le (v ^^^ w) i j
      have q2 := jsl_le (v ^^^ w) k j
      have q3 := jsl_le (v ^^^ w) i k
      simp only [pM_isRest_19, pM_isRest_78, jlit, jrs]
      rw [if_neg (show ¬ nI 8 < nI k from nI_nlt (by omega) (by omega)), jchM N9 (by omega : k < 9), jb1, jchM N9 hj, jb1, jxor, jslM, jo hN (hx k j), jb1, hp, joneM N9 q2, jb1, joneM N9 q1, jb1]
      by_cases c1 : jone (jsl (v ^^^ w) i j) < jone (jsl (v ^^^ w) k j)
      · rw [if_pos (nI_lt c1 (by omega)), if_pos c1]
        rfl
      · rw [if_neg (nI_nlt (by omega) (by omega)), if_neg c1, jchM N9 hi, jb1, jchM N9 (by omega : k < 9), jb1, jxor, jslM, jo hN (hx i k), jb1, hp, jothM N9 q3, jb1, jothM N9 q1, jb1]
        by_cases c2 : joth (jsl (v ^^^ w) i k) ≤ joth (jsl (v ^^^ w) i j)
        · rw [if_pos (nI_le c2 (by omega)), if_pos c2, jadd]
          exact ih (k + 1) n (by omega) (by omega)
        · rw [if_neg (nI_ge (by omega) (by omega)), if_neg c2]
          rfl
  unfold pM_isRest
  rw [jchM N9 hi, jb1, jchM N9 hj, jb1, jxor, jslM, jo hN (hx i j), jb1, hp]
  exact key 9 0 N9 (by omega) (by omega)
/-- the rests in their order: how many, the first, its gains -/
def jdt (d t : Nat) (s : Int32 × Int32 × Int32) : Int32 × Int32 × Int32 :=
  if jrs d (t / 9) (t % 9) 9 0 = true then (s.1 + nI 1, if s.1 = nI 0 then nI (10 * (t / 9) + t % 9) else s.2.1, if s.1 = nI 0 then nI (jone (jsl d (t / 9) (t % 9)) + joth (jsl d (t / 9) (t % 9))) else s.2.2) else s
def jdf (d : Nat) : Nat → Int32 × Int32 × Int32 | 0 => (nI 0, -nI 1, nI 0) | t + 1 => jdt d t (jdf d t)
theorem jdf_inv (d : Nat) : ∀ t, t ≤ 81 → (jdf d t = (nI 0, -nI 1, nI 0)) ∨ ∃ a i j, 1 ≤ a ∧ a ≤ t ∧ i < 9 ∧ j < 9 ∧ jdf d t = (nI a, nI (10 * i + j), nI (jone (jsl d i j) + joth (jsl d i j))) := by
  intro t
  induction t with
  | zero => intro _; exact Or.inl rfl
  | succ t ih =>
    intro ht
    rw [jdf]
    unfold jdt
    by_cases c : jrs d (t / 9) (t % 9) 9 0 = true
    · rw [if_pos c]
      right
      rcases ih (by omega) with h | ⟨a, i, j, h1, h2, h3, h4, h⟩
      · rw [h]
        exact ⟨1, t / 9, t % 9, by omega, by omega, by omega, by omega, rfl⟩
      · rw [h]
        have h5 : ¬ nI a = nI 0 := (jeq_f (a := a) (b := 0) (by omega) (by omega) (by omega)).mp
        refine ⟨a + 1, i, j, by omega, by omega, h3, h4, ?_⟩
        simp only [h5, if_false]
        rw [jadd]
    · rw [if_neg c]
      rcases ih (by omega) with h | ⟨a, i, j, h1, h2, h3, h4, h⟩
      · exact Or.inl h
      · exact Or.inr ⟨a, i, j, h1, by omega, h3, h4, h⟩
theorem jdX {N9 : Nat} (hN : 70000 < N9) {d k3 : Nat} (hd : d < 256) (h3 : k3 ≤ 2) (re' ra' : Int32) : pX9_dealers_63 N9 re' (nI k3) N9 ra' (nI d) (nI 0) (-nI 1) (nI 0) = some (nI 0, if k3 = 0 then (jdf d 81).1 else if k3 = 1 then (jdf d 81).2.1 else (jdf d 81).2.2, re', ra') := by
  refine jloop0 (fun n (s : Int32 × Int32 × Int32) i => pX9_dealers_63 N9 re' (nI k3) n ra' (nI d) s.1 s.2.1 i) 81 (fun t => jdf d t) (fun n t ht => ?_) (fun n => ?_) (by omega) (rfl : (nI 0, -nI 1, nI 0) = jdf d 0)
  · show pX9_dealers_63 N9 re' (nI k3) (n + 1) ra' (nI d) (jdf d t).1 (jdf d t).2.1 (nI t) = pX9_dealers_63 N9 re' (nI k3) n ra' (nI d) (jdf d (t + 1)).1 (jdf d (t + 1)).2.1 (nI (t + 1))
    rw [jdf]
    unfold jdt
    simp only [pX9_dealers_63, pX9_dealers_117, pX9_dealers_112, jlit]
    rw [if_neg (nI_ge (by omega) (by omega)), jrem (by omega) (by omega), jdiv (by omega) (by omega), jrestX hN hd (by omega) (by omega), jb1]
    cases c : jrs d (t / 9) (t % 9) 9 0
    · simp (disch := omega) only [jb1, jb2, jb3, jb4, jb5, jb6, jb7, jb8, jb9, jb10, jb11, jb12, jb13, jb14, jb15, jb16, jb17, jb18, jb19, jb20, jb21, jb22, jb23, jb24, jb25, jb26, jb27, jb28, jb29, jb30, jb31, jb32, jb33, jb34, jb35, jb36, jb37, jb38, jb39, jb40, jb41, jb42, jb43, jb44, jb45, jb46, jb47, jb48, jb49, jb50, zlet, jlit, jle_t, jle_f, jlt_t, jlt_f, jeq_t, jeq_f, jeqN_f, jNeq_f, jNN, jN1, jadd, jsub, jzin, jcl, if_true, if_false, ite_true, ite_false, not_true, not_false_iff, not_true_eq_false, not_false_eq_true, jB_t, jB_f, jB0_t, jB0_f, jBa, jand11, jand00, ↓reduceIte, Nat.reduceEqDiff, Nat.reduceAdd, Nat.reduceSub, Bool.false_eq_true]
    · simp (disch := omega) only [jb1, jb2, jb3, jb4, jb5, jb6, jb7, jb8, jb9, jb10, jb11, jb12, jb13, jb14, jb15, jb16, jb17, jb18, jb19, jb20, jb21, jb22, jb23, jb24, jb25, jb26, jb27, jb28, jb29, jb30, jb31, jb32, jb33, jb34, jb35, jb36, jb37, jb38, jb39, jb40, jb41, jb42, jb43, jb44, jb45, jb46, jb47, jb48, jb49, jb50, zlet, jlit, jle_t, jle_f, jlt_t, jlt_f, jeq_t, jeq_f, jeqN_f, jNeq_f, jNN, jN1, jadd, jsub, jzin, jcl, if_true, if_false, ite_true, ite_false, not_true, not_false_iff, not_true_eq_false, not_false_eq_true, jB_t, jB_f, jB0_t, jB0_f, jBa, jand11, jand00, ↓reduceIte, Nat.reduceEqDiff, Nat.reduceAdd, Nat.reduceSub]
      by_cases h0 : (jdf d t).1 = nI 0
      · rw [if_pos h0, if_pos h0]
        simp (disch := omega) only [jb1, jb2, jb3, jb4, jb5, jb6, jb7, jb8, jb9, jb10, jb11, jb12, jb13, jb14, jb15, jb16, jb17, jb18, jb19, jb20, jb21, jb22, jb23, jb24, jb25, jb26, jb27, jb28, jb29, jb30, jb31, jb32, jb33, jb34, jb35, jb36, jb37, jb38, jb39, jb40, jb41, jb42, jb43, jb44, jb45, jb46, jb47, jb48, jb49, jb50, zlet, jlit, jle_t, jle_f, jlt_t, jlt_f, jeq_t, jeq_f, jeqN_f, jNeq_f, jNN, jN1, jadd, jsub, jzin, jcl, if_true, if_false, ite_true, ite_false, not_true, not_false_iff, not_true_eq_false, not_false_eq_true, jB_t, jB_f, jB0_t, jB0_f, jBa, jand11, jand00, ↓reduceIte, Nat.reduceEqDiff, Nat.reduceAdd, Nat.reduceSub, jmul]
      · rw [if_neg h0, if_neg h0]
  · show pX9_dealers_63 N9 re' (nI k3) (n + 1) ra' (nI d) (jdf d 81).1 (jdf d 81).2.1 (nI 81) = _
    simp only [pX9_dealers_63, pX9_dealers_171, pX9_dealers_183, jlit]
    rw [if_pos (nI_le (Nat.le_refl 81) (by omega))]
    have hk : k3 = 0 ∨ k3 = 1 ∨ k3 = 2 := by omega
    rcases jdf_inv d 81 (Nat.le_refl _) with h | ⟨a, i, j, h1, h2, hi, hj, h⟩
    · rw [h]
      rcases hk with rfl | rfl | rfl <;> simp (disch := omega) only [jb1, jb2, jb3, jb4, jb5, jb6, jb7, jb8, jb9, jb10, jb11, jb12, jb13, jb14, jb15, jb16, jb17, jb18, jb19, jb20, jb21, jb22, jb23, jb24, jb25, jb26, jb27, jb28, jb29, jb30, jb31, jb32, jb33, jb34, jb35, jb36, jb37, jb38, jb39, jb40, jb41, jb42, jb43, jb44, jb45, jb46, jb47, jb48, jb49, jb50, zlet, jlit, jle_t, jle_f, jlt_t, jlt_f, jeq_t, jeq_f, jeqN_f, jNeq_f, jNN, jN1, jadd, jsub, jzin, jcl, if_true, if_false, ite_true, ite_false, not_true, not_false_iff, not_true_eq_false, not_false_eq_true, jB_t, jB_f, jB0_t, jB0_f, jBa, jand11, jand00, ↓reduceIte, Nat.reduceEqDiff, Nat.reduceAdd, Nat.reduceSub]
    · rw [h]
      rcases hk with rfl | rfl | rfl
      · simp (disch := omega) only [jb1, jb2, jb3, jb4, jb5, jb6, jb7, jb8, jb9, jb10, jb11, jb12, jb13, jb14, jb15, jb16, jb17, jb18, jb19, jb20, jb21, jb22, jb23, jb24, jb25, jb26, jb27, jb28, jb29, jb30, jb31, jb32, jb33, jb34, jb35, jb36, jb37, jb38, jb39, jb40, jb41, jb42, jb43, jb44, jb45, jb46, jb47, jb48, jb49, jb50, zlet, jlit, jle_t, jle_f, jlt_t, jlt_f, jeq_t, jeq_f, jeqN_f, jNeq_f, jNN, jN1, jadd, jsub, jzin, jcl, if_true, if_false, ite_true, ite_false, not_true, not_false_iff, not_true_eq_false, not_false_eq_true, jB_t, jB_f, jB0_t, jB0_f, jBa, jand11, jand00, ↓reduceIte, Nat.reduceEqDiff, Nat.reduceAdd, Nat.reduceSub]
      · simp (disch := omega) only [jb1, jb2, jb3, jb4, jb5, jb6, jb7, jb8, jb9, jb10, jb11, jb12, jb13, jb14, jb15, jb16, jb17, jb18, jb19, jb20, jb21, jb22, jb23, jb24, jb25, jb26, jb27, jb28, jb29, jb30, jb31, jb32, jb33, jb34, jb35, jb36, jb37, jb38, jb39, jb40, jb41, jb42, jb43, jb44, jb45, jb46, jb47, jb48, jb49, jb50, zlet, jlit, jle_t, jle_f, jlt_t, jlt_f, jeq_t, jeq_f, jeqN_f, jNeq_f, jNN, jN1, jadd, jsub, jzin, jcl, if_true, if_false, ite_true, ite_false, not_true, not_false_iff, not_true_eq_false, not_false_eq_true, jB_t, jB_f, jB0_t, jB0_f, jBa, jand11, jand00, ↓reduceIte, Nat.reduceEqDiff, Nat.reduceAdd, Nat.reduceSub]
      · have e1 : (10 * i + j) / 10 = i := by omega
        have e2 : (10 * i + j) % 10 = j := by omega
        simp (disch := omega) only [jb1, jb2, jb3, jb4, jb5, jb6, jb7, jb8, jb9, jb10, jb11, jb12, jb13, jb14, jb15, jb16, jb17, jb18, jb19, jb20, jb21, jb22, jb23, jb24, jb25, jb26, jb27, jb28, jb29, jb30, jb31, jb32, jb33, jb34, jb35, jb36, jb37, jb38, jb39, jb40, jb41, jb42, jb43, jb44, jb45, jb46, jb47, jb48, jb49, jb50, zlet, jlit, jle_t, jle_f, jlt_t, jlt_f, jeq_t, jeq_f, jeqN_f, jNeq_f, jNN, jN1, jadd, jsub, jzin, jcl, if_true, if_false, ite_true, ite_false, not_true, not_false_iff, not_true_eq_false, not_false_eq_true, jB_t, jB_f, jB0_t, jB0_f, jBa, jand11, jand00, ↓reduceIte, Nat.reduceEqDiff, Nat.reduceAdd, Nat.reduceSub]
        rw [jrem (by omega) (by omega), jdiv (by omega) (by omega), e1, e2]
        simp (disch := omega) only [jb1, jb2, jb3, jb4, jb5, jb6, jb7, jb8, jb9, jb10, jb11, jb12, jb13, jb14, jb15, jb16, jb17, jb18, jb19, jb20, jb21, jb22, jb23, jb24, jb25, jb26, jb27, jb28, jb29, jb30, jb31, jb32, jb33, jb34, jb35, jb36, jb37, jb38, jb39, jb40, jb41, jb42, jb43, jb44, jb45, jb46, jb47, jb48, jb49, jb50, zlet, jlit, jle_t, jle_f, jlt_t, jlt_f, jeq_t, jeq_f, jeqN_f, jNeq_f, jNN, jN1, jadd, jsub, jzin, jcl, if_true, if_false, ite_true, ite_false, not_true, not_false_iff, not_true_eq_false, not_false_eq_true, jB_t, jB_f, jB0_t, jB0_f, jBa, jand11, jand00, ↓reduceIte, Nat.reduceEqDiff, Nat.reduceAdd, Nat.reduceSub, joneX N9 hd hi hj, jothX N9 hd hi hj]
theorem jdM {N9 : Nat} (hN : 70000 < N9) {v w k3 : Nat} (hv : v < 256) (hw : w < 256) (h3 : k3 ≤ 2) (th : Int32) (rf : Nat → Int32) : pM_dealers_97 N9 (nI k3) N9 th rf (nI 0) (-nI 1) (nI 0) (nI v) (nI w) (nI 0) = some (if k3 = 0 then (jdf (v ^^^ w) 81).1 else if k3 = 1 then (jdf (v ^^^ w) 81).2.1 else (jdf (v ^^^ w) 81).2.2, th, rf) := by
  have hx : ∀ i j, (v ^^^ w ^^^ jmk i) ^^^ jmk j < 256 := fun i j => jxor_lt (jxor_lt (jxor_lt hv hw) (jmk_lt i)) (jmk_lt j)
  have hp : ∀ i j, jpop ((v ^^^ w ^^^ jmk i) ^^^ jmk j) = jsl (v ^^^ w) i j := fun i j => rfl
  have inner : ∀ (k : Int32 → (Nat → Int32) → Int32 → Int32 → Int32 → Int32 → Int32 → Int32 → Option (Int32 × Int32 × (Nat → Int32))) (i : Nat), i < 9 → ∀ s, s = jdf (v ^^^ w) (9 * i) → pM_dealers_107 N9 th rf (nI k3) (nI v) (nI w) k N9 s.1 s.2.1 s.2.2 (nI i) (nI 0) = k th rf (jdf (v ^^^ w) (9 * (i + 1))).1 (jdf (v ^^^ w) (9 * (i + 1))).2.1 (jdf (v ^^^ w) (9 * (i + 1))).2.2 (nI v) (nI w) (nI (i + 1)) := by
    intro k i hi s hs
    refine jloop0 (fun n (s : Int32 × Int32 × Int32) j => pM_dealers_107 N9 th rf (nI k3) (nI v) (nI w) k n s.1 s.2.1 s.2.2 (nI i) j) 9 (fun j => jdf (v ^^^ w) (9 * i + j)) (fun n j hj => ?_) (fun n => ?_) (by omega) hs
    · show pM_dealers_107 N9 th rf (nI k3) (nI v) (nI w) k (n + 1) (jdf (v ^^^ w) (9 * i + j)).1 (jdf (v ^^^ w) (9 * i + j)).2.1 (jdf (v ^^^ w) (9 * i + j)).2.2 (nI i) (nI j) = pM_dealers_107 N9 th rf (nI k3) (nI v) (nI w) k n (jdf (v ^^^ w) (9 * i + (j + 1))).1 (jdf (v ^^^ w) (9 * i + (j + 1))).2.1 (jdf (v ^^^ w) (9 * i + (j + 1))).2.2 (nI i) (nI (j + 1))
      have e1 : (9 * i + j) / 9 = i := by omega
      have e2 : (9 * i + j) % 9 = j := by omega
      rw [show 9 * i + (j + 1) = (9 * i + j) + 1 by omega, jdf]
      generalize jdf (v ^^^ w) (9 * i + j) = s
      unfold jdt
      rw [e1, e2]
      have q1 := jsl_le (v ^^^ w) i j
      simp only [pM_dealers_107, pM_dealers_197, pM_dealers_192, pM_dealers_172, jlit]
      rw [if_neg (nI_nlt (by omega) (by omega)), jrestM hN hv hw hi hj, jb1]
      cases c : jrs (v ^^^ w) i j 9 0
      · simp (disch := omega) only [jb1, jb2, jb3, jb4, jb5, jb6, jb7, jb8, jb9, jb10, jb11, jb12, jb13, jb14, jb15, jb16, jb17, jb18, jb19, jb20, jb21, jb22, jb23, jb24, jb25, jb26, jb27, jb28, jb29, jb30, jb31, jb32, jb33, jb34, jb35, jb36, jb37, jb38, jb39, jb40, jb41, jb42, jb43, jb44, jb45, jb46, jb47, jb48, jb49, jb50, zlet, jlit, jle_t, jle_f, jlt_t, jlt_f, jeq_t, jeq_f, jeqN_f, jNeq_f, jNN, jN1, jadd, jsub, jzin, jcl, if_true, if_false, ite_true, ite_false, not_true, not_false_iff, not_true_eq_false, not_false_eq_true, jB_t, jB_f, jB0_t, jB0_f, jBa, jand11, jand00, ↓reduceIte, Nat.reduceEqDiff, Nat.reduceAdd, Nat.reduceSub, Bool.false_eq_true]
      · rw [if_neg (show ¬ jB true = nI 0 by decide), jchM N9 hi, jb1, jchM N9 hj, jb1, jxor, jslM, jo hN (hx i j), jb1, hp]
        by_cases h0 : s.1 = nI 0
        · simp (disch := omega) only [jb1, jb2, jb3, jb4, jb5, jb6, jb7, jb8, jb9, jb10, jb11, jb12, jb13, jb14, jb15, jb16, jb17, jb18, jb19, jb20, jb21, jb22, jb23, jb24, jb25, jb26, jb27, jb28, jb29, jb30, jb31, jb32, jb33, jb34, jb35, jb36, jb37, jb38, jb39, jb40, jb41, jb42, jb43, jb44, jb45, jb46, jb47, jb48, jb49, jb50, zlet, jlit, jle_t, jle_f, jlt_t, jlt_f, jeq_t, jeq_f, jeqN_f, jNeq_f, jNN, jN1, jadd, jsub, jzin, jcl, if_true, if_false, ite_true, ite_false, not_true, not_false_iff, not_true_eq_false, not_false_eq_true, jB_t, jB_f, jB0_t, jB0_f, jBa, jand11, jand00, ↓reduceIte, Nat.reduceEqDiff, Nat.reduceAdd, Nat.reduceSub, h0, joneM N9 q1, jothM N9 q1, jmul]
        · simp (disch := omega) only [jb1, jb2, jb3, jb4, jb5, jb6, jb7, jb8, jb9, jb10, jb11, jb12, jb13, jb14, jb15, jb16, jb17, jb18, jb19, jb20, jb21, jb22, jb23, jb24, jb25, jb26, jb27, jb28, jb29, jb30, jb31, jb32, jb33, jb34, jb35, jb36, jb37, jb38, jb39, jb40, jb41, jb42, jb43, jb44, jb45, jb46, jb47, jb48, jb49, jb50, zlet, jlit, jle_t, jle_f, jlt_t, jlt_f, jeq_t, jeq_f, jeqN_f, jNeq_f, jNN, jN1, jadd, jsub, jzin, jcl, if_true, if_false, ite_true, ite_false, not_true, not_false_iff, not_true_eq_false, not_false_eq_true, jB_t, jB_f, jB0_t, jB0_f, jBa, jand11, jand00, ↓reduceIte, Nat.reduceEqDiff, Nat.reduceAdd, Nat.reduceSub, h0]
    · show pM_dealers_107 N9 th rf (nI k3) (nI v) (nI w) k (n + 1) _ _ _ (nI i) (nI 9) = _
      simp only [pM_dealers_107, jlit]
      rw [if_pos (nI_lt (by omega : 8 < 9) (by omega)), jadd]
      rfl
  refine jloop0 (fun n (s : Int32 × Int32 × Int32) i => pM_dealers_97 N9 (nI k3) n th rf s.1 s.2.1 s.2.2 (nI v) (nI w) i) 9 (fun i => jdf (v ^^^ w) (9 * i)) (fun n i hi => ?_) (fun n => ?_) (by omega) (rfl : (nI 0, -nI 1, nI 0) = jdf (v ^^^ w) 0)
  · show pM_dealers_97 N9 (nI k3) (n + 1) th rf (jdf (v ^^^ w) (9 * i)).1 (jdf (v ^^^ w) (9 * i)).2.1 (jdf (v ^^^ w) (9 * i)).2.2 (nI v) (nI w) (nI i) = pM_dealers_97 N9 (nI k3) n th rf (jdf (v ^^^ w) (9 * (i + 1))).1 (jdf (v ^^^ w) (9 * (i + 1))).2.1 (jdf (v ^^^ w) (9 * (i + 1))).2.2 (nI v) (nI w) (nI (i + 1))
    simp only [pM_dealers_97, jlit]
    rw [if_neg (nI_nlt (by omega) (by omega)), inner _ i hi _ rfl]
  · show pM_dealers_97 N9 (nI k3) (n + 1) th rf (jdf (v ^^^ w) (9 * 9)).1 (jdf (v ^^^ w) (9 * 9)).2.1 (jdf (v ^^^ w) (9 * 9)).2.2 (nI v) (nI w) (nI 9) = _
    simp only [pM_dealers_97, pM_dealers_230, jlit]
    rw [if_pos (nI_lt (by omega : 8 < 9) (by omega))]
    have hk : k3 = 0 ∨ k3 = 1 ∨ k3 = 2 := by omega
    rcases hk with rfl | rfl | rfl <;> simp (disch := omega) only [jb1, jb2, jb3, jb4, jb5, jb6, jb7, jb8, jb9, jb10, jb11, jb12, jb13, jb14, jb15, jb16, jb17, jb18, jb19, jb20, jb21, jb22, jb23, jb24, jb25, jb26, jb27, jb28, jb29, jb30, jb31, jb32, jb33, jb34, jb35, jb36, jb37, jb38, jb39, jb40, jb41, jb42, jb43, jb44, jb45, jb46, jb47, jb48, jb49, jb50, zlet, jlit, jle_t, jle_f, jlt_t, jlt_f, jeq_t, jeq_f, jeqN_f, jNeq_f, jNN, jN1, jadd, jsub, jzin, jcl, if_true, if_false, ite_true, ite_false, not_true, not_false_iff, not_true_eq_false, not_false_eq_true, jB_t, jB_f, jB0_t, jB0_f, jBa, jand11, jand00, ↓reduceIte, Nat.reduceEqDiff, Nat.reduceAdd, Nat.reduceSub]
section C8
variable {N9 G L B c n : Nat} {gt nu fo kk vv no bo tk : Nat → Nat} {bk_forgives bk_tolls bk_lengths : Nat → Int32} {bk_numbers : Nat → Nat → Int32} {m_told : Nat → Int32} {m_gate m_list : Nat → Nat → Int32}
variable {lw_kinds lw_values : Nat → Int32} {lw_length m_lawMany : Int32} {m_law : Nat → Nat → Int32} {st_now st_born st_age st_passed st_gone st_took : Nat → Int32} {st_year re ra : Int32} {m_now m_refused : Nat → Int32}
theorem jop_dealers (hN : 70000 < N9) (hs : jSt G B no bo c tk st_now st_born st_age st_passed st_gone st_took (nI B) st_year (nI c) m_now) (hR : jRf re ra m_refused) (m_thrown : Int32) (x1 : Int32) (x2 : Int32) (x3 : Int32): ∃ z r re1 ra1 q th rf1, pX9_dealers N9 st_now (nI B) re ra x1 x2 x3 = some (z, r, re1, ra1) ∧ pM_dealers N9 m_thrown m_refused m_now x1 x2 x3 = some (q, th, rf1) ∧ jOutB z th r q ∧ jRf re1 ra1 rf1 := by
  obtain ⟨hB, -, h42, -, -, -, -, hno, -⟩ := hs
  unfold pX9_dealers pM_dealers pX9_dealers_29 pX9_dealers_30 pM_dealers_22 pM_dealers_27 pM_dealers_50 pM_dealers_55 pM_dealers_63
  simp only [jlit, jN1]
  rcases jcase_b (N9 := N9) (re := re) h42 hB x1 with ⟨a, ha, rfl, h1, h2⟩ | ⟨h1, h2⟩
  · rcases jcase_b (N9 := N9) (re := re) h42 hB x2 with ⟨b, hb, rfl, h3, h4⟩ | ⟨h3, h4⟩
    · obtain ⟨n1, -, n2, n3, -⟩ := hno a ha
      obtain ⟨m1, -, m2, m3, -⟩ := hno b hb
      have hx := jxor_lt n1 m1
      by_cases hab : a = b
      · subst hab
        rw [h1, jb2, if_pos rfl, h3, jb2, if_pos rfl, if_pos rfl, jnA0, jb2, if_neg j20, h2, jb1, if_neg j10, jb1, if_neg j10, jbadO, jb3, if_pos rfl, if_pos rfl, jbadB, jb3, if_neg j10]
        exact ⟨_, _, _, _, _, _, _, rfl, rfl, Or.inr (Or.inr ⟨rfl, rfl⟩), hR.arg⟩
      · have hab' : ¬ nI a = nI b := (jeq_f hab (by omega) (by omega)).mp
        rcases jcase_a N9 (a := 2) (by omega) x3 with ⟨k3, hk3, rfl, h5, h6⟩ | ⟨h5, h6⟩
        · rw [h1, jb2, if_pos rfl, h3, jb2, if_pos rfl, if_neg hab', h5, jb1, if_neg j10, jnA1, jb2, if_pos rfl, h2, jb1, if_neg j10, h4, jb1, if_neg j10, jbadO, jb3, if_pos rfl, if_neg hab', h6, jb1, if_neg j10, jbadO, jb3, if_pos rfl]
          simp (disch := omega) only [jb1, jb2, jb3, jb4, jb5, jb6, jb7, jb8, jb9, jb10, jb11, jb12, jb13, jb14, jb15, jb16, jb17, jb18, jb19, jb20, jb21, jb22, jb23, jb24, jb25, jb26, jb27, jb28, jb29, jb30, jb31, jb32, jb33, jb34, jb35, jb36, jb37, jb38, jb39, jb40, jb41, jb42, jb43, jb44, jb45, jb46, jb47, jb48, jb49, jb50, zlet, jlit, jle_t, jle_f, jlt_t, jlt_f, jeq_t, jeq_f, jeqN_f, jNeq_f, jNN, jN1, jadd, jsub, jzin, jcl, if_true, if_false, ite_true, ite_false, not_true, not_false_iff, not_true_eq_false, not_false_eq_true, jB_t, jB_f, jB0_t, jB0_f, jBa, jand11, jand00, ↓reduceIte, Nat.reduceEqDiff, Nat.reduceAdd, Nat.reduceSub, n2, m2, n3, m3, Nat.zero_add, jxor]
          rw [jdX hN hx hk3, jdM hN n1 m1 hk3]
          exact ⟨_, _, _, _, _, _, _, rfl, rfl, Or.inl ⟨rfl, rfl, rfl⟩, hR⟩
        · rw [h1, jb2, if_pos rfl, h3, jb2, if_pos rfl, if_neg hab', h5, jb1, if_pos rfl, jnA0, jb2, if_neg j20, h2, jb1, if_neg j10, h4, jb1, if_neg j10, jbadO, jb3, if_pos rfl, if_neg hab', h6, jb1, if_pos rfl, jbadB, jb3, if_neg j10]
          exact ⟨_, _, _, _, _, _, _, rfl, rfl, Or.inr (Or.inr ⟨rfl, rfl⟩), hR.arg⟩
    · rw [h1, jb2, if_pos rfl, h3, jb2, if_neg j10, h2, jb1, if_neg j10, h4, jb1, if_pos rfl, jbadE, jb3, if_neg j10]
      exact ⟨_, _, _, _, _, _, _, rfl, rfl, Or.inr (Or.inl ⟨rfl, rfl⟩), hR.elem⟩
  · rw [h1, jb2, if_neg j10, h2, jb1, if_pos rfl, jbadE, jb3, if_neg j10]
    exact ⟨_, _, _, _, _, _, _, rfl, rfl, Or.inr (Or.inl ⟨rfl, rfl⟩), hR.elem⟩
end C8
