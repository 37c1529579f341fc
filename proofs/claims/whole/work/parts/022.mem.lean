/-! what is kept: works to be undone, images -/
theorem jzcp {a b c n0 n1 : Nat} (h0 : a + c ≤ n0) (h1 : b + c ≤ n1) (ha : a + b + c < 2147483648) : (zcp (nI a) (nI b) (nI c) n0 n1 = true) = True := by
  refine eq_true ?_
  unfold zcp
  simp only [Bool.and_eq_true, decide_eq_true_eq]
  exact ⟨nI_pos' (by omega), nI_pos' (by omega), nI_pos' (by omega), by rw [jcl (by omega), jcl (by omega)]; exact h0, by rw [jcl (by omega), jcl (by omega)]; exact h1⟩
theorem jS_congr {f g : Nat → Int32} : ∀ n, (∀ k, k < n → f k = g k) → jS f n = jS g n := by
  intro n
  induction n with
  | zero => intro _; rfl
  | succ n ih => intro h; rw [jS, jS, ih (fun k hk => h k (by omega)), h n (by omega)]
theorem jSt_congr {G B c : Nat} {no bo tk : Nat → Nat} {now born age ps go to now' born' age' ps' go' to' : Nat → Int32} {be ye co : Int32} {row row' : Nat → Int32} (h : jSt G B no bo c tk now born age ps go to be ye co row)
    (h8 : ∀ b, b < 8 → now' b = now b ∧ born' b = born b ∧ age' b = age b ∧ ps' b = ps b) (h5 : ∀ g, g < 5 → go' g = go g ∧ to' g = to g) (hr : ∀ k, k < 46 → row' k = row k) : jSt G B no bo c tk now' born' age' ps' go' to' be ye co row' := by
  obtain ⟨hB, hbe, hr42, hc, hc2, hy, h45, hno, hgo, hm, htk⟩ := h
  refine ⟨hB, hbe, by rw [hr 42 (by omega), hr42], hc, by rw [hr 43 (by omega), hc2], by rw [hr 44 (by omega), hy], by rw [hr 45 (by omega), h45, jS_congr 5 (fun g hg => (h5 g hg).1)], fun b hb => ?_, fun g hg => ?_, hm, htk⟩
  · obtain ⟨e1, e2, e3, e4, e5, e6, e7, e8⟩ := hno b hb
    obtain ⟨f1, f2, f3, f4⟩ := h8 b (by omega)
    rw [f1, f2, f3, f4, hr b (by omega), hr (8 + b) (by omega), hr (16 + b) (by omega), hr (24 + b) (by omega)]
    exact ⟨e1, e2, e3, e4, e5, e6, e7, e8⟩
  · obtain ⟨e1, e2, e3⟩ := hgo g hg
    obtain ⟨f1, f2⟩ := h5 g hg
    rw [f1, f2, hr (32 + g) (by omega), hr (37 + g) (by omega)]
    exact ⟨e1, e2, e3⟩
/-- the stock kept from cell o on -/
def jPast (G : Nat) (past : Nat → Int32) (o : Nat) (row : Nat → Int32) : Prop :=
  ∃ B no bo c tk, jSt G B no bo c tk (fun k => past (o + k)) (fun k => past (o + 8 + k)) (fun k => past (o + 16 + k)) (fun k => past (o + 24 + k)) (fun k => past (o + 32 + k)) (fun k => past (o + 37 + k)) (past (o + 42)) (past (o + 43)) (past (o + 44)) row
theorem jPast.congr {G o o' : Nat} {past past' row row' : Nat → Int32} (h : jPast G past o row) (hp : ∀ k, k < 45 → past' (o' + k) = past (o + k)) (hr : ∀ k, k < 46 → row' k = row k) : jPast G past' o' row' := by
  obtain ⟨B, no, bo, c, tk, hs⟩ := h
  have hq : ∀ d b, d + b < 45 → past' (o' + d + b) = past (o + d + b) := fun d b hd => by
    rw [show o' + d + b = o' + (d + b) by omega, show o + d + b = o + (d + b) by omega]
    exact hp _ hd
  refine ⟨B, no, bo, c, tk, ?_⟩
  rw [hp 42 (by omega), hp 43 (by omega), hp 44 (by omega)]
  exact jSt_congr hs (fun b hb => ⟨hp b (by omega), hq 8 b (by omega), hq 16 b (by omega), hq 24 b (by omega)⟩) (fun g hg => ⟨hq 32 g (by omega), hq 37 g (by omega)⟩) hr
def jMe (G : Nat) (me_past : Nat → Int32) (me_works : Int32) (m_before : Nat → Nat → Int32) (m_works : Int32) : Prop :=
  ∃ w, w ≤ 16 ∧ me_works = nI w ∧ m_works = nI w ∧ ∀ i, i < w → jPast G me_past (45 * i) (m_before i)
def jImg (G : Nat) (im kp : Nat → Int32) : Prop :=
  ∃ w, w ≤ 16 ∧ im 765 = nI w ∧ kp 0 = nI w ∧ (∀ i, i < w → jPast G im (45 * i) (fun k => kp (47 + 46 * i + k))) ∧ jPast G im 720 (fun k => kp (1 + k))
def jIms (G : Nat) (me_images : Nat → Nat → Int32) (me_kept : Int32) (m_kept : Nat → Nat → Int32) (m_images : Int32) : Prop :=
  ∃ k, k ≤ 3 ∧ me_kept = nI k ∧ m_images = nI k ∧ ∀ i, i < k → jImg G (me_images i) (m_kept i)
theorem jcpy0 {f g : Nat → Int32} {sp n k : Nat} (h : k < n) : va_cpy f g sp 0 n k = f (sp + k) := by
  unfold va_cpy
  rw [if_pos ⟨Nat.zero_le k, by omega⟩]
  congr 1
section ME
variable {G B c : Nat} {no bo tk : Nat → Nat} {N9 : Nat} {st_now st_born st_age st_passed st_gone st_took : Nat → Int32} {st_beasts st_year st_coins : Int32} {row : Nat → Int32}
/-- cells o to o + 44 hold the stock -/
def jCel (now born age ps go to : Nat → Int32) (be ye co : Int32) (past : Nat → Int32) (o : Nat) : Prop :=
  (∀ b, b < 8 → past (o + b) = now b ∧ past (o + 8 + b) = born b ∧ past (o + 16 + b) = age b ∧ past (o + 24 + b) = ps b) ∧ (∀ g, g < 5 → past (o + 32 + g) = go g ∧ past (o + 37 + g) = to g) ∧ past (o + 42) = be ∧ past (o + 43) = ye ∧ past (o + 44) = co
theorem jCel.past {past : Nat → Int32} {o : Nat} (h : jCel st_now st_born st_age st_passed st_gone st_took st_beasts st_year st_coins past o) (hs : jSt G B no bo c tk st_now st_born st_age st_passed st_gone st_took st_beasts st_year st_coins row) {row' : Nat → Int32} (hr : ∀ k, k < 46 → row' k = row k) : jPast G past o row' := by
  obtain ⟨h1, h2, h3, h4, h5⟩ := h
  refine ⟨B, no, bo, c, tk, ?_⟩
  rw [h3, h4, h5]
  exact jSt_congr hs h1 h2 hr
theorem jwrite (past : Nat → Int32) {o : Nat} (ho : o + 45 ≤ 720) : ∃ past', pX7_writeTo N9 st_now st_born st_age st_passed st_gone st_took st_beasts st_year st_coins past (nI o) = some past' ∧ jCel st_now st_born st_age st_passed st_gone st_took st_beasts st_year st_coins past' o ∧ ∀ k, (k < o ∨ o + 45 ≤ k) → past' k = past k := by
  unfold pX7_writeTo
  simp (disch := omega) only [jb1, jb2, jb3, jb4, jb5, jb6, jb7, jb8, jb9, jb10, jb11, jb12, jb13, jb14, jb15, jb16, jb17, jb18, jb19, jb20, jb21, jb22, jb23, jb24, jb25, jb26, jb27, jb28, jb29, jb30, jb31, jb32, jb33, jb34, jb35, jb36, jb37, jb38, jb39, jb40, jb41, jb42, jb43, jb44, jb45, jb46, jb47, jb48, jb49, jb50, zlet, jlit, jle_t, jle_f, jlt_t, jlt_f, jeq_t, jeq_f, jeqN_f, jNeq_f, jNN, jN1, jadd, jsub, jzin, jcl, if_true, if_false, ite_true, ite_false, not_true, not_false_iff, not_true_eq_false, not_false_eq_true, jB_t, jB_f, jB0_t, jB0_f, jBa, jand11, jand00, ↓reduceIte, Nat.reduceEqDiff, Nat.reduceAdd, Nat.reduceSub, jzcp]
  refine ⟨_, rfl, ⟨fun b hb => ?_, fun g hg => ?_, ?_, ?_, ?_⟩, fun k hk => ?_⟩
  all_goals simp (disch := omega) only [pk_us, pk_un, jcpy_at, jcpy_out, Nat.zero_add]
  · exact ⟨trivial, trivial, trivial, trivial⟩
  · exact ⟨trivial, trivial⟩
theorem jwrite_i1 (im : Nat → Nat → Int32) {r o : Nat} (hr : r < 3) (ho : o + 45 ≤ 766) : ∃ im', pX7_writeTo_i1 N9 st_now st_born st_age st_passed st_gone st_took st_beasts st_year st_coins im (nI r) (nI o) = some im' ∧ jCel st_now st_born st_age st_passed st_gone st_took st_beasts st_year st_coins (im' r) o ∧ (∀ k, (k < o ∨ o + 45 ≤ k) → im' r k = im r k) ∧ ∀ i, i ≠ r → im' i = im i := by
  unfold pX7_writeTo_i1
  simp (disch := omega) only [jb1, jb2, jb3, jb4, jb5, jb6, jb7, jb8, jb9, jb10, jb11, jb12, jb13, jb14, jb15, jb16, jb17, jb18, jb19, jb20, jb21, jb22, jb23, jb24, jb25, jb26, jb27, jb28, jb29, jb30, jb31, jb32, jb33, jb34, jb35, jb36, jb37, jb38, jb39, jb40, jb41, jb42, jb43, jb44, jb45, jb46, jb47, jb48, jb49, jb50, zlet, jlit, jle_t, jle_f, jlt_t, jlt_f, jeq_t, jeq_f, jeqN_f, jNeq_f, jNN, jN1, jadd, jsub, jzin, jcl, if_true, if_false, ite_true, ite_false, not_true, not_false_iff, not_true_eq_false, not_false_eq_true, jB_t, jB_f, jB0_t, jB0_f, jBa, jand11, jand00, ↓reduceIte, Nat.reduceEqDiff, Nat.reduceAdd, Nat.reduceSub, jzcp, jva]
  refine ⟨_, rfl, ⟨fun b hb => ?_, fun g hg => ?_, ?_, ?_, ?_⟩, fun k hk => ?_, fun i hi => ?_⟩
  · simp (disch := omega) only [jva, pk_us, pk_un, jcpy_at, jcpy_out, Nat.zero_add]
    exact ⟨trivial, trivial, trivial, trivial⟩
  · simp (disch := omega) only [jva, pk_us, pk_un, jcpy_at, jcpy_out, Nat.zero_add]
    exact ⟨trivial, trivial⟩
  all_goals first | (simp only [va_up, if_neg hi]; done) | (simp (disch := omega) only [jva, pk_us, pk_un, jcpy_at, jcpy_out, Nat.zero_add]; done)
/-- reading the stock back -/
theorem jread (past : Nat → Int32) {o : Nat} (ho : o + 45 ≤ 720) (hp : jPast G past o row) : ∃ now born age ps go to be ye co B no bo c tk, pX7_readFrom N9 st_now st_born st_age st_passed st_gone st_took st_beasts st_year st_coins past (nI o) = some (now, born, age, ps, go, to, be, ye, co) ∧ jSt G B no bo c tk now born age ps go to be ye co row := by
  obtain ⟨B, no, bo, c, tk, hs⟩ := hp
  unfold pX7_readFrom
  simp (disch := omega) only [jb1, jb2, jb3, jb4, jb5, jb6, jb7, jb8, jb9, jb10, jb11, jb12, jb13, jb14, jb15, jb16, jb17, jb18, jb19, jb20, jb21, jb22, jb23, jb24, jb25, jb26, jb27, jb28, jb29, jb30, jb31, jb32, jb33, jb34, jb35, jb36, jb37, jb38, jb39, jb40, jb41, jb42, jb43, jb44, jb45, jb46, jb47, jb48, jb49, jb50, zlet, jlit, jle_t, jle_f, jlt_t, jlt_f, jeq_t, jeq_f, jeqN_f, jNeq_f, jNN, jN1, jadd, jsub, jzin, jcl, if_true, if_false, ite_true, ite_false, not_true, not_false_iff, not_true_eq_false, not_false_eq_true, jB_t, jB_f, jB0_t, jB0_f, jBa, jand11, jand00, ↓reduceIte, Nat.reduceEqDiff, Nat.reduceAdd, Nat.reduceSub, jzcp]
  refine ⟨_, _, _, _, _, _, _, _, _, B, no, bo, c, tk, rfl, jSt_congr hs (fun b hb => ?_) (fun g hg => ?_) (fun k hk => rfl)⟩
  all_goals simp (disch := omega) only [jcpy0]
  · exact ⟨trivial, trivial, trivial, trivial⟩
  · exact ⟨trivial, trivial⟩
theorem jread_i1 (im : Nat → Nat → Int32) {r : Nat} (hr : r < 3) (hp : jPast G (im r) 720 row) : ∃ now born age ps go to be ye co B no bo c tk, pX7_readFrom_i1 N9 st_now st_born st_age st_passed st_gone st_took st_beasts st_year st_coins im (nI r) (nI 720) = some (now, born, age, ps, go, to, be, ye, co) ∧ jSt G B no bo c tk now born age ps go to be ye co row := by
  obtain ⟨B, no, bo, c, tk, hs⟩ := hp
  unfold pX7_readFrom_i1
  simp (disch := omega) only [jb1, jb2, jb3, jb4, jb5, jb6, jb7, jb8, jb9, jb10, jb11, jb12, jb13, jb14, jb15, jb16, jb17, jb18, jb19, jb20, jb21, jb22, jb23, jb24, jb25, jb26, jb27, jb28, jb29, jb30, jb31, jb32, jb33, jb34, jb35, jb36, jb37, jb38, jb39, jb40, jb41, jb42, jb43, jb44, jb45, jb46, jb47, jb48, jb49, jb50, zlet, jlit, jle_t, jle_f, jlt_t, jlt_f, jeq_t, jeq_f, jeqN_f, jNeq_f, jNN, jN1, jadd, jsub, jzin, jcl, if_true, if_false, ite_true, ite_false, not_true, not_false_iff, not_true_eq_false, not_false_eq_true, jB_t, jB_f, jB0_t, jB0_f, jBa, jand11, jand00, ↓reduceIte, Nat.reduceEqDiff, Nat.reduceAdd, Nat.reduceSub, jzcp]
  refine ⟨_, _, _, _, _, _, _, _, _, B, no, bo, c, tk, rfl, jSt_congr hs (fun b hb => ?_) (fun g hg => ?_) (fun k hk => rfl)⟩
  all_goals simp (disch := omega) only [jcpy0]
  · exact ⟨trivial, trivial, trivial, trivial⟩
  · exact ⟨trivial, trivial⟩
/-- the reference's copies -/
theorem jcopies (hN : 70000 < N9) (now : Nat → Int32) (bf : Nat → Nat → Int32) {r : Nat} (hr : r < 16) : ∃ t, pM_copies N9 now bf (nI r) = some t ∧ (∀ k, k < 46 → t r k = now k) ∧ ∀ i, i ≠ r → t i = bf i := by
  unfold pM_copies
  refine jloopR (fun n t i => pM_copies_2 N9 now (nI r) n t i) 46 (fun i t => (∀ k, k < i → t r k = now k) ∧ ∀ q, q ≠ r → t q = bf q) _ (fun n i t hi ht => ?_) (fun n t ht => ?_) 46 0 bf N9 (by omega) (by omega) ⟨fun k hk => absurd hk (Nat.not_lt_zero k), fun q _ => rfl⟩
  · show ∃ s', pM_copies_2 N9 now (nI r) (n + 1) t (nI i) = _ ∧ _
    simp only [pM_copies_2]
    simp (disch := omega) only [jb1, jb2, jb3, jb4, jb5, jb6, jb7, jb8, jb9, jb10, jb11, jb12, jb13, jb14, jb15, jb16, jb17, jb18, jb19, jb20, jb21, jb22, jb23, jb24, jb25, jb26, jb27, jb28, jb29, jb30, jb31, jb32, jb33, jb34, jb35, jb36, jb37, jb38, jb39, jb40, jb41, jb42, jb43, jb44, jb45, jb46, jb47, jb48, jb49, jb50, zlet, jlit, jle_t, jle_f, jlt_t, jlt_f, jeq_t, jeq_f, jeqN_f, jNeq_f, jNN, jN1, jadd, jsub, jzin, jcl, if_true, if_false, ite_true, ite_false, not_true, not_false_iff, not_true_eq_false, not_false_eq_true, jB_t, jB_f, jB0_t, jB0_f, jBa, jand11, jand00, ↓reduceIte, Nat.reduceEqDiff, Nat.reduceAdd, Nat.reduceSub]
    refine ⟨_, rfl, fun k hk => ?_, fun q hq => ?_⟩
    · rw [jva]
      by_cases hki : k = i
      · subst hki; exact pk_us
      · rw [pk_un hki]; exact ht.1 k (by omega)
    · simp only [va_up, if_neg hq]
      exact ht.2 q hq
  · show ∃ r', pM_copies_2 N9 now (nI r) (n + 1) t (nI 46) = _ ∧ _
    simp only [pM_copies_2]
    simp (disch := omega) only [jb1, jb2, jb3, jb4, jb5, jb6, jb7, jb8, jb9, jb10, jb11, jb12, jb13, jb14, jb15, jb16, jb17, jb18, jb19, jb20, jb21, jb22, jb23, jb24, jb25, jb26, jb27, jb28, jb29, jb30, jb31, jb32, jb33, jb34, jb35, jb36, jb37, jb38, jb39, jb40, jb41, jb42, jb43, jb44, jb45, jb46, jb47, jb48, jb49, jb50, zlet, jlit, jle_t, jle_f, jlt_t, jlt_f, jeq_t, jeq_f, jeqN_f, jNeq_f, jNN, jN1, jadd, jsub, jzin, jcl, if_true, if_false, ite_true, ite_false, not_true, not_false_iff, not_true_eq_false, not_false_eq_true, jB_t, jB_f, jB0_t, jB0_f, jBa, jand11, jand00, ↓reduceIte, Nat.reduceEqDiff, Nat.reduceAdd, Nat.reduceSub]
    exact ⟨_, rfl, ht⟩
theorem jcopies_i1 (hN : 70000 < N9) (now : Nat → Int32) (bf : Nat → Nat → Int32) {r : Nat} (hr : r < 16) : ∃ t, pM_copies_i1 N9 now bf (nI r) = some t ∧ ∀ k, k < 46 → t k = bf r k := by
  unfold pM_copies_i1
  refine jloopR (fun n t i => pM_copies_i1_2 N9 bf (nI r) n t i) 46 (fun i t => ∀ k, k < i → t k = bf r k) _ (fun n i t hi ht => ?_) (fun n t ht => ?_) 46 0 now N9 (by omega) (by omega) (fun k hk => absurd hk (Nat.not_lt_zero k))
  · show ∃ s', pM_copies_i1_2 N9 bf (nI r) (n + 1) t (nI i) = _ ∧ _
    simp only [pM_copies_i1_2]
    simp (disch := omega) only [jb1, jb2, jb3, jb4, jb5, jb6, jb7, jb8, jb9, jb10, jb11, jb12, jb13, jb14, jb15, jb16, jb17, jb18, jb19, jb20, jb21, jb22, jb23, jb24, jb25, jb26, jb27, jb28, jb29, jb30, jb31, jb32, jb33, jb34, jb35, jb36, jb37, jb38, jb39, jb40, jb41, jb42, jb43, jb44, jb45, jb46, jb47, jb48, jb49, jb50, zlet, jlit, jle_t, jle_f, jlt_t, jlt_f, jeq_t, jeq_f, jeqN_f, jNeq_f, jNN, jN1, jadd, jsub, jzin, jcl, if_true, if_false, ite_true, ite_false, not_true, not_false_iff, not_true_eq_false, not_false_eq_true, jB_t, jB_f, jB0_t, jB0_f, jBa, jand11, jand00, ↓reduceIte, Nat.reduceEqDiff, Nat.reduceAdd, Nat.reduceSub]
    refine ⟨_, rfl, fun k hk => ?_⟩
    by_cases hki : k = i
    · subst hki; exact pk_us
    · rw [pk_un hki]; exact ht k (by omega)
  · show ∃ r', pM_copies_i1_2 N9 bf (nI r) (n + 1) t (nI 46) = _ ∧ _
    simp only [pM_copies_i1_2]
    simp (disch := omega) only [jb1, jb2, jb3, jb4, jb5, jb6, jb7, jb8, jb9, jb10, jb11, jb12, jb13, jb14, jb15, jb16, jb17, jb18, jb19, jb20, jb21, jb22, jb23, jb24, jb25, jb26, jb27, jb28, jb29, jb30, jb31, jb32, jb33, jb34, jb35, jb36, jb37, jb38, jb39, jb40, jb41, jb42, jb43, jb44, jb45, jb46, jb47, jb48, jb49, jb50, zlet, jlit, jle_t, jle_f, jlt_t, jlt_f, jeq_t, jeq_f, jeqN_f, jNeq_f, jNN, jN1, jadd, jsub, jzin, jcl, if_true, if_false, ite_true, ite_false, not_true, not_false_iff, not_true_eq_false, not_false_eq_true, jB_t, jB_f, jB0_t, jB0_f, jBa, jand11, jand00, ↓reduceIte, Nat.reduceEqDiff, Nat.reduceAdd, Nat.reduceSub]
    exact ⟨_, rfl, ht⟩
theorem jcopies_i2 (hN : 70000 < N9) (now tr : Nat → Int32) : ∃ t, pM_copies_i2 N9 now tr = some t ∧ ∀ k, k < 46 → t k = now k := by
  unfold pM_copies_i2
  refine jloopR (fun n t i => pM_copies_i2_2 N9 now n t i) 46 (fun i t => ∀ k, k < i → t k = now k) _ (fun n i t hi ht => ?_) (fun n t ht => ?_) 46 0 tr N9 (by omega) (by omega) (fun k hk => absurd hk (Nat.not_lt_zero k))
  · show ∃ s', pM_copies_i2_2 N9 now (n + 1) t (nI i) = _ ∧ _
    simp only [pM_copies_i2_2]
    simp (disch := omega) only [jb1, jb2, jb3, jb4, jb5, jb6, jb7, jb8, jb9, jb10, jb11, jb12, jb13, jb14, jb15, jb16, jb17, jb18, jb19, jb20, jb21, jb22, jb23, jb24, jb25, jb26, jb27, jb28, jb29, jb30, jb31, jb32, jb33, jb34, jb35, jb36, jb37, jb38, jb39, jb40, jb41, jb42, jb43, jb44, jb45, jb46, jb47, jb48, jb49, jb50, zlet, jlit, jle_t, jle_f, jlt_t, jlt_f, jeq_t, jeq_f, jeqN_f, jNeq_f, jNN, jN1, jadd, jsub, jzin, jcl, if_true, if_false, ite_true, ite_false, not_true, not_false_iff, not_true_eq_false, not_false_eq_true, jB_t, jB_f, jB0_t, jB0_f, jBa, jand11, jand00, ↓reduceIte, Nat.reduceEqDiff, Nat.reduceAdd, Nat.reduceSub]
    refine ⟨_, rfl, fun k hk => ?_⟩
    by_cases hki : k = i
    · subst hki; exact pk_us
    · rw [pk_un hki]; exact ht k (by omega)
  · show ∃ r', pM_copies_i2_2 N9 now (n + 1) t (nI 46) = _ ∧ _
    simp only [pM_copies_i2_2]
    simp (disch := omega) only [jb1, jb2, jb3, jb4, jb5, jb6, jb7, jb8, jb9, jb10, jb11, jb12, jb13, jb14, jb15, jb16, jb17, jb18, jb19, jb20, jb21, jb22, jb23, jb24, jb25, jb26, jb27, jb28, jb29, jb30, jb31, jb32, jb33, jb34, jb35, jb36, jb37, jb38, jb39, jb40, jb41, jb42, jb43, jb44, jb45, jb46, jb47, jb48, jb49, jb50, zlet, jlit, jle_t, jle_f, jlt_t, jlt_f, jeq_t, jeq_f, jeqN_f, jNeq_f, jNN, jN1, jadd, jsub, jzin, jcl, if_true, if_false, ite_true, ite_false, not_true, not_false_iff, not_true_eq_false, not_false_eq_true, jB_t, jB_f, jB0_t, jB0_f, jBa, jand11, jand00, ↓reduceIte, Nat.reduceEqDiff, Nat.reduceAdd, Nat.reduceSub]
    exact ⟨_, rfl, ht⟩
/-- undo -/
theorem jop_undo (hN : 70000 < N9) {me_past : Nat → Int32} {me_works : Int32} {m_before : Nat → Nat → Int32} {m_works : Int32} (hm : jMe G me_past me_works m_before m_works) (hs : jSt G B no bo c tk st_now st_born st_age st_passed st_gone st_took st_beasts st_year st_coins row) (xs m_thrown m_refusedSteps : Int32) (hrs : xs = m_refusedSteps) :
    ∃ r now born age ps go to be ye co wk rs th row' wk' rs' B no bo c tk, pX9_undo N9 st_now st_born st_age st_passed st_gone st_took st_beasts st_year st_coins me_past me_works xs = some (r, now, born, age, ps, go, to, be, ye, co, wk, rs) ∧
      pM_undo N9 m_thrown row m_before m_works m_refusedSteps = some (r, th, row', wk', rs') ∧ jSt G B no bo c tk now born age ps go to be ye co row' ∧ jMe G me_past wk m_before wk' ∧ rs = rs' := by
  obtain ⟨w, hw, rfl, rfl, hpa⟩ := hm
  unfold pX9_undo pX3_takeBack pM_undo
  by_cases h0 : w = 0
  · subst h0
    simp (disch := omega) only [jb1, jb2, jb3, jb4, jb5, jb6, jb7, jb8, jb9, jb10, jb11, jb12, jb13, jb14, jb15, jb16, jb17, jb18, jb19, jb20, jb21, jb22, jb23, jb24, jb25, jb26, jb27, jb28, jb29, jb30, jb31, jb32, jb33, jb34, jb35, jb36, jb37, jb38, jb39, jb40, jb41, jb42, jb43, jb44, jb45, jb46, jb47, jb48, jb49, jb50, zlet, jlit, jle_t, jle_f, jlt_t, jlt_f, jeq_t, jeq_f, jeqN_f, jNeq_f, jNN, jN1, jadd, jsub, jzin, jcl, if_true, if_false, ite_true, ite_false, not_true, not_false_iff, not_true_eq_false, not_false_eq_true, jB_t, jB_f, jB0_t, jB0_f, jBa, jand11, jand00, ↓reduceIte, Nat.reduceEqDiff, Nat.reduceAdd, Nat.reduceSub]
    exact ⟨_, _, _, _, _, _, _, _, _, _, _, _, _, _, _, _, B, no, bo, c, tk, rfl, rfl, hs, ⟨0, by omega, rfl, rfl, hpa⟩, hrs⟩
  · obtain ⟨t, h1, h2⟩ := jcopies_i1 hN row m_before (r := w - 1) (by omega)
    obtain ⟨now, born, age, ps, go, to, be, ye, co, B', no', bo', c', tk', h3, h4⟩ := jread (N9 := N9) (st_now := st_now) (st_born := st_born) (st_age := st_age) (st_passed := st_passed) (st_gone := st_gone) (st_took := st_took) (st_beasts := st_beasts) (st_year := st_year) (st_coins := st_coins) me_past (o := 45 * (w - 1)) (by omega) (hpa (w - 1) (by omega))
    rw [Nat.mul_comm 45 (w - 1)] at h3
    simp (disch := omega) only [jb1, jb2, jb3, jb4, jb5, jb6, jb7, jb8, jb9, jb10, jb11, jb12, jb13, jb14, jb15, jb16, jb17, jb18, jb19, jb20, jb21, jb22, jb23, jb24, jb25, jb26, jb27, jb28, jb29, jb30, jb31, jb32, jb33, jb34, jb35, jb36, jb37, jb38, jb39, jb40, jb41, jb42, jb43, jb44, jb45, jb46, jb47, jb48, jb49, jb50, zlet, jlit, jle_t, jle_f, jlt_t, jlt_f, jeq_t, jeq_f, jeqN_f, jNeq_f, jNN, jN1, jadd, jsub, jzin, jcl, if_true, if_false, ite_true, ite_false, not_true, not_false_iff, not_true_eq_false, not_false_eq_true, jB_t, jB_f, jB0_t, jB0_f, jBa, jand11, jand00, ↓reduceIte, Nat.reduceEqDiff, Nat.reduceAdd, Nat.reduceSub, jmul, h1, h3]
    exact ⟨_, _, _, _, _, _, _, _, _, _, _, _, _, _, _, _, B', no', bo', c', tk', rfl, rfl, jSt_congr h4 (fun b hb => ⟨rfl, rfl, rfl, rfl⟩) (fun g hg => ⟨rfl, rfl⟩) h2, ⟨w - 1, by omega, rfl, rfl, fun i hi => hpa i (by omega)⟩, rfl⟩
end ME
