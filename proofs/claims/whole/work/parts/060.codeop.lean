/-! code: tables, the reference, the call -/
def jbb (p : Nat → Bool) : Nat → Nat | 0 => 0 | k + 1 => if p k = true then jbb p k ||| 2 ^ k else jbb p k
theorem jbb_bit (p : Nat → Bool) (i : Nat) : ∀ k, (jbb p k).testBit i = (decide (i < k) && p i) := by
  intro k
  induction k with
  | zero => rw [jbb, Nat.zero_testBit, decide_eq_false (Nat.not_lt_zero i), Bool.false_and]
  | succ k ih =>
    rw [jbb]
    cases hp : p k with
    | true =>
      rw [if_pos rfl, Nat.testBit_or, ih, jtb2]
      by_cases hik : k = i
      · subst hik
        rw [decide_eq_true rfl, Bool.or_true, decide_eq_true (Nat.lt_succ_self k), hp]
        rfl
      · rw [decide_eq_false hik, Bool.or_false]
        by_cases h : i < k
        · rw [decide_eq_true h, decide_eq_true (by omega : i < k + 1)]
        · rw [decide_eq_false h, decide_eq_false (by omega : ¬ i < k + 1)]
    | false =>
      rw [if_neg (by decide), ih]
      by_cases hik : i = k
      · subst hik
        rw [hp, Bool.and_false, Bool.and_false]
      · by_cases h : i < k
        · rw [decide_eq_true h, decide_eq_true (by omega : i < k + 1)]
        · rw [decide_eq_false h, decide_eq_false (by omega : ¬ i < k + 1)]
theorem jbb_lt (p : Nat → Bool) (k : Nat) : jbb p k < 2 ^ k := Nat.lt_pow_two_of_testBit _ fun i hi => by
  rw [jbb_bit, decide_eq_false (by omega : ¬ i < k), Bool.false_and]
theorem jlt256 {a : Nat} (h : a < 16) : a < 256 := by omega
/-! the class's table -/
theorem jxtn_row (N9 : Nat) (x1 : Int32) {d a : Nat} (hd : d < 100) (ha : a < 16) (k2 : (Nat → Int32) → Int32 → Option (Int32 × (Nat → Int32))) (se0 : Nat → Int32) :
    ∀ e b fu, b + e = 16 → e < fu → pX6_largestCode_18 N9 x1 (nI d) k2 fu (upd se0 a (nI (jbb (jNr d a) b))) (nI a) (nI b) = k2 (upd se0 a (nI (jbb (jNr d a) 16))) (nI (a + 1)) := by
  intro e
  induction e with
  | zero =>
    intro b fu h1 h2
    obtain ⟨fu, rfl⟩ : ∃ q, fu = q + 1 := ⟨fu - 1, by omega⟩
    obtain rfl : b = 16 := by omega
    simp only [pX6_largestCode_18, jlit]
    rw [if_pos (nI_le (Nat.le_refl 16) (by omega)), jadd]
  | succ e ih =>
    intro b fu h1 h2
    obtain ⟨fu, rfl⟩ : ∃ q, fu = q + 1 := ⟨fu - 1, by omega⟩
    have hx := jxor_lt (jlt256 ha) (jlt256 (by omega : b < 16))
    have hp := jpop_le (a ^^^ b)
    rw [← ih (b + 1) fu (by omega) (by omega)]
    simp only [pX6_largestCode_18, pX6_largestCode_49, jlit, zlet]
    rw [if_neg (nI_ge (by omega : b < 16) (by omega)), jxor, jbc hx, jb1, jadd]
    by_cases hn : d ≤ jpop (a ^^^ b)
    · rw [if_pos (nI_le hn (by omega)), jbb, if_neg (by unfold jNr; rw [decide_eq_false (by omega)]; decide)]
    · rw [if_neg (nI_ge (by omega) (by omega)), if_pos ((jzin ha (by omega)).mpr trivial), jcl (by omega), pk_us, jshl b (by omega), jor, jupd2, jbb, if_pos (by unfold jNr; rw [decide_eq_true (by omega)])]
theorem jxtn_all (N9 : Nat) (hN : 70000 < N9) {d p : Nat} (hd : d < 100) (hp : p ≤ 16) :
    ∀ e a fu (se : Nat → Int32), a + e = 16 → e < fu → (∀ a', a' < a → se a' = nI (jbb (jNr d a') 16)) → ∃ se' res, pX6_largestCode_2 N9 (nI p) (nI d) fu se (nI a) = some (nI res, se') ∧ res < 65536 ∧ jXC d 0 (2 ^ p - 1) 0 res := by
  intro e
  induction e with
  | zero =>
    intro a fu se h1 h2 h3
    obtain ⟨fu, rfl⟩ : ∃ q, fu = q + 1 := ⟨fu - 1, by omega⟩
    obtain rfl : a = 16 := by omega
    have h2p := Nat.two_pow_pos p
    obtain ⟨res, e1, e2, e3⟩ := jxlc (d := d) (se := se) (tn := fun a => jbb (jNr d a) 16) h3 (fun a ha b hb => by rw [jbb_bit, decide_eq_true hb, Bool.true_and]) N9 p hp 48 0 (2 ^ p - 1) 0 0 (by omega) (by omega) (by omega) (by omega) (fun i hi => absurd hi (by rw [Nat.zero_testBit]; decide)) (fun a b h => absurd h (by rw [Nat.zero_testBit]; decide)) (fun a b h => absurd h (by rw [Nat.zero_testBit]; decide)) (by omega)
    refine ⟨se, res, ?_, e2, e3⟩
    simp only [pX6_largestCode_2, jlit]
    unfold pX6_largerCode
    rw [if_pos (nI_le (Nat.le_refl 16) (by omega)), jshl p (by omega), jsub (Nat.two_pow_pos p), e1, jb1]
  | succ e ih =>
    intro a fu se h1 h2 h3
    obtain ⟨fu, rfl⟩ : ∃ q, fu = q + 1 := ⟨fu - 1, by omega⟩
    have ha : a < 16 := by omega
    obtain ⟨se', res, e1, e2, e3⟩ := ih (a + 1) fu (upd se a (nI (jbb (jNr d a) 16))) (by omega) (by omega) (fun a' ha' => by
      by_cases h : a' = a
      · subst h; exact pk_us
      · rw [pk_un h]; exact h3 a' (by omega))
    refine ⟨se', res, ?_, e2, e3⟩
    rw [← e1, ← jxtn_row N9 (nI p) hd ha (pX6_largestCode_2 N9 (nI p) (nI d) fu) se 16 0 N9 (by omega) (by omega)]
    simp only [pX6_largestCode_2, jlit]
    rw [if_neg (nI_ge ha (by omega)), if_pos ((jzin ha (by omega)).mpr trivial), jcl (by omega)]
    rfl
/-! the reference's table -/
def jMx (d all a : Nat) : Nat := jbb (fun b => decide (b ≠ a) && jNr d a b) all
theorem jmmx_row (N9 : Nat) (hN : 70000 < N9) (th : Int32) (rf : Nat → Int32) (x3 x5 x6 : Int32) {d all a : Nat} (hd : d < 100) (hall : all ≤ 16) (ha : a < all) (k62 : Int32 → (Nat → Int32) → (Nat → Int32) → Int32 → Int32 → Int32 → Int32 → Option (Int32 × Int32 × (Nat → Int32) × (Nat → Int32))) (m0 : Nat → Int32) :
    ∀ e b fu, b + e = all → e < fu → pM_code_80 N9 th rf (nI d) x3 (nI all) x5 x6 k62 fu (upd m0 a (nI (jbb (fun b => decide (b ≠ a) && jNr d a b) b))) (nI a) (nI b) = k62 th rf (upd m0 a (nI (jMx d all a))) (nI all) x5 x6 (nI (a + 1)) := by
  intro e
  induction e with
  | zero =>
    intro b fu h1 h2
    obtain ⟨fu, rfl⟩ : ∃ q, fu = q + 1 := ⟨fu - 1, by omega⟩
    obtain rfl : b = all := by omega
    simp only [pM_code_80, jlit]
    rw [if_pos (nI_le (Nat.le_refl b) (by omega)), jadd]
    rfl
  | succ e ih =>
    intro b fu h1 h2
    obtain ⟨fu, rfl⟩ : ∃ q, fu = q + 1 := ⟨fu - 1, by omega⟩
    have hx := jxor_lt (jlt256 (by omega : a < 16)) (jlt256 (by omega : b < 16))
    have hp := jpop_le (a ^^^ b)
    have zz : zin (nI a) 16 = true := (jzin (by omega) (by omega)).mpr trivial
    rw [← ih (b + 1) fu (by omega) (by omega)]
    simp only [pM_code_80, pM_code_121, pM_code_122, jlit]
    rw [if_neg (nI_ge (by omega : b < all) (by omega)), if_pos zz, jxor, jo hN hx, jb1, jadd, if_pos zz, if_pos zz, jcl (by omega), pk_us, jor0, jshl b (by omega), jor, jupd2, jupd2]
    by_cases hba : b = a
    · subst hba
      rw [if_pos rfl, jbb, if_neg (by rw [decide_eq_false (fun h => h rfl), Bool.false_and]; decide)]
    · rw [if_neg (fun h => hba ((nI_eq (by omega) (by omega)).mp h))]
      by_cases hn : d ≤ jpop (a ^^^ b)
      · rw [if_pos (nI_le hn (by omega)), jbb, if_neg (by unfold jNr; rw [decide_eq_false (by omega : ¬ jpop (a ^^^ b) < d), Bool.and_false]; decide)]
      · rw [if_neg (nI_ge (by omega) (by omega)), jbb, if_pos (by unfold jNr; rw [decide_eq_true hba, decide_eq_true (by omega : jpop (a ^^^ b) < d)]; rfl)]
/-! the reference's look at one set -/
theorem jcode_iff {d all s : Nat} (hs : s < 2 ^ all) : (∀ a, a < all → s.testBit a = true → s &&& jMx d all a = 0) ↔ jCode d s := by
  constructor
  · intro h a b ha hb hab
    have hal := jtb hs ha
    have hbl := jtb hs hb
    have h1 : (s &&& jMx d all a).testBit b = false := by rw [h a hal ha, Nat.zero_testBit]
    unfold jMx at h1
    rw [Nat.testBit_and, hb, Bool.true_and, jbb_bit, decide_eq_true hbl, Bool.true_and, decide_eq_true (p := b ≠ a) (fun h => hab h.symm), Bool.true_and] at h1
    exact h1
  · intro h a ha hsa
    refine Nat.eq_of_testBit_eq fun b => ?_
    unfold jMx
    rw [Nat.zero_testBit, Nat.testBit_and, jbb_bit]
    cases hb : s.testBit b with
    | false => rfl
    | true =>
      by_cases hba : b = a
      · subst hba
        rw [decide_eq_false (fun h => h rfl : ¬ b ≠ b), Bool.false_and, Bool.and_false, Bool.and_false]
      · rw [h a b hsa hb (fun h => hba h.symm), Bool.and_false, Bool.and_false, Bool.and_false]
theorem jmset (N9 : Nat) (x3 x5 : Int32) {d all s w : Nat} (hall : all ≤ 16) (hs : s < 2 ^ all) (hw : w ≤ 16) {m : Nat → Int32} (hm : ∀ a, a < all → m a = nI (jMx d all a)) (k139 : (Nat → Int32) → Int32 → Int32 → Int32 → Option (Int32 × Int32 × (Nat → Int32) × (Nat → Int32))) :
    ∀ e a fu, a + e = all → e + 1 < fu → (∀ a', a' < a → s.testBit a' = true → s &&& jMx d all a' = 0) →
      (jCode d s → w < jcb s all → pM_code_157 N9 m x3 (nI all) k139 fu x5 (nI w) (nI s) (nI (jcb s a)) (nI 1) (nI a) = k139 m (nI s) (nI (jcb s all)) (nI (s + 1))) ∧
      (¬ (jCode d s ∧ w < jcb s all) → pM_code_157 N9 m x3 (nI all) k139 fu x5 (nI w) (nI s) (nI (jcb s a)) (nI 1) (nI a) = k139 m x5 (nI w) (nI (s + 1))) := by
  have hp : (2 : Nat) ^ all ≤ 65536 := Nat.pow_le_pow_right (n := 2) (by omega) hall
  intro e
  induction e with
  | zero =>
    intro a fu h1 h2 h3
    obtain ⟨fu, rfl⟩ : ∃ q, fu = q + 1 := ⟨fu - 1, by omega⟩
    obtain rfl : a = all := by omega
    have hc := (jcode_iff (d := d) hs).mp h3
    have hl := jcb_le s a
    simp only [pM_code_157, pM_code_211, pM_code_234, jlit]
    rw [if_pos (nI_le (Nat.le_refl a) (by omega)), if_neg j10, jadd]
    exact ⟨fun _ hlt => by rw [if_pos (nI_lt hlt (by omega))], fun h => by rw [if_neg (nI_nlt (Nat.le_of_not_lt fun hlt => h ⟨hc, hlt⟩) (by omega))]⟩
  | succ e ih =>
    intro a fu h1 h2 h3
    obtain ⟨fu, rfl⟩ : ∃ q, fu = q + 2 := ⟨fu - 2, by omega⟩
    have ha : a < all := by omega
    have zz : zin (nI a) 16 = true := (jzin (by omega) (by omega)).mpr trivial
    have hcl : (nI a).toNatClampNeg = a := jcl (by omega)
    have hl := jcb_le s a
    have hb := jmhasT (n := s) (s := a) (by omega) (by omega) N9
    rw [pM_code_157]
    simp only [pM_code_205, pM_code_203, jlit]
    rw [if_neg (nI_ge ha (by omega)), if_neg j10, hb, jb1, if_pos zz, hcl, hm a ha, jand, jadd, jadd]
    cases hsa : s.testBit a with
    | false =>
      have h4 := ih (a + 1) (fu + 1) (by omega) (by omega) (fun a' ha' hsa' => by
        by_cases h : a' = a
        · subst h; rw [hsa] at hsa'; exact absurd hsa' (by decide)
        · exact h3 a' (by omega) hsa')
      rw [jcb, if_neg (by rw [hsa]; decide), Nat.add_zero] at h4
      rw [if_pos (show jB false = nI 0 from rfl)]
      exact h4
    | true =>
      rw [if_neg (show ¬ jB true = nI 0 by decide)]
      by_cases hz : s &&& jMx d all a = 0
      · have h4 := ih (a + 1) (fu + 1) (by omega) (by omega) (fun a' ha' hsa' => by
          by_cases h : a' = a
          · subst h; exact hz
          · exact h3 a' (by omega) hsa')
        rw [jcb, if_pos hsa] at h4
        rw [hz, if_pos rfl]
        exact h4
      · have hnc : ¬ jCode d s := fun h => hz ((jcode_iff hs).mpr h a ha hsa)
        have hz2 : s &&& jMx d all a ≤ s := Nat.and_le_left
        rw [if_neg (fun h => hz ((nI_eq (by omega) (by omega)).mp h))]
        refine ⟨fun h => absurd h hnc, fun _ => ?_⟩
        rw [pM_code_157]
        simp only [pM_code_211, pM_code_234, jlit]
        by_cases hq : nI all ≤ nI (a + 1)
        · rw [if_pos hq, if_pos trivial, jadd]
        · rw [if_neg hq, if_pos trivial, if_pos trivial, jadd]
/-- the best of the sets seen -/
def jMB (d s best : Nat) : Prop := jCode d best ∧ (best = 0 ∨ best < s) ∧ ∀ y, y < s → jCode d y → jcb y 16 ≤ jcb best 16 ∧ (y < best → jcb y 16 < jcb best 16)
theorem jcode0 (d : Nat) : jCode d 0 := fun a b h => absurd h (by rw [Nat.zero_testBit]; decide)
theorem jcb16 {s all : Nat} (hall : all ≤ 16) (hs : s < 2 ^ all) : jcb s all = jcb s 16 := by
  have h := jcb_out hs (16 - all)
  rw [show all + (16 - all) = 16 by omega] at h
  exact h.symm
theorem jmbest (N9 : Nat) (hN : 70000 < N9) (th : Int32) (rf : Nat → Int32) (x3 : Int32) {d all : Nat} (hall : all ≤ 16) {m : Nat → Int32} (hm : ∀ a, a < all → m a = nI (jMx d all a)) :
    ∀ e s fu best, s + e = 2 ^ all → e < fu → jMB d s best → ∃ r, jMB d (2 ^ all) r ∧ pM_code_139 N9 th rf x3 (nI all) fu m (nI best) (nI (jcb best 16)) (nI s) = some (if x3 = nI 0 then nI (jcb r 16) else nI r, th, rf, m) := by
  have hp : (2 : Nat) ^ all ≤ 65536 := Nat.pow_le_pow_right (n := 2) (by omega) hall
  intro e
  induction e with
  | zero =>
    intro s fu best h1 h2 h3
    obtain ⟨fu, rfl⟩ : ∃ q, fu = q + 1 := ⟨fu - 1, by omega⟩
    obtain rfl : s = 2 ^ all := by omega
    refine ⟨best, h3, ?_⟩
    simp only [pM_code_139, pM_code_251, jlit]
    rw [jshl all (by omega), if_pos (nI_le (Nat.le_refl _) (by omega))]
    by_cases h : x3 = nI 0
    · rw [if_pos h, if_pos h]
    · rw [if_neg h, if_neg h]
  | succ e ih =>
    intro s fu best h1 h2 h3
    obtain ⟨fu, rfl⟩ : ∃ q, fu = q + 1 := ⟨fu - 1, by omega⟩
    have hs : s < 2 ^ all := by omega
    have hset := jmset N9 x3 (nI best) hall hs (jcb_le best 16) hm (pM_code_139 N9 th rf x3 (nI all) fu) all 0 N9 (by omega) (by omega) (fun a' ha' => absurd ha' (Nat.not_lt_zero a'))
    rw [jcb16 hall hs] at hset
    simp only [pM_code_139, jlit]
    rw [jshl all (by omega), if_neg (nI_ge hs (by omega))]
    by_cases hc : jCode d s ∧ jcb best 16 < jcb s 16
    · obtain ⟨r, r1, r2⟩ := ih (s + 1) fu s (by omega) (by omega) ⟨hc.1, Or.inr (by omega), fun y hy hcy => by
        by_cases hys : y = s
        · subst hys; exact ⟨Nat.le_refl _, fun h => absurd h (Nat.lt_irrefl _)⟩
        · have := h3.2.2 y (by omega) hcy
          exact ⟨by omega, fun _ => by omega⟩⟩
      refine ⟨r, r1, ?_⟩
      rw [← r2]
      exact hset.1 hc.1 hc.2
    · obtain ⟨r, r1, r2⟩ := ih (s + 1) fu best (by omega) (by omega) ⟨h3.1, by have := h3.2.1; omega, fun y hy hcy => by
        by_cases hys : y = s
        · subst hys
          have hle : jcb y 16 ≤ jcb best 16 := Nat.le_of_not_lt fun h => hc ⟨hcy, h⟩
          exact ⟨hle, fun h => by have := h3.2.1; omega⟩
        · exact h3.2.2 y (by omega) hcy⟩
      refine ⟨r, r1, ?_⟩
      rw [← r2]
      exact hset.2 hc
theorem jmcode (N9 : Nat) (hN : 70000 < N9) (x3 : Int32) {d all : Nat} (hd : d < 100) (hall : all ≤ 16) (th : Int32) (rf : Nat → Int32) :
    ∀ e a fu (m : Nat → Int32), a + e = all → e < fu → (∀ a', a' < a → m a' = nI (jMx d all a')) → ∃ r m', jMB d (2 ^ all) r ∧ pM_code_62 N9 (nI d) x3 fu th rf m (nI all) (nI 0) (nI 0) (nI a) = some (if x3 = nI 0 then nI (jcb r 16) else nI r, th, rf, m') := by
  have hp : (2 : Nat) ^ all ≤ 65536 := Nat.pow_le_pow_right (n := 2) (by omega) hall
  intro e
  induction e with
  | zero =>
    intro a fu m h1 h2 h3
    obtain ⟨fu, rfl⟩ : ∃ q, fu = q + 1 := ⟨fu - 1, by omega⟩
    obtain rfl : a = all := by omega
    obtain ⟨r, r1, r2⟩ := jmbest N9 hN th rf x3 hall h3 (2 ^ a) 0 N9 0 (by omega) (by omega) ⟨jcode0 d, Or.inl rfl, fun y hy => absurd hy (Nat.not_lt_zero y)⟩
    refine ⟨r, m, r1, ?_⟩
    rw [← r2]
    simp only [pM_code_62, jlit]
    rw [if_pos (nI_le (Nat.le_refl _) (by omega))]
    rfl
  | succ e ih =>
    intro a fu m h1 h2 h3
    obtain ⟨fu, rfl⟩ : ∃ q, fu = q + 1 := ⟨fu - 1, by omega⟩
    have ha : a < all := by omega
    obtain ⟨r, m', r1, r2⟩ := ih (a + 1) fu (upd m a (nI (jMx d all a))) (by omega) (by omega) (fun a' ha' => by
      by_cases h : a' = a
      · subst h; exact pk_us
      · rw [pk_un h]; exact h3 a' (by omega))
    refine ⟨r, m', r1, ?_⟩
    rw [← r2, ← jmmx_row N9 hN th rf x3 (nI 0) (nI 0) hd hall ha (pM_code_62 N9 (nI d) x3 fu) m all 0 N9 (by omega) (by omega)]
    simp only [pM_code_62, jlit]
    rw [if_neg (nI_ge ha (by omega)), if_pos ((jzin (by omega : a < 16) (by omega)).mpr trivial), jcl (by omega)]
    rfl
/-- both have found the same -/
theorem jcode_eq {d p r1 r2 : Nat} (hp : p ≤ 16) (h1 : jXC d 0 (2 ^ p - 1) 0 r1) (h2 : jMB d (2 ^ p) r2) : r1 = r2 := by
  have hfam : ∀ y, jFam d 0 (2 ^ p - 1) y ↔ y < 2 ^ p ∧ jCode d y := by
    intro y
    constructor
    · rintro ⟨s, a1, a2, a3⟩
      rw [Nat.zero_or] at a2
      subst a2
      refine ⟨Nat.lt_pow_two_of_testBit _ fun i hi => ?_, a3⟩
      cases h : y.testBit i with
      | false => rfl
      | true =>
        have := a1 i h
        rw [Nat.testBit_two_pow_sub_one, decide_eq_true_eq] at this
        omega
    · rintro ⟨a1, a2⟩
      exact ⟨y, fun i hi => by rw [Nat.testBit_two_pow_sub_one, decide_eq_true_eq]; exact jtb a1 hi, (Nat.zero_or y).symm, a2⟩
  have h2p := Nat.two_pow_pos p
  have hr2 : r2 < 2 ^ p := by have := h2.2.1; omega
  have key : (r1 < 2 ^ p ∧ jCode d r1) ∧ ∀ y, y < 2 ^ p → jCode d y → jcb y 16 ≤ jcb r1 16 ∧ (y < r1 → jcb y 16 < jcb r1 16) := by
    rcases h1 with ⟨rfl, h⟩ | ⟨g1, g2, g3⟩
    · exact ⟨⟨h2p, jcode0 d⟩, fun y hy hc => ⟨h y ((hfam y).mpr ⟨hy, hc⟩), fun h => absurd h (Nat.not_lt_zero y)⟩⟩
    · exact ⟨(hfam r1).mp g1, fun y hy hc => g3 y ((hfam y).mpr ⟨hy, hc⟩)⟩
  have e1 := key.2 r2 hr2 h2.1
  have e2 := h2.2.2 r1 key.1.1 key.1.2
  rcases Nat.lt_trichotomy r1 r2 with h | h | h
  · have := e2.2 h; omega
  · exact h
  · have := e1.2 h; omega
section CO
variable {N9 G L B c n : Nat} {gt nu fo kk vv no bo tk : Nat → Nat} {bk_forgives bk_tolls bk_lengths : Nat → Int32} {bk_numbers : Nat → Nat → Int32} {m_told : Nat → Int32} {m_gate m_list : Nat → Nat → Int32}
variable {lw_kinds lw_values : Nat → Int32} {lw_length m_lawMany : Int32} {m_law : Nat → Nat → Int32} {st_now st_born st_age st_passed st_gone st_took : Nat → Int32} {st_year re ra : Int32} {m_now m_refused : Nat → Int32}
theorem jop_code (hN : 70000 < N9) (hR : jRf re ra m_refused) (se_tooNear : Nat → Int32) (m_thrown : Int32) (m_mixed : Nat → Int32) (x1 : Int32) (x2 : Int32) (x3 : Int32): ∃ z r se_tooNear1 ra1 q th rf1 m_mixed1, pX9_code N9 se_tooNear ra x1 x2 x3 = some (z, r, se_tooNear1, ra1) ∧ pM_code N9 m_thrown m_refused m_mixed x1 x2 x3 = some (q, th, rf1, m_mixed1) ∧ jOutA z th r q ∧ jRf re ra1 rf1 := by
  unfold pX9_code pX9_code_32 pX9_code_33 pX9_code_63 pM_code pM_code_33 pM_code_38
  simp only [jlit, zlet]
  rcases jcase_1 N9 (a := 4) (by omega) x1 with ⟨p, hp1, hp4, rfl, h1, h2⟩ | ⟨h1, h2⟩
  · rcases jcase_1 N9 (a := 4) (by omega) x2 with ⟨d, hd1, hd4, rfl, h3, h4⟩ | ⟨h3, h4⟩
    · rcases jcase_a N9 (a := 1) (by omega) x3 with ⟨w, hw, rfl, h5, h6⟩ | ⟨h5, h6⟩
      · have hall : (2 : Nat) ^ p ≤ 16 := Nat.pow_le_pow_right (n := 2) (by omega) hp4
        obtain ⟨se', res, a1, a2, a3⟩ := jxtn_all N9 hN (d := d) (p := 2 ^ p) (by omega) hall 16 0 N9 se_tooNear (by omega) (by omega) (fun a' ha' => absurd ha' (Nat.not_lt_zero a'))
        obtain ⟨r, m', b1, b2⟩ := jmcode N9 hN (nI w) (d := d) (all := 2 ^ p) (by omega) hall (nI 0) m_refused (2 ^ p) 0 N9 m_mixed (by omega) (by omega) (fun a' ha' => absurd ha' (Nat.not_lt_zero a'))
        obtain rfl := jcode_eq hall a3 b1
        have hxl : pX6_largestCode N9 se_tooNear (nI (2 ^ p)) (nI d) = some (nI res, se') := a1
        rw [h1, jb1, if_neg j10, h3, jb1, if_neg j10, h5, jb1, if_neg j10, jnA1, jb2, if_pos rfl, h2, jb1, if_neg j10, h4, jb1, if_neg j10, h6, jb1, if_neg j10, jbadO, jb3, if_pos rfl, jshl p (by omega), hxl, jb2, b2, jbc16 a2, jb1, jp16_cb]
        by_cases hw0 : nI w = nI 0
        · rw [if_pos hw0, if_pos hw0]
          exact ⟨_, _, _, _, _, _, _, _, rfl, rfl, Or.inl ⟨rfl, rfl, rfl⟩, hR⟩
        · rw [if_neg hw0, if_neg hw0]
          exact ⟨_, _, _, _, _, _, _, _, rfl, rfl, Or.inl ⟨rfl, rfl, rfl⟩, hR⟩
      · rw [h1, jb1, if_neg j10, h3, jb1, if_neg j10, h5, jb1, if_pos rfl, jnA0, jb2, if_neg j20, h2, jb1, if_neg j10, h4, jb1, if_neg j10, h6, jb1, if_pos rfl, jbadA, jb3, if_neg j10]
        exact ⟨_, _, _, _, _, _, _, _, rfl, rfl, Or.inr ⟨rfl, rfl⟩, hR.arg⟩
    · rw [h1, jb1, if_neg j10, h3, jb1, if_pos rfl, jnA0, jb2, if_neg j20, h2, jb1, if_neg j10, h4, jb1, if_pos rfl, jbadA, jb3, if_neg j10]
      exact ⟨_, _, _, _, _, _, _, _, rfl, rfl, Or.inr ⟨rfl, rfl⟩, hR.arg⟩
  · rw [h1, jb1, if_pos rfl, jnA0, jb2, if_neg j20, h2, jb1, if_pos rfl, jbadA, jb3, if_neg j10]
    exact ⟨_, _, _, _, _, _, _, _, rfl, rfl, Or.inr ⟨rfl, rfl⟩, hR.arg⟩
end CO
