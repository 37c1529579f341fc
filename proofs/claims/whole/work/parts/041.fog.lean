/-! fog -/
def nL (n : Nat) : Int64 := Int64.ofNat n
theorem jlitL (n : Nat) : (OfNat.ofNat n : Int64) = nL n := id rfl
theorem nL_toInt {n : Nat} (h : n < 9223372036854775808) : (nL n).toInt = (n : Int) := by
  show (BitVec.ofNat 64 n).toInt = _
  rw [BitVec.toInt_eq_toNat_cond, BitVec.toNat_ofNat, Nat.mod_eq_of_lt (by omega), if_pos (by omega)]
theorem nL_eq {a b : Nat} (ha : a < 9223372036854775808) (hb : b < 9223372036854775808) : nL a = nL b ↔ a = b := by
  rw [← Int64.toInt_inj, nL_toInt ha, nL_toInt hb]; omega
theorem nL_add (a b : Nat) : nL a + nL b = nL (a + b) := by
  apply Int64.toBitVec_inj.mp
  simp [nL, Int64.toBitVec_add, BitVec.ofNat_add]
theorem nL_mul (a b : Nat) : nL a * nL b = nL (a * b) := by
  apply Int64.toBitVec_inj.mp
  simp [nL, Int64.toBitVec_mul, BitVec.ofNat_mul]
theorem nL_sub {a b : Nat} (h : b ≤ a) : nL a - nL b = nL (a - b) := by
  have h1 : nL a = nL (a - b) + nL b := by rw [nL_add]; congr 1; omega
  rw [h1]
  grind
theorem nL_div {a b : Nat} (ha : a < 9223372036854775808) (hb : b < 9223372036854775808) : nL a / nL b = nL (a / b) := by
  apply Int64.toInt_inj.mp
  have h1 : a / b ≤ a := Nat.div_le_self a b
  rw [Int64.toInt_div, nL_toInt ha, nL_toInt hb, nL_toInt (by omega), ← Int.ofNat_tdiv]
  generalize a / b = q at h1 ⊢
  apply Int.bmod_eq_of_le <;> omega
theorem nL_rem {x k : Nat} (hx : x < 9223372036854775808) (hk : k < 9223372036854775808) : nL x - nL x / nL k * nL k = nL (x % k) := by
  have h1 : x / k * k ≤ x := Nat.div_mul_le_self x k
  rw [nL_div hx hk, nL_mul, nL_sub h1]
  congr 1
  have := Nat.div_add_mod x k
  rw [Nat.mul_comm] at this
  omega
theorem jcmp0 {a : Nat} (h : a < 9223372036854775808) : (lg_cmp (nL a) (nL 0) = nI 0) ↔ a = 0 := by
  unfold lg_cmp
  simp only [gt_iff_lt, Int64.lt_iff_toInt_lt, nL_eq h (by omega : 0 < 9223372036854775808), nL_toInt h, nL_toInt (by omega : 0 < 9223372036854775808)]
  by_cases h0 : a = 0
  · subst h0
    simp only [Int.lt_irrefl, if_false, if_true, iff_true]
    rfl
  · rw [if_pos (by omega)]
    exact ⟨fun q => absurd q (by decide), fun q => absurd q h0⟩
theorem jlong : ∀ p, p < 17 → (nI p).toInt64 = nL p ∧ (nI 16 - nI p).toInt64 = nL (16 - p) := by decide +kernel
def jfp (p s : Nat) : Nat → Nat | 0 => 1 | k + 1 => jfp p s k * (if s / 2 ^ k % 2 = 1 then p else 16 - p)
theorem jfp_le {p : Nat} (hp : p ≤ 16) (s : Nat) : ∀ k, jfp p s k ≤ 16 ^ k := by
  intro k
  induction k with
  | zero => exact Nat.le_refl _
  | succ k ih =>
    rw [jfp, Nat.pow_succ]
    exact Nat.mul_le_mul ih (by split <;> omega)
def jfS (t : Nat → Bool) (p : Nat) : Nat → Nat | 0 => 0 | s + 1 => jfS t p s + (if t s = true then jfp p s 8 else 0)
theorem jfS_le {p : Nat} (hp : p ≤ 16) (t : Nat → Bool) : ∀ s, jfS t p s ≤ s * 4294967296 := by
  intro s
  induction s with
  | zero => exact Nat.zero_le _
  | succ s ih =>
    rw [jfS, Nat.succ_mul]
    have h1 := jfp_le hp s 8
    have h2 : (16 : Nat) ^ 8 = 4294967296 := by decide
    rw [h2] at h1
    have : (if t s = true then jfp p s 8 else 0) ≤ 4294967296 := by split <;> omega
    omega
def jv : Nat → Nat → Nat | 0, _ => 0 | e + 1, a => if a % 2 = 0 then 1 + jv e (a / 2) else 0
theorem jgcd : ∀ e a, Nat.gcd (2 ^ e) a = 2 ^ jv e a := by
  intro e
  induction e with
  | zero => intro a; exact Nat.gcd_one_left a
  | succ e ih =>
    intro a
    rw [jv]
    by_cases h : a % 2 = 0
    · rw [if_pos h]
      have h1 : a = 2 * (a / 2) := by omega
      have h2 : 2 ^ (e + 1) = 2 * 2 ^ e := by rw [Nat.pow_succ, Nat.mul_comm]
      rw [h1, h2, Nat.gcd_mul_left, Nat.mul_div_cancel_left _ (by omega), ih, Nat.pow_add]
    · rw [if_neg h]
      have h1 : Nat.gcd 2 a = 1 := by
        rw [Nat.gcd_rec, show a % 2 = 1 by omega]
        exact Nat.gcd_one_left 2
      exact Nat.Coprime.pow_left (e + 1) h1
theorem jhalf {N9 : Nat} (x4 re' ra' : Int32) : ∀ e i n a b, i + e = 32 → e < n → a < 9223372036854775808 → b < 9223372036854775808 → pX9_fog_63 N9 re' x4 n ra' (nL a) (nL b) (nI i) = some (nI 0, if x4 = nI 0 then nL (a / 2 ^ jv e a) else nL (b / 2 ^ jv e a), re', ra') := by
  intro e
  induction e with
  | zero =>
    intro i n a b h1 h2 h3 h4
    obtain ⟨n, rfl⟩ : ∃ q, n = q + 1 := ⟨n - 1, by omega⟩
    obtain rfl : i = 32 := by omega
    simp only [pX9_fog_63, pX9_fog_103, pX9_fog_115, jlit, jv]
    rw [if_pos (nI_le (Nat.le_refl 32) (by omega)), Nat.pow_zero, Nat.div_one, Nat.div_one]
    by_cases hx : x4 = nI 0
    · rw [if_pos hx, if_pos hx]
    · rw [if_neg hx, if_neg hx]
  | succ e ih =>
    intro i n a b h1 h2 h3 h4
    obtain ⟨n, rfl⟩ : ∃ q, n = q + 1 := ⟨n - 1, by omega⟩
    simp only [pX9_fog_63, pX9_fog_103, pX9_fog_115, jlit, jlitL, jv]
    rw [if_neg (nI_ge (by omega) (by omega)), nL_rem h3 (by omega)]
    have hc := jcmp0 (a := a % 2) (by omega)
    by_cases h : a % 2 = 0
    · rw [if_pos (hc.mpr h), if_pos h, nL_div h3 (by omega), nL_div h4 (by omega), jadd, ih (i + 1) n (a / 2) (b / 2) (by omega) (by omega) (by omega) (by omega), Nat.pow_add, Nat.pow_one, Nat.div_div_eq_div_mul, Nat.div_div_eq_div_mul]
    · rw [if_neg (fun q => h (hc.mp q)), if_neg h, Nat.pow_zero, Nat.div_one, Nat.div_one]
      by_cases hx : x4 = nI 0
      · rw [if_pos hx, if_pos hx]
      · rw [if_neg hx, if_neg hx]
theorem jeuclid {N9 : Nat} (x4 th : Int32) (rf : Nat → Int32) {y5 y7 : Nat} (h5 : y5 < 9223372036854775808) (h7 : y7 < 9223372036854775808) : ∀ k a b n, b < 2 ^ k → 2 * k < n → a < 9223372036854775808 → b < 9223372036854775808 → 0 < a → pM_fog_177 N9 th rf x4 (nL y7) n (nL y5) (nL a) (nL b) = some (if x4 = nI 0 then nL (y5 / Nat.gcd a b) else nL (y7 / Nat.gcd a b), th, rf) := by
  have stop : ∀ a n, 0 < n → a < 9223372036854775808 → 0 < a → pM_fog_177 N9 th rf x4 (nL y7) n (nL y5) (nL a) (nL 0) = some (if x4 = nI 0 then nL (y5 / Nat.gcd a 0) else nL (y7 / Nat.gcd a 0), th, rf) := by
    intro a n h1 h2 h3
    obtain ⟨n, rfl⟩ : ∃ q, n = q + 1 := ⟨n - 1, by omega⟩
    simp only [pM_fog_177, pM_fog_220, jlit, jlitL]
    have hne : ¬ nL a = nL 0 := fun q => by
      have := (nL_eq h2 (by omega)).mp q
      omega
    rw [if_pos ((jcmp0 (a := 0) (by omega)).mpr rfl), if_pos hne, if_pos hne, nL_div h5 h2, nL_div h7 h2, Nat.gcd_zero_right]
    by_cases hx : x4 = nI 0
    · rw [if_pos hx, if_pos hx]
    · rw [if_neg hx, if_neg hx]
  have step : ∀ a b n, 0 < b → a < 9223372036854775808 → b < 9223372036854775808 → pM_fog_177 N9 th rf x4 (nL y7) (n + 1) (nL y5) (nL a) (nL b) = pM_fog_177 N9 th rf x4 (nL y7) n (nL y5) (nL b) (nL (a % b)) := by
    intro a b n h1 h2 h3
    have hc := jcmp0 (a := b) h3
    have hne : ¬ nL b = nL 0 := fun q => by
      have := (nL_eq h3 (by omega)).mp q
      omega
    simp only [pM_fog_177, pM_fog_220, jlit, jlitL]
    rw [if_neg (fun q => by have := hc.mp q; omega), if_pos hne, nL_rem h2 h3]
  have hg : ∀ a b, Nat.gcd a b = Nat.gcd b (a % b) := fun a b => by rw [Nat.gcd_comm a b, Nat.gcd_rec b a, Nat.gcd_comm]
  intro k
  induction k with
  | zero =>
    intro a b n h1 h2 h3 h4 h6
    obtain rfl : b = 0 := by omega
    exact stop a n (by omega) h3 h6
  | succ k ih =>
    intro a b n h1 h2 h3 h4 h6
    by_cases hb : b = 0
    · subst hb
      exact stop a n (by omega) h3 h6
    · obtain ⟨n, rfl⟩ : ∃ q, n = q + 1 + 1 := ⟨n - 2, by omega⟩
      rw [step a b (n + 1) (by omega) h3 h4, hg a b]
      have hr : a % b < b := Nat.mod_lt _ (by omega)
      by_cases hr0 : a % b = 0
      · rw [hr0]
        exact stop b (n + 1) (by omega) h4 (by omega)
      · rw [step b (a % b) n (by omega) h4 (by omega), hg b (a % b)]
        have hr2 : b % (a % b) < a % b := Nat.mod_lt _ (by omega)
        have h7' : 2 * (b % (a % b)) ≤ b := by
          by_cases hh : 2 * (a % b) ≤ b
          · omega
          · have e1 : b % (a % b) = (b - a % b) % (a % b) := Nat.mod_eq_sub_mod (by omega)
            have e2 : (b - a % b) % (a % b) = b - a % b := Nat.mod_eq_of_lt (by omega)
            omega
        refine ih (a % b) (b % (a % b)) n ?_ (by omega) (by omega) (by omega) (by omega)
        have h8 : 2 ^ (k + 1) = 2 * 2 ^ k := by rw [Nat.pow_succ, Nat.mul_comm]
        by_cases hb0 : 2 * (b % (a % b)) = b
        · omega
        · omega
def jOutBL (z th : Int32) (r r' : Int64) : Prop := (z = 0 ∧ th = 0 ∧ r = r') ∨ (z = 1 ∧ th = 1) ∨ (z = 2 ∧ th = 2)
section C9
variable {N9 G L B c n : Nat} {gt nu fo kk vv no bo tk : Nat → Nat} {bk_forgives bk_tolls bk_lengths : Nat → Int32} {bk_numbers : Nat → Nat → Int32} {m_told : Nat → Int32} {m_gate m_list : Nat → Nat → Int32}
variable {lw_kinds lw_values : Nat → Int32} {lw_length m_lawMany : Int32} {m_law : Nat → Nat → Int32} {st_now st_born st_age st_passed st_gone st_took : Nat → Int32} {st_year re ra : Int32} {m_now m_refused : Nat → Int32}
theorem jxfog (hN : 70000 < N9) (hk : jBk G L gt nu fo bk_forgives bk_tolls bk_lengths bk_numbers m_told m_gate m_list) {v g p : Nat} (hv : v < 256) (hg : g < G) (hp : p ≤ 16) : pX5_openingsInFog N9 bk_forgives bk_lengths bk_numbers (nI v) (nI g) (nI p) = some (nL (jfS (fun s => jopen gt nu fo L g (v ^^^ s)) p 256)) := by
  obtain ⟨l1, l2⟩ := jlong p (by omega)
  have inner : ∀ (k : Int64 → Int32 → Option Int64) (y s : Nat), s < 256 → pX5_openingsInFog_32 N9 (nI v) (nI g) (nI p) k N9 (nL y) (nI s) (nL 1) (nI 0) = k (nL (y + jfp p s 8)) (nI s) := by
    intro k y s hs
    refine jloop0 (fun n (a : Int64) i => pX5_openingsInFog_32 N9 (nI v) (nI g) (nI p) k n (nL y) (nI s) a i) 8 (fun j => nL (jfp p s j)) (fun n j hj => ?_) (fun n => ?_) (by omega) rfl
    · have hb := jbit_nI (n := s) (s := j) (by omega) (by omega)
      unfold jbit at hb
      show pX5_openingsInFog_32 N9 (nI v) (nI g) (nI p) k (n + 1) (nL y) (nI s) _ _ = pX5_openingsInFog_32 N9 (nI v) (nI g) (nI p) k n (nL y) (nI s) _ _
      simp only [pX5_openingsInFog_32, pX5_openingsInFog_62, jlit]
      rw [if_neg (nI_ge (by omega) (by omega)), hb, l1, l2, jfp, nL_mul, nL_mul, jadd]
      by_cases hq : s / 2 ^ j % 2 = 1
      · rw [hq, if_pos rfl, if_pos rfl]
      · rw [if_neg (fun q => hq ((nI_eq (by omega) (by omega)).mp q)), if_neg hq]
    · show pX5_openingsInFog_32 N9 (nI v) (nI g) (nI p) k (n + 1) (nL y) (nI s) _ _ = _
      simp only [pX5_openingsInFog_32, jlit]
      rw [if_pos (nI_le (Nat.le_refl 8) (by omega)), nL_add]
  unfold pX5_openingsInFog
  refine jloop0 (fun n (a : Int64) i => pX5_openingsInFog_6 N9 bk_forgives bk_lengths bk_numbers (nI v) (nI g) (nI p) n a i) 256 (fun s => nL (jfS (fun s => jopen gt nu fo L g (v ^^^ s)) p s)) (fun n s hs => ?_) (fun n => ?_) (by omega) rfl
  · show pX5_openingsInFog_6 N9 bk_forgives bk_lengths bk_numbers (nI v) (nI g) (nI p) (n + 1) _ _ = pX5_openingsInFog_6 N9 bk_forgives bk_lengths bk_numbers (nI v) (nI g) (nI p) n _ _
    simp only [pX5_openingsInFog_6, pX5_openingsInFog_78, jlit, jlitL]
    rw [if_neg (nI_ge (by omega) (by omega)), jxor, jxopen hN hk (jxor_lt hv hs) hg, jb1, jfS]
    cases jopen gt nu fo L g (v ^^^ s)
    · rw [if_pos (show jB false = nI 0 from rfl), if_neg (by decide), jadd]
      rfl
    · rw [if_neg (show ¬ jB true = nI 0 by decide), inner _ _ s hs, if_pos rfl]
      simp only [pX5_openingsInFog_78, jlit, jadd]
  · show pX5_openingsInFog_6 N9 bk_forgives bk_lengths bk_numbers (nI v) (nI g) (nI p) (n + 1) _ _ = _
    simp only [pX5_openingsInFog_6, jlit]
    rw [if_pos (nI_le (Nat.le_refl 256) (by omega))]
theorem jmfog (hN : 70000 < N9) (hk : jBk G L gt nu fo bk_forgives bk_tolls bk_lengths bk_numbers m_told m_gate m_list) (hs : jSt G B no bo c tk st_now st_born st_age st_passed st_gone st_took (nI B) st_year (nI c) m_now) {b g p : Nat} (hb : b < B) (hg : g < G) (hp : p ≤ 16) (x4 th : Int32) (rf : Nat → Int32) : pM_fog_82 N9 m_told m_gate m_list m_now (nI b) (nI g) (nI p) x4 N9 th rf (nL 0) (nL 4294967296) (nI 0) = pM_fog_177 N9 th rf x4 (nL 4294967296) N9 (nL (jfS (fun s => jopen gt nu fo L g (no b ^^^ s)) p 256)) (nL 4294967296) (nL (jfS (fun s => jopen gt nu fo L g (no b ^^^ s)) p 256)) := by
  obtain ⟨l1, l2⟩ := jlong p (by omega)
  obtain ⟨hB, -, h42, -, -, -, -, hno, -⟩ := hs
  obtain ⟨n1, -, n2, n3, -⟩ := hno b hb
  have inner : ∀ (k : Int64 → Int32 → Option (Int64 × Int32 × (Nat → Int32))) (y s : Nat), s < 256 → pM_fog_118 N9 (nI b) (nI g) (nI p) x4 (nL 4294967296) k N9 (nL y) (nI s) (nL 1) (nI 0) = k (nL (y + jfp p s 8)) (nI s) := by
    intro k y s hs
    refine jloop0 (fun n (a : Int64) i => pM_fog_118 N9 (nI b) (nI g) (nI p) x4 (nL 4294967296) k n (nL y) (nI s) a i) 8 (fun j => nL (jfp p s j)) (fun n j hj => ?_) (fun n => ?_) (by omega) rfl
    · have hb := jmhas (n := s) (s := j) (by omega) (by omega) N9
      show pM_fog_118 N9 (nI b) (nI g) (nI p) x4 (nL 4294967296) k (n + 1) (nL y) (nI s) _ _ = pM_fog_118 N9 (nI b) (nI g) (nI p) x4 (nL 4294967296) k n (nL y) (nI s) _ _
      simp only [pM_fog_118, pM_fog_147, jlit]
      rw [if_neg (nI_ge (by omega) (by omega)), hb, jb1, l1, l2, jfp, nL_mul, nL_mul, jadd]
      by_cases hq : s / 2 ^ j % 2 = 1
      · rw [decide_eq_true hq, if_neg (show ¬ jB true = nI 0 by decide), if_pos hq]
      · rw [decide_eq_false hq, if_pos (show jB false = nI 0 from rfl), if_neg hq]
    · show pM_fog_118 N9 (nI b) (nI g) (nI p) x4 (nL 4294967296) k (n + 1) (nL y) (nI s) _ _ = _
      simp only [pM_fog_118, jlit]
      rw [if_pos (nI_le (Nat.le_refl 8) (by omega)), nL_add]
  refine jloop0 (fun n (a : Int64) i => pM_fog_82 N9 m_told m_gate m_list m_now (nI b) (nI g) (nI p) x4 n th rf a (nL 4294967296) i) 256 (fun s => nL (jfS (fun s => jopen gt nu fo L g (no b ^^^ s)) p s)) (fun n s hs => ?_) (fun n => ?_) (by omega) rfl
  · show pM_fog_82 N9 m_told m_gate m_list m_now (nI b) (nI g) (nI p) x4 (n + 1) th rf _ (nL 4294967296) _ = pM_fog_82 N9 m_told m_gate m_list m_now (nI b) (nI g) (nI p) x4 n th rf _ (nL 4294967296) _
    simp only [pM_fog_82, pM_fog_163, jlit, jlitL]
    rw [if_neg (nI_ge (by omega) (by omega)), jadd, Nat.zero_add, jcl (by omega), n3, if_pos (by have := jzin (i := b) (n := 46) (by omega) (by omega); rw [this]; trivial), jxor, jmopen hN hk (jxor_lt n1 hs) hg, jb1, jfS]
    cases jopen gt nu fo L g (no b ^^^ s)
    · rw [if_pos (show jB false = nI 0 from rfl), if_neg (by decide), jadd]
      rfl
    · rw [if_neg (show ¬ jB true = nI 0 by decide), inner _ _ s hs, if_pos rfl]
      simp only [pM_fog_163, jlit, jadd]
  · show pM_fog_82 N9 m_told m_gate m_list m_now (nI b) (nI g) (nI p) x4 (n + 1) th rf _ (nL 4294967296) _ = _
    simp only [pM_fog_82, jlit]
    rw [if_pos (nI_le (Nat.le_refl 256) (by omega))]
theorem jop_fog (hN : 70000 < N9) (hk : jBk G L gt nu fo bk_forgives bk_tolls bk_lengths bk_numbers m_told m_gate m_list) (hs : jSt G B no bo c tk st_now st_born st_age st_passed st_gone st_took (nI B) st_year (nI c) m_now) (hR : jRf re ra m_refused) (m_thrown : Int32) (x1 : Int32) (x2 : Int32) (x3 : Int32) (x4 : Int32): ∃ z r re1 ra1 q th rf1, pX9_fog N9 bk_forgives bk_lengths bk_numbers (nI G) st_now (nI B) re ra x1 x2 x3 x4 = some (z, r, re1, ra1) ∧ pM_fog N9 m_thrown m_refused m_told m_gate m_list m_now x1 x2 x3 x4 = some (q, th, rf1) ∧ jOutBL z th r q ∧ jRf re1 ra1 rf1 := by
  have hs' := hs
  obtain ⟨hB, -, h42, -, -, -, -, hno, -⟩ := hs
  unfold pX9_fog pM_fog pX9_fog_31 pX9_fog_32 pM_fog_22 pM_fog_27 pM_fog_56 pM_fog_61 pM_fog_69
  simp only [jlit, jlitL]
  rcases jcase_bg (N9 := N9) (re := re) h42 hB hk.2.2.1 hk.1 x1 x2 with ⟨b, g, hb, hg, rfl, rfl, h1, h2, h3⟩ | ⟨h1, h2 | ⟨h2, h3⟩⟩
  · obtain ⟨n1, -, n2, n3, -⟩ := hno b hb
    rcases jcase_a N9 (a := 16) (by omega) x3 with ⟨p, hp, rfl, h5, h6⟩ | ⟨h5, h6⟩
    · rcases jcase_a N9 (a := 1) (by omega) x4 with ⟨k, hk1, rfl, h7, h8⟩ | ⟨h7, h8⟩
      · rw [h1, jb2, if_pos rfl, h5, jb1, if_neg j10, h7, jb1, if_neg j10, jnA1, jb2, if_pos rfl, h2, jb1, if_neg j10, h3, jb1, if_neg j10, jbadO, jb3, if_pos rfl, h6, jb1, if_neg j10, h8, jb1, if_neg j10, jbadO, jb3, if_pos rfl, jmfog hN hk hs' hb hg hp]
        simp (disch := omega) only [jb1, jb2, jb3, jb4, jb5, jb6, jb7, jb8, jb9, jb10, jb11, jb12, jb13, jb14, jb15, jb16, jb17, jb18, jb19, jb20, jb21, jb22, jb23, jb24, jb25, jb26, jb27, jb28, jb29, jb30, jb31, jb32, jb33, jb34, jb35, jb36, jb37, jb38, jb39, jb40, jb41, jb42, jb43, jb44, jb45, jb46, jb47, jb48, jb49, jb50, zlet, jlit, jle_t, jle_f, jlt_t, jlt_f, jeq_t, jeq_f, jeqN_f, jNeq_f, jNN, jN1, jadd, jsub, jzin, jcl, if_true, if_false, ite_true, ite_false, not_true, not_false_iff, not_true_eq_false, not_false_eq_true, jB_t, jB_f, jB0_t, jB0_f, jBa, jand11, jand00, ↓reduceIte, Nat.reduceEqDiff, Nat.reduceAdd, Nat.reduceSub, n2, jxfog hN hk n1 hg hp]
        have hS := jfS_le hp (fun s => jopen gt nu fo L g (no b ^^^ s)) 256
        generalize jfS (fun s => jopen gt nu fo L g (no b ^^^ s)) p 256 = S at hS ⊢
        rw [jhalf (nI k) re ra 32 0 N9 S 4294967296 (by omega) (by omega) (by omega) (by omega), jeuclid (nI k) (nI 0) m_refused (y5 := S) (y7 := 4294967296) (by omega) (by omega) 41 4294967296 S N9 (by omega) (by omega) (by omega) (by omega) (by omega)]
        have e1 := jgcd 32 S
        rw [show (2 : Nat) ^ 32 = 4294967296 by decide] at e1
        rw [e1]
        exact ⟨_, _, _, _, _, _, _, rfl, rfl, Or.inl ⟨rfl, rfl, rfl⟩, hR⟩
      · rw [h1, jb2, if_pos rfl, h5, jb1, if_neg j10, h7, jb1, if_pos rfl, jnA0, jb2, if_neg j20, h2, jb1, if_neg j10, h3, jb1, if_neg j10, jbadO, jb3, if_pos rfl, h6, jb1, if_neg j10, h8, jb1, if_pos rfl, jbadB, jb3, if_neg j10]
        exact ⟨_, _, _, _, _, _, _, rfl, rfl, Or.inr (Or.inr ⟨rfl, rfl⟩), hR.arg⟩
    · rw [h1, jb2, if_pos rfl, h5, jb1, if_pos rfl, jnA0, jb2, if_neg j20, h2, jb1, if_neg j10, h3, jb1, if_neg j10, jbadO, jb3, if_pos rfl, h6, jb1, if_pos rfl, jbadB, jb3, if_neg j10]
      exact ⟨_, _, _, _, _, _, _, rfl, rfl, Or.inr (Or.inr ⟨rfl, rfl⟩), hR.arg⟩
  · rw [h1, jb2, if_neg j10, h2, jb1, if_pos rfl, jbadE, jb3, if_neg j10]
    exact ⟨_, _, _, _, _, _, _, rfl, rfl, Or.inr (Or.inl ⟨rfl, rfl⟩), hR.elem⟩
  · rw [h1, jb2, if_neg j10, h2, jb1, if_neg j10, h3, jb1, if_pos rfl, jbadE, jb3, if_neg j10]
    exact ⟨_, _, _, _, _, _, _, rfl, rfl, Or.inr (Or.inl ⟨rfl, rfl⟩), hR.elem⟩
end C9
