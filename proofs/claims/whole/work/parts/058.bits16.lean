/-! numbers of sixteen bits: how many are set, the highest -/
def jp16 (n : Nat) : Nat := jpop (n / 256) + jpop (n % 256)
def jcb (n : Nat) : Nat → Nat | 0 => 0 | k + 1 => jcb n k + (if n.testBit k = true then 1 else 0)
def jbf1 (n : Nat) : Nat := n - (n / 2 &&& 1431655765)
def jbf2 (v : Nat) : Nat := (v &&& 858993459) + (v / 4 &&& 858993459)
def jbf3 (v : Nat) : Nat := (v + v / 16) &&& 252645135
def jbf4 (v : Nat) : Nat := v + v / 256
def jbf5 (v : Nat) : Nat := v + v / 65536
def jbcf (n : Nat) : Nat := jbf5 (jbf4 (jbf3 (jbf2 (jbf1 n)))) &&& 63
theorem jbcf_dec : ∀ h, h < 256 → ∀ l, l < 256 → jbcf (h * 256 + l) = jpop h + jpop l := by decide +kernel
theorem jbcf_p {n : Nat} (h : n < 65536) : jbcf n = jp16 n := by
  have h1 := jbcf_dec (n / 256) (by omega) (n % 256) (by omega)
  rw [Nat.div_add_mod'] at h1
  exact h1
theorem jand {a b : Nat} : nI a &&& nI b = nI (a &&& b) := by
  apply Int32.toBitVec_inj.mp
  simp [nI, Int32.toBitVec_and]
theorem jor {a b : Nat} : nI a ||| nI b = nI (a ||| b) := by
  apply Int32.toBitVec_inj.mp
  simp [nI, Int32.toBitVec_or]
theorem jcut (x y : Int32) : x &&& (y ^^^ -nI 1) = x ^^^ (x &&& y) := by
  apply Int32.toBitVec_inj.mp
  rw [Int32.toBitVec_and, Int32.toBitVec_xor, Int32.toBitVec_xor, Int32.toBitVec_and, show (-nI 1).toBitVec = BitVec.allOnes 32 from by decide]
  apply BitVec.eq_of_getLsbD_eq
  intro i hi
  rw [BitVec.getLsbD_and, BitVec.getLsbD_xor, BitVec.getLsbD_xor, BitVec.getLsbD_and, BitVec.getLsbD_allOnes, decide_eq_true hi]
  cases x.toBitVec.getLsbD i <;> cases y.toBitVec.getLsbD i <;> rfl
theorem jdfI (a b : Nat) : nI a &&& (nI b ^^^ -nI 1) = nI (jdf2 a b) := by
  rw [jcut, jand, jxor]
  rfl
theorem jus1 {a : Nat} (h : a < 4294967296) : ((nI a).toUInt32 >>> ((1 : Int32).toUInt32 &&& Int32.toUInt32 31)).toInt32 = nI (a / 2) := pk_ushrN h 1 1 (by decide)
theorem jus2 {a : Nat} (h : a < 4294967296) : ((nI a).toUInt32 >>> ((2 : Int32).toUInt32 &&& Int32.toUInt32 31)).toInt32 = nI (a / 4) := pk_ushrN h 2 2 (by decide)
theorem jus4 {a : Nat} (h : a < 4294967296) : ((nI a).toUInt32 >>> ((4 : Int32).toUInt32 &&& Int32.toUInt32 31)).toInt32 = nI (a / 16) := pk_ushrN h 4 4 (by decide)
theorem jus8 {a : Nat} (h : a < 4294967296) : ((nI a).toUInt32 >>> ((8 : Int32).toUInt32 &&& Int32.toUInt32 31)).toInt32 = nI (a / 256) := pk_ushrN h 8 8 (by decide)
theorem jus16 {a : Nat} (h : a < 4294967296) : ((nI a).toUInt32 >>> ((16 : Int32).toUInt32 &&& Int32.toUInt32 31)).toInt32 = nI (a / 65536) := pk_ushrN h 16 16 (by decide)
theorem jan1 (a : Nat) : nI a &&& (1431655765 : Int32) = nI (a &&& 1431655765) := jand (b := 1431655765)
theorem jan2 (a : Nat) : nI a &&& (858993459 : Int32) = nI (a &&& 858993459) := jand (b := 858993459)
theorem jan3 (a : Nat) : nI a &&& (252645135 : Int32) = nI (a &&& 252645135) := jand (b := 252645135)
theorem jan4 (a : Nat) : nI a &&& (63 : Int32) = nI (a &&& 63) := jand (b := 63)
theorem jbc16 {n : Nat} (h : n < 65536) (N9 : Nat) : pXJ_bitCount N9 (nI n) = some (nI (jp16 n)) := by
  have a1 : n / 2 &&& 1431655765 ≤ n := Nat.le_trans Nat.and_le_left (Nat.div_le_self _ _)
  have b1 : jbf1 n ≤ n := Nat.sub_le _ _
  have e1 : nI n - nI (n / 2 &&& 1431655765) = nI (jbf1 n) := jsub a1
  generalize hv1 : jbf1 n = v1 at b1 e1
  have b2 : jbf2 v1 ≤ v1 + v1 / 4 := Nat.add_le_add Nat.and_le_left Nat.and_le_left
  have e2 : nI (v1 &&& 858993459) + nI (v1 / 4 &&& 858993459) = nI (jbf2 v1) := jadd _ _
  generalize hv2 : jbf2 v1 = v2 at b2 e2
  have b3 : jbf3 v2 ≤ v2 + v2 / 16 := Nat.and_le_left
  have e3 : nI (v2 + v2 / 16 &&& 252645135) = nI (jbf3 v2) := rfl
  generalize hv3 : jbf3 v2 = v3 at b3 e3
  have b4 : jbf4 v3 = v3 + v3 / 256 := rfl
  have e4 : nI v3 + nI (v3 / 256) = nI (jbf4 v3) := jadd _ _
  generalize hv4 : jbf4 v3 = v4 at b4 e4
  have e5 : nI v4 + nI (v4 / 65536) = nI (jbf5 v4) := jadd _ _
  unfold pXJ_bitCount
  simp only [zlet]
  rw [jus1 (by omega), jan1, e1, jan2, jus2 (by omega), jan2, e2, jus4 (by omega), jadd, jan3, e3, jus8 (by omega), e4, jus16 (by omega), e5, jan4, ← jbcf_p h]
  unfold jbcf
  rw [hv1, hv2, hv3, hv4]
/-! bits counted -/
theorem jcb_mod (n : Nat) : ∀ k, (if n.testBit k = true then 1 else 0) = n / 2 ^ k % 2 := by
  intro k
  rw [Nat.testBit_eq_decide_div_mod_eq]
  by_cases h : n / 2 ^ k % 2 = 1
  · rw [decide_eq_true h, if_pos rfl, h]
  · rw [decide_eq_false h, if_neg (by decide)]; omega
theorem jpop_cb (n : Nat) : jpop n = jcb n 8 := by
  simp only [jcb, jcb_mod, Nat.reducePow, Nat.div_one, Nat.zero_add]
  rfl
theorem jcb_split (n k : Nat) : ∀ j, jcb n (k + j) = jcb n k + jcb (n / 2 ^ k) j := by
  intro j
  induction j with
  | zero => rfl
  | succ j ih => rw [← Nat.add_assoc, jcb, ih, jcb, Nat.testBit_div_two_pow, Nat.add_comm j k, Nat.add_assoc]
theorem jcb_modp (n k : Nat) : ∀ j, j ≤ k → jcb (n % 2 ^ k) j = jcb n j := by
  intro j
  induction j with
  | zero => intro _; rfl
  | succ j ih =>
    intro h
    rw [jcb, ih (by omega), jcb, Nat.testBit_mod_two_pow, decide_eq_true (by omega : j < k), Bool.true_and]
theorem jp16_cb (n : Nat) : jp16 n = jcb n 16 := by
  have h1 := jcb_split n 8 8
  have h2 := jcb_modp n 8 8 (Nat.le_refl 8)
  unfold jp16
  rw [jpop_cb, jpop_cb, show n / 256 = n / 2 ^ 8 from rfl, show n % 256 = n % 2 ^ 8 from rfl, h2, show (16 : Nat) = 8 + 8 from rfl, h1, Nat.add_comm]
theorem jcb_mono {s f : Nat} (h : ∀ i, s.testBit i = true → f.testBit i = true) : ∀ k, jcb s k ≤ jcb f k := by
  intro k
  induction k with
  | zero => exact Nat.le_refl _
  | succ k ih =>
    rw [jcb, jcb]
    by_cases hs : s.testBit k = true
    · rw [if_pos hs, if_pos (h k hs)]; omega
    · rw [if_neg hs]; omega
theorem jcb_or {a b : Nat} (h : ∀ i, a.testBit i = true → b.testBit i = false) : ∀ k, jcb (a ||| b) k = jcb a k + jcb b k := by
  intro k
  induction k with
  | zero => rfl
  | succ k ih =>
    rw [jcb, jcb, jcb, ih, Nat.testBit_or]
    have hk := h k
    cases ha : a.testBit k with
    | true => rw [hk ha]; simp; omega
    | false => simp; omega
theorem jcb_out {s B : Nat} (h : s < 2 ^ B) : ∀ d, jcb s (B + d) = jcb s B := by
  intro d
  induction d with
  | zero => rfl
  | succ d ih => rw [← Nat.add_assoc, jcb, ih, Nat.testBit_lt_two_pow (Nat.lt_of_lt_of_le h (Nat.pow_le_pow_right (n := 2) (by omega) (by omega))), if_neg (by decide), Nat.add_zero]
theorem jcb_le (s : Nat) : ∀ k, jcb s k ≤ k := by
  intro k
  induction k with
  | zero => exact Nat.le_refl _
  | succ k ih => rw [jcb]; split <;> omega
/-! the highest bit -/
theorem jnz0 (N9 : Nat) : pXJ_numberOfLeadingZeros N9 (nI 0) = some (nI 32) := by
  unfold pXJ_numberOfLeadingZeros pXJ_numberOfLeadingZeros_14
  rw [if_neg (by decide), if_pos (by decide)]
  rfl
theorem jnz {n k : Nat} (hk : k < 16) (h1 : 2 ^ k ≤ n) (h2 : n < 2 ^ (k + 1)) (N9 : Nat) : pXJ_numberOfLeadingZeros N9 (nI n) = some (nI (31 - k)) := by
  have h16 : n < 65536 := Nat.lt_of_lt_of_le h2 (Nat.pow_le_pow_right (n := 2) (by omega) (by omega : k + 1 ≤ 16))
  have h0 : 0 < n := Nat.lt_of_lt_of_le (Nat.two_pow_pos k) h1
  have p0 : (0 : Int32) < nI n := nI_lt (a := 0) (b := n) h0 (by omega)
  have p16 : nI n < (65536 : Int32) := nI_lt (a := n) (b := 65536) h16 (by omega)
  unfold pXJ_numberOfLeadingZeros pXJ_numberOfLeadingZeros_33 pXJ_numberOfLeadingZeros_48 pXJ_numberOfLeadingZeros_61 pXJ_numberOfLeadingZeros_73
  simp only [zlet]
  rw [if_pos p0, if_pos p16]
  have hlt : ∀ (a b : Nat), a < b → b < 2147483648 → nI a < nI b := fun a b h hb => nI_lt h hb
  have hge : ∀ (a b : Nat), b ≤ a → a < 2147483648 → ¬ nI a < nI b := fun a b h ha => nI_nlt h ha
  rcases (by omega : k = 0 ∨ k = 1 ∨ k = 2 ∨ k = 3 ∨ k = 4 ∨ k = 5 ∨ k = 6 ∨ k = 7 ∨ k = 8 ∨ k = 9 ∨ k = 10 ∨ k = 11 ∨ k = 12 ∨ k = 13 ∨ k = 14 ∨ k = 15) with rfl | rfl | rfl | rfl | rfl | rfl | rfl | rfl | rfl | rfl | rfl | rfl | rfl | rfl | rfl | rfl
  · replace h1 : 1 ≤ n := h1
    replace h2 : n < 2 := h2
    rw [if_pos (show nI (n) < (256 : Int32) from hlt (n) 256 (by omega) (by omega)), if_pos (show nI (n) < (16 : Int32) from hlt (n) 16 (by omega) (by omega)), if_pos (show nI (n) < (4 : Int32) from hlt (n) 4 (by omega) (by omega)), jus1 (by omega), (by omega : n / 2 = 0)]
    decide
  · replace h1 : 2 ≤ n := h1
    replace h2 : n < 4 := h2
    rw [if_pos (show nI (n) < (256 : Int32) from hlt (n) 256 (by omega) (by omega)), if_pos (show nI (n) < (16 : Int32) from hlt (n) 16 (by omega) (by omega)), if_pos (show nI (n) < (4 : Int32) from hlt (n) 4 (by omega) (by omega)), jus1 (by omega), (by omega : n / 2 = 1)]
    decide
  · replace h1 : 4 ≤ n := h1
    replace h2 : n < 8 := h2
    rw [if_pos (show nI (n) < (256 : Int32) from hlt (n) 256 (by omega) (by omega)), if_pos (show nI (n) < (16 : Int32) from hlt (n) 16 (by omega) (by omega)), if_neg (show ¬ nI (n) < (4 : Int32) from hge (n) 4 (by omega) (by omega)), jus2 (by omega), jus1 (by omega), (by omega : n / 4 / 2 = 0)]
    decide
  · replace h1 : 8 ≤ n := h1
    replace h2 : n < 16 := h2
    rw [if_pos (show nI (n) < (256 : Int32) from hlt (n) 256 (by omega) (by omega)), if_pos (show nI (n) < (16 : Int32) from hlt (n) 16 (by omega) (by omega)), if_neg (show ¬ nI (n) < (4 : Int32) from hge (n) 4 (by omega) (by omega)), jus2 (by omega), jus1 (by omega), (by omega : n / 4 / 2 = 1)]
    decide
  · replace h1 : 16 ≤ n := h1
    replace h2 : n < 32 := h2
    rw [if_pos (show nI (n) < (256 : Int32) from hlt (n) 256 (by omega) (by omega)), if_neg (show ¬ nI (n) < (16 : Int32) from hge (n) 16 (by omega) (by omega)), jus4 (by omega), if_pos (show nI (n / 16) < (4 : Int32) from hlt (n / 16) 4 (by omega) (by omega)), jus1 (by omega), (by omega : n / 16 / 2 = 0)]
    decide
  · replace h1 : 32 ≤ n := h1
    replace h2 : n < 64 := h2
    rw [if_pos (show nI (n) < (256 : Int32) from hlt (n) 256 (by omega) (by omega)), if_neg (show ¬ nI (n) < (16 : Int32) from hge (n) 16 (by omega) (by omega)), jus4 (by omega), if_pos (show nI (n / 16) < (4 : Int32) from hlt (n / 16) 4 (by omega) (by omega)), jus1 (by omega), (by omega : n / 16 / 2 = 1)]
    decide
  · replace h1 : 64 ≤ n := h1
    replace h2 : n < 128 := h2
    rw [if_pos (show nI (n) < (256 : Int32) from hlt (n) 256 (by omega) (by omega)), if_neg (show ¬ nI (n) < (16 : Int32) from hge (n) 16 (by omega) (by omega)), jus4 (by omega), if_neg (show ¬ nI (n / 16) < (4 : Int32) from hge (n / 16) 4 (by omega) (by omega)), jus2 (by omega), jus1 (by omega), (by omega : n / 16 / 4 / 2 = 0)]
    decide
  · replace h1 : 128 ≤ n := h1
    replace h2 : n < 256 := h2
    rw [if_pos (show nI (n) < (256 : Int32) from hlt (n) 256 (by omega) (by omega)), if_neg (show ¬ nI (n) < (16 : Int32) from hge (n) 16 (by omega) (by omega)), jus4 (by omega), if_neg (show ¬ nI (n / 16) < (4 : Int32) from hge (n / 16) 4 (by omega) (by omega)), jus2 (by omega), jus1 (by omega), (by omega : n / 16 / 4 / 2 = 1)]
    decide
  · replace h1 : 256 ≤ n := h1
    replace h2 : n < 512 := h2
    rw [if_neg (show ¬ nI (n) < (256 : Int32) from hge (n) 256 (by omega) (by omega)), jus8 (by omega), if_pos (show nI (n / 256) < (16 : Int32) from hlt (n / 256) 16 (by omega) (by omega)), if_pos (show nI (n / 256) < (4 : Int32) from hlt (n / 256) 4 (by omega) (by omega)), jus1 (by omega), (by omega : n / 256 / 2 = 0)]
    decide
  · replace h1 : 512 ≤ n := h1
    replace h2 : n < 1024 := h2
    rw [if_neg (show ¬ nI (n) < (256 : Int32) from hge (n) 256 (by omega) (by omega)), jus8 (by omega), if_pos (show nI (n / 256) < (16 : Int32) from hlt (n / 256) 16 (by omega) (by omega)), if_pos (show nI (n / 256) < (4 : Int32) from hlt (n / 256) 4 (by omega) (by omega)), jus1 (by omega), (by omega : n / 256 / 2 = 1)]
    decide
  · replace h1 : 1024 ≤ n := h1
    replace h2 : n < 2048 := h2
    rw [if_neg (show ¬ nI (n) < (256 : Int32) from hge (n) 256 (by omega) (by omega)), jus8 (by omega), if_pos (show nI (n / 256) < (16 : Int32) from hlt (n / 256) 16 (by omega) (by omega)), if_neg (show ¬ nI (n / 256) < (4 : Int32) from hge (n / 256) 4 (by omega) (by omega)), jus2 (by omega), jus1 (by omega), (by omega : n / 256 / 4 / 2 = 0)]
    decide
  · replace h1 : 2048 ≤ n := h1
    replace h2 : n < 4096 := h2
    rw [if_neg (show ¬ nI (n) < (256 : Int32) from hge (n) 256 (by omega) (by omega)), jus8 (by omega), if_pos (show nI (n / 256) < (16 : Int32) from hlt (n / 256) 16 (by omega) (by omega)), if_neg (show ¬ nI (n / 256) < (4 : Int32) from hge (n / 256) 4 (by omega) (by omega)), jus2 (by omega), jus1 (by omega), (by omega : n / 256 / 4 / 2 = 1)]
    decide
  · replace h1 : 4096 ≤ n := h1
    replace h2 : n < 8192 := h2
    rw [if_neg (show ¬ nI (n) < (256 : Int32) from hge (n) 256 (by omega) (by omega)), jus8 (by omega), if_neg (show ¬ nI (n / 256) < (16 : Int32) from hge (n / 256) 16 (by omega) (by omega)), jus4 (by omega), if_pos (show nI (n / 256 / 16) < (4 : Int32) from hlt (n / 256 / 16) 4 (by omega) (by omega)), jus1 (by omega), (by omega : n / 256 / 16 / 2 = 0)]
    decide
  · replace h1 : 8192 ≤ n := h1
    replace h2 : n < 16384 := h2
    rw [if_neg (show ¬ nI (n) < (256 : Int32) from hge (n) 256 (by omega) (by omega)), jus8 (by omega), if_neg (show ¬ nI (n / 256) < (16 : Int32) from hge (n / 256) 16 (by omega) (by omega)), jus4 (by omega), if_pos (show nI (n / 256 / 16) < (4 : Int32) from hlt (n / 256 / 16) 4 (by omega) (by omega)), jus1 (by omega), (by omega : n / 256 / 16 / 2 = 1)]
    decide
  · replace h1 : 16384 ≤ n := h1
    replace h2 : n < 32768 := h2
    rw [if_neg (show ¬ nI (n) < (256 : Int32) from hge (n) 256 (by omega) (by omega)), jus8 (by omega), if_neg (show ¬ nI (n / 256) < (16 : Int32) from hge (n / 256) 16 (by omega) (by omega)), jus4 (by omega), if_neg (show ¬ nI (n / 256 / 16) < (4 : Int32) from hge (n / 256 / 16) 4 (by omega) (by omega)), jus2 (by omega), jus1 (by omega), (by omega : n / 256 / 16 / 4 / 2 = 0)]
    decide
  · replace h1 : 32768 ≤ n := h1
    replace h2 : n < 65536 := h2
    rw [if_neg (show ¬ nI (n) < (256 : Int32) from hge (n) 256 (by omega) (by omega)), jus8 (by omega), if_neg (show ¬ nI (n / 256) < (16 : Int32) from hge (n / 256) 16 (by omega) (by omega)), jus4 (by omega), if_neg (show ¬ nI (n / 256 / 16) < (4 : Int32) from hge (n / 256 / 16) 4 (by omega) (by omega)), jus2 (by omega), jus1 (by omega), (by omega : n / 256 / 16 / 4 / 2 = 1)]
    decide
