/-! file, filed: the calls -/
section FP
variable {N9 G L B c n : Nat} {gt nu fo kk vv no bo tk : Nat → Nat} {bk_forgives bk_tolls bk_lengths : Nat → Int32} {bk_numbers : Nat → Nat → Int32} {m_told : Nat → Int32} {m_gate m_list : Nat → Nat → Int32}
variable {lw_kinds lw_values : Nat → Int32} {lw_length m_lawMany : Int32} {m_law : Nat → Nat → Int32} {st_now st_born st_age st_passed st_gone st_took : Nat → Int32} {st_year re ra : Int32} {m_now m_refused : Nat → Int32}
theorem jh_eq {f : Nat → Nat → Nat} {q x : Nat} {least m : Nat → Int32} (hx : x < 256) (hq : jpop x = q) {r : Nat} (hrx : jdf2 r x = 0) (hE : ∀ r', r' < r → jdf2 r' x = 0 → least r' = m (x ^^^ r')) {i : Nat} (hi : i < 8) (hp : r.testBit i = true) : jhX f q least r i = jhM f m (x ^^^ r) i := by
  have hr := jsub_le hrx
  have h1 := (jpopc x hx r (by omega) hrx).1
  have h2 := hE _ (jclr r (by omega) i hi hp).2.1 (jsub_clr hrx hp)
  unfold jhX jhM
  rw [h2, Nat.xor_assoc, show q - jpop r = jpop (x ^^^ r) by omega]
theorem jfile_eq {f : Nat → Nat → Nat} {q x : Nat} {least m : Nat → Int32} (hB : B ≤ 8) (hx : x < 2 ^ B) (hq : jpop x = q) (hX : jLX f q x (x + 1) least) (hM : jLM f B x 0 m) : ∀ r, jdf2 r x = 0 → least r = m (x ^^^ r) := by
  have hx8 : x < 256 := Nat.lt_of_lt_of_le hx (Nat.pow_le_pow_right (n := 2) (by omega) hB)
  intro r
  induction r using Nat.strongRecOn with
  | ind r ih =>
    intro hrx
    have hr := jsub_le hrx
    by_cases h0 : r = 0
    · subst h0
      rw [Nat.xor_zero, hX.1]
      obtain ⟨w, w1, w2, w3⟩ := hM x (Nat.zero_le _) (jsub_self x)
      rcases w3 with ⟨-, rfl⟩ | ⟨h, -⟩
      · exact w2.symm
      · exact absurd rfl h
    · obtain ⟨w, w1, w2, w3⟩ := hX.2 r (by omega) h0 hrx
      obtain ⟨w', v1, v2, v3⟩ := hM (x ^^^ r) (Nat.zero_le _) (jsub_xor hrx)
      rcases v3 with ⟨h, -⟩ | ⟨-, v3⟩
      · exact absurd (by rw [← jxor2 x r, h, Nat.xor_self]) h0
      · have e8 := jsc_ext (P := fun b => r.testBit b) (h := jhX f q least r) (B := B) (fun i hi => Nat.testBit_lt_two_pow (Nat.lt_of_lt_of_le (by omega : r < 2 ^ B) (Nat.pow_le_pow_right (n := 2) (by omega) hi))) (8 - B)
        rw [show B + (8 - B) = 8 by omega] at e8
        rw [w2, v2, ← w3, ← v3, e8]
        exact congrArg Prod.snd (jsc_congr B (fun i hi => by show r.testBit i = (x ^^^ (x ^^^ r)).testBit i; rw [jxor2]) (fun i hi hp => jh_eq hx8 hq hrx ih (by omega) hp))
theorem jmfind (hN : 70000 < N9) (hk : jBk G L gt nu fo bk_forgives bk_tolls bk_lengths bk_numbers m_told m_gate m_list) (hl : jLw n kk vv lw_kinds lw_values lw_length m_lawMany m_law) (hs : jSt G B no bo c tk st_now st_born st_age st_passed st_gone st_took (nI B) st_year (nI c) m_now) {g : Nat} (hg : g < G) {f : Nat → Nat → Nat} (hfo : ∀ b j, jfo kk vv n gt nu L bk_tolls no st_age st_passed b g (st_gone g + nI j) = nI (f b j)) (hf : ∀ b j, f b j ≤ 99) {x t b : Nat} (hx : x < 2 ^ B) (htx : jdf2 t x = 0) {m : Nat → Int32} {W : Nat} (hW : W < 2000000) (hm : m t = nI W) (hM : ∀ i, jPM x t i = true → ∃ w, w ≤ 99 * 256 ∧ m (t ^^^ 2 ^ i) = nI w) (hb : jPM x t b = true) (heq : jhM f m t b = W) (hlt : ∀ i, i < b → jPM x t i = true → W < jhM f m t i) (th : Int32) (rf : Nat → Int32) (x3 x6 : Int32) (k88 : Int32 → (Nat → Int32) → (Nat → Int32) → (Nat → Int32) → (Nat → Int32) → Int32 → Int32 → Int32 → Option (Int32 × Int32 × (Nat → Int32) × (Nat → Int32) × (Nat → Int32) × (Nat → Int32))) :
    ∀ e k fu (stk kn : Nat → Int32), k + e = b → e < fu → ∃ stk' kn', pM_filed_97 N9 th rf m_told m_gate m_list m_lawMany m_law m_now m (nI g) (nI x) x3 k88 fu stk kn (nI t) (nI k) x6 = k88 th rf stk' kn' m (nI (t ^^^ 2 ^ b)) (nI b) (x6 + nI 1) := by
  have hB := hs.1
  have hx8 : x < 256 := Nat.lt_of_lt_of_le hx (Nat.pow_le_pow_right (n := 2) (by omega) hB)
  have ht8 : t < 256 := by have := jsub_le htx; omega
  have hbB : b < B := jPlt hx htx hb
  have zt : zin (nI t) 256 = true := (jzin (by omega) (by omega)).mpr trivial
  have ct : (nI t).toNatClampNeg = t := jcl (by omega)
  -- one place looked at
  have fees : ∀ k (stk kn : Nat → Int32), k < B → x.testBit k = true → t.testBit k = false → ∃ st kn1, ∃ w, nI t ||| (nI 1 <<< (nI k &&& nI 31)) = nI (t ^^^ 2 ^ k) ∧ t ^^^ 2 ^ k < 256 ∧ pM_feeOf N9 m_told m_gate m_list m_lawMany m_law stk kn m_now (nI k) (nI g) (nI (jpop t)) = some (nI (f k (jpop t)), st, kn1) ∧ m (t ^^^ 2 ^ k) = nI w ∧ jhM f m t k = f k (jpop t) + w ∧ w ≤ 99 * 256 := by
    intro k stk kn hkB hxb htb
    have hpk : jPM x t k = true := by rw [show jPM x t k = (x ^^^ t).testBit k from rfl, jsub_P htx, hxb, htb]; rfl
    obtain ⟨p1, p2, p3, p4⟩ := jfput t ht8 k (by omega) htb
    obtain ⟨st, kn1, w1⟩ := jmfeeOf hN hk hl hs hkB hg stk kn (nI (jpop t))
    obtain ⟨w, w2, w3⟩ := hM k hpk
    rw [hfo] at w1
    exact ⟨st, kn1, w, by rw [jshl k (by omega), p1], p3, w1, w3, by unfold jhM; rw [w3, jcl (by omega)], w2⟩
  intro e
  induction e with
  | zero =>
    intro k fu stk kn h1 h2
    obtain ⟨fu, rfl⟩ : ∃ q, fu = q + 1 := ⟨fu - 1, by omega⟩
    obtain rfl : k = b := by omega
    obtain ⟨hxb, htb⟩ := jP_b htx hb
    obtain ⟨st, kn1, w, a1, a2, a3, a4, a5, a6⟩ := fees k stk kn hbB hxb htb
    refine ⟨st, kn1, ?_⟩
    simp only [pM_filed_97, jlit, zlet]
    rw [jmhasT (by omega) (by omega), jb1, hxb, if_neg (show ¬ jB true = nI 0 by decide), jmhasT (by omega) (by omega), jb1, htb, if_pos (show jB false = nI 0 from rfl), jo hN ht8, jb1, a3, jb3, a1, if_pos ((jzin a2 (by omega)).mpr trivial), if_pos zt, ct, jcl (by omega), a4, hm, jadd, ← a5, heq, if_pos rfl]
  | succ e ih =>
    intro k fu stk kn h1 h2
    obtain ⟨fu, rfl⟩ : ∃ q, fu = q + 1 := ⟨fu - 1, by omega⟩
    have hkB : k < B := by omega
    simp only [pM_filed_97, pM_filed_155, jlit, zlet]
    rw [jmhasT (by omega) (by omega), jb1]
    cases hxb : x.testBit k with
    | false =>
      rw [if_pos (show jB false = nI 0 from rfl), jadd]
      exact ih (k + 1) fu stk kn (by omega) (by omega)
    | true =>
      rw [if_neg (show ¬ jB true = nI 0 by decide), jmhasT (by omega) (by omega), jb1]
      cases htb : t.testBit k with
      | true =>
        rw [if_neg (show ¬ jB true = nI 0 by decide), jadd]
        exact ih (k + 1) fu stk kn (by omega) (by omega)
      | false =>
        obtain ⟨st, kn1, w, a1, a2, a3, a4, a5, a6⟩ := fees k stk kn hkB hxb htb
        have hfk := hf k (jpop t)
        have hlk := hlt k (by omega) (by rw [show jPM x t k = (x ^^^ t).testBit k from rfl, jsub_P htx, hxb, htb]; rfl)
        rw [if_pos (show jB false = nI 0 from rfl), jo hN ht8, jb1, a3, jb3, a1, if_pos ((jzin a2 (by omega)).mpr trivial), if_pos zt, ct, jcl (by omega), a4, hm, jadd, if_neg (fun h => by have := (nI_eq (by omega) (by omega)).mp h; omega), jadd]
        exact ih (k + 1) fu st kn1 (by omega) (by omega)
theorem jfwalk (hN : 70000 < N9) (hk : jBk G L gt nu fo bk_forgives bk_tolls bk_lengths bk_numbers m_told m_gate m_list) (hl : jLw n kk vv lw_kinds lw_values lw_length m_lawMany m_law) (hs : jSt G B no bo c tk st_now st_born st_age st_passed st_gone st_took (nI B) st_year (nI c) m_now) {g : Nat} (hg : g < G) {f : Nat → Nat → Nat} (hfo : ∀ b j, jfo kk vv n gt nu L bk_tolls no st_age st_passed b g (st_gone g + nI j) = nI (f b j)) (hf : ∀ b j, f b j ≤ 99) {x q K : Nat} (hx : x < 2 ^ B) (hq : jpop x = q) {fees least m : Nat → Int32} (hfe : ∀ b, x.testBit b = true → ∀ i, i < q → fees (b * 8 + i) = nI (f b i)) (hX : jLX f q x (x + 1) least) (hM : jLM f B x 0 m) (hK : K < q) (th : Int32) (rf : Nat → Int32) :
    ∀ d i r fu fu' (stk kn : Nat → Int32) (y : Int32), i + d = K → d < fu → d + 1 < fu' → jdf2 r x = 0 → jpop r + i = q → ∃ b stk' kn', pX6_beastInFile_11 N9 least fees (nI K) fu (nI q) (nI r) (nI i) = some b ∧ pM_filed_88 N9 m_told m_gate m_list m_lawMany m_law m_now (nI g) (nI x) (nI K) fu' th rf stk kn m (nI (x ^^^ r)) y (nI i) = some (b, th, rf, stk', kn', m) := by
  have hB := hs.1
  have hx8 : x < 256 := Nat.lt_of_lt_of_le hx (Nat.pow_le_pow_right (n := 2) (by omega) hB)
  have hq8 : q ≤ 8 := by rw [← hq]; exact jpop_le x
  have one : ∀ i r, jdf2 r x = 0 → jpop r + i = q → i < q → ∃ b, pX6_nextInFile N9 least fees (nI r) (nI q) = some (nI b) ∧ b < 8 ∧ r < 256 ∧ r ≠ 0 ∧ r.testBit b = true ∧ ∀ (x3 x6 : Int32) (k88 : Int32 → (Nat → Int32) → (Nat → Int32) → (Nat → Int32) → (Nat → Int32) → Int32 → Int32 → Int32 → Option (Int32 × Int32 × (Nat → Int32) × (Nat → Int32) × (Nat → Int32) × (Nat → Int32))) (stk kn : Nat → Int32), ∃ stk' kn', pM_filed_97 N9 th rf m_told m_gate m_list m_lawMany m_law m_now m (nI g) (nI x) x3 k88 N9 stk kn (nI (x ^^^ r)) (nI 0) x6 = k88 th rf stk' kn' m (nI (x ^^^ (r ^^^ 2 ^ b))) (nI b) (x6 + nI 1) := by
    intro i r hrx hpr hi
    have hr := jsub_le hrx
    have hr0 : r ≠ 0 := by
      rintro rfl
      rw [show jpop 0 = 0 from rfl] at hpr
      omega
    have hnx := jxnext hN hf hq8 hx8 hfe hX (by omega : r ≤ x + 1) (by omega : r < 256) hrx (by omega)
    have htx : jdf2 (x ^^^ r) x = 0 := jsub_xor hrx
    have hPr : ∀ i, jPM x (x ^^^ r) i = r.testBit i := fun i => by show (x ^^^ (x ^^^ r)).testBit i = _; rw [jxor2]
    have hE := jfile_eq hB hx hq hX hM
    rcases jsc_spec (P := fun b => r.testBit b) (h := jhX f q least r) 8 (fun i hi hp => by
        obtain ⟨-, w2, w3⟩ := jxwhen (N9 := N9) hf hq8 hx8 hfe hX (by omega : r ≤ x + 1) hrx (by omega) hi hp
        omega) with ⟨g1, -⟩ | ⟨b, g1, g2, g3, g4, g5⟩
    · obtain ⟨b, b1, b2⟩ := jnonz r (by omega) hr0
      exact absurd (g1 b b1) (by rw [b2]; decide)
    · obtain ⟨-, w2, w3⟩ := jxwhen (N9 := N9) hf hq8 hx8 hfe hX (by omega : r ≤ x + 1) hrx (by omega) g1 g2
      obtain ⟨w, v1, v2, v3⟩ := hX.2 r (by omega) hr0 hrx
      rw [g3] at v3
      refine ⟨b, by rw [hnx, g3], g1, by omega, hr0, g2, fun x3 x6 k88 stk kn => ?_⟩
      have hh : ∀ i, i < 8 → r.testBit i = true → jhX f q least r i = jhM f m (x ^^^ r) i := fun i hi hp => jh_eq hx8 hq hrx (fun r' _ h => hE r' h) hi hp
      have hbB := jPlt hx htx (by rw [jxor2]; exact g2 : (x ^^^ (x ^^^ r)).testBit b = true)
      obtain ⟨stk', kn', e1⟩ := jmfind hN hk hl hs hg hfo hf hx htx (W := jhX f q least r b) (by omega) (by rw [← hE r hrx, v2, ← v3]) (fun i hp => by
        rw [hPr] at hp
        obtain ⟨w, a1, a2, -⟩ := hM (x ^^^ r ^^^ 2 ^ i) (Nat.zero_le _) (jsub_put htx (jsub_iff.mp hrx i hp))
        exact ⟨w, by omega, a2⟩) (by rw [hPr]; exact g2) (hh b g1 g2).symm (fun i hi hp => by
        rw [hPr] at hp
        rw [← hh i (by omega) hp]
        exact g5 i hi hp) th rf x3 x6 k88 b 0 N9 stk kn (by omega) (by omega)
      exact ⟨stk', kn', by rw [e1, Nat.xor_assoc]⟩
  intro d
  induction d with
  | zero =>
    intro i r fu fu' stk kn y h1 h2 h3 hrx hpr
    obtain ⟨fu, rfl⟩ : ∃ q, fu = q + 1 := ⟨fu - 1, by omega⟩
    obtain ⟨fu', rfl⟩ : ∃ q, fu' = q + 2 := ⟨fu' - 2, by omega⟩
    obtain rfl : i = K := by omega
    obtain ⟨b, a1, a2, a3, a4, a5, a6⟩ := one i r hrx hpr hK
    obtain ⟨stk', kn', a7⟩ := a6 (nI i) (nI i) (pM_filed_88 N9 m_told m_gate m_list m_lawMany m_law m_now (nI g) (nI x) (nI i) (fu' + 1)) stk kn
    refine ⟨nI b, stk', kn', ?_, ?_⟩
    · simp only [pX6_beastInFile_11, pX6_beastInFile_44, jlit]
      rw [if_pos (nI_le (Nat.le_refl _) (by omega)), a1, jb1]
    · show pM_filed_88 N9 m_told m_gate m_list m_lawMany m_law m_now (nI g) (nI x) (nI i) (fu' + 1 + 1) th rf stk kn m (nI (x ^^^ r)) y (nI i) = _
      rw [pM_filed_88]
      simp only [jlit]
      rw [if_neg (nI_nlt (Nat.le_refl _) (by omega)), a7, pM_filed_88]
      simp only [jlit]
      rw [jadd, if_pos (nI_lt (by omega) (by omega))]
  | succ d ih =>
    intro i r fu fu' stk kn y h1 h2 h3 hrx hpr
    obtain ⟨fu, rfl⟩ : ∃ q, fu = q + 1 := ⟨fu - 1, by omega⟩
    obtain ⟨fu', rfl⟩ : ∃ q, fu' = q + 1 := ⟨fu' - 1, by omega⟩
    obtain ⟨b, a1, a2, a3, a4, a5, a6⟩ := one i r hrx hpr (by omega)
    obtain ⟨stk', kn', a7⟩ := a6 (nI K) (nI i) (pM_filed_88 N9 m_told m_gate m_list m_lawMany m_law m_now (nI g) (nI x) (nI K) fu') stk kn
    obtain ⟨c1, c2, c3⟩ := jclr r a3 b a2 a5
    obtain ⟨b', stk2, kn2, d1, d2⟩ := ih (i + 1) (r ^^^ 2 ^ b) fu fu' stk' kn' (nI b) (by omega) (by omega) (by omega) (jsub_clr hrx a5) (by omega)
    refine ⟨b', stk2, kn2, ?_, ?_⟩
    · simp only [pX6_beastInFile_11, jlit, jN1, zlet]
      rw [if_neg (nI_ge (by omega) (by omega)), if_neg (fun h => a4 ((nI_eq (by omega) (by omega)).mp h)), a1, jb1, jshl b (by omega), c1, jadd, d1]
    · rw [pM_filed_88]
      simp only [jlit]
      rw [if_neg (nI_nlt (by omega) (by omega)), a7, jadd, d2]
theorem jflays (hN : 70000 < N9) (hk : jBk G L gt nu fo bk_forgives bk_tolls bk_lengths bk_numbers m_told m_gate m_list) (hl : jLw n kk vv lw_kinds lw_values lw_length m_lawMany m_law) (hs : jSt G B no bo c tk st_now st_born st_age st_passed st_gone st_took (nI B) st_year (nI c) m_now) {g : Nat} (hg : g < G) {f : Nat → Nat → Nat} (hfo : ∀ b j, jfo kk vv n gt nu L bk_tolls no st_age st_passed b g (st_gone g + nI j) = nI (f b j)) (hf : ∀ b j, f b j ≤ 99) (hL : jcnt gt g L ≠ 0) {x : Nat} (hx : x < 2 ^ B) (lw ru se_least se_fees m_stack m_known m_leastFees : Nat → Int32) :
    ∃ lw' ru' least fees stk kn m, pX6_leastFees N9 bk_tolls bk_lengths bk_numbers lw_kinds lw_values lw lw_length ru st_now st_age st_passed st_gone (nI B) se_least se_fees (nI g) (nI x) = some (least x, lw', ru', least, fees) ∧ pM_laysFile N9 m_told m_gate m_list m_lawMany m_law m_stack m_known m_now m_leastFees (nI g) (nI x) = some (stk, kn, m) ∧ (∀ b, x.testBit b = true → ∀ i, i < jpop x → fees (b * 8 + i) = nI (f b i)) ∧ jLX f (jpop x) x (x + 1) least ∧ jLM f B x 0 m := by
  have hB := hs.1
  have hx8 : x < 256 := Nat.lt_of_lt_of_le hx (Nat.pow_le_pow_right (n := 2) (by omega) hB)
  have hq8 := jpop_le x
  obtain ⟨lw1, ru1, fees, a1, a2⟩ := jxfee_all hN hk hl hs hg hq8 hL (nI x) se_least B 0 N9 lw ru se_fees (by omega) (by omega) (fun b hb => absurd hb (Nat.not_lt_zero b))
  have hfe : ∀ b, x.testBit b = true → ∀ i, i < jpop x → fees (b * 8 + i) = nI (f b i) := fun b hb i hi => by
    rw [a2 b (jPlt (t := 0) hx (jsub_iff.mpr fun i h => absurd h (by rw [Nat.zero_testBit]; decide)) (by rw [Nat.xor_zero]; exact hb)) i hi, hfo]
  obtain ⟨least, b1, b2⟩ := jxleast hN hf rfl hx8 hfe lw1 ru1 x 1 N9 (upd se_least 0 (nI 0)) (by omega) (by omega) (by omega) ⟨pk_us, fun r h1 h2 => by omega⟩
  obtain ⟨stk, kn, m, c1, c2⟩ := jmlays hN hk hl hs hg hfo hf hx 256 N9 m_stack m_known m_leastFees (by omega) (by omega) (fun t ht htx => by have := jsub_le htx; omega)
  refine ⟨lw1, ru1, least, fees, stk, kn, m, ?_, ?_, hfe, b2, c2⟩
  · unfold pX6_leastFees
    simp only [jlit]
    rw [jbc hx8, jb1, a1, b1]
  · unfold pM_laysFile
    rw [← c1]
    rfl
theorem jop_file (hN : 70000 < N9) (hk : jBk G L gt nu fo bk_forgives bk_tolls bk_lengths bk_numbers m_told m_gate m_list) (hl : jLw n kk vv lw_kinds lw_values lw_length m_lawMany m_law) (hs : jSt G B no bo c tk st_now st_born st_age st_passed st_gone st_took (nI B) st_year (nI c) m_now) (hR : jRf re ra m_refused) (lw_stack : Nat → Int32) (ru_facts : Nat → Int32) (se_least : Nat → Int32) (se_fees : Nat → Int32) (m_thrown : Int32) (m_stack : Nat → Int32) (m_known : Nat → Int32) (m_leastFees : Nat → Int32) (x1 : Int32) (x2 : Int32): ∃ z r lw_stack1 ru_facts1 se_least1 se_fees1 re1 ra1 q th rf1 m_stack1 m_known1 m_leastFees1, pX9_file N9 bk_tolls bk_lengths bk_numbers (nI G) lw_kinds lw_values lw_stack lw_length ru_facts st_now st_age st_passed st_gone (nI B) se_least se_fees re ra x1 x2 = some (z, r, lw_stack1, ru_facts1, se_least1, se_fees1, re1, ra1) ∧ pM_file N9 m_thrown m_refused m_told m_gate m_list m_lawMany m_law m_stack m_known m_now m_leastFees x1 x2 = some (q, th, rf1, m_stack1, m_known1, m_leastFees1) ∧ jOutB z th r q ∧ jRf re1 ra1 rf1 := by
  have hG := hk.1
  have hg1 := hk.2.2.1
  have hB := hs.1
  have hp2 : 2 ^ B ≤ 256 := Nat.pow_le_pow_right (n := 2) (by omega) hB
  have hfo : ∀ g, ∀ b j, jfo kk vv n gt nu L bk_tolls no st_age st_passed b g (st_gone g + nI j) = nI ((jfo kk vv n gt nu L bk_tolls no st_age st_passed b g (st_gone g + nI j)).toNatClampNeg) := fun g b j => by
    obtain ⟨f, h1, h2⟩ := jfo_rng kk vv n gt nu L bk_tolls no st_age st_passed b g (st_gone g + nI j)
    rw [h2, jcl (by omega)]
  have hf : ∀ g, ∀ b j, (jfo kk vv n gt nu L bk_tolls no st_age st_passed b g (st_gone g + nI j)).toNatClampNeg ≤ 99 := fun g b j => by
    obtain ⟨f, h1, h2⟩ := jfo_rng kk vv n gt nu L bk_tolls no st_age st_passed b g (st_gone g + nI j)
    rw [h2, jcl (by omega)]; exact h1
  unfold pX9_file pM_file pM_file_19 pM_file_41 pM_file_49
  simp only [jlit, jN1]
  rcases jcase_g (N9 := N9) (re := re) hg1 hG x1 with ⟨g, hg, rfl, h1, h2⟩ | ⟨h1, h2⟩
  · rcases jcase_s (N9 := N9) hs x2 with ⟨x, hx, rfl, h3, h4⟩ | ⟨h3, h4⟩
    · have hbl := hk.2.2.2.2.2.2.1 g hg
      have hcl := jcnt_le gt g L
      rw [h1, jb2, if_pos rfl, h3, jb1, jnA1, jb2, if_pos rfl, if_pos ((jzin (by omega) (by omega)).mpr trivial), jcl (by omega), hbl, h2, jb1, if_neg j10, jbadO, jb3, if_pos rfl, h4, jb1, if_neg j10, jbadO, jb3, if_pos rfl, jmlistOf hN hk hg, jb1]
      by_cases hL : jcnt gt g L = 0
      · rw [hL, if_pos rfl, if_pos rfl]
        exact ⟨_, _, _, _, _, _, _, _, _, _, _, _, _, _, rfl, rfl, Or.inl ⟨rfl, rfl, rfl⟩, hR⟩
      · obtain ⟨lw', ru', least, fees, stk, kn, m, a1, a2, a3, a4, a5⟩ := jflays hN hk hl hs hg (hfo g) (hf g) hL hx lw_stack ru_facts se_least se_fees m_stack m_known m_leastFees
        have hne : ¬ nI (jcnt gt g L) = nI 0 := fun h => hL ((nI_eq (by have := hk.2.1; omega) (by omega)).mp h)
        have he := jfile_eq hB hx rfl a4 a5 x (jsub_self x)
        rw [Nat.xor_self] at he
        rw [if_neg hne, if_neg hne, a1, jb5, a2, jb3, if_pos (show zin (nI 0) 256 = true by decide), jcl (by omega), he]
        exact ⟨_, _, _, _, _, _, _, _, _, _, _, _, _, _, rfl, rfl, Or.inl ⟨rfl, rfl, rfl⟩, hR⟩
    · rw [h1, jb2, if_pos rfl, h3, jb1, jnA0, jb2, if_neg j20, h2, jb1, if_neg j10, jbadO, jb3, if_pos rfl, h4, jb1, if_pos rfl, jbadB, jb3, if_neg j10]
      exact ⟨_, _, _, _, _, _, _, _, _, _, _, _, _, _, rfl, rfl, Or.inr (Or.inr ⟨rfl, rfl⟩), hR.arg⟩
  · rw [h1, jb2, if_neg j10, h2, jb1, if_pos rfl, jbadE, jb3, if_neg j10]
    exact ⟨_, _, _, _, _, _, _, _, _, _, _, _, _, _, rfl, rfl, Or.inr (Or.inl ⟨rfl, rfl⟩), hR.elem⟩
theorem jop_filed (hN : 70000 < N9) (hk : jBk G L gt nu fo bk_forgives bk_tolls bk_lengths bk_numbers m_told m_gate m_list) (hl : jLw n kk vv lw_kinds lw_values lw_length m_lawMany m_law) (hs : jSt G B no bo c tk st_now st_born st_age st_passed st_gone st_took (nI B) st_year (nI c) m_now) (hR : jRf re ra m_refused) (lw_stack : Nat → Int32) (ru_facts : Nat → Int32) (se_least : Nat → Int32) (se_fees : Nat → Int32) (m_thrown : Int32) (m_stack : Nat → Int32) (m_known : Nat → Int32) (m_leastFees : Nat → Int32) (x1 : Int32) (x2 : Int32) (x3 : Int32): ∃ z r lw_stack1 ru_facts1 se_least1 se_fees1 re1 ra1 q th rf1 m_stack1 m_known1 m_leastFees1, pX9_filed N9 bk_tolls bk_lengths bk_numbers (nI G) lw_kinds lw_values lw_stack lw_length ru_facts st_now st_age st_passed st_gone (nI B) se_least se_fees re ra x1 x2 x3 = some (z, r, lw_stack1, ru_facts1, se_least1, se_fees1, re1, ra1) ∧ pM_filed N9 m_thrown m_refused m_told m_gate m_list m_lawMany m_law m_stack m_known m_now m_leastFees x1 x2 x3 = some (q, th, rf1, m_stack1, m_known1, m_leastFees1) ∧ jOutB z th r q ∧ jRf re1 ra1 rf1 := by
  have hG := hk.1
  have hg1 := hk.2.2.1
  have hB := hs.1
  have hp2 : 2 ^ B ≤ 256 := Nat.pow_le_pow_right (n := 2) (by omega) hB
  have hfo : ∀ g, ∀ b j, jfo kk vv n gt nu L bk_tolls no st_age st_passed b g (st_gone g + nI j) = nI ((jfo kk vv n gt nu L bk_tolls no st_age st_passed b g (st_gone g + nI j)).toNatClampNeg) := fun g b j => by
    obtain ⟨f, h1, h2⟩ := jfo_rng kk vv n gt nu L bk_tolls no st_age st_passed b g (st_gone g + nI j)
    rw [h2, jcl (by omega)]
  have hf : ∀ g, ∀ b j, (jfo kk vv n gt nu L bk_tolls no st_age st_passed b g (st_gone g + nI j)).toNatClampNeg ≤ 99 := fun g b j => by
    obtain ⟨f, h1, h2⟩ := jfo_rng kk vv n gt nu L bk_tolls no st_age st_passed b g (st_gone g + nI j)
    rw [h2, jcl (by omega)]; exact h1
  unfold pX9_filed pX9_filed_22 pX9_filed_23 pX9_filed_49 pM_filed pM_filed_19 pM_filed_40 pM_filed_45 pM_filed_53 pM_filed_71
  simp only [jlit, jN1]
  rcases jcase_g (N9 := N9) (re := re) hg1 hG x1 with ⟨g, hg, rfl, h1, h2⟩ | ⟨h1, h2⟩
  · rcases jcase_s (N9 := N9) hs x2 with ⟨x, hx, rfl, h3, h4⟩ | ⟨h3, h4⟩
    · have hbl := hk.2.2.2.2.2.2.1 g hg
      have hcl := jcnt_le gt g L
      have hL24 := hk.2.1
      by_cases hk0 : x3 < nI 0
      · rw [h1, jb2, if_pos rfl, h3, jb1, if_neg j10, if_pos hk0, jnA0, jb2, if_neg j20, h2, jb1, if_neg j10, jbadO, jb3, if_pos rfl, h4, jb1, if_neg j10, if_neg (jnlt.mpr hk0), jbadB, jb3, if_neg j10]
        exact ⟨_, _, _, _, _, _, _, _, _, _, _, _, _, _, rfl, rfl, Or.inr (Or.inr ⟨rfl, rfl⟩), hR.arg⟩
      · obtain ⟨K, hK, rfl⟩ := nI_of hk0
        rw [h1, jb2, if_pos rfl, h3, jb1, if_neg j10, if_neg hk0, jnA1, jb2, if_pos rfl, if_pos ((jzin (by omega) (by omega)).mpr trivial), jcl (by omega), hbl, h2, jb1, if_neg j10, jbadO, jb3, if_pos rfl, h4, jb1, if_neg j10, if_pos (jnle.mp hk0), jbadO, jb3, if_pos rfl, jmlistOf hN hk hg, jb1]
        by_cases hL : jcnt gt g L = 0
        · rw [hL, if_pos rfl, if_pos rfl]
          exact ⟨_, _, _, _, _, _, _, _, _, _, _, _, _, _, rfl, rfl, Or.inl ⟨rfl, rfl, rfl⟩, hR⟩
        · have hne : ¬ nI (jcnt gt g L) = nI 0 := fun h => hL ((nI_eq (by omega) (by omega)).mp h)
          have hp8 := jpop_le x
          rw [if_neg hne, if_neg hne, jbc (by omega), jb1, jo hN (by omega), jb1]
          by_cases hKq : K < jpop x
          · obtain ⟨lw', ru', least, fees, stk, kn, m, a1, a2, a3, a4, a5⟩ := jflays hN hk hl hs hg (hfo g) (hf g) hL hx lw_stack ru_facts se_least se_fees m_stack m_known m_leastFees
            obtain ⟨b, stk', kn', b1, b2⟩ := jfwalk hN hk hl hs hg (hfo g) (hf g) hx rfl a3 a4 a5 hKq (nI 0) m_refused K 0 x N9 N9 stk kn (nI 0) (by omega) (by omega) (by omega) (jsub_self x) (by omega)
            rw [Nat.xor_self] at b2
            have hlt := nI_lt hKq (by omega)
            have hbf : pX6_beastInFile N9 least fees (nI x) (nI K) = some b := by
              unfold pX6_beastInFile
              simp only [jlit]
              rw [jbc (by omega), jb1, b1]
            rw [if_pos hlt, if_pos hlt, a1, jb5, hbf, jb1, a2, jb3, b2]
            exact ⟨_, _, _, _, _, _, _, _, _, _, _, _, _, _, rfl, rfl, Or.inl ⟨rfl, rfl, rfl⟩, hR⟩
          · have hlt := nI_nlt (Nat.le_of_not_lt hKq) hK
            rw [if_neg hlt, if_neg hlt]
            exact ⟨_, _, _, _, _, _, _, _, _, _, _, _, _, _, rfl, rfl, Or.inl ⟨rfl, rfl, rfl⟩, hR⟩
    · rw [h1, jb2, if_pos rfl, h3, jb1, if_pos rfl, jnA0, jb2, if_neg j20, h2, jb1, if_neg j10, jbadO, jb3, if_pos rfl, h4, jb1, if_pos rfl, jbadB, jb3, if_neg j10]
      exact ⟨_, _, _, _, _, _, _, _, _, _, _, _, _, _, rfl, rfl, Or.inr (Or.inr ⟨rfl, rfl⟩), hR.arg⟩
  · rw [h1, jb2, if_neg j10, h2, jb1, if_pos rfl, jbadE, jb3, if_neg j10]
    exact ⟨_, _, _, _, _, _, _, _, _, _, _, _, _, _, rfl, rfl, Or.inr (Or.inl ⟨rfl, rfl⟩), hR.elem⟩
end FP
