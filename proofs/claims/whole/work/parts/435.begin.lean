/-! the start: texts, statics, classes -/
theorem zw_lt {w : Cond} (h : w ∈ AW) : w ∈ lw_tbl := (List.mem_filter.mp h).1
def zstm : List (String × Nat) := [("StripeTrade", 385), ("StripeTrade$Book", 76), ("StripeTrade$Book", 82), ("StripeTrade$Book", 84), ("StripeTrade$Book", 86), ("StripeTrade$Law", 71), ("StripeTrade$Law", 81), ("StripeTrade$Law", 100), ("StripeTrade$Law", 102), ("StripeTrade$Law", 104), ("StripeTrade$Law", 106), ("StripeTrade$Law", 108), ("StripeTrade$Law", 110), ("StripeTrade$Law", 112), ("StripeTrade$Plan", 76), ("StripeTrade$Plan", 82), ("StripeTrade$Plan", 84), ("StripeTrade$Plan", 86), ("StripeTrade$Plan", 88), ("StripeTrade$Plan", 90), ("StripeTrade$Plan", 92), ("StripeTrade", 395)]
def zTm (i : Nat) : Term := .string (zstm.getD i ("", 0)).1 (zstm.getD i ("", 0)).2
def zFl : List Cond := flatC (Cond.and given_1 narrow_1)
theorem zw_ex : ∀ i, i < 22 → Cond.exactly (zTm i) "java/lang/String" ∈ zFl := by decide +kernel
theorem zw_co : ∀ i, i < 22 → Cond.eq (.field (zTm i) "java/lang/String" "coder" "B") (.int 0) ∈ zFl := by decide +kernel
theorem zw_ar : ∀ i, i < 22 → Cond.arrayOf (.field (zTm i) "java/lang/String" "value" "[B") .byte ∈ zFl := by decide +kernel
theorem zw_le : ∀ i, i < 22 → Cond.eq (.length (.field (zTm i) "java/lang/String" "value" "[B")) (.int (Int32.ofNat (zslen.getD i 0))) ∈ zFl := by decide +kernel
theorem zw_el_0 : ∀ j, j < 44 → zFl[39 + j]? = some (Cond.eq (.elem (.field (zTm 0) "java/lang/String" "value" "[B") (.int (Int32.ofNat j))) (.int ((zsbyt.getD 0 []).getD j 0))) := by decide +kernel
theorem zw_el_1 : ∀ j, j < 5 → zFl[87 + j]? = some (Cond.eq (.elem (.field (zTm 1) "java/lang/String" "value" "[B") (.int (Int32.ofNat j))) (.int ((zsbyt.getD 1 []).getD j 0))) := by decide +kernel
theorem zw_el_2 : ∀ j, j < 4 → zFl[97 + j]? = some (Cond.eq (.elem (.field (zTm 2) "java/lang/String" "value" "[B") (.int (Int32.ofNat j))) (.int ((zsbyt.getD 2 []).getD j 0))) := by decide +kernel
theorem zw_el_3 : ∀ j, j < 4 → zFl[107 + j]? = some (Cond.eq (.elem (.field (zTm 3) "java/lang/String" "value" "[B") (.int (Int32.ofNat j))) (.int ((zsbyt.getD 3 []).getD j 0))) := by decide +kernel
theorem zw_el_4 : ∀ j, j < 5 → zFl[118 + j]? = some (Cond.eq (.elem (.field (zTm 4) "java/lang/String" "value" "[B") (.int (Int32.ofNat j))) (.int ((zsbyt.getD 4 []).getD j 0))) := by decide +kernel
theorem zw_el_5 : ∀ j, j < 5 → zFl[131 + j]? = some (Cond.eq (.elem (.field (zTm 5) "java/lang/String" "value" "[B") (.int (Int32.ofNat j))) (.int ((zsbyt.getD 5 []).getD j 0))) := by decide +kernel
theorem zw_el_6 : ∀ j, j < 4 → zFl[145 + j]? = some (Cond.eq (.elem (.field (zTm 6) "java/lang/String" "value" "[B") (.int (Int32.ofNat j))) (.int ((zsbyt.getD 6 []).getD j 0))) := by decide +kernel
theorem zw_el_7 : ∀ j, j < 4 → zFl[159 + j]? = some (Cond.eq (.elem (.field (zTm 7) "java/lang/String" "value" "[B") (.int (Int32.ofNat j))) (.int ((zsbyt.getD 7 []).getD j 0))) := by decide +kernel
theorem zw_el_8 : ∀ j, j < 5 → zFl[174 + j]? = some (Cond.eq (.elem (.field (zTm 8) "java/lang/String" "value" "[B") (.int (Int32.ofNat j))) (.int ((zsbyt.getD 8 []).getD j 0))) := by decide +kernel
theorem zw_el_9 : ∀ j, j < 5 → zFl[191 + j]? = some (Cond.eq (.elem (.field (zTm 9) "java/lang/String" "value" "[B") (.int (Int32.ofNat j))) (.int ((zsbyt.getD 9 []).getD j 0))) := by decide +kernel
theorem zw_el_10 : ∀ j, j < 3 → zFl[209 + j]? = some (Cond.eq (.elem (.field (zTm 10) "java/lang/String" "value" "[B") (.int (Int32.ofNat j))) (.int ((zsbyt.getD 10 []).getD j 0))) := by decide +kernel
theorem zw_el_11 : ∀ j, j < 4 → zFl[226 + j]? = some (Cond.eq (.elem (.field (zTm 11) "java/lang/String" "value" "[B") (.int (Int32.ofNat j))) (.int ((zsbyt.getD 11 []).getD j 0))) := by decide +kernel
theorem zw_el_12 : ∀ j, j < 6 → zFl[245 + j]? = some (Cond.eq (.elem (.field (zTm 12) "java/lang/String" "value" "[B") (.int (Int32.ofNat j))) (.int ((zsbyt.getD 12 []).getD j 0))) := by decide +kernel
theorem zw_el_13 : ∀ j, j < 6 → zFl[267 + j]? = some (Cond.eq (.elem (.field (zTm 13) "java/lang/String" "value" "[B") (.int (Int32.ofNat j))) (.int ((zsbyt.getD 13 []).getD j 0))) := by decide +kernel
theorem zw_el_14 : ∀ j, j < 3 → zFl[312 + j]? = some (Cond.eq (.elem (.field (zTm 14) "java/lang/String" "value" "[B") (.int (Int32.ofNat j))) (.int ((zsbyt.getD 14 []).getD j 0))) := by decide +kernel
theorem zw_el_15 : ∀ j, j < 3 → zFl[334 + j]? = some (Cond.eq (.elem (.field (zTm 15) "java/lang/String" "value" "[B") (.int (Int32.ofNat j))) (.int ((zsbyt.getD 15 []).getD j 0))) := by decide +kernel
theorem zw_el_16 : ∀ j, j < 4 → zFl[357 + j]? = some (Cond.eq (.elem (.field (zTm 16) "java/lang/String" "value" "[B") (.int (Int32.ofNat j))) (.int ((zsbyt.getD 16 []).getD j 0))) := by decide +kernel
theorem zw_el_17 : ∀ j, j < 4 → zFl[382 + j]? = some (Cond.eq (.elem (.field (zTm 17) "java/lang/String" "value" "[B") (.int (Int32.ofNat j))) (.int ((zsbyt.getD 17 []).getD j 0))) := by decide +kernel
theorem zw_el_18 : ∀ j, j < 4 → zFl[408 + j]? = some (Cond.eq (.elem (.field (zTm 18) "java/lang/String" "value" "[B") (.int (Int32.ofNat j))) (.int ((zsbyt.getD 18 []).getD j 0))) := by decide +kernel
theorem zw_el_19 : ∀ j, j < 4 → zFl[435 + j]? = some (Cond.eq (.elem (.field (zTm 19) "java/lang/String" "value" "[B") (.int (Int32.ofNat j))) (.int ((zsbyt.getD 19 []).getD j 0))) := by decide +kernel
theorem zw_el_20 : ∀ j, j < 5 → zFl[463 + j]? = some (Cond.eq (.elem (.field (zTm 20) "java/lang/String" "value" "[B") (.int (Int32.ofNat j))) (.int ((zsbyt.getD 20 []).getD j 0))) := by decide +kernel
theorem zw_el_21 : ∀ j, j < 21 → zFl[493 + j]? = some (Cond.eq (.elem (.field (zTm 21) "java/lang/String" "value" "[B") (.int (Int32.ofNat j))) (.int ((zsbyt.getD 21 []).getD j 0))) := by decide +kernel
theorem zw_el : ∀ i, i < 22 → ∀ j, j < zslen.getD i 0 → Cond.eq (.elem (.field (zTm i) "java/lang/String" "value" "[B") (.int (Int32.ofNat j))) (.int ((zsbyt.getD i []).getD j 0)) ∈ zFl := by
  intro i hi j hj
  rcases (by omega : i = 0 ∨ i = 1 ∨ i = 2 ∨ i = 3 ∨ i = 4 ∨ i = 5 ∨ i = 6 ∨ i = 7 ∨ i = 8 ∨ i = 9 ∨ i = 10 ∨ i = 11 ∨ i = 12 ∨ i = 13 ∨ i = 14 ∨ i = 15 ∨ i = 16 ∨ i = 17 ∨ i = 18 ∨ i = 19 ∨ i = 20 ∨ i = 21) with rfl | rfl | rfl | rfl | rfl | rfl | rfl | rfl | rfl | rfl | rfl | rfl | rfl | rfl | rfl | rfl | rfl | rfl | rfl | rfl | rfl | rfl
  · exact List.mem_of_getElem? (zw_el_0 j hj)
  · exact List.mem_of_getElem? (zw_el_1 j hj)
  · exact List.mem_of_getElem? (zw_el_2 j hj)
  · exact List.mem_of_getElem? (zw_el_3 j hj)
  · exact List.mem_of_getElem? (zw_el_4 j hj)
  · exact List.mem_of_getElem? (zw_el_5 j hj)
  · exact List.mem_of_getElem? (zw_el_6 j hj)
  · exact List.mem_of_getElem? (zw_el_7 j hj)
  · exact List.mem_of_getElem? (zw_el_8 j hj)
  · exact List.mem_of_getElem? (zw_el_9 j hj)
  · exact List.mem_of_getElem? (zw_el_10 j hj)
  · exact List.mem_of_getElem? (zw_el_11 j hj)
  · exact List.mem_of_getElem? (zw_el_12 j hj)
  · exact List.mem_of_getElem? (zw_el_13 j hj)
  · exact List.mem_of_getElem? (zw_el_14 j hj)
  · exact List.mem_of_getElem? (zw_el_15 j hj)
  · exact List.mem_of_getElem? (zw_el_16 j hj)
  · exact List.mem_of_getElem? (zw_el_17 j hj)
  · exact List.mem_of_getElem? (zw_el_18 j hj)
  · exact List.mem_of_getElem? (zw_el_19 j hj)
  · exact List.mem_of_getElem? (zw_el_20 j hj)
  · exact List.mem_of_getElem? (zw_el_21 j hj)
theorem zw_ne_1 : ∀ k, k < 1 → zFl[92 + k]? = some (Cond.not (.eq (zTm k) (zTm 1))) := by decide +kernel
theorem zw_ne_2 : ∀ k, k < 2 → zFl[101 + k]? = some (Cond.not (.eq (zTm k) (zTm 2))) := by decide +kernel
theorem zw_ne_3 : ∀ k, k < 3 → zFl[111 + k]? = some (Cond.not (.eq (zTm k) (zTm 3))) := by decide +kernel
theorem zw_ne_4 : ∀ k, k < 4 → zFl[123 + k]? = some (Cond.not (.eq (zTm k) (zTm 4))) := by decide +kernel
theorem zw_ne_5 : ∀ k, k < 5 → zFl[136 + k]? = some (Cond.not (.eq (zTm k) (zTm 5))) := by decide +kernel
theorem zw_ne_6 : ∀ k, k < 6 → zFl[149 + k]? = some (Cond.not (.eq (zTm k) (zTm 6))) := by decide +kernel
theorem zw_ne_7 : ∀ k, k < 7 → zFl[163 + k]? = some (Cond.not (.eq (zTm k) (zTm 7))) := by decide +kernel
theorem zw_ne_8 : ∀ k, k < 8 → zFl[179 + k]? = some (Cond.not (.eq (zTm k) (zTm 8))) := by decide +kernel
theorem zw_ne_9 : ∀ k, k < 9 → zFl[196 + k]? = some (Cond.not (.eq (zTm k) (zTm 9))) := by decide +kernel
theorem zw_ne_10 : ∀ k, k < 10 → zFl[212 + k]? = some (Cond.not (.eq (zTm k) (zTm 10))) := by decide +kernel
theorem zw_ne_11 : ∀ k, k < 11 → zFl[230 + k]? = some (Cond.not (.eq (zTm k) (zTm 11))) := by decide +kernel
theorem zw_ne_12 : ∀ k, k < 12 → zFl[251 + k]? = some (Cond.not (.eq (zTm k) (zTm 12))) := by decide +kernel
theorem zw_ne_13 : ∀ k, k < 13 → zFl[273 + k]? = some (Cond.not (.eq (zTm k) (zTm 13))) := by decide +kernel
theorem zw_ne_14 : ∀ k, k < 14 → zFl[315 + k]? = some (Cond.not (.eq (zTm k) (zTm 14))) := by decide +kernel
theorem zw_ne_15 : ∀ k, k < 15 → zFl[([337, 338, 339, 340, 341, 342, 343, 344, 345, 346, 347, 348, 349, 350, 352] : List Nat).getD k 0]? = some (Cond.not (.eq (zTm k) (zTm 15))) := by decide +kernel
theorem zw_ne_16 : ∀ k, k < 16 → zFl[([361, 362, 363, 364, 365, 366, 367, 368, 369, 370, 371, 372, 373, 374, 376, 377] : List Nat).getD k 0]? = some (Cond.not (.eq (zTm k) (zTm 16))) := by decide +kernel
theorem zw_ne_17 : ∀ k, k < 17 → zFl[([386, 387, 388, 389, 390, 391, 392, 393, 394, 395, 396, 397, 398, 399, 401, 402, 403] : List Nat).getD k 0]? = some (Cond.not (.eq (zTm k) (zTm 17))) := by decide +kernel
theorem zw_ne_18 : ∀ k, k < 18 → zFl[([412, 413, 414, 415, 416, 417, 418, 419, 420, 421, 422, 423, 424, 425, 427, 428, 429, 430] : List Nat).getD k 0]? = some (Cond.not (.eq (zTm k) (zTm 18))) := by decide +kernel
theorem zw_ne_19 : ∀ k, k < 19 → zFl[([439, 440, 441, 442, 443, 444, 445, 446, 447, 448, 449, 450, 451, 452, 454, 455, 456, 457, 458] : List Nat).getD k 0]? = some (Cond.not (.eq (zTm k) (zTm 19))) := by decide +kernel
theorem zw_ne_20 : ∀ k, k < 20 → zFl[([468, 469, 470, 471, 472, 473, 474, 475, 476, 477, 478, 479, 480, 481, 483, 484, 485, 486, 487, 488] : List Nat).getD k 0]? = some (Cond.not (.eq (zTm k) (zTm 20))) := by decide +kernel
theorem zw_ne_21 : ∀ k, k < 21 → zFl[([514, 515, 516, 517, 518, 519, 520, 521, 522, 523, 524, 525, 526, 527, 529, 530, 531, 532, 533, 534, 535] : List Nat).getD k 0]? = some (Cond.not (.eq (zTm k) (zTm 21))) := by decide +kernel
theorem zw_nel : ∀ i, i < 22 → ∀ k, k < i → Cond.not (.eq (zTm k) (zTm i)) ∈ zFl := by
  intro i hi k hk
  rcases (by omega : i = 1 ∨ i = 2 ∨ i = 3 ∨ i = 4 ∨ i = 5 ∨ i = 6 ∨ i = 7 ∨ i = 8 ∨ i = 9 ∨ i = 10 ∨ i = 11 ∨ i = 12 ∨ i = 13 ∨ i = 14 ∨ i = 15 ∨ i = 16 ∨ i = 17 ∨ i = 18 ∨ i = 19 ∨ i = 20 ∨ i = 21) with rfl | rfl | rfl | rfl | rfl | rfl | rfl | rfl | rfl | rfl | rfl | rfl | rfl | rfl | rfl | rfl | rfl | rfl | rfl | rfl | rfl
  · exact List.mem_of_getElem? (zw_ne_1 k hk)
  · exact List.mem_of_getElem? (zw_ne_2 k hk)
  · exact List.mem_of_getElem? (zw_ne_3 k hk)
  · exact List.mem_of_getElem? (zw_ne_4 k hk)
  · exact List.mem_of_getElem? (zw_ne_5 k hk)
  · exact List.mem_of_getElem? (zw_ne_6 k hk)
  · exact List.mem_of_getElem? (zw_ne_7 k hk)
  · exact List.mem_of_getElem? (zw_ne_8 k hk)
  · exact List.mem_of_getElem? (zw_ne_9 k hk)
  · exact List.mem_of_getElem? (zw_ne_10 k hk)
  · exact List.mem_of_getElem? (zw_ne_11 k hk)
  · exact List.mem_of_getElem? (zw_ne_12 k hk)
  · exact List.mem_of_getElem? (zw_ne_13 k hk)
  · exact List.mem_of_getElem? (zw_ne_14 k hk)
  · exact List.mem_of_getElem? (zw_ne_15 k hk)
  · exact List.mem_of_getElem? (zw_ne_16 k hk)
  · exact List.mem_of_getElem? (zw_ne_17 k hk)
  · exact List.mem_of_getElem? (zw_ne_18 k hk)
  · exact List.mem_of_getElem? (zw_ne_19 k hk)
  · exact List.mem_of_getElem? (zw_ne_20 k hk)
  · exact List.mem_of_getElem? (zw_ne_21 k hk)
theorem zw_ne : ∀ i, i < 22 → ∀ j, j < 22 → i ≠ j → Cond.not (.eq (zTm i) (zTm j)) ∈ zFl ∨ Cond.not (.eq (zTm j) (zTm i)) ∈ zFl := fun i hi j hj h => by
  rcases Nat.lt_or_gt_of_ne h with h | h
  · exact Or.inl (zw_nel j hj i h)
  · exact Or.inr (zw_nel i hi j h)
theorem zw_len : ∀ i, i < 22 → zslen.getD i 0 < 2 ^ 31 := by decide +kernel
theorem zw_gate : Cond.eq (Term.string "StripeTrade$Book" 82) (Term.string "StripeTrade$Law" 114) ∈ zFl := by decide +kernel
theorem zw_str : ∀ q ∈ zstr, Cond.stringRef q.1 q.2.1 q.2.2.1 ∈ lw_tbl := by decide +kernel
theorem zw_tm : ∀ q ∈ zstr, q.2.2.2 < 22 ∧ ((q.1, q.2.1) = zstm.getD q.2.2.2 ("", 0) ∨ (q.1 = "StripeTrade$Law" ∧ q.2.1 = 114 ∧ q.2.2.2 = 2)) := by decide +kernel
theorem zeqR {args : Array Value} {s : State} {t u : Term} {a : Nat} (h : (Cond.eq t u).before args s = true) (ht : t.eval args s none [] s = some (.ref a)) : u.eval args s none [] s = some (.ref a) := by
  cases hv : u.eval args s none [] s with
  | none => simp [Cond.before, Cond.holds, Cond.value, ht, hv] at h
  | some w =>
    simp only [Cond.before, Cond.holds, Cond.value, ht, hv] at h
    cases w <;> simp_all
theorem zST_of {args : Array Value} {s : State} (hgv : (Cond.and given_1 narrow_1).before args s = true) (hts : ∀ w ∈ lw_tbl, w.before args s = true) : ∃ adK adV : Nat → Nat, ∀ g : zG, g.2.2.2.2.2.1 = adK → g.2.2.2.2.2.2.1 = adV → g.2.2.2.2.2.2.2 = s.heap.size → zST g s := by
  have hs := flat_of_before _ hgv
  have hA : ∀ a : Nat, a < s.heap.size → ¬ (fun q : Nat => s.heap.size ≤ q) a := fun a h => Nat.not_le.mpr h
  obtain ⟨adK, adV, h1, h2⟩ := vk_Sof (args := args) (s := s) (N := 22) (tm := zTm) (len := zslen) (byt := zsbyt) (A := fun q : Nat => s.heap.size ≤ q) zw_len (fun i hi => hs _ (zw_ex i hi)) (fun i hi => hs _ (zw_co i hi)) (fun i hi => hs _ (zw_ar i hi)) (fun i hi => hs _ (zw_le i hi)) (fun i hi j hj => hs _ (zw_el i hi j hj)) (fun i j hi hj hij => (zw_ne i hi j hj hij).imp (fun h => hs _ h) (fun h => hs _ h)) hA
  refine ⟨adK, adV, fun g e1 e2 e3 => ⟨Nat.le_of_eq e3, ?_, fun q hq => ?_, ?_, ?_, ?_, ?_, ?_⟩⟩
  · rw [e1, e2]
    exact h1.narrow (fun q h => by unfold zB at h; rw [e3] at h; exact h)
  · rw [e1]
    obtain ⟨t1, t2⟩ := zw_tm q hq
    refine vk_R.of (hts _ (zw_str q hq)) ?_
    rcases t2 with t2 | ⟨t2, t3, t4⟩
    · have h3 := h2 q.2.2.2 t1
      unfold zTm at h3
      rw [← t2] at h3
      exact h3
    · rw [t2, t3, t4]
      exact zeqR (hs _ zw_gate) (h2 2 (by decide))
  · exact va_Zof (hts _ (zu3 (List.mem_of_getElem? (i := 88) (by rfl)))) (hts _ (zw_lt mw_151)) (va_eqt (hs _ (by decide +kernel))) (fun a h => by unfold zB; rw [e3]; exact hA a h)
  · exact vx_Zqof (hts _ (zu2 (List.mem_of_getElem? (i := 238) (by rfl)))) (hts _ (zw_lt mw_146)) (hs _ (by decide +kernel)) (fun a h => by unfold zB; rw [e3]; exact hA a h)
  · exact vx_Zqof (hts _ (zu3 (List.mem_of_getElem? (i := 0) (by rfl)))) (hts _ (zw_lt mw_146)) (hs _ (by decide +kernel)) (fun a h => by unfold zB; rw [e3]; exact hA a h)
  · exact va_Zqof (hts _ (zu3 (List.mem_of_getElem? (i := 104) (by rfl)))) (hts _ (zw_lt mw_153)) (hs _ (by decide +kernel)) (fun a h => by unfold zB; rw [e3]; exact hA a h)
  · exact va_Nc.of (hs _ (by decide +kernel))
theorem zNW_of {args : Array Value} {s : State} (hts : ∀ w ∈ lw_tbl, w.before args s = true) : zNW s := by
  intro w hw
  have hz : zisN w = true := (List.mem_filter.mp hw).2
  have h1 := hts w (List.mem_append_right _ (List.mem_filter.mp hw).1)
  cases w <;> first | exact va_Nw.of rfl h1 | (simp [zisN] at hz)
theorem zarr_of {args : Array Value} {s : State} {ty : FieldType} (h : (Cond.arrayClass ty).before args s = true) : ∃ cA : ClassId, ArrOfT s cA ty ∧ s.vm.findClass ("[" ++ ty.toString) = some cA := by
  obtain ⟨c, k, comp, h1, h2, h3⟩ := Cond.arrayClass_spec (args := args) (first := s) (s := s) (o := none) (idx := []) h
  exact ⟨c, fun n z => ⟨fun k h => (by cases h), k, h2, comp, h3⟩, h1⟩
theorem zarr2_of {s : State} (h : zAO s) : ∃ cA : ClassId, ArrOfT s cA (.array .int) ∧ s.vm.findClass ("[" ++ (FieldType.array .int).toString) = some cA := by
  unfold zAO at h
  simp only [Cond.before, Cond.holds, Cond.value] at h
  cases hf : s.vm.findClass (FieldType.array .int).toString with
  | none => rw [hf] at h; simp at h
  | some comp =>
    rw [hf] at h
    simp only [Option.bind_some] at h
    generalize hF : (s.vm.classes.findIdx? fun (x : Class) => match x.kind with | .array component _ => component == comp | _ => false) = fi at h
    cases fi with
    | none => simp at h
    | some c =>
      simp only [Option.bind_some] at h
      cases hk : s.vm.classes[c]? with
      | none => rw [hk] at h; simp at h
      | some k =>
        rw [hk] at h
        simp only [Option.map_some] at h
        cases hkk : k.kind with
        | array comp' ty =>
          rw [hkk] at h
          simp at h
          obtain ⟨h1, h2⟩ := h
          exact ⟨c, fun n z => ⟨fun k h => (by cases h), k, hk, comp', by rw [hkk, h1]⟩, h2⟩
        | _ => rw [hkk] at h; simp at h
theorem zwAL : Cond.arrayClass .long ∈ AW := List.mem_filter.mpr ⟨zu8 (List.mem_of_getElem? (i := 119) (by rfl)), rfl⟩
theorem zK_of {args : Array Value} {s : State} (hts : ∀ w ∈ lw_tbl, w.before args s = true) (hAO : zAO s) : ∃ (D : va_G) (cI cT cL : ClassId), va_K D zcl [(cI, .int), (cT, .array .int), (cL, .long)] s := by
  have hAW : ∀ w ∈ AW, w.before args s = true := fun w hw => hts w (zw_lt hw)
  obtain ⟨c0, i0, k0⟩ := u_known (C := RX0) (T := TX0) (N := 6) (n := 6) hAW uin_X0 (hAW _ mw_214)
  obtain ⟨c1, i1, k1⟩ := u_known (C := RX1) (T := TX1) (N := 3) (n := 3) hAW uin_X1 (hAW _ mw_453)
  obtain ⟨c2, i2, k2⟩ := u_known (C := RX2) (T := TX2) (N := 4) (n := 4) hAW uin_X2 (hAW _ mw_253)
  obtain ⟨c3, i3, k3⟩ := u_known (C := RX3) (T := TX3) (N := 4) (n := 4) hAW uin_X3 (hAW _ mw_396)
  obtain ⟨c4, i4, k4⟩ := u_known (C := RX4) (T := TX4) (N := 9) (n := 9) hAW uin_X4 (hAW _ mw_359)
  obtain ⟨c5, i5, k5⟩ := u_known (C := RX5) (T := TX5) (N := 3) (n := 3) hAW uin_X5 (hAW _ mw_208)
  obtain ⟨c6, i6, k6⟩ := u_known (C := RX6) (T := TX6) (N := 8) (n := 8) hAW uin_X6 (hAW _ mw_418)
  obtain ⟨c7, i7, k7⟩ := u_known (C := RX7) (T := TX7) (N := 9) (n := 9) hAW uin_X7 (hAW _ mw_298)
  obtain ⟨c8, i8, k8⟩ := u_known (C := RX8) (T := TX8) (N := 8) (n := 8) hAW uin_X8 (hAW _ mw_168)
  obtain ⟨c9, i9, k9⟩ := u_known (C := RX9) (T := TX9) (N := 13) (n := 13) hAW uin_X9 (hAW _ mw_160)
  obtain ⟨c10, i10, k10⟩ := u_known (C := RX10) (T := TX10) (N := 42) (n := 42) hAW uin_X10 (hAW _ mw_1372)
  obtain ⟨cI, a1, a2⟩ := zarr_of (hAW _ zwAC)
  obtain ⟨cT, b1, b2⟩ := zarr2_of hAO
  obtain ⟨cL, d1, d2⟩ := zarr_of (hAW _ zwAL)
  refine ⟨(fun k => [c0, c1, c2, c3, c4, c5, c6, c7, c8, c9, c10].getD k c0, fun k => [i0, i1, i2, i3, i4, i5, i6, i7, i8, i9, i10].getD k i0), cI, cT, cL, fun k q hq => ?_, fun k q hq => ?_⟩
  · match k, hq with
    | 0, hq => cases hq; exact k0
    | 1, hq => cases hq; exact k1
    | 2, hq => cases hq; exact k2
    | 3, hq => cases hq; exact k3
    | 4, hq => cases hq; exact k4
    | 5, hq => cases hq; exact k5
    | 6, hq => cases hq; exact k6
    | 7, hq => cases hq; exact k7
    | 8, hq => cases hq; exact k8
    | 9, hq => cases hq; exact k9
    | 10, hq => cases hq; exact k10
    | k + 11, hq => simp [zcl] at hq
  · match k, hq with
    | 0, hq => cases hq; exact ⟨a1, a2⟩
    | 1, hq => cases hq; exact ⟨b1, b2⟩
    | 2, hq => cases hq; exact ⟨d1, d2⟩
    | k + 3, hq => simp at hq
