/-! the constructors of the class -/
section ZIT
variable {p : Program} {l : Launch} {e : Env} {R : Room} {s : State} {m : MethodId} {args : Array Value} {below : List Frame} {meth : Method} {c : Code} {H : Heap} {locs : List Loc} {cells slots : Nat} {Q : State → Prop}
variable {g : zG} {own : String} {cc : ByteArray} {nL : Nat} {ret : Option FieldType} {pc : Nat} {ls : Array Slot} {rest : List Value} {A : Nat → Prop} {H0 : Heap}
theorem zInT (hC : zC g own cc nL ret p s m meth c args) (hAO : zAO s) {C : String} {T : u_T} {N ci index i2 : Nat} (hin : ∀ w ∈ u_ws C T N, w ∈ AW) (ty : Nat → FieldType) (hty : ∀ k, k < N → parseFieldDescriptor (T k).2.2.1 = some (ty k)) (hcl : Cond.classLink own index C ∈ AW) (hinst : Cond.instantiable C N ∈ AW) (hini : Cond.initialized C ∈ AW)
    {o : Nat × va_E} {F Rw Fs Rs : va_W} (hP : va_P g.1 zcl ((o :: F) ++ Rw) H) (hD : va_D A ((o :: F) ++ Rw)) (hS : va_S A s.heap H locs) (hB : ∀ q, A q → zB g q) {b : Nat} (hA : ∀ q, b ≤ q → A q) (hc : zcl[ci]? = some (C, T, N)) {fs : List Value} (hfs : ∀ j, j < N → defaultValue (ty j) = vp_V fs j) (hh : H.size = b)
    {y : MethodName} {bytes : ByteArray} {maxL k mc ms : Nat} (hM : zNj l y bytes maxL k mc ms g [(b, .inr (ci, fs))] (Fs ++ Rs) b (b + 1)) (hl : zML own i2 y s) (hy : zYI y bytes maxL)
    (hls : ls.size = nL) (hw : ((.ref b :: rest : List Value).map fun v => v.category).sum ≤ 8) (hR : k + 1 ≤ R.frames ∧ 8 + (maxL + 11) + 60 * k ≤ R.locals) (hcs : cells + 1 + mc ≤ R.cells ∧ slots + N + ms ≤ R.slots) (hd1 : decode cc pc = .ok (.new index, 3)) (hd2 : decode cc (pc + 3) = .ok (.dup, 1)) (hd3 : decode cc (pc + 4) = .ok (.invokespecial i2, 3))
    (kk : ∀ (H1 : Heap) (locs1 : List Loc), va_P g.1 zcl ((o :: (F ++ Fs)) ++ (Rw ++ Rs)) H1 → va_D A ((o :: (F ++ Fs)) ++ (Rw ++ Rs)) → va_S A s.heap H1 locs1 → H1.size = b + 1 + mc → W p l e R s m args below meth c H1 locs1 (cells + 1 + mc) (slots + N + ms) Q (F0 m (pc + 7) ls (.ref b :: rest))) : W p l e R s m args below meth c H locs cells slots Q (F0 m pc ls rest) :=
  zIn hC hAO hin ty hty hcl hinst hini hP hD hS hB hA hc hfs hh hM hl hy hls hw hR hcs hd1 hd2 hd3 (fun H1 locs1 hP1 hD1 hS1 hh1 => kk H1 locs1 hP1 hD1 hS1 hh1)
theorem zputFT (hC : zC g own cc nL ret p s m meth c args) {a : Nat} {C : String} {T : u_T} {N ci index : Nat} (huin : ∀ w ∈ u_ws C T N, w ∈ AW) (ty0 : Nat → FieldType) (hty : ∀ k, k < N → parseFieldDescriptor (T k).2.2.1 = some (ty0 k)) (hnm : ∀ a, a < N → ∀ b, b < N → a ≠ b → (T a).2.1 ≠ (T b).2.1) (hc : zcl[ci]? = some (C, T, N)) {fs fs' : List Value} {F Rw : va_W} (hP : va_P g.1 zcl (((a, .inr (ci, fs)) :: F) ++ Rw) H) (hD : va_D A (((a, .inr (ci, fs)) :: F) ++ Rw)) (hS : va_S A H0 H locs) (j : Nat) (hj : j < N) {v : Value} {ty : FieldType}
    (hl : (Cond.fieldLink own index (T j).1 (T j).2.1 (T j).2.2.1).before args s = true) (hfin : (T j).2.2.2 = true) (hin : meth.name = "<init>") (hdecl : (T j).1 = own) (hd : parseFieldDescriptor (T j).2.2.1 = some ty) (hn : narrow ty v = v) (hfit : fits ty v = true) (hlen : j < fs.length) (hfs' : fs.set j v = fs') (hdg : decode cc pc = .ok (.putfield index, 3))
    (kk : ∀ (H1 : Heap) (locs1 : List Loc), va_P g.1 zcl (((a, .inr (ci, fs')) :: F) ++ Rw) H1 → va_D A (((a, .inr (ci, fs')) :: F) ++ Rw) → va_S A H0 H1 locs1 → W p l e R s m args below meth c H1 locs1 cells slots Q (F0 m (pc + 3) ls rest)) : W p l e R s m args below meth c H locs cells slots Q (F0 m pc ls (v :: .ref a :: rest)) := by
  subst hfs'
  exact zputF hC huin ty0 hty hnm hc hP hD hS 0 rfl j hj hl hfin hin hdecl hd hn hfit hlen hdg (fun H1 locs1 hP1 hS1 => kk H1 locs1 hP1 (zDfst hD rfl) hS1)
theorem zN1T (hC : zC g own cc nL ret p s m meth c args) {o : Nat × va_E} {F Rw : va_W} (hP : va_P g.1 zcl ((o :: F) ++ Rw) H) (hD : va_D A ((o :: F) ++ Rw)) (hS : va_S A H0 H locs)
    {n : Int32} {N h : Nat} (hh : H.size = h) (hA : A h) (hn : ¬ n < 0) (hN : n.toNatClampNeg = N) (hbytes : N * 4 ≤ 536870912) (hcells : cells + 1 ≤ R.cells) (hslots : slots + N ≤ R.slots) (hdg : decode cc pc = .ok (.newarray .int, 2))
    (kk : ∀ (H1 : Heap), va_P g.1 zcl ((o :: (F ++ [(h, .inl (g.2.2.1, N, .inl (fun _ => 0)))])) ++ Rw) H1 → va_D A ((o :: (F ++ [(h, .inl (g.2.2.1, N, .inl (fun _ => 0)))])) ++ Rw) → va_S A H0 H1 locs → W p l e R s m args below meth c H1 locs (cells + 1) (slots + N) Q (F0 m (pc + 2) ls (.ref h :: rest))) : W p l e R s m args below meth c H locs cells slots Q (F0 m pc ls (.int n :: rest)) :=
  zN1 hC hP hD hS hh hA hn hN hbytes hcells hslots hdg (fun H1 hP1 hD1 hS1 => kk H1 hP1 hD1 hS1)
end ZIT
theorem yi_X8 : zYI yX8_init cX8_init 1 := ⟨mw_170, mw_136, mw_171, by decide +kernel, rfl⟩
theorem zfs_X8 : ∀ j, j < 8 → defaultValue (tyX8 j) = vp_V [.null, .int 0, .int 0, .int 0, .int 0, .int 0, .int 0, .int 0] j := by
  intro j hj
  rcases (show j = 0 ∨ j = 1 ∨ j = 2 ∨ j = 3 ∨ j = 4 ∨ j = 5 ∨ j = 6 ∨ j = 7 by omega) with rfl | rfl | rfl | rfl | rfl | rfl | rfl | rfl <;> rfl
def zF_X8 (g : zG) (h0 sz : Nat) : va_W := [(h0, .inr (8, [.ref sz, .int 0, .int 0, .int 0, .int 0, .int 0, .int 0, .int (-1)])), (sz, .inl (g.2.2.1, 600, .inl (fun _ => 0)))]
def zR_X8 (g : zG) (sz : Nat) : va_W := []
set_option maxHeartbeats 4000000 in
set_option maxRecDepth 100000 in
theorem ci_X8 (hZ : zMnaS) (l : Launch) {g : zG} {h0 sz : Nat} (hb0 : zB g h0) (hlt : h0 < sz) : zNj l yX8_init cX8_init 1 1 1 600 g [(h0, .inr (8, [.null, .int 0, .int 0, .int 0, .int 0, .int 0, .int 0, .int 0]))] (zF_X8 g h0 sz ++ zR_X8 g sz) h0 sz := by
  refine Met.ofW (cc := cX8_init) (maxL := 1) (ret := none) (by decide +kernel) rfl ?_
  intro p e s m args below meth c s₁ B hml hv
  obtain ⟨rfl, ⟨hsz, hP, hK, hST⟩, hAO⟩ := hv
  subst hsz
  have hC := zstart (own := RX8) rfl B hml hK hST
  have hin : meth.name = "<init>" := (name_of_methodNamed B.named B.method).1
  have hl := lv_entry ([.ref h0]) (n := 1) (Nat.le_of_ble_eq_true rfl)
  rw [lg_entry_eq]
  generalize (lg_sl ([.ref h0]) ++ List.replicate (1 - (lg_sl ([.ref h0])).length) Slot.unset).toArray = ls at hl ⊢
  have hl : lv_has ls 1 [(0, .ref h0)] := hl
  obtain ⟨hx, hb, hr, hml, hown, hts, hK, hlk, hST⟩ := id hC
  have hB : ∀ q, zA h0 s.heap.size q → zB g q := fun q h => h.elim (fun h => by rw [h]; exact hb0) (fun h => Nat.le_trans hST.1 h)
  have hA : ∀ q, s.heap.size ≤ q → zA h0 s.heap.size q := fun q h => Or.inr h
  have hS : va_S (zA h0 s.heap.size) s.heap s.heap [] := va_S.rf
  have hP : va_P g.1 zcl ([(h0, .inr (8, [.null, .int 0, .int 0, .int 0, .int 0, .int 0, .int 0, .int 0]))] ++ []) s.heap := hP
  have hD : va_D (zA h0 s.heap.size) ([(h0, .inr (8, [.null, .int 0, .int 0, .int 0, .int 0, .int 0, .int 0, .int 0]))] ++ []) := ⟨fun i j x y hi hj _ => by
    have h1 := (List.getElem?_eq_some_iff.mp hi).1
    have h2 := (List.getElem?_eq_some_iff.mp hj).1
    have h3 : ([(h0, .inr (8, [.null, .int 0, .int 0, .int 0, .int 0, .int 0, .int 0, .int 0]))] ++ [] : va_W).length = 1 := rfl
    omega, fun k q hq => by
    have h1 : q ∈ ([(h0, .inr (8, [.null, .int 0, .int 0, .int 0, .int 0, .int 0, .int 0, .int 0]))] ++ [] : va_W) := List.mem_of_getElem? hq
    rcases List.mem_cons.mp h1 with h | h
    · rw [h]; exact Or.inl rfl
    · cases h⟩
  refine lv_aload_n hx hb dX8_init_0 rfl (lv_at hl 0 rfl) ?_
  refine W.objInit hx hb hown (hC.word mw_172) (hC.word mw_165) (hC.word mw_166) rfl (by rw [hml]; exact hl.1) rfl dX8_init_1 (Nat.le_of_ble_eq_true rfl) (Nat.le_of_ble_eq_true rfl) ?_
  refine W.eq (g2 := F0 m 4 ls []) rfl ?_
  refine lv_aload_n hx hb dX8_init_4 rfl (lv_at hl 0 rfl) ?_
  refine lv_sipush (v := 600) hx hb dX8_init_5 (by decide) ?_
  refine zsz0 hS (fun hh => ?_)
  refine zN1 (N := 600) (h := s.heap.size) hC hP hD hS hh (hA _ (Nat.le_refl _)) (by decide) (by decide) (by decide) (Nat.le_of_ble_eq_true rfl) (Nat.le_of_ble_eq_true rfl) dX8_init_8 (fun H hP hD hS => ?_)
  have hP : va_P g.1 zcl ([(h0, .inr (8, [.null, .int 0, .int 0, .int 0, .int 0, .int 0, .int 0, .int 0])), (s.heap.size, .inl (g.2.2.1, 600, .inl (fun _ => 0)))] ++ []) H := hP
  have hD : va_D (zA h0 s.heap.size) ([(h0, .inr (8, [.null, .int 0, .int 0, .int 0, .int 0, .int 0, .int 0, .int 0])), (s.heap.size, .inl (g.2.2.1, 600, .inl (fun _ => 0)))] ++ []) := hD
  refine W.widen (k := 1) (n := 600) (Nat.le_of_ble_eq_true rfl) (Nat.le_of_ble_eq_true rfl) ?_
  refine zputF hC uin_X8 tyX8 tyX8_ok nmX8 rfl hP hD hS 0 rfl 0 (by decide) (hC.word mw_173) rfl hin rfl (tyX8_ok 0 (by decide)) rfl rfl (Nat.le_of_ble_eq_true rfl) dX8_init_10 (fun H locs hP hS => ?_)
  have hD := zDfst (ws' := ([(h0, .inr (8, [.ref s.heap.size, .int 0, .int 0, .int 0, .int 0, .int 0, .int 0, .int 0])), (s.heap.size, .inl (g.2.2.1, 600, .inl (fun _ => 0)))] ++ [])) hD rfl
  have hP : va_P g.1 zcl ([(h0, .inr (8, [.ref s.heap.size, .int 0, .int 0, .int 0, .int 0, .int 0, .int 0, .int 0])), (s.heap.size, .inl (g.2.2.1, 600, .inl (fun _ => 0)))] ++ []) H := hP
  refine lv_aload_n hx hb dX8_init_13 rfl (lv_at hl 0 rfl) ?_
  refine lv_iconst (v := -1) hx hb dX8_init_14 (by decide) ?_
  refine zput hC uin_X8 tyX8 tyX8_ok nmX8 rfl hP hD hS 0 rfl 7 (by decide) (hC.fl mw_187) rfl (by decide +kernel) (Nat.le_of_ble_eq_true rfl) dX8_init_15 (fun H locs hP hS => ?_)
  have hD := zDfst (ws' := ([(h0, .inr (8, [.ref s.heap.size, .int 0, .int 0, .int 0, .int 0, .int 0, .int 0, .int (-1)])), (s.heap.size, .inl (g.2.2.1, 600, .inl (fun _ => 0)))] ++ [])) hD rfl
  have hP : va_P g.1 zcl ([(h0, .inr (8, [.ref s.heap.size, .int 0, .int 0, .int 0, .int 0, .int 0, .int 0, .int (-1)])), (s.heap.size, .inl (g.2.2.1, 600, .inl (fun _ => 0)))] ++ []) H := hP
  refine zszm (n := 1) hP (List.mem_append_left _ (List.mem_of_getElem? (i := 1) rfl)) rfl rfl (fun hz => ?_)
  refine W.widen (k := 1) (n := 600) (Nat.le_of_ble_eq_true rfl) (Nat.le_of_ble_eq_true rfl) ?_
  exact W.vret hx hb hr (fun t ht hW => ⟨⟨(), rfl, trivial, (congrArg Array.size ht).trans hz, by rw [← ht] at hP; exact hP, hD⟩, hS.F ht⟩) hS.2.2 dX8_init_18 hlk
theorem yi_X0 : zYI yX0_init cX0_init 1 := ⟨mw_216, mw_138, mw_217, by decide +kernel, rfl⟩
theorem zfs_X0 : ∀ j, j < 6 → defaultValue (tyX0 j) = vp_V [.null, .null, .null, .null, .int 0, .int 0] j := by
  intro j hj
  rcases (show j = 0 ∨ j = 1 ∨ j = 2 ∨ j = 3 ∨ j = 4 ∨ j = 5 by omega) with rfl | rfl | rfl | rfl | rfl | rfl <;> rfl
def zF_X0 (g : zG) (h0 sz : Nat) : va_W := [(h0, .inr (0, [.ref sz, .ref (sz + 1), .ref (sz + 2), .ref (sz + 3), .int 0, .int 0])), (sz, .inl (g.2.2.1, 5, .inl (fun _ => 0))), ((sz + 1), .inl (g.2.2.1, 5, .inl (fun _ => 0))), ((sz + 2), .inl (g.2.2.1, 5, .inl (fun _ => 0))), zOut g (sz + 3) 5]
def zR_X0 (g : zG) (sz : Nat) : va_W := zRw g (sz + 4) 5 24
set_option maxHeartbeats 4000000 in
set_option maxRecDepth 100000 in
theorem ci_X0 (hZ : zMnaS) (l : Launch) {g : zG} {h0 sz : Nat} (hb0 : zB g h0) (hlt : h0 < sz) : zNj l yX0_init cX0_init 1 1 9 140 g [(h0, .inr (0, [.null, .null, .null, .null, .int 0, .int 0]))] (zF_X0 g h0 sz ++ zR_X0 g sz) h0 sz := by
  refine Met.ofW (cc := cX0_init) (maxL := 1) (ret := none) (by decide +kernel) rfl ?_
  intro p e s m args below meth c s₁ B hml hv
  obtain ⟨rfl, ⟨hsz, hP, hK, hST⟩, hAO⟩ := hv
  subst hsz
  have hC := zstart (own := RX0) rfl B hml hK hST
  have hin : meth.name = "<init>" := (name_of_methodNamed B.named B.method).1
  have hl := lv_entry ([.ref h0]) (n := 1) (Nat.le_of_ble_eq_true rfl)
  rw [lg_entry_eq]
  generalize (lg_sl ([.ref h0]) ++ List.replicate (1 - (lg_sl ([.ref h0])).length) Slot.unset).toArray = ls at hl ⊢
  have hl : lv_has ls 1 [(0, .ref h0)] := hl
  obtain ⟨hx, hb, hr, hml, hown, hts, hK, hlk, hST⟩ := id hC
  have hB : ∀ q, zA h0 s.heap.size q → zB g q := fun q h => h.elim (fun h => by rw [h]; exact hb0) (fun h => Nat.le_trans hST.1 h)
  have hA : ∀ q, s.heap.size ≤ q → zA h0 s.heap.size q := fun q h => Or.inr h
  have hS : va_S (zA h0 s.heap.size) s.heap s.heap [] := va_S.rf
  have hP : va_P g.1 zcl ([(h0, .inr (0, [.null, .null, .null, .null, .int 0, .int 0]))] ++ []) s.heap := hP
  have hD : va_D (zA h0 s.heap.size) ([(h0, .inr (0, [.null, .null, .null, .null, .int 0, .int 0]))] ++ []) := ⟨fun i j x y hi hj _ => by
    have h1 := (List.getElem?_eq_some_iff.mp hi).1
    have h2 := (List.getElem?_eq_some_iff.mp hj).1
    have h3 : ([(h0, .inr (0, [.null, .null, .null, .null, .int 0, .int 0]))] ++ [] : va_W).length = 1 := rfl
    omega, fun k q hq => by
    have h1 : q ∈ ([(h0, .inr (0, [.null, .null, .null, .null, .int 0, .int 0]))] ++ [] : va_W) := List.mem_of_getElem? hq
    rcases List.mem_cons.mp h1 with h | h
    · rw [h]; exact Or.inl rfl
    · cases h⟩
  refine lv_aload_n hx hb dX0_init_0 rfl (lv_at hl 0 rfl) ?_
  refine W.objInit hx hb hown (hC.word mw_218) (hC.word mw_165) (hC.word mw_166) rfl (by rw [hml]; exact hl.1) rfl dX0_init_1 (Nat.le_of_ble_eq_true rfl) (Nat.le_of_ble_eq_true rfl) ?_
  refine W.eq (g2 := F0 m 4 ls []) rfl ?_
  refine lv_aload_n hx hb dX0_init_4 rfl (lv_at hl 0 rfl) ?_
  refine lv_iconst (v := 5) hx hb dX0_init_5 (by decide) ?_
  refine zsz0 hS (fun hh => ?_)
  refine zN1 (N := 5) (h := s.heap.size) hC hP hD hS hh (hA _ (Nat.le_refl _)) (by decide) (by decide) (by decide) (Nat.le_of_ble_eq_true rfl) (Nat.le_of_ble_eq_true rfl) dX0_init_6 (fun H hP hD hS => ?_)
  have hP : va_P g.1 zcl ([(h0, .inr (0, [.null, .null, .null, .null, .int 0, .int 0])), (s.heap.size, .inl (g.2.2.1, 5, .inl (fun _ => 0)))] ++ []) H := hP
  have hD : va_D (zA h0 s.heap.size) ([(h0, .inr (0, [.null, .null, .null, .null, .int 0, .int 0])), (s.heap.size, .inl (g.2.2.1, 5, .inl (fun _ => 0)))] ++ []) := hD
  refine W.widen (k := 1) (n := 5) (Nat.le_of_ble_eq_true rfl) (Nat.le_of_ble_eq_true rfl) ?_
  refine zputF hC uin_X0 tyX0 tyX0_ok nmX0 rfl hP hD hS 0 rfl 0 (by decide) (hC.word mw_221) rfl hin rfl (tyX0_ok 0 (by decide)) rfl rfl (Nat.le_of_ble_eq_true rfl) dX0_init_8 (fun H locs hP hS => ?_)
  have hD := zDfst (ws' := ([(h0, .inr (0, [.ref s.heap.size, .null, .null, .null, .int 0, .int 0])), (s.heap.size, .inl (g.2.2.1, 5, .inl (fun _ => 0)))] ++ [])) hD rfl
  have hP : va_P g.1 zcl ([(h0, .inr (0, [.ref s.heap.size, .null, .null, .null, .int 0, .int 0])), (s.heap.size, .inl (g.2.2.1, 5, .inl (fun _ => 0)))] ++ []) H := hP
  refine lv_aload_n hx hb dX0_init_11 rfl (lv_at hl 0 rfl) ?_
  refine lv_iconst (v := 5) hx hb dX0_init_12 (by decide) ?_
  refine zszm (n := 1) hP (List.mem_append_left _ (List.mem_of_getElem? (i := 1) rfl)) rfl rfl (fun hh => ?_)
  refine zN1 (N := 5) (h := (s.heap.size + 1)) hC hP hD hS hh (hA _ (Nat.le_add_right _ _)) (by decide) (by decide) (by decide) (Nat.le_of_ble_eq_true rfl) (Nat.le_of_ble_eq_true rfl) dX0_init_13 (fun H hP hD hS => ?_)
  have hP : va_P g.1 zcl ([(h0, .inr (0, [.ref s.heap.size, .null, .null, .null, .int 0, .int 0])), (s.heap.size, .inl (g.2.2.1, 5, .inl (fun _ => 0))), ((s.heap.size + 1), .inl (g.2.2.1, 5, .inl (fun _ => 0)))] ++ []) H := hP
  have hD : va_D (zA h0 s.heap.size) ([(h0, .inr (0, [.ref s.heap.size, .null, .null, .null, .int 0, .int 0])), (s.heap.size, .inl (g.2.2.1, 5, .inl (fun _ => 0))), ((s.heap.size + 1), .inl (g.2.2.1, 5, .inl (fun _ => 0)))] ++ []) := hD
  refine W.widen (k := 2) (n := 10) (Nat.le_of_ble_eq_true rfl) (Nat.le_of_ble_eq_true rfl) ?_
  refine zputF hC uin_X0 tyX0 tyX0_ok nmX0 rfl hP hD hS 0 rfl 1 (by decide) (hC.word mw_224) rfl hin rfl (tyX0_ok 1 (by decide)) rfl rfl (Nat.le_of_ble_eq_true rfl) dX0_init_15 (fun H locs hP hS => ?_)
  have hD := zDfst (ws' := ([(h0, .inr (0, [.ref s.heap.size, .ref (s.heap.size + 1), .null, .null, .int 0, .int 0])), (s.heap.size, .inl (g.2.2.1, 5, .inl (fun _ => 0))), ((s.heap.size + 1), .inl (g.2.2.1, 5, .inl (fun _ => 0)))] ++ [])) hD rfl
  have hP : va_P g.1 zcl ([(h0, .inr (0, [.ref s.heap.size, .ref (s.heap.size + 1), .null, .null, .int 0, .int 0])), (s.heap.size, .inl (g.2.2.1, 5, .inl (fun _ => 0))), ((s.heap.size + 1), .inl (g.2.2.1, 5, .inl (fun _ => 0)))] ++ []) H := hP
  refine lv_aload_n hx hb dX0_init_18 rfl (lv_at hl 0 rfl) ?_
  refine lv_iconst (v := 5) hx hb dX0_init_19 (by decide) ?_
  refine zszm (n := 2) hP (List.mem_append_left _ (List.mem_of_getElem? (i := 2) rfl)) rfl rfl (fun hh => ?_)
  refine zN1 (N := 5) (h := (s.heap.size + 2)) hC hP hD hS hh (hA _ (Nat.le_add_right _ _)) (by decide) (by decide) (by decide) (Nat.le_of_ble_eq_true rfl) (Nat.le_of_ble_eq_true rfl) dX0_init_20 (fun H hP hD hS => ?_)
  have hP : va_P g.1 zcl ([(h0, .inr (0, [.ref s.heap.size, .ref (s.heap.size + 1), .null, .null, .int 0, .int 0])), (s.heap.size, .inl (g.2.2.1, 5, .inl (fun _ => 0))), ((s.heap.size + 1), .inl (g.2.2.1, 5, .inl (fun _ => 0))), ((s.heap.size + 2), .inl (g.2.2.1, 5, .inl (fun _ => 0)))] ++ []) H := hP
  have hD : va_D (zA h0 s.heap.size) ([(h0, .inr (0, [.ref s.heap.size, .ref (s.heap.size + 1), .null, .null, .int 0, .int 0])), (s.heap.size, .inl (g.2.2.1, 5, .inl (fun _ => 0))), ((s.heap.size + 1), .inl (g.2.2.1, 5, .inl (fun _ => 0))), ((s.heap.size + 2), .inl (g.2.2.1, 5, .inl (fun _ => 0)))] ++ []) := hD
  refine W.widen (k := 3) (n := 15) (Nat.le_of_ble_eq_true rfl) (Nat.le_of_ble_eq_true rfl) ?_
  refine zputF hC uin_X0 tyX0 tyX0_ok nmX0 rfl hP hD hS 0 rfl 2 (by decide) (hC.word mw_227) rfl hin rfl (tyX0_ok 2 (by decide)) rfl rfl (Nat.le_of_ble_eq_true rfl) dX0_init_22 (fun H locs hP hS => ?_)
  have hD := zDfst (ws' := ([(h0, .inr (0, [.ref s.heap.size, .ref (s.heap.size + 1), .ref (s.heap.size + 2), .null, .int 0, .int 0])), (s.heap.size, .inl (g.2.2.1, 5, .inl (fun _ => 0))), ((s.heap.size + 1), .inl (g.2.2.1, 5, .inl (fun _ => 0))), ((s.heap.size + 2), .inl (g.2.2.1, 5, .inl (fun _ => 0)))] ++ [])) hD rfl
  have hP : va_P g.1 zcl ([(h0, .inr (0, [.ref s.heap.size, .ref (s.heap.size + 1), .ref (s.heap.size + 2), .null, .int 0, .int 0])), (s.heap.size, .inl (g.2.2.1, 5, .inl (fun _ => 0))), ((s.heap.size + 1), .inl (g.2.2.1, 5, .inl (fun _ => 0))), ((s.heap.size + 2), .inl (g.2.2.1, 5, .inl (fun _ => 0)))] ++ []) H := hP
  refine lv_aload_n hx hb dX0_init_25 rfl (lv_at hl 0 rfl) ?_
  refine lv_iconst (v := 5) hx hb dX0_init_26 (by decide) ?_
  refine lv_bipush (v := 24) hx hb dX0_init_27 (by decide) ?_
  refine zszm (n := 3) hP (List.mem_append_left _ (List.mem_of_getElem? (i := 3) rfl)) rfl rfl (fun hh => ?_)
  refine zN2 (N := 5) (K := 24) (h := (s.heap.size + 3)) hZ hC hAO hP hD hS hh (fun q h => hA q (Nat.le_trans (Nat.le_add_right _ _) h)) mw_219 (by decide) (by decide) (by decide) (by decide) (by decide) (by decide) (Nat.le_of_ble_eq_true rfl) (Nat.le_of_ble_eq_true rfl) dX0_init_29 (fun H hP hD hS => ?_)
  have hP : va_P g.1 zcl ([(h0, .inr (0, [.ref s.heap.size, .ref (s.heap.size + 1), .ref (s.heap.size + 2), .null, .int 0, .int 0])), (s.heap.size, .inl (g.2.2.1, 5, .inl (fun _ => 0))), ((s.heap.size + 1), .inl (g.2.2.1, 5, .inl (fun _ => 0))), ((s.heap.size + 2), .inl (g.2.2.1, 5, .inl (fun _ => 0))), zOut g (s.heap.size + 3) 5] ++ zRw g (s.heap.size + 4) 5 24) H := hP
  have hD : va_D (zA h0 s.heap.size) ([(h0, .inr (0, [.ref s.heap.size, .ref (s.heap.size + 1), .ref (s.heap.size + 2), .null, .int 0, .int 0])), (s.heap.size, .inl (g.2.2.1, 5, .inl (fun _ => 0))), ((s.heap.size + 1), .inl (g.2.2.1, 5, .inl (fun _ => 0))), ((s.heap.size + 2), .inl (g.2.2.1, 5, .inl (fun _ => 0))), zOut g (s.heap.size + 3) 5] ++ zRw g (s.heap.size + 4) 5 24) := hD
  refine W.widen (k := 9) (n := 140) (Nat.le_of_ble_eq_true rfl) (Nat.le_of_ble_eq_true rfl) ?_
  refine zputF hC uin_X0 tyX0 tyX0_ok nmX0 rfl hP hD hS 0 rfl 3 (by decide) (hC.word mw_230) rfl hin rfl (tyX0_ok 3 (by decide)) rfl rfl (Nat.le_of_ble_eq_true rfl) dX0_init_33 (fun H locs hP hS => ?_)
  have hD := zDfst (ws' := ([(h0, .inr (0, [.ref s.heap.size, .ref (s.heap.size + 1), .ref (s.heap.size + 2), .ref (s.heap.size + 3), .int 0, .int 0])), (s.heap.size, .inl (g.2.2.1, 5, .inl (fun _ => 0))), ((s.heap.size + 1), .inl (g.2.2.1, 5, .inl (fun _ => 0))), ((s.heap.size + 2), .inl (g.2.2.1, 5, .inl (fun _ => 0))), zOut g (s.heap.size + 3) 5] ++ zRw g (s.heap.size + 4) 5 24)) hD rfl
  have hP : va_P g.1 zcl ([(h0, .inr (0, [.ref s.heap.size, .ref (s.heap.size + 1), .ref (s.heap.size + 2), .ref (s.heap.size + 3), .int 0, .int 0])), (s.heap.size, .inl (g.2.2.1, 5, .inl (fun _ => 0))), ((s.heap.size + 1), .inl (g.2.2.1, 5, .inl (fun _ => 0))), ((s.heap.size + 2), .inl (g.2.2.1, 5, .inl (fun _ => 0))), zOut g (s.heap.size + 3) 5] ++ zRw g (s.heap.size + 4) 5 24) H := hP
  refine zszm (n := 9) hP (List.mem_append_right _ (zRw_mem (i := 4) (by decide))) rfl rfl (fun hz => ?_)
  refine W.widen (k := 9) (n := 140) (Nat.le_of_ble_eq_true rfl) (Nat.le_of_ble_eq_true rfl) ?_
  exact W.vret hx hb hr (fun t ht hW => ⟨⟨(), rfl, trivial, (congrArg Array.size ht).trans hz, by rw [← ht] at hP; exact hP, hD⟩, hS.F ht⟩) hS.2.2 dX0_init_36 hlk
theorem yi_X2 : zYI yX2_init cX2_init 1 := ⟨mw_255, mw_139, mw_256, by decide +kernel, rfl⟩
theorem zfs_X2 : ∀ j, j < 4 → defaultValue (tyX2 j) = vp_V [.null, .null, .null, .int 0] j := by
  intro j hj
  rcases (show j = 0 ∨ j = 1 ∨ j = 2 ∨ j = 3 by omega) with rfl | rfl | rfl | rfl <;> rfl
def zF_X2 (g : zG) (h0 sz : Nat) : va_W := [(h0, .inr (2, [.ref sz, .ref (sz + 1), .ref (sz + 2), .int (nI 5)])), (sz, .inl (g.2.2.1, 150, .inl (zUk (fun _ => 0)))), ((sz + 1), .inl (g.2.2.1, 150, .inl (zUv (fun _ => 0)))), ((sz + 2), .inl (g.2.2.1, 150, .inl (fun _ => 0)))]
def zR_X2 (g : zG) (sz : Nat) : va_W := []
set_option maxHeartbeats 4000000 in
set_option maxRecDepth 100000 in
theorem ci_X2 (hZ : zMnaS) (l : Launch) {g : zG} {h0 sz : Nat} (hb0 : zB g h0) (hlt : h0 < sz) : zNj l yX2_init cX2_init 1 3 3 450 g [(h0, .inr (2, [.null, .null, .null, .int 0]))] (zF_X2 g h0 sz ++ zR_X2 g sz) h0 sz := by
  refine Met.ofW (cc := cX2_init) (maxL := 1) (ret := none) (by decide +kernel) rfl ?_
  intro p e s m args below meth c s₁ B hml hv
  obtain ⟨rfl, ⟨hsz, hP, hK, hST⟩, hAO⟩ := hv
  subst hsz
  have hC := zstart (own := RX2) rfl B hml hK hST
  have hin : meth.name = "<init>" := (name_of_methodNamed B.named B.method).1
  have hl := lv_entry ([.ref h0]) (n := 1) (Nat.le_of_ble_eq_true rfl)
  rw [lg_entry_eq]
  generalize (lg_sl ([.ref h0]) ++ List.replicate (1 - (lg_sl ([.ref h0])).length) Slot.unset).toArray = ls at hl ⊢
  have hl : lv_has ls 1 [(0, .ref h0)] := hl
  obtain ⟨hx, hb, hr, hml, hown, hts, hK, hlk, hST⟩ := id hC
  have hB : ∀ q, zA h0 s.heap.size q → zB g q := fun q h => h.elim (fun h => by rw [h]; exact hb0) (fun h => Nat.le_trans hST.1 h)
  have hA : ∀ q, s.heap.size ≤ q → zA h0 s.heap.size q := fun q h => Or.inr h
  have hS : va_S (zA h0 s.heap.size) s.heap s.heap [] := va_S.rf
  have hP : va_P g.1 zcl ([(h0, .inr (2, [.null, .null, .null, .int 0]))] ++ []) s.heap := hP
  have hD : va_D (zA h0 s.heap.size) ([(h0, .inr (2, [.null, .null, .null, .int 0]))] ++ []) := ⟨fun i j x y hi hj _ => by
    have h1 := (List.getElem?_eq_some_iff.mp hi).1
    have h2 := (List.getElem?_eq_some_iff.mp hj).1
    have h3 : ([(h0, .inr (2, [.null, .null, .null, .int 0]))] ++ [] : va_W).length = 1 := rfl
    omega, fun k q hq => by
    have h1 : q ∈ ([(h0, .inr (2, [.null, .null, .null, .int 0]))] ++ [] : va_W) := List.mem_of_getElem? hq
    rcases List.mem_cons.mp h1 with h | h
    · rw [h]; exact Or.inl rfl
    · cases h⟩
  refine lv_aload_n hx hb dX2_init_0 rfl (lv_at hl 0 rfl) ?_
  refine W.objInit hx hb hown (hC.word mw_257) (hC.word mw_165) (hC.word mw_166) rfl (by rw [hml]; exact hl.1) rfl dX2_init_1 (Nat.le_of_ble_eq_true rfl) (Nat.le_of_ble_eq_true rfl) ?_
  refine W.eq (g2 := F0 m 4 ls []) rfl ?_
  refine lv_aload_n hx hb dX2_init_4 rfl (lv_at hl 0 rfl) ?_
  refine lv_sipush (v := 150) hx hb dX2_init_5 (by decide) ?_
  refine zsz0 hS (fun hh => ?_)
  refine zN1 (N := 150) (h := s.heap.size) hC hP hD hS hh (hA _ (Nat.le_refl _)) (by decide) (by decide) (by decide) (Nat.le_of_ble_eq_true rfl) (Nat.le_of_ble_eq_true rfl) dX2_init_8 (fun H hP hD hS => ?_)
  have hP : va_P g.1 zcl ([(h0, .inr (2, [.null, .null, .null, .int 0])), (s.heap.size, .inl (g.2.2.1, 150, .inl (fun _ => 0)))] ++ []) H := hP
  have hD : va_D (zA h0 s.heap.size) ([(h0, .inr (2, [.null, .null, .null, .int 0])), (s.heap.size, .inl (g.2.2.1, 150, .inl (fun _ => 0)))] ++ []) := hD
  refine W.widen (k := 1) (n := 150) (Nat.le_of_ble_eq_true rfl) (Nat.le_of_ble_eq_true rfl) ?_
  refine zputF hC uin_X2 tyX2 tyX2_ok nmX2 rfl hP hD hS 0 rfl 0 (by decide) (hC.word mw_270) rfl hin rfl (tyX2_ok 0 (by decide)) rfl rfl (Nat.le_of_ble_eq_true rfl) dX2_init_10 (fun H locs hP hS => ?_)
  have hD := zDfst (ws' := ([(h0, .inr (2, [.ref s.heap.size, .null, .null, .int 0])), (s.heap.size, .inl (g.2.2.1, 150, .inl (fun _ => 0)))] ++ [])) hD rfl
  have hP : va_P g.1 zcl ([(h0, .inr (2, [.ref s.heap.size, .null, .null, .int 0])), (s.heap.size, .inl (g.2.2.1, 150, .inl (fun _ => 0)))] ++ []) H := hP
  refine lv_aload_n hx hb dX2_init_13 rfl (lv_at hl 0 rfl) ?_
  refine lv_sipush (v := 150) hx hb dX2_init_14 (by decide) ?_
  refine zszm (n := 1) hP (List.mem_append_left _ (List.mem_of_getElem? (i := 1) rfl)) rfl rfl (fun hh => ?_)
  refine zN1 (N := 150) (h := (s.heap.size + 1)) hC hP hD hS hh (hA _ (Nat.le_add_right _ _)) (by decide) (by decide) (by decide) (Nat.le_of_ble_eq_true rfl) (Nat.le_of_ble_eq_true rfl) dX2_init_17 (fun H hP hD hS => ?_)
  have hP : va_P g.1 zcl ([(h0, .inr (2, [.ref s.heap.size, .null, .null, .int 0])), (s.heap.size, .inl (g.2.2.1, 150, .inl (fun _ => 0))), ((s.heap.size + 1), .inl (g.2.2.1, 150, .inl (fun _ => 0)))] ++ []) H := hP
  have hD : va_D (zA h0 s.heap.size) ([(h0, .inr (2, [.ref s.heap.size, .null, .null, .int 0])), (s.heap.size, .inl (g.2.2.1, 150, .inl (fun _ => 0))), ((s.heap.size + 1), .inl (g.2.2.1, 150, .inl (fun _ => 0)))] ++ []) := hD
  refine W.widen (k := 2) (n := 300) (Nat.le_of_ble_eq_true rfl) (Nat.le_of_ble_eq_true rfl) ?_
  refine zputF hC uin_X2 tyX2 tyX2_ok nmX2 rfl hP hD hS 0 rfl 1 (by decide) (hC.word mw_271) rfl hin rfl (tyX2_ok 1 (by decide)) rfl rfl (Nat.le_of_ble_eq_true rfl) dX2_init_19 (fun H locs hP hS => ?_)
  have hD := zDfst (ws' := ([(h0, .inr (2, [.ref s.heap.size, .ref (s.heap.size + 1), .null, .int 0])), (s.heap.size, .inl (g.2.2.1, 150, .inl (fun _ => 0))), ((s.heap.size + 1), .inl (g.2.2.1, 150, .inl (fun _ => 0)))] ++ [])) hD rfl
  have hP : va_P g.1 zcl ([(h0, .inr (2, [.ref s.heap.size, .ref (s.heap.size + 1), .null, .int 0])), (s.heap.size, .inl (g.2.2.1, 150, .inl (fun _ => 0))), ((s.heap.size + 1), .inl (g.2.2.1, 150, .inl (fun _ => 0)))] ++ []) H := hP
  refine lv_aload_n hx hb dX2_init_22 rfl (lv_at hl 0 rfl) ?_
  refine lv_sipush (v := 150) hx hb dX2_init_23 (by decide) ?_
  refine zszm (n := 2) hP (List.mem_append_left _ (List.mem_of_getElem? (i := 2) rfl)) rfl rfl (fun hh => ?_)
  refine zN1 (N := 150) (h := (s.heap.size + 2)) hC hP hD hS hh (hA _ (Nat.le_add_right _ _)) (by decide) (by decide) (by decide) (Nat.le_of_ble_eq_true rfl) (Nat.le_of_ble_eq_true rfl) dX2_init_26 (fun H hP hD hS => ?_)
  have hP : va_P g.1 zcl ([(h0, .inr (2, [.ref s.heap.size, .ref (s.heap.size + 1), .null, .int 0])), (s.heap.size, .inl (g.2.2.1, 150, .inl (fun _ => 0))), ((s.heap.size + 1), .inl (g.2.2.1, 150, .inl (fun _ => 0))), ((s.heap.size + 2), .inl (g.2.2.1, 150, .inl (fun _ => 0)))] ++ []) H := hP
  have hD : va_D (zA h0 s.heap.size) ([(h0, .inr (2, [.ref s.heap.size, .ref (s.heap.size + 1), .null, .int 0])), (s.heap.size, .inl (g.2.2.1, 150, .inl (fun _ => 0))), ((s.heap.size + 1), .inl (g.2.2.1, 150, .inl (fun _ => 0))), ((s.heap.size + 2), .inl (g.2.2.1, 150, .inl (fun _ => 0)))] ++ []) := hD
  refine W.widen (k := 3) (n := 450) (Nat.le_of_ble_eq_true rfl) (Nat.le_of_ble_eq_true rfl) ?_
  refine zputF hC uin_X2 tyX2 tyX2_ok nmX2 rfl hP hD hS 0 rfl 2 (by decide) (hC.word mw_272) rfl hin rfl (tyX2_ok 2 (by decide)) rfl rfl (Nat.le_of_ble_eq_true rfl) dX2_init_28 (fun H locs hP hS => ?_)
  have hD := zDfst (ws' := ([(h0, .inr (2, [.ref s.heap.size, .ref (s.heap.size + 1), .ref (s.heap.size + 2), .int 0])), (s.heap.size, .inl (g.2.2.1, 150, .inl (fun _ => 0))), ((s.heap.size + 1), .inl (g.2.2.1, 150, .inl (fun _ => 0))), ((s.heap.size + 2), .inl (g.2.2.1, 150, .inl (fun _ => 0)))] ++ [])) hD rfl
  have hP : va_P g.1 zcl ([(h0, .inr (2, [.ref s.heap.size, .ref (s.heap.size + 1), .ref (s.heap.size + 2), .int 0])), (s.heap.size, .inl (g.2.2.1, 150, .inl (fun _ => 0))), ((s.heap.size + 1), .inl (g.2.2.1, 150, .inl (fun _ => 0))), ((s.heap.size + 2), .inl (g.2.2.1, 150, .inl (fun _ => 0)))] ++ []) H := hP
  refine lv_aload_n hx hb dX2_init_31 rfl (lv_at hl 0 rfl) ?_
  have hPL : va_P g.1 zcl (zLw g h0 s.heap.size (s.heap.size + 1) (s.heap.size + 2) (fun _ => 0) (fun _ => 0) (fun _ => 0) 0) H := hP
  have hDL : va_D (zA h0 s.heap.size) (zLw g h0 s.heap.size (s.heap.size + 1) (s.heap.size + 2) (fun _ => 0) (fun _ => 0) (fun _ => 0) 0) := hD
  refine zcallVv (As := []) (rest := []) hC hPL hS hB (fun q h => h) (cl_setUsual l 0 _ hB hDL) (hC.ml mw_258) yo_X2_setUsual 0 rfl rfl rfl rfl hl.1 rfl (Nat.le_of_ble_eq_true rfl) ⟨Nat.le_of_ble_eq_true rfl, Nat.le_of_ble_eq_true rfl⟩ ⟨Nat.le_of_ble_eq_true rfl, Nat.le_of_ble_eq_true rfl⟩ dX2_init_32 (fun H locs hP hS _ _ => ?_)
  have hD := zDfst (ws' := ([(h0, .inr (2, [.ref s.heap.size, .ref (s.heap.size + 1), .ref (s.heap.size + 2), .int (nI 5)])), (s.heap.size, .inl (g.2.2.1, 150, .inl (zUk (fun _ => 0)))), ((s.heap.size + 1), .inl (g.2.2.1, 150, .inl (zUv (fun _ => 0)))), ((s.heap.size + 2), .inl (g.2.2.1, 150, .inl (fun _ => 0)))] ++ [])) hD rfl
  have hP : va_P g.1 zcl ([(h0, .inr (2, [.ref s.heap.size, .ref (s.heap.size + 1), .ref (s.heap.size + 2), .int (nI 5)])), (s.heap.size, .inl (g.2.2.1, 150, .inl (zUk (fun _ => 0)))), ((s.heap.size + 1), .inl (g.2.2.1, 150, .inl (zUv (fun _ => 0)))), ((s.heap.size + 2), .inl (g.2.2.1, 150, .inl (fun _ => 0)))] ++ []) H := hP
  refine zszm (n := 3) hP (List.mem_append_left _ (List.mem_of_getElem? (i := 3) rfl)) rfl rfl (fun hz => ?_)
  refine W.widen (k := 3) (n := 450) (Nat.le_of_ble_eq_true rfl) (Nat.le_of_ble_eq_true rfl) ?_
  exact W.vret hx hb hr (fun t ht hW => ⟨⟨(), rfl, trivial, (congrArg Array.size ht).trans hz, by rw [← ht] at hP; exact hP, hD⟩, hS.F ht⟩) hS.2.2 dX2_init_35 hlk
theorem yi_X5 : zYI yX5_init cX5_init 1 := ⟨mw_210, mw_137, mw_211, by decide +kernel, rfl⟩
theorem zfs_X5 : ∀ j, j < 3 → defaultValue (tyX5 j) = vp_V [.null, .null, .null] j := by
  intro j hj
  rcases (show j = 0 ∨ j = 1 ∨ j = 2 by omega) with rfl | rfl | rfl <;> rfl
def zF_X5 (g : zG) (h0 sz : Nat) : va_W := (h0, .inr (5, [.ref sz, .ref (sz + 10), .ref (sz + 14)])) :: ((([] ++ zF_X0 g sz (sz + 1)) ++ zF_X2 g (sz + 10) ((sz + 10) + 1)) ++ [((sz + 14), .inl (g.2.2.1, 8, .inl (fun _ => 0)))])
def zR_X5 (g : zG) (sz : Nat) : va_W := (([] ++ zR_X0 g (sz + 1)) ++ zR_X2 g ((sz + 10) + 1))
set_option maxHeartbeats 4000000 in
set_option maxRecDepth 100000 in
theorem ci_X5 (hZ : zMnaS) (l : Launch) {g : zG} {h0 sz : Nat} (hb0 : zB g h0) (hlt : h0 < sz) : zNj l yX5_init cX5_init 1 4 15 608 g [(h0, .inr (5, [.null, .null, .null]))] (zF_X5 g h0 sz ++ zR_X5 g sz) h0 sz := by
  refine Met.ofW (cc := cX5_init) (maxL := 1) (ret := none) (by decide +kernel) rfl ?_
  intro p e s m args below meth c s₁ B hml hv
  obtain ⟨rfl, ⟨hsz, hP, hK, hST⟩, hAO⟩ := hv
  subst hsz
  have hC := zstart (own := RX5) rfl B hml hK hST
  have hin : meth.name = "<init>" := (name_of_methodNamed B.named B.method).1
  have hl := lv_entry ([.ref h0]) (n := 1) (Nat.le_of_ble_eq_true rfl)
  rw [lg_entry_eq]
  generalize (lg_sl ([.ref h0]) ++ List.replicate (1 - (lg_sl ([.ref h0])).length) Slot.unset).toArray = ls at hl ⊢
  have hl : lv_has ls 1 [(0, .ref h0)] := hl
  obtain ⟨hx, hb, hr, hml, hown, hts, hK, hlk, hST⟩ := id hC
  have hB : ∀ q, zA h0 s.heap.size q → zB g q := fun q h => h.elim (fun h => by rw [h]; exact hb0) (fun h => Nat.le_trans hST.1 h)
  have hA : ∀ q, s.heap.size ≤ q → zA h0 s.heap.size q := fun q h => Or.inr h
  have hS : va_S (zA h0 s.heap.size) s.heap s.heap [] := va_S.rf
  have hP : va_P g.1 zcl ([(h0, .inr (5, [.null, .null, .null]))] ++ []) s.heap := hP
  have hD : va_D (zA h0 s.heap.size) ([(h0, .inr (5, [.null, .null, .null]))] ++ []) := ⟨fun i j x y hi hj _ => by
    have h1 := (List.getElem?_eq_some_iff.mp hi).1
    have h2 := (List.getElem?_eq_some_iff.mp hj).1
    have h3 : ([(h0, .inr (5, [.null, .null, .null]))] ++ [] : va_W).length = 1 := rfl
    omega, fun k q hq => by
    have h1 : q ∈ ([(h0, .inr (5, [.null, .null, .null]))] ++ [] : va_W) := List.mem_of_getElem? hq
    rcases List.mem_cons.mp h1 with h | h
    · rw [h]; exact Or.inl rfl
    · cases h⟩
  refine lv_aload_n hx hb dX5_init_0 rfl (lv_at hl 0 rfl) ?_
  refine W.objInit hx hb hown (hC.word mw_212) (hC.word mw_165) (hC.word mw_166) rfl (by rw [hml]; exact hl.1) rfl dX5_init_1 (Nat.le_of_ble_eq_true rfl) (Nat.le_of_ble_eq_true rfl) ?_
  refine W.eq (g2 := F0 m 4 ls []) rfl ?_
  refine lv_aload_n hx hb dX5_init_4 rfl (lv_at hl 0 rfl) ?_
  refine zsz0 hS (fun hh => ?_)
  refine zInT (N := 6) (ci := 0) (fs := [.null, .null, .null, .null, .int 0, .int 0]) (b := s.heap.size) hC hAO uin_X0 tyX0 tyX0_ok mw_213 mw_214 mw_138 hP hD hS hB (fun q h => hA q h) rfl zfs_X0 hh (ci_X0 hZ l (hB _ (hA _ (Nat.le_refl _))) (Nat.lt_succ_self _)) (hC.mn mn_81) yi_X0 hl.1 (Nat.le_of_ble_eq_true rfl) ⟨Nat.le_of_ble_eq_true rfl, Nat.le_of_ble_eq_true rfl⟩ ⟨Nat.le_of_ble_eq_true rfl, Nat.le_of_ble_eq_true rfl⟩ dX5_init_5 dX5_init_8 dX5_init_9 (fun H locs hP hD hS hh => ?_)
  refine W.widen (k := 10) (n := 146) (Nat.le_of_ble_eq_true rfl) (Nat.le_of_ble_eq_true rfl) ?_
  refine zputFT (fs' := [.ref s.heap.size, .null, .null]) hC uin_X5 tyX5 tyX5_ok nmX5 rfl hP hD hS 0 (by decide) (hC.word mw_283) rfl hin rfl (tyX5_ok 0 (by decide)) rfl rfl (Nat.le_of_ble_eq_true rfl) rfl dX5_init_12 (fun H locs hP hD hS => ?_)
  refine lv_aload_n hx hb dX5_init_15 rfl (lv_at hl 0 rfl) ?_
  refine zszm (n := 10) hP (List.mem_append_right _ (List.mem_append_right _ (zRw_mem (i := 4) (by decide)))) rfl rfl (fun hh => ?_)
  refine zInT (N := 4) (ci := 2) (fs := [.null, .null, .null, .int 0]) (b := (s.heap.size + 10)) hC hAO uin_X2 tyX2 tyX2_ok mw_252 mw_253 mw_139 hP hD hS hB (fun q h => hA q (Nat.le_trans (Nat.le_add_right _ _) h)) rfl zfs_X2 hh (ci_X2 hZ l (hB _ (hA _ (Nat.le_add_right _ _))) (Nat.lt_succ_self _)) (hC.mn mn_120) yi_X2 hl.1 (Nat.le_of_ble_eq_true rfl) ⟨Nat.le_of_ble_eq_true rfl, Nat.le_of_ble_eq_true rfl⟩ ⟨Nat.le_of_ble_eq_true rfl, Nat.le_of_ble_eq_true rfl⟩ dX5_init_16 dX5_init_19 dX5_init_20 (fun H locs hP hD hS hh => ?_)
  refine W.widen (k := 14) (n := 600) (Nat.le_of_ble_eq_true rfl) (Nat.le_of_ble_eq_true rfl) ?_
  refine zputFT (fs' := [.ref s.heap.size, .ref (s.heap.size + 10), .null]) hC uin_X5 tyX5 tyX5_ok nmX5 rfl hP hD hS 1 (by decide) (hC.word mw_286) rfl hin rfl (tyX5_ok 1 (by decide)) rfl rfl (Nat.le_of_ble_eq_true rfl) rfl dX5_init_23 (fun H locs hP hD hS => ?_)
  refine lv_aload_n hx hb dX5_init_26 rfl (lv_at hl 0 rfl) ?_
  refine lv_bipush (v := 8) hx hb dX5_init_27 (by decide) ?_
  refine zszm (n := 14) hP (List.mem_append_left _ (List.mem_cons_of_mem _ (List.mem_append_right _ (List.mem_of_getElem? (i := 3) rfl)))) rfl rfl (fun hh => ?_)
  refine zN1T (N := 8) (h := (s.heap.size + 14)) hC hP hD hS hh (hA _ (Nat.le_add_right _ _)) (by decide) (by decide) (by decide) (Nat.le_of_ble_eq_true rfl) (Nat.le_of_ble_eq_true rfl) dX5_init_29 (fun H hP hD hS => ?_)
  refine W.widen (k := 15) (n := 608) (Nat.le_of_ble_eq_true rfl) (Nat.le_of_ble_eq_true rfl) ?_
  refine zputFT (fs' := [.ref s.heap.size, .ref (s.heap.size + 10), .ref (s.heap.size + 14)]) hC uin_X5 tyX5 tyX5_ok nmX5 rfl hP hD hS 2 (by decide) (hC.word mw_288) rfl hin rfl (tyX5_ok 2 (by decide)) rfl rfl (Nat.le_of_ble_eq_true rfl) rfl dX5_init_31 (fun H locs hP hD hS => ?_)
  refine zszm (n := 15) hP (List.mem_append_left _ (List.mem_cons_of_mem _ (List.mem_append_right _ (List.mem_of_getElem? (i := 0) rfl)))) rfl rfl (fun hz => ?_)
  refine W.widen (k := 15) (n := 608) (Nat.le_of_ble_eq_true rfl) (Nat.le_of_ble_eq_true rfl) ?_
  exact W.vret hx hb hr (fun t ht hW => ⟨⟨(), rfl, trivial, (congrArg Array.size ht).trans hz, by rw [← ht] at hP; exact hP, hD⟩, hS.F ht⟩) hS.2.2 dX5_init_34 hlk
theorem yi_X7 : zYI yX7_init cX7_init 1 := ⟨mw_300, mw_140, mw_301, by decide +kernel, rfl⟩
theorem zfs_X7 : ∀ j, j < 9 → defaultValue (tyX7 j) = vp_V [.null, .null, .null, .null, .null, .null, .int 0, .int 0, .int 0] j := by
  intro j hj
  rcases (show j = 0 ∨ j = 1 ∨ j = 2 ∨ j = 3 ∨ j = 4 ∨ j = 5 ∨ j = 6 ∨ j = 7 ∨ j = 8 by omega) with rfl | rfl | rfl | rfl | rfl | rfl | rfl | rfl | rfl <;> rfl
def zF_X7 (g : zG) (h0 sz : Nat) : va_W := [(h0, .inr (7, [.ref sz, .ref (sz + 1), .ref (sz + 2), .ref (sz + 3), .ref (sz + 4), .ref (sz + 5), .int 0, .int 0, .int (100)])), (sz, .inl (g.2.2.1, 8, .inl (fun _ => 0))), ((sz + 1), .inl (g.2.2.1, 8, .inl (fun _ => 0))), ((sz + 2), .inl (g.2.2.1, 8, .inl (fun _ => 0))), ((sz + 3), .inl (g.2.2.1, 8, .inl (fun _ => 0))), ((sz + 4), .inl (g.2.2.1, 5, .inl (fun _ => 0))), ((sz + 5), .inl (g.2.2.1, 5, .inl (fun _ => 0)))]
def zR_X7 (g : zG) (sz : Nat) : va_W := []
set_option maxHeartbeats 4000000 in
set_option maxRecDepth 100000 in
theorem ci_X7 (hZ : zMnaS) (l : Launch) {g : zG} {h0 sz : Nat} (hb0 : zB g h0) (hlt : h0 < sz) : zNj l yX7_init cX7_init 1 1 6 42 g [(h0, .inr (7, [.null, .null, .null, .null, .null, .null, .int 0, .int 0, .int 0]))] (zF_X7 g h0 sz ++ zR_X7 g sz) h0 sz := by
  refine Met.ofW (cc := cX7_init) (maxL := 1) (ret := none) (by decide +kernel) rfl ?_
  intro p e s m args below meth c s₁ B hml hv
  obtain ⟨rfl, ⟨hsz, hP, hK, hST⟩, hAO⟩ := hv
  subst hsz
  have hC := zstart (own := RX7) rfl B hml hK hST
  have hin : meth.name = "<init>" := (name_of_methodNamed B.named B.method).1
  have hl := lv_entry ([.ref h0]) (n := 1) (Nat.le_of_ble_eq_true rfl)
  rw [lg_entry_eq]
  generalize (lg_sl ([.ref h0]) ++ List.replicate (1 - (lg_sl ([.ref h0])).length) Slot.unset).toArray = ls at hl ⊢
  have hl : lv_has ls 1 [(0, .ref h0)] := hl
  obtain ⟨hx, hb, hr, hml, hown, hts, hK, hlk, hST⟩ := id hC
  have hB : ∀ q, zA h0 s.heap.size q → zB g q := fun q h => h.elim (fun h => by rw [h]; exact hb0) (fun h => Nat.le_trans hST.1 h)
  have hA : ∀ q, s.heap.size ≤ q → zA h0 s.heap.size q := fun q h => Or.inr h
  have hS : va_S (zA h0 s.heap.size) s.heap s.heap [] := va_S.rf
  have hP : va_P g.1 zcl ([(h0, .inr (7, [.null, .null, .null, .null, .null, .null, .int 0, .int 0, .int 0]))] ++ []) s.heap := hP
  have hD : va_D (zA h0 s.heap.size) ([(h0, .inr (7, [.null, .null, .null, .null, .null, .null, .int 0, .int 0, .int 0]))] ++ []) := ⟨fun i j x y hi hj _ => by
    have h1 := (List.getElem?_eq_some_iff.mp hi).1
    have h2 := (List.getElem?_eq_some_iff.mp hj).1
    have h3 : ([(h0, .inr (7, [.null, .null, .null, .null, .null, .null, .int 0, .int 0, .int 0]))] ++ [] : va_W).length = 1 := rfl
    omega, fun k q hq => by
    have h1 : q ∈ ([(h0, .inr (7, [.null, .null, .null, .null, .null, .null, .int 0, .int 0, .int 0]))] ++ [] : va_W) := List.mem_of_getElem? hq
    rcases List.mem_cons.mp h1 with h | h
    · rw [h]; exact Or.inl rfl
    · cases h⟩
  refine lv_aload_n hx hb dX7_init_0 rfl (lv_at hl 0 rfl) ?_
  refine W.objInit hx hb hown (hC.word mw_302) (hC.word mw_165) (hC.word mw_166) rfl (by rw [hml]; exact hl.1) rfl dX7_init_1 (Nat.le_of_ble_eq_true rfl) (Nat.le_of_ble_eq_true rfl) ?_
  refine W.eq (g2 := F0 m 4 ls []) rfl ?_
  refine lv_aload_n hx hb dX7_init_4 rfl (lv_at hl 0 rfl) ?_
  refine lv_bipush (v := 8) hx hb dX7_init_5 (by decide) ?_
  refine zsz0 hS (fun hh => ?_)
  refine zN1 (N := 8) (h := s.heap.size) hC hP hD hS hh (hA _ (Nat.le_refl _)) (by decide) (by decide) (by decide) (Nat.le_of_ble_eq_true rfl) (Nat.le_of_ble_eq_true rfl) dX7_init_7 (fun H hP hD hS => ?_)
  have hP : va_P g.1 zcl ([(h0, .inr (7, [.null, .null, .null, .null, .null, .null, .int 0, .int 0, .int 0])), (s.heap.size, .inl (g.2.2.1, 8, .inl (fun _ => 0)))] ++ []) H := hP
  have hD : va_D (zA h0 s.heap.size) ([(h0, .inr (7, [.null, .null, .null, .null, .null, .null, .int 0, .int 0, .int 0])), (s.heap.size, .inl (g.2.2.1, 8, .inl (fun _ => 0)))] ++ []) := hD
  refine W.widen (k := 1) (n := 8) (Nat.le_of_ble_eq_true rfl) (Nat.le_of_ble_eq_true rfl) ?_
  refine zputF hC uin_X7 tyX7 tyX7_ok nmX7 rfl hP hD hS 0 rfl 0 (by decide) (hC.word mw_303) rfl hin rfl (tyX7_ok 0 (by decide)) rfl rfl (Nat.le_of_ble_eq_true rfl) dX7_init_9 (fun H locs hP hS => ?_)
  have hD := zDfst (ws' := ([(h0, .inr (7, [.ref s.heap.size, .null, .null, .null, .null, .null, .int 0, .int 0, .int 0])), (s.heap.size, .inl (g.2.2.1, 8, .inl (fun _ => 0)))] ++ [])) hD rfl
  have hP : va_P g.1 zcl ([(h0, .inr (7, [.ref s.heap.size, .null, .null, .null, .null, .null, .int 0, .int 0, .int 0])), (s.heap.size, .inl (g.2.2.1, 8, .inl (fun _ => 0)))] ++ []) H := hP
  refine lv_aload_n hx hb dX7_init_12 rfl (lv_at hl 0 rfl) ?_
  refine lv_bipush (v := 8) hx hb dX7_init_13 (by decide) ?_
  refine zszm (n := 1) hP (List.mem_append_left _ (List.mem_of_getElem? (i := 1) rfl)) rfl rfl (fun hh => ?_)
  refine zN1 (N := 8) (h := (s.heap.size + 1)) hC hP hD hS hh (hA _ (Nat.le_add_right _ _)) (by decide) (by decide) (by decide) (Nat.le_of_ble_eq_true rfl) (Nat.le_of_ble_eq_true rfl) dX7_init_15 (fun H hP hD hS => ?_)
  have hP : va_P g.1 zcl ([(h0, .inr (7, [.ref s.heap.size, .null, .null, .null, .null, .null, .int 0, .int 0, .int 0])), (s.heap.size, .inl (g.2.2.1, 8, .inl (fun _ => 0))), ((s.heap.size + 1), .inl (g.2.2.1, 8, .inl (fun _ => 0)))] ++ []) H := hP
  have hD : va_D (zA h0 s.heap.size) ([(h0, .inr (7, [.ref s.heap.size, .null, .null, .null, .null, .null, .int 0, .int 0, .int 0])), (s.heap.size, .inl (g.2.2.1, 8, .inl (fun _ => 0))), ((s.heap.size + 1), .inl (g.2.2.1, 8, .inl (fun _ => 0)))] ++ []) := hD
  refine W.widen (k := 2) (n := 16) (Nat.le_of_ble_eq_true rfl) (Nat.le_of_ble_eq_true rfl) ?_
  refine zputF hC uin_X7 tyX7 tyX7_ok nmX7 rfl hP hD hS 0 rfl 1 (by decide) (hC.word mw_307) rfl hin rfl (tyX7_ok 1 (by decide)) rfl rfl (Nat.le_of_ble_eq_true rfl) dX7_init_17 (fun H locs hP hS => ?_)
  have hD := zDfst (ws' := ([(h0, .inr (7, [.ref s.heap.size, .ref (s.heap.size + 1), .null, .null, .null, .null, .int 0, .int 0, .int 0])), (s.heap.size, .inl (g.2.2.1, 8, .inl (fun _ => 0))), ((s.heap.size + 1), .inl (g.2.2.1, 8, .inl (fun _ => 0)))] ++ [])) hD rfl
  have hP : va_P g.1 zcl ([(h0, .inr (7, [.ref s.heap.size, .ref (s.heap.size + 1), .null, .null, .null, .null, .int 0, .int 0, .int 0])), (s.heap.size, .inl (g.2.2.1, 8, .inl (fun _ => 0))), ((s.heap.size + 1), .inl (g.2.2.1, 8, .inl (fun _ => 0)))] ++ []) H := hP
  refine lv_aload_n hx hb dX7_init_20 rfl (lv_at hl 0 rfl) ?_
  refine lv_bipush (v := 8) hx hb dX7_init_21 (by decide) ?_
  refine zszm (n := 2) hP (List.mem_append_left _ (List.mem_of_getElem? (i := 2) rfl)) rfl rfl (fun hh => ?_)
  refine zN1 (N := 8) (h := (s.heap.size + 2)) hC hP hD hS hh (hA _ (Nat.le_add_right _ _)) (by decide) (by decide) (by decide) (Nat.le_of_ble_eq_true rfl) (Nat.le_of_ble_eq_true rfl) dX7_init_23 (fun H hP hD hS => ?_)
  have hP : va_P g.1 zcl ([(h0, .inr (7, [.ref s.heap.size, .ref (s.heap.size + 1), .null, .null, .null, .null, .int 0, .int 0, .int 0])), (s.heap.size, .inl (g.2.2.1, 8, .inl (fun _ => 0))), ((s.heap.size + 1), .inl (g.2.2.1, 8, .inl (fun _ => 0))), ((s.heap.size + 2), .inl (g.2.2.1, 8, .inl (fun _ => 0)))] ++ []) H := hP
  have hD : va_D (zA h0 s.heap.size) ([(h0, .inr (7, [.ref s.heap.size, .ref (s.heap.size + 1), .null, .null, .null, .null, .int 0, .int 0, .int 0])), (s.heap.size, .inl (g.2.2.1, 8, .inl (fun _ => 0))), ((s.heap.size + 1), .inl (g.2.2.1, 8, .inl (fun _ => 0))), ((s.heap.size + 2), .inl (g.2.2.1, 8, .inl (fun _ => 0)))] ++ []) := hD
  refine W.widen (k := 3) (n := 24) (Nat.le_of_ble_eq_true rfl) (Nat.le_of_ble_eq_true rfl) ?_
  refine zputF hC uin_X7 tyX7 tyX7_ok nmX7 rfl hP hD hS 0 rfl 2 (by decide) (hC.word mw_309) rfl hin rfl (tyX7_ok 2 (by decide)) rfl rfl (Nat.le_of_ble_eq_true rfl) dX7_init_25 (fun H locs hP hS => ?_)
  have hD := zDfst (ws' := ([(h0, .inr (7, [.ref s.heap.size, .ref (s.heap.size + 1), .ref (s.heap.size + 2), .null, .null, .null, .int 0, .int 0, .int 0])), (s.heap.size, .inl (g.2.2.1, 8, .inl (fun _ => 0))), ((s.heap.size + 1), .inl (g.2.2.1, 8, .inl (fun _ => 0))), ((s.heap.size + 2), .inl (g.2.2.1, 8, .inl (fun _ => 0)))] ++ [])) hD rfl
  have hP : va_P g.1 zcl ([(h0, .inr (7, [.ref s.heap.size, .ref (s.heap.size + 1), .ref (s.heap.size + 2), .null, .null, .null, .int 0, .int 0, .int 0])), (s.heap.size, .inl (g.2.2.1, 8, .inl (fun _ => 0))), ((s.heap.size + 1), .inl (g.2.2.1, 8, .inl (fun _ => 0))), ((s.heap.size + 2), .inl (g.2.2.1, 8, .inl (fun _ => 0)))] ++ []) H := hP
  refine lv_aload_n hx hb dX7_init_28 rfl (lv_at hl 0 rfl) ?_
  refine lv_bipush (v := 8) hx hb dX7_init_29 (by decide) ?_
  refine zszm (n := 3) hP (List.mem_append_left _ (List.mem_of_getElem? (i := 3) rfl)) rfl rfl (fun hh => ?_)
  refine zN1 (N := 8) (h := (s.heap.size + 3)) hC hP hD hS hh (hA _ (Nat.le_add_right _ _)) (by decide) (by decide) (by decide) (Nat.le_of_ble_eq_true rfl) (Nat.le_of_ble_eq_true rfl) dX7_init_31 (fun H hP hD hS => ?_)
  have hP : va_P g.1 zcl ([(h0, .inr (7, [.ref s.heap.size, .ref (s.heap.size + 1), .ref (s.heap.size + 2), .null, .null, .null, .int 0, .int 0, .int 0])), (s.heap.size, .inl (g.2.2.1, 8, .inl (fun _ => 0))), ((s.heap.size + 1), .inl (g.2.2.1, 8, .inl (fun _ => 0))), ((s.heap.size + 2), .inl (g.2.2.1, 8, .inl (fun _ => 0))), ((s.heap.size + 3), .inl (g.2.2.1, 8, .inl (fun _ => 0)))] ++ []) H := hP
  have hD : va_D (zA h0 s.heap.size) ([(h0, .inr (7, [.ref s.heap.size, .ref (s.heap.size + 1), .ref (s.heap.size + 2), .null, .null, .null, .int 0, .int 0, .int 0])), (s.heap.size, .inl (g.2.2.1, 8, .inl (fun _ => 0))), ((s.heap.size + 1), .inl (g.2.2.1, 8, .inl (fun _ => 0))), ((s.heap.size + 2), .inl (g.2.2.1, 8, .inl (fun _ => 0))), ((s.heap.size + 3), .inl (g.2.2.1, 8, .inl (fun _ => 0)))] ++ []) := hD
  refine W.widen (k := 4) (n := 32) (Nat.le_of_ble_eq_true rfl) (Nat.le_of_ble_eq_true rfl) ?_
  refine zputF hC uin_X7 tyX7 tyX7_ok nmX7 rfl hP hD hS 0 rfl 3 (by decide) (hC.word mw_312) rfl hin rfl (tyX7_ok 3 (by decide)) rfl rfl (Nat.le_of_ble_eq_true rfl) dX7_init_33 (fun H locs hP hS => ?_)
  have hD := zDfst (ws' := ([(h0, .inr (7, [.ref s.heap.size, .ref (s.heap.size + 1), .ref (s.heap.size + 2), .ref (s.heap.size + 3), .null, .null, .int 0, .int 0, .int 0])), (s.heap.size, .inl (g.2.2.1, 8, .inl (fun _ => 0))), ((s.heap.size + 1), .inl (g.2.2.1, 8, .inl (fun _ => 0))), ((s.heap.size + 2), .inl (g.2.2.1, 8, .inl (fun _ => 0))), ((s.heap.size + 3), .inl (g.2.2.1, 8, .inl (fun _ => 0)))] ++ [])) hD rfl
  have hP : va_P g.1 zcl ([(h0, .inr (7, [.ref s.heap.size, .ref (s.heap.size + 1), .ref (s.heap.size + 2), .ref (s.heap.size + 3), .null, .null, .int 0, .int 0, .int 0])), (s.heap.size, .inl (g.2.2.1, 8, .inl (fun _ => 0))), ((s.heap.size + 1), .inl (g.2.2.1, 8, .inl (fun _ => 0))), ((s.heap.size + 2), .inl (g.2.2.1, 8, .inl (fun _ => 0))), ((s.heap.size + 3), .inl (g.2.2.1, 8, .inl (fun _ => 0)))] ++ []) H := hP
  refine lv_aload_n hx hb dX7_init_36 rfl (lv_at hl 0 rfl) ?_
  refine lv_iconst (v := 5) hx hb dX7_init_37 (by decide) ?_
  refine zszm (n := 4) hP (List.mem_append_left _ (List.mem_of_getElem? (i := 4) rfl)) rfl rfl (fun hh => ?_)
  refine zN1 (N := 5) (h := (s.heap.size + 4)) hC hP hD hS hh (hA _ (Nat.le_add_right _ _)) (by decide) (by decide) (by decide) (Nat.le_of_ble_eq_true rfl) (Nat.le_of_ble_eq_true rfl) dX7_init_38 (fun H hP hD hS => ?_)
  have hP : va_P g.1 zcl ([(h0, .inr (7, [.ref s.heap.size, .ref (s.heap.size + 1), .ref (s.heap.size + 2), .ref (s.heap.size + 3), .null, .null, .int 0, .int 0, .int 0])), (s.heap.size, .inl (g.2.2.1, 8, .inl (fun _ => 0))), ((s.heap.size + 1), .inl (g.2.2.1, 8, .inl (fun _ => 0))), ((s.heap.size + 2), .inl (g.2.2.1, 8, .inl (fun _ => 0))), ((s.heap.size + 3), .inl (g.2.2.1, 8, .inl (fun _ => 0))), ((s.heap.size + 4), .inl (g.2.2.1, 5, .inl (fun _ => 0)))] ++ []) H := hP
  have hD : va_D (zA h0 s.heap.size) ([(h0, .inr (7, [.ref s.heap.size, .ref (s.heap.size + 1), .ref (s.heap.size + 2), .ref (s.heap.size + 3), .null, .null, .int 0, .int 0, .int 0])), (s.heap.size, .inl (g.2.2.1, 8, .inl (fun _ => 0))), ((s.heap.size + 1), .inl (g.2.2.1, 8, .inl (fun _ => 0))), ((s.heap.size + 2), .inl (g.2.2.1, 8, .inl (fun _ => 0))), ((s.heap.size + 3), .inl (g.2.2.1, 8, .inl (fun _ => 0))), ((s.heap.size + 4), .inl (g.2.2.1, 5, .inl (fun _ => 0)))] ++ []) := hD
  refine W.widen (k := 5) (n := 37) (Nat.le_of_ble_eq_true rfl) (Nat.le_of_ble_eq_true rfl) ?_
  refine zputF hC uin_X7 tyX7 tyX7_ok nmX7 rfl hP hD hS 0 rfl 4 (by decide) (hC.word mw_315) rfl hin rfl (tyX7_ok 4 (by decide)) rfl rfl (Nat.le_of_ble_eq_true rfl) dX7_init_40 (fun H locs hP hS => ?_)
  have hD := zDfst (ws' := ([(h0, .inr (7, [.ref s.heap.size, .ref (s.heap.size + 1), .ref (s.heap.size + 2), .ref (s.heap.size + 3), .ref (s.heap.size + 4), .null, .int 0, .int 0, .int 0])), (s.heap.size, .inl (g.2.2.1, 8, .inl (fun _ => 0))), ((s.heap.size + 1), .inl (g.2.2.1, 8, .inl (fun _ => 0))), ((s.heap.size + 2), .inl (g.2.2.1, 8, .inl (fun _ => 0))), ((s.heap.size + 3), .inl (g.2.2.1, 8, .inl (fun _ => 0))), ((s.heap.size + 4), .inl (g.2.2.1, 5, .inl (fun _ => 0)))] ++ [])) hD rfl
  have hP : va_P g.1 zcl ([(h0, .inr (7, [.ref s.heap.size, .ref (s.heap.size + 1), .ref (s.heap.size + 2), .ref (s.heap.size + 3), .ref (s.heap.size + 4), .null, .int 0, .int 0, .int 0])), (s.heap.size, .inl (g.2.2.1, 8, .inl (fun _ => 0))), ((s.heap.size + 1), .inl (g.2.2.1, 8, .inl (fun _ => 0))), ((s.heap.size + 2), .inl (g.2.2.1, 8, .inl (fun _ => 0))), ((s.heap.size + 3), .inl (g.2.2.1, 8, .inl (fun _ => 0))), ((s.heap.size + 4), .inl (g.2.2.1, 5, .inl (fun _ => 0)))] ++ []) H := hP
  refine lv_aload_n hx hb dX7_init_43 rfl (lv_at hl 0 rfl) ?_
  refine lv_iconst (v := 5) hx hb dX7_init_44 (by decide) ?_
  refine zszm (n := 5) hP (List.mem_append_left _ (List.mem_of_getElem? (i := 5) rfl)) rfl rfl (fun hh => ?_)
  refine zN1 (N := 5) (h := (s.heap.size + 5)) hC hP hD hS hh (hA _ (Nat.le_add_right _ _)) (by decide) (by decide) (by decide) (Nat.le_of_ble_eq_true rfl) (Nat.le_of_ble_eq_true rfl) dX7_init_45 (fun H hP hD hS => ?_)
  have hP : va_P g.1 zcl ([(h0, .inr (7, [.ref s.heap.size, .ref (s.heap.size + 1), .ref (s.heap.size + 2), .ref (s.heap.size + 3), .ref (s.heap.size + 4), .null, .int 0, .int 0, .int 0])), (s.heap.size, .inl (g.2.2.1, 8, .inl (fun _ => 0))), ((s.heap.size + 1), .inl (g.2.2.1, 8, .inl (fun _ => 0))), ((s.heap.size + 2), .inl (g.2.2.1, 8, .inl (fun _ => 0))), ((s.heap.size + 3), .inl (g.2.2.1, 8, .inl (fun _ => 0))), ((s.heap.size + 4), .inl (g.2.2.1, 5, .inl (fun _ => 0))), ((s.heap.size + 5), .inl (g.2.2.1, 5, .inl (fun _ => 0)))] ++ []) H := hP
  have hD : va_D (zA h0 s.heap.size) ([(h0, .inr (7, [.ref s.heap.size, .ref (s.heap.size + 1), .ref (s.heap.size + 2), .ref (s.heap.size + 3), .ref (s.heap.size + 4), .null, .int 0, .int 0, .int 0])), (s.heap.size, .inl (g.2.2.1, 8, .inl (fun _ => 0))), ((s.heap.size + 1), .inl (g.2.2.1, 8, .inl (fun _ => 0))), ((s.heap.size + 2), .inl (g.2.2.1, 8, .inl (fun _ => 0))), ((s.heap.size + 3), .inl (g.2.2.1, 8, .inl (fun _ => 0))), ((s.heap.size + 4), .inl (g.2.2.1, 5, .inl (fun _ => 0))), ((s.heap.size + 5), .inl (g.2.2.1, 5, .inl (fun _ => 0)))] ++ []) := hD
  refine W.widen (k := 6) (n := 42) (Nat.le_of_ble_eq_true rfl) (Nat.le_of_ble_eq_true rfl) ?_
  refine zputF hC uin_X7 tyX7 tyX7_ok nmX7 rfl hP hD hS 0 rfl 5 (by decide) (hC.word mw_319) rfl hin rfl (tyX7_ok 5 (by decide)) rfl rfl (Nat.le_of_ble_eq_true rfl) dX7_init_47 (fun H locs hP hS => ?_)
  have hD := zDfst (ws' := ([(h0, .inr (7, [.ref s.heap.size, .ref (s.heap.size + 1), .ref (s.heap.size + 2), .ref (s.heap.size + 3), .ref (s.heap.size + 4), .ref (s.heap.size + 5), .int 0, .int 0, .int 0])), (s.heap.size, .inl (g.2.2.1, 8, .inl (fun _ => 0))), ((s.heap.size + 1), .inl (g.2.2.1, 8, .inl (fun _ => 0))), ((s.heap.size + 2), .inl (g.2.2.1, 8, .inl (fun _ => 0))), ((s.heap.size + 3), .inl (g.2.2.1, 8, .inl (fun _ => 0))), ((s.heap.size + 4), .inl (g.2.2.1, 5, .inl (fun _ => 0))), ((s.heap.size + 5), .inl (g.2.2.1, 5, .inl (fun _ => 0)))] ++ [])) hD rfl
  have hP : va_P g.1 zcl ([(h0, .inr (7, [.ref s.heap.size, .ref (s.heap.size + 1), .ref (s.heap.size + 2), .ref (s.heap.size + 3), .ref (s.heap.size + 4), .ref (s.heap.size + 5), .int 0, .int 0, .int 0])), (s.heap.size, .inl (g.2.2.1, 8, .inl (fun _ => 0))), ((s.heap.size + 1), .inl (g.2.2.1, 8, .inl (fun _ => 0))), ((s.heap.size + 2), .inl (g.2.2.1, 8, .inl (fun _ => 0))), ((s.heap.size + 3), .inl (g.2.2.1, 8, .inl (fun _ => 0))), ((s.heap.size + 4), .inl (g.2.2.1, 5, .inl (fun _ => 0))), ((s.heap.size + 5), .inl (g.2.2.1, 5, .inl (fun _ => 0)))] ++ []) H := hP
  refine lv_aload_n hx hb dX7_init_50 rfl (lv_at hl 0 rfl) ?_
  refine lv_bipush (v := 100) hx hb dX7_init_51 (by decide) ?_
  refine zput hC uin_X7 tyX7 tyX7_ok nmX7 rfl hP hD hS 0 rfl 8 (by decide) (hC.fl mw_331) rfl (by decide +kernel) (Nat.le_of_ble_eq_true rfl) dX7_init_53 (fun H locs hP hS => ?_)
  have hD := zDfst (ws' := ([(h0, .inr (7, [.ref s.heap.size, .ref (s.heap.size + 1), .ref (s.heap.size + 2), .ref (s.heap.size + 3), .ref (s.heap.size + 4), .ref (s.heap.size + 5), .int 0, .int 0, .int (100)])), (s.heap.size, .inl (g.2.2.1, 8, .inl (fun _ => 0))), ((s.heap.size + 1), .inl (g.2.2.1, 8, .inl (fun _ => 0))), ((s.heap.size + 2), .inl (g.2.2.1, 8, .inl (fun _ => 0))), ((s.heap.size + 3), .inl (g.2.2.1, 8, .inl (fun _ => 0))), ((s.heap.size + 4), .inl (g.2.2.1, 5, .inl (fun _ => 0))), ((s.heap.size + 5), .inl (g.2.2.1, 5, .inl (fun _ => 0)))] ++ [])) hD rfl
  have hP : va_P g.1 zcl ([(h0, .inr (7, [.ref s.heap.size, .ref (s.heap.size + 1), .ref (s.heap.size + 2), .ref (s.heap.size + 3), .ref (s.heap.size + 4), .ref (s.heap.size + 5), .int 0, .int 0, .int (100)])), (s.heap.size, .inl (g.2.2.1, 8, .inl (fun _ => 0))), ((s.heap.size + 1), .inl (g.2.2.1, 8, .inl (fun _ => 0))), ((s.heap.size + 2), .inl (g.2.2.1, 8, .inl (fun _ => 0))), ((s.heap.size + 3), .inl (g.2.2.1, 8, .inl (fun _ => 0))), ((s.heap.size + 4), .inl (g.2.2.1, 5, .inl (fun _ => 0))), ((s.heap.size + 5), .inl (g.2.2.1, 5, .inl (fun _ => 0)))] ++ []) H := hP
  refine zszm (n := 6) hP (List.mem_append_left _ (List.mem_of_getElem? (i := 6) rfl)) rfl rfl (fun hz => ?_)
  refine W.widen (k := 6) (n := 42) (Nat.le_of_ble_eq_true rfl) (Nat.le_of_ble_eq_true rfl) ?_
  exact W.vret hx hb hr (fun t ht hW => ⟨⟨(), rfl, trivial, (congrArg Array.size ht).trans hz, by rw [← ht] at hP; exact hP, hD⟩, hS.F ht⟩) hS.2.2 dX7_init_56 hlk
theorem yi_X4 : zYI yX4_init cX4_init 1 := ⟨mw_361, mw_141, mw_362, by decide +kernel, rfl⟩
theorem zfs_X4 : ∀ j, j < 9 → defaultValue (tyX4 j) = vp_V [.null, .null, .null, .int 0, .int 0, .int 0, .int 0, .int 0, .int 0] j := by
  intro j hj
  rcases (show j = 0 ∨ j = 1 ∨ j = 2 ∨ j = 3 ∨ j = 4 ∨ j = 5 ∨ j = 6 ∨ j = 7 ∨ j = 8 by omega) with rfl | rfl | rfl | rfl | rfl | rfl | rfl | rfl | rfl <;> rfl
def zF_X4 (g : zG) (h0 sz : Nat) : va_W := [(h0, .inr (4, [.ref sz, .ref (sz + 1), .ref (sz + 2), .int 0, .int 0, .int 0, .int 0, .int 0, .int 0])), (sz, .inl (g.2.2.1, 150, .inl (fun _ => 0))), ((sz + 1), .inl (g.2.2.1, 150, .inl (fun _ => 0))), ((sz + 2), .inl (g.2.2.1, 150, .inl (fun _ => 0)))]
def zR_X4 (g : zG) (sz : Nat) : va_W := []
set_option maxHeartbeats 4000000 in
set_option maxRecDepth 100000 in
theorem ci_X4 (hZ : zMnaS) (l : Launch) {g : zG} {h0 sz : Nat} (hb0 : zB g h0) (hlt : h0 < sz) : zNj l yX4_init cX4_init 1 1 3 450 g [(h0, .inr (4, [.null, .null, .null, .int 0, .int 0, .int 0, .int 0, .int 0, .int 0]))] (zF_X4 g h0 sz ++ zR_X4 g sz) h0 sz := by
  refine Met.ofW (cc := cX4_init) (maxL := 1) (ret := none) (by decide +kernel) rfl ?_
  intro p e s m args below meth c s₁ B hml hv
  obtain ⟨rfl, ⟨hsz, hP, hK, hST⟩, hAO⟩ := hv
  subst hsz
  have hC := zstart (own := RX4) rfl B hml hK hST
  have hin : meth.name = "<init>" := (name_of_methodNamed B.named B.method).1
  have hl := lv_entry ([.ref h0]) (n := 1) (Nat.le_of_ble_eq_true rfl)
  rw [lg_entry_eq]
  generalize (lg_sl ([.ref h0]) ++ List.replicate (1 - (lg_sl ([.ref h0])).length) Slot.unset).toArray = ls at hl ⊢
  have hl : lv_has ls 1 [(0, .ref h0)] := hl
  obtain ⟨hx, hb, hr, hml, hown, hts, hK, hlk, hST⟩ := id hC
  have hB : ∀ q, zA h0 s.heap.size q → zB g q := fun q h => h.elim (fun h => by rw [h]; exact hb0) (fun h => Nat.le_trans hST.1 h)
  have hA : ∀ q, s.heap.size ≤ q → zA h0 s.heap.size q := fun q h => Or.inr h
  have hS : va_S (zA h0 s.heap.size) s.heap s.heap [] := va_S.rf
  have hP : va_P g.1 zcl ([(h0, .inr (4, [.null, .null, .null, .int 0, .int 0, .int 0, .int 0, .int 0, .int 0]))] ++ []) s.heap := hP
  have hD : va_D (zA h0 s.heap.size) ([(h0, .inr (4, [.null, .null, .null, .int 0, .int 0, .int 0, .int 0, .int 0, .int 0]))] ++ []) := ⟨fun i j x y hi hj _ => by
    have h1 := (List.getElem?_eq_some_iff.mp hi).1
    have h2 := (List.getElem?_eq_some_iff.mp hj).1
    have h3 : ([(h0, .inr (4, [.null, .null, .null, .int 0, .int 0, .int 0, .int 0, .int 0, .int 0]))] ++ [] : va_W).length = 1 := rfl
    omega, fun k q hq => by
    have h1 : q ∈ ([(h0, .inr (4, [.null, .null, .null, .int 0, .int 0, .int 0, .int 0, .int 0, .int 0]))] ++ [] : va_W) := List.mem_of_getElem? hq
    rcases List.mem_cons.mp h1 with h | h
    · rw [h]; exact Or.inl rfl
    · cases h⟩
  refine lv_aload_n hx hb dX4_init_0 rfl (lv_at hl 0 rfl) ?_
  refine W.objInit hx hb hown (hC.word mw_363) (hC.word mw_165) (hC.word mw_166) rfl (by rw [hml]; exact hl.1) rfl dX4_init_1 (Nat.le_of_ble_eq_true rfl) (Nat.le_of_ble_eq_true rfl) ?_
  refine W.eq (g2 := F0 m 4 ls []) rfl ?_
  refine lv_aload_n hx hb dX4_init_4 rfl (lv_at hl 0 rfl) ?_
  refine lv_sipush (v := 150) hx hb dX4_init_5 (by decide) ?_
  refine zsz0 hS (fun hh => ?_)
  refine zN1 (N := 150) (h := s.heap.size) hC hP hD hS hh (hA _ (Nat.le_refl _)) (by decide) (by decide) (by decide) (Nat.le_of_ble_eq_true rfl) (Nat.le_of_ble_eq_true rfl) dX4_init_8 (fun H hP hD hS => ?_)
  have hP : va_P g.1 zcl ([(h0, .inr (4, [.null, .null, .null, .int 0, .int 0, .int 0, .int 0, .int 0, .int 0])), (s.heap.size, .inl (g.2.2.1, 150, .inl (fun _ => 0)))] ++ []) H := hP
  have hD : va_D (zA h0 s.heap.size) ([(h0, .inr (4, [.null, .null, .null, .int 0, .int 0, .int 0, .int 0, .int 0, .int 0])), (s.heap.size, .inl (g.2.2.1, 150, .inl (fun _ => 0)))] ++ []) := hD
  refine W.widen (k := 1) (n := 150) (Nat.le_of_ble_eq_true rfl) (Nat.le_of_ble_eq_true rfl) ?_
  refine zputF hC uin_X4 tyX4 tyX4_ok nmX4 rfl hP hD hS 0 rfl 0 (by decide) (hC.word mw_364) rfl hin rfl (tyX4_ok 0 (by decide)) rfl rfl (Nat.le_of_ble_eq_true rfl) dX4_init_10 (fun H locs hP hS => ?_)
  have hD := zDfst (ws' := ([(h0, .inr (4, [.ref s.heap.size, .null, .null, .int 0, .int 0, .int 0, .int 0, .int 0, .int 0])), (s.heap.size, .inl (g.2.2.1, 150, .inl (fun _ => 0)))] ++ [])) hD rfl
  have hP : va_P g.1 zcl ([(h0, .inr (4, [.ref s.heap.size, .null, .null, .int 0, .int 0, .int 0, .int 0, .int 0, .int 0])), (s.heap.size, .inl (g.2.2.1, 150, .inl (fun _ => 0)))] ++ []) H := hP
  refine lv_aload_n hx hb dX4_init_13 rfl (lv_at hl 0 rfl) ?_
  refine lv_sipush (v := 150) hx hb dX4_init_14 (by decide) ?_
  refine zszm (n := 1) hP (List.mem_append_left _ (List.mem_of_getElem? (i := 1) rfl)) rfl rfl (fun hh => ?_)
  refine zN1 (N := 150) (h := (s.heap.size + 1)) hC hP hD hS hh (hA _ (Nat.le_add_right _ _)) (by decide) (by decide) (by decide) (Nat.le_of_ble_eq_true rfl) (Nat.le_of_ble_eq_true rfl) dX4_init_17 (fun H hP hD hS => ?_)
  have hP : va_P g.1 zcl ([(h0, .inr (4, [.ref s.heap.size, .null, .null, .int 0, .int 0, .int 0, .int 0, .int 0, .int 0])), (s.heap.size, .inl (g.2.2.1, 150, .inl (fun _ => 0))), ((s.heap.size + 1), .inl (g.2.2.1, 150, .inl (fun _ => 0)))] ++ []) H := hP
  have hD : va_D (zA h0 s.heap.size) ([(h0, .inr (4, [.ref s.heap.size, .null, .null, .int 0, .int 0, .int 0, .int 0, .int 0, .int 0])), (s.heap.size, .inl (g.2.2.1, 150, .inl (fun _ => 0))), ((s.heap.size + 1), .inl (g.2.2.1, 150, .inl (fun _ => 0)))] ++ []) := hD
  refine W.widen (k := 2) (n := 300) (Nat.le_of_ble_eq_true rfl) (Nat.le_of_ble_eq_true rfl) ?_
  refine zputF hC uin_X4 tyX4 tyX4_ok nmX4 rfl hP hD hS 0 rfl 1 (by decide) (hC.word mw_365) rfl hin rfl (tyX4_ok 1 (by decide)) rfl rfl (Nat.le_of_ble_eq_true rfl) dX4_init_19 (fun H locs hP hS => ?_)
  have hD := zDfst (ws' := ([(h0, .inr (4, [.ref s.heap.size, .ref (s.heap.size + 1), .null, .int 0, .int 0, .int 0, .int 0, .int 0, .int 0])), (s.heap.size, .inl (g.2.2.1, 150, .inl (fun _ => 0))), ((s.heap.size + 1), .inl (g.2.2.1, 150, .inl (fun _ => 0)))] ++ [])) hD rfl
  have hP : va_P g.1 zcl ([(h0, .inr (4, [.ref s.heap.size, .ref (s.heap.size + 1), .null, .int 0, .int 0, .int 0, .int 0, .int 0, .int 0])), (s.heap.size, .inl (g.2.2.1, 150, .inl (fun _ => 0))), ((s.heap.size + 1), .inl (g.2.2.1, 150, .inl (fun _ => 0)))] ++ []) H := hP
  refine lv_aload_n hx hb dX4_init_22 rfl (lv_at hl 0 rfl) ?_
  refine lv_sipush (v := 150) hx hb dX4_init_23 (by decide) ?_
  refine zszm (n := 2) hP (List.mem_append_left _ (List.mem_of_getElem? (i := 2) rfl)) rfl rfl (fun hh => ?_)
  refine zN1 (N := 150) (h := (s.heap.size + 2)) hC hP hD hS hh (hA _ (Nat.le_add_right _ _)) (by decide) (by decide) (by decide) (Nat.le_of_ble_eq_true rfl) (Nat.le_of_ble_eq_true rfl) dX4_init_26 (fun H hP hD hS => ?_)
  have hP : va_P g.1 zcl ([(h0, .inr (4, [.ref s.heap.size, .ref (s.heap.size + 1), .null, .int 0, .int 0, .int 0, .int 0, .int 0, .int 0])), (s.heap.size, .inl (g.2.2.1, 150, .inl (fun _ => 0))), ((s.heap.size + 1), .inl (g.2.2.1, 150, .inl (fun _ => 0))), ((s.heap.size + 2), .inl (g.2.2.1, 150, .inl (fun _ => 0)))] ++ []) H := hP
  have hD : va_D (zA h0 s.heap.size) ([(h0, .inr (4, [.ref s.heap.size, .ref (s.heap.size + 1), .null, .int 0, .int 0, .int 0, .int 0, .int 0, .int 0])), (s.heap.size, .inl (g.2.2.1, 150, .inl (fun _ => 0))), ((s.heap.size + 1), .inl (g.2.2.1, 150, .inl (fun _ => 0))), ((s.heap.size + 2), .inl (g.2.2.1, 150, .inl (fun _ => 0)))] ++ []) := hD
  refine W.widen (k := 3) (n := 450) (Nat.le_of_ble_eq_true rfl) (Nat.le_of_ble_eq_true rfl) ?_
  refine zputF hC uin_X4 tyX4 tyX4_ok nmX4 rfl hP hD hS 0 rfl 2 (by decide) (hC.word mw_366) rfl hin rfl (tyX4_ok 2 (by decide)) rfl rfl (Nat.le_of_ble_eq_true rfl) dX4_init_28 (fun H locs hP hS => ?_)
  have hD := zDfst (ws' := ([(h0, .inr (4, [.ref s.heap.size, .ref (s.heap.size + 1), .ref (s.heap.size + 2), .int 0, .int 0, .int 0, .int 0, .int 0, .int 0])), (s.heap.size, .inl (g.2.2.1, 150, .inl (fun _ => 0))), ((s.heap.size + 1), .inl (g.2.2.1, 150, .inl (fun _ => 0))), ((s.heap.size + 2), .inl (g.2.2.1, 150, .inl (fun _ => 0)))] ++ [])) hD rfl
  have hP : va_P g.1 zcl ([(h0, .inr (4, [.ref s.heap.size, .ref (s.heap.size + 1), .ref (s.heap.size + 2), .int 0, .int 0, .int 0, .int 0, .int 0, .int 0])), (s.heap.size, .inl (g.2.2.1, 150, .inl (fun _ => 0))), ((s.heap.size + 1), .inl (g.2.2.1, 150, .inl (fun _ => 0))), ((s.heap.size + 2), .inl (g.2.2.1, 150, .inl (fun _ => 0)))] ++ []) H := hP
  refine zszm (n := 3) hP (List.mem_append_left _ (List.mem_of_getElem? (i := 3) rfl)) rfl rfl (fun hz => ?_)
  refine W.widen (k := 3) (n := 450) (Nat.le_of_ble_eq_true rfl) (Nat.le_of_ble_eq_true rfl) ?_
  exact W.vret hx hb hr (fun t ht hW => ⟨⟨(), rfl, trivial, (congrArg Array.size ht).trans hz, by rw [← ht] at hP; exact hP, hD⟩, hS.F ht⟩) hS.2.2 dX4_init_31 hlk
theorem yi_X3 : zYI yX3_init cX3_init 1 := ⟨mw_398, mw_142, mw_399, by decide +kernel, rfl⟩
theorem zfs_X3 : ∀ j, j < 4 → defaultValue (tyX3 j) = vp_V [.null, .null, .int 0, .int 0] j := by
  intro j hj
  rcases (show j = 0 ∨ j = 1 ∨ j = 2 ∨ j = 3 by omega) with rfl | rfl | rfl | rfl <;> rfl
def zF_X3 (g : zG) (h0 sz : Nat) : va_W := [(h0, .inr (3, [.ref sz, .ref (sz + 1), .int 0, .int 0])), (sz, .inl (g.2.2.1, 720, .inl (fun _ => 0))), zOut g (sz + 1) 3]
def zR_X3 (g : zG) (sz : Nat) : va_W := zRw g (sz + 2) 3 766
set_option maxHeartbeats 4000000 in
set_option maxRecDepth 100000 in
theorem ci_X3 (hZ : zMnaS) (l : Launch) {g : zG} {h0 sz : Nat} (hb0 : zB g h0) (hlt : h0 < sz) : zNj l yX3_init cX3_init 1 1 5 3021 g [(h0, .inr (3, [.null, .null, .int 0, .int 0]))] (zF_X3 g h0 sz ++ zR_X3 g sz) h0 sz := by
  refine Met.ofW (cc := cX3_init) (maxL := 1) (ret := none) (by decide +kernel) rfl ?_
  intro p e s m args below meth c s₁ B hml hv
  obtain ⟨rfl, ⟨hsz, hP, hK, hST⟩, hAO⟩ := hv
  subst hsz
  have hC := zstart (own := RX3) rfl B hml hK hST
  have hin : meth.name = "<init>" := (name_of_methodNamed B.named B.method).1
  have hl := lv_entry ([.ref h0]) (n := 1) (Nat.le_of_ble_eq_true rfl)
  rw [lg_entry_eq]
  generalize (lg_sl ([.ref h0]) ++ List.replicate (1 - (lg_sl ([.ref h0])).length) Slot.unset).toArray = ls at hl ⊢
  have hl : lv_has ls 1 [(0, .ref h0)] := hl
  obtain ⟨hx, hb, hr, hml, hown, hts, hK, hlk, hST⟩ := id hC
  have hB : ∀ q, zA h0 s.heap.size q → zB g q := fun q h => h.elim (fun h => by rw [h]; exact hb0) (fun h => Nat.le_trans hST.1 h)
  have hA : ∀ q, s.heap.size ≤ q → zA h0 s.heap.size q := fun q h => Or.inr h
  have hS : va_S (zA h0 s.heap.size) s.heap s.heap [] := va_S.rf
  have hP : va_P g.1 zcl ([(h0, .inr (3, [.null, .null, .int 0, .int 0]))] ++ []) s.heap := hP
  have hD : va_D (zA h0 s.heap.size) ([(h0, .inr (3, [.null, .null, .int 0, .int 0]))] ++ []) := ⟨fun i j x y hi hj _ => by
    have h1 := (List.getElem?_eq_some_iff.mp hi).1
    have h2 := (List.getElem?_eq_some_iff.mp hj).1
    have h3 : ([(h0, .inr (3, [.null, .null, .int 0, .int 0]))] ++ [] : va_W).length = 1 := rfl
    omega, fun k q hq => by
    have h1 : q ∈ ([(h0, .inr (3, [.null, .null, .int 0, .int 0]))] ++ [] : va_W) := List.mem_of_getElem? hq
    rcases List.mem_cons.mp h1 with h | h
    · rw [h]; exact Or.inl rfl
    · cases h⟩
  refine lv_aload_n hx hb dX3_init_0 rfl (lv_at hl 0 rfl) ?_
  refine W.objInit hx hb hown (hC.word mw_400) (hC.word mw_165) (hC.word mw_166) rfl (by rw [hml]; exact hl.1) rfl dX3_init_1 (Nat.le_of_ble_eq_true rfl) (Nat.le_of_ble_eq_true rfl) ?_
  refine W.eq (g2 := F0 m 4 ls []) rfl ?_
  refine lv_aload_n hx hb dX3_init_4 rfl (lv_at hl 0 rfl) ?_
  refine lv_sipush (v := 720) hx hb dX3_init_5 (by decide) ?_
  refine zsz0 hS (fun hh => ?_)
  refine zN1 (N := 720) (h := s.heap.size) hC hP hD hS hh (hA _ (Nat.le_refl _)) (by decide) (by decide) (by decide) (Nat.le_of_ble_eq_true rfl) (Nat.le_of_ble_eq_true rfl) dX3_init_8 (fun H hP hD hS => ?_)
  have hP : va_P g.1 zcl ([(h0, .inr (3, [.null, .null, .int 0, .int 0])), (s.heap.size, .inl (g.2.2.1, 720, .inl (fun _ => 0)))] ++ []) H := hP
  have hD : va_D (zA h0 s.heap.size) ([(h0, .inr (3, [.null, .null, .int 0, .int 0])), (s.heap.size, .inl (g.2.2.1, 720, .inl (fun _ => 0)))] ++ []) := hD
  refine W.widen (k := 1) (n := 720) (Nat.le_of_ble_eq_true rfl) (Nat.le_of_ble_eq_true rfl) ?_
  refine zputF hC uin_X3 tyX3 tyX3_ok nmX3 rfl hP hD hS 0 rfl 0 (by decide) (hC.word mw_402) rfl hin rfl (tyX3_ok 0 (by decide)) rfl rfl (Nat.le_of_ble_eq_true rfl) dX3_init_10 (fun H locs hP hS => ?_)
  have hD := zDfst (ws' := ([(h0, .inr (3, [.ref s.heap.size, .null, .int 0, .int 0])), (s.heap.size, .inl (g.2.2.1, 720, .inl (fun _ => 0)))] ++ [])) hD rfl
  have hP : va_P g.1 zcl ([(h0, .inr (3, [.ref s.heap.size, .null, .int 0, .int 0])), (s.heap.size, .inl (g.2.2.1, 720, .inl (fun _ => 0)))] ++ []) H := hP
  refine lv_aload_n hx hb dX3_init_13 rfl (lv_at hl 0 rfl) ?_
  refine lv_iconst (v := 3) hx hb dX3_init_14 (by decide) ?_
  refine lv_sipush (v := 766) hx hb dX3_init_15 (by decide) ?_
  refine zszm (n := 1) hP (List.mem_append_left _ (List.mem_of_getElem? (i := 1) rfl)) rfl rfl (fun hh => ?_)
  refine zN2 (N := 3) (K := 766) (h := (s.heap.size + 1)) hZ hC hAO hP hD hS hh (fun q h => hA q (Nat.le_trans (Nat.le_add_right _ _) h)) mw_401 (by decide) (by decide) (by decide) (by decide) (by decide) (by decide) (Nat.le_of_ble_eq_true rfl) (Nat.le_of_ble_eq_true rfl) dX3_init_18 (fun H hP hD hS => ?_)
  have hP : va_P g.1 zcl ([(h0, .inr (3, [.ref s.heap.size, .null, .int 0, .int 0])), (s.heap.size, .inl (g.2.2.1, 720, .inl (fun _ => 0))), zOut g (s.heap.size + 1) 3] ++ zRw g (s.heap.size + 2) 3 766) H := hP
  have hD : va_D (zA h0 s.heap.size) ([(h0, .inr (3, [.ref s.heap.size, .null, .int 0, .int 0])), (s.heap.size, .inl (g.2.2.1, 720, .inl (fun _ => 0))), zOut g (s.heap.size + 1) 3] ++ zRw g (s.heap.size + 2) 3 766) := hD
  refine W.widen (k := 5) (n := 3021) (Nat.le_of_ble_eq_true rfl) (Nat.le_of_ble_eq_true rfl) ?_
  refine zputF hC uin_X3 tyX3 tyX3_ok nmX3 rfl hP hD hS 0 rfl 1 (by decide) (hC.word mw_403) rfl hin rfl (tyX3_ok 1 (by decide)) rfl rfl (Nat.le_of_ble_eq_true rfl) dX3_init_22 (fun H locs hP hS => ?_)
  have hD := zDfst (ws' := ([(h0, .inr (3, [.ref s.heap.size, .ref (s.heap.size + 1), .int 0, .int 0])), (s.heap.size, .inl (g.2.2.1, 720, .inl (fun _ => 0))), zOut g (s.heap.size + 1) 3] ++ zRw g (s.heap.size + 2) 3 766)) hD rfl
  have hP : va_P g.1 zcl ([(h0, .inr (3, [.ref s.heap.size, .ref (s.heap.size + 1), .int 0, .int 0])), (s.heap.size, .inl (g.2.2.1, 720, .inl (fun _ => 0))), zOut g (s.heap.size + 1) 3] ++ zRw g (s.heap.size + 2) 3 766) H := hP
  refine zszm (n := 5) hP (List.mem_append_right _ (zRw_mem (i := 2) (by decide))) rfl rfl (fun hz => ?_)
  refine W.widen (k := 5) (n := 3021) (Nat.le_of_ble_eq_true rfl) (Nat.le_of_ble_eq_true rfl) ?_
  exact W.vret hx hb hr (fun t ht hW => ⟨⟨(), rfl, trivial, (congrArg Array.size ht).trans hz, by rw [← ht] at hP; exact hP, hD⟩, hS.F ht⟩) hS.2.2 dX3_init_25 hlk
theorem yi_X6 : zYI yX6_init cX6_init 1 := ⟨mw_420, mw_143, mw_421, by decide +kernel, rfl⟩
theorem zfs_X6 : ∀ j, j < 8 → defaultValue (tyX6 j) = vp_V [.null, .null, .null, .null, .null, .int 0, .int 0, .int 0] j := by
  intro j hj
  rcases (show j = 0 ∨ j = 1 ∨ j = 2 ∨ j = 3 ∨ j = 4 ∨ j = 5 ∨ j = 6 ∨ j = 7 by omega) with rfl | rfl | rfl | rfl | rfl | rfl | rfl | rfl <;> rfl
def zF_X6 (g : zG) (h0 sz : Nat) : va_W := [(h0, .inr (6, [.ref sz, .ref (sz + 1), .ref (sz + 2), .ref (sz + 3), .ref (sz + 4), .int 0, .int 0, .int 0])), (sz, .inl (g.2.2.1, 8, .inl (fun _ => 0))), ((sz + 1), .inl (g.2.2.1, 16, .inl (fun _ => 0))), ((sz + 2), .inl (g.2.2.1, 256, .inl (fun _ => 0))), ((sz + 3), .inl (g.2.2.1, 256, .inl (fun _ => 0))), ((sz + 4), .inl (g.2.2.1, 64, .inl (fun _ => 0)))]
def zR_X6 (g : zG) (sz : Nat) : va_W := []
set_option maxHeartbeats 4000000 in
set_option maxRecDepth 100000 in
theorem ci_X6 (hZ : zMnaS) (l : Launch) {g : zG} {h0 sz : Nat} (hb0 : zB g h0) (hlt : h0 < sz) : zNj l yX6_init cX6_init 1 1 5 600 g [(h0, .inr (6, [.null, .null, .null, .null, .null, .int 0, .int 0, .int 0]))] (zF_X6 g h0 sz ++ zR_X6 g sz) h0 sz := by
  refine Met.ofW (cc := cX6_init) (maxL := 1) (ret := none) (by decide +kernel) rfl ?_
  intro p e s m args below meth c s₁ B hml hv
  obtain ⟨rfl, ⟨hsz, hP, hK, hST⟩, hAO⟩ := hv
  subst hsz
  have hC := zstart (own := RX6) rfl B hml hK hST
  have hin : meth.name = "<init>" := (name_of_methodNamed B.named B.method).1
  have hl := lv_entry ([.ref h0]) (n := 1) (Nat.le_of_ble_eq_true rfl)
  rw [lg_entry_eq]
  generalize (lg_sl ([.ref h0]) ++ List.replicate (1 - (lg_sl ([.ref h0])).length) Slot.unset).toArray = ls at hl ⊢
  have hl : lv_has ls 1 [(0, .ref h0)] := hl
  obtain ⟨hx, hb, hr, hml, hown, hts, hK, hlk, hST⟩ := id hC
  have hB : ∀ q, zA h0 s.heap.size q → zB g q := fun q h => h.elim (fun h => by rw [h]; exact hb0) (fun h => Nat.le_trans hST.1 h)
  have hA : ∀ q, s.heap.size ≤ q → zA h0 s.heap.size q := fun q h => Or.inr h
  have hS : va_S (zA h0 s.heap.size) s.heap s.heap [] := va_S.rf
  have hP : va_P g.1 zcl ([(h0, .inr (6, [.null, .null, .null, .null, .null, .int 0, .int 0, .int 0]))] ++ []) s.heap := hP
  have hD : va_D (zA h0 s.heap.size) ([(h0, .inr (6, [.null, .null, .null, .null, .null, .int 0, .int 0, .int 0]))] ++ []) := ⟨fun i j x y hi hj _ => by
    have h1 := (List.getElem?_eq_some_iff.mp hi).1
    have h2 := (List.getElem?_eq_some_iff.mp hj).1
    have h3 : ([(h0, .inr (6, [.null, .null, .null, .null, .null, .int 0, .int 0, .int 0]))] ++ [] : va_W).length = 1 := rfl
    omega, fun k q hq => by
    have h1 : q ∈ ([(h0, .inr (6, [.null, .null, .null, .null, .null, .int 0, .int 0, .int 0]))] ++ [] : va_W) := List.mem_of_getElem? hq
    rcases List.mem_cons.mp h1 with h | h
    · rw [h]; exact Or.inl rfl
    · cases h⟩
  refine lv_aload_n hx hb dX6_init_0 rfl (lv_at hl 0 rfl) ?_
  refine W.objInit hx hb hown (hC.word mw_422) (hC.word mw_165) (hC.word mw_166) rfl (by rw [hml]; exact hl.1) rfl dX6_init_1 (Nat.le_of_ble_eq_true rfl) (Nat.le_of_ble_eq_true rfl) ?_
  refine W.eq (g2 := F0 m 4 ls []) rfl ?_
  refine lv_aload_n hx hb dX6_init_4 rfl (lv_at hl 0 rfl) ?_
  refine lv_bipush (v := 8) hx hb dX6_init_5 (by decide) ?_
  refine zsz0 hS (fun hh => ?_)
  refine zN1 (N := 8) (h := s.heap.size) hC hP hD hS hh (hA _ (Nat.le_refl _)) (by decide) (by decide) (by decide) (Nat.le_of_ble_eq_true rfl) (Nat.le_of_ble_eq_true rfl) dX6_init_7 (fun H hP hD hS => ?_)
  have hP : va_P g.1 zcl ([(h0, .inr (6, [.null, .null, .null, .null, .null, .int 0, .int 0, .int 0])), (s.heap.size, .inl (g.2.2.1, 8, .inl (fun _ => 0)))] ++ []) H := hP
  have hD : va_D (zA h0 s.heap.size) ([(h0, .inr (6, [.null, .null, .null, .null, .null, .int 0, .int 0, .int 0])), (s.heap.size, .inl (g.2.2.1, 8, .inl (fun _ => 0)))] ++ []) := hD
  refine W.widen (k := 1) (n := 8) (Nat.le_of_ble_eq_true rfl) (Nat.le_of_ble_eq_true rfl) ?_
  refine zputF hC uin_X6 tyX6 tyX6_ok nmX6 rfl hP hD hS 0 rfl 0 (by decide) (hC.word mw_423) rfl hin rfl (tyX6_ok 0 (by decide)) rfl rfl (Nat.le_of_ble_eq_true rfl) dX6_init_9 (fun H locs hP hS => ?_)
  have hD := zDfst (ws' := ([(h0, .inr (6, [.ref s.heap.size, .null, .null, .null, .null, .int 0, .int 0, .int 0])), (s.heap.size, .inl (g.2.2.1, 8, .inl (fun _ => 0)))] ++ [])) hD rfl
  have hP : va_P g.1 zcl ([(h0, .inr (6, [.ref s.heap.size, .null, .null, .null, .null, .int 0, .int 0, .int 0])), (s.heap.size, .inl (g.2.2.1, 8, .inl (fun _ => 0)))] ++ []) H := hP
  refine lv_aload_n hx hb dX6_init_12 rfl (lv_at hl 0 rfl) ?_
  refine lv_bipush (v := 16) hx hb dX6_init_13 (by decide) ?_
  refine zszm (n := 1) hP (List.mem_append_left _ (List.mem_of_getElem? (i := 1) rfl)) rfl rfl (fun hh => ?_)
  refine zN1 (N := 16) (h := (s.heap.size + 1)) hC hP hD hS hh (hA _ (Nat.le_add_right _ _)) (by decide) (by decide) (by decide) (Nat.le_of_ble_eq_true rfl) (Nat.le_of_ble_eq_true rfl) dX6_init_15 (fun H hP hD hS => ?_)
  have hP : va_P g.1 zcl ([(h0, .inr (6, [.ref s.heap.size, .null, .null, .null, .null, .int 0, .int 0, .int 0])), (s.heap.size, .inl (g.2.2.1, 8, .inl (fun _ => 0))), ((s.heap.size + 1), .inl (g.2.2.1, 16, .inl (fun _ => 0)))] ++ []) H := hP
  have hD : va_D (zA h0 s.heap.size) ([(h0, .inr (6, [.ref s.heap.size, .null, .null, .null, .null, .int 0, .int 0, .int 0])), (s.heap.size, .inl (g.2.2.1, 8, .inl (fun _ => 0))), ((s.heap.size + 1), .inl (g.2.2.1, 16, .inl (fun _ => 0)))] ++ []) := hD
  refine W.widen (k := 2) (n := 24) (Nat.le_of_ble_eq_true rfl) (Nat.le_of_ble_eq_true rfl) ?_
  refine zputF hC uin_X6 tyX6 tyX6_ok nmX6 rfl hP hD hS 0 rfl 1 (by decide) (hC.word mw_425) rfl hin rfl (tyX6_ok 1 (by decide)) rfl rfl (Nat.le_of_ble_eq_true rfl) dX6_init_17 (fun H locs hP hS => ?_)
  have hD := zDfst (ws' := ([(h0, .inr (6, [.ref s.heap.size, .ref (s.heap.size + 1), .null, .null, .null, .int 0, .int 0, .int 0])), (s.heap.size, .inl (g.2.2.1, 8, .inl (fun _ => 0))), ((s.heap.size + 1), .inl (g.2.2.1, 16, .inl (fun _ => 0)))] ++ [])) hD rfl
  have hP : va_P g.1 zcl ([(h0, .inr (6, [.ref s.heap.size, .ref (s.heap.size + 1), .null, .null, .null, .int 0, .int 0, .int 0])), (s.heap.size, .inl (g.2.2.1, 8, .inl (fun _ => 0))), ((s.heap.size + 1), .inl (g.2.2.1, 16, .inl (fun _ => 0)))] ++ []) H := hP
  refine lv_aload_n hx hb dX6_init_20 rfl (lv_at hl 0 rfl) ?_
  refine lv_sipush (v := 256) hx hb dX6_init_21 (by decide) ?_
  refine zszm (n := 2) hP (List.mem_append_left _ (List.mem_of_getElem? (i := 2) rfl)) rfl rfl (fun hh => ?_)
  refine zN1 (N := 256) (h := (s.heap.size + 2)) hC hP hD hS hh (hA _ (Nat.le_add_right _ _)) (by decide) (by decide) (by decide) (Nat.le_of_ble_eq_true rfl) (Nat.le_of_ble_eq_true rfl) dX6_init_24 (fun H hP hD hS => ?_)
  have hP : va_P g.1 zcl ([(h0, .inr (6, [.ref s.heap.size, .ref (s.heap.size + 1), .null, .null, .null, .int 0, .int 0, .int 0])), (s.heap.size, .inl (g.2.2.1, 8, .inl (fun _ => 0))), ((s.heap.size + 1), .inl (g.2.2.1, 16, .inl (fun _ => 0))), ((s.heap.size + 2), .inl (g.2.2.1, 256, .inl (fun _ => 0)))] ++ []) H := hP
  have hD : va_D (zA h0 s.heap.size) ([(h0, .inr (6, [.ref s.heap.size, .ref (s.heap.size + 1), .null, .null, .null, .int 0, .int 0, .int 0])), (s.heap.size, .inl (g.2.2.1, 8, .inl (fun _ => 0))), ((s.heap.size + 1), .inl (g.2.2.1, 16, .inl (fun _ => 0))), ((s.heap.size + 2), .inl (g.2.2.1, 256, .inl (fun _ => 0)))] ++ []) := hD
  refine W.widen (k := 3) (n := 280) (Nat.le_of_ble_eq_true rfl) (Nat.le_of_ble_eq_true rfl) ?_
  refine zputF hC uin_X6 tyX6 tyX6_ok nmX6 rfl hP hD hS 0 rfl 2 (by decide) (hC.word mw_426) rfl hin rfl (tyX6_ok 2 (by decide)) rfl rfl (Nat.le_of_ble_eq_true rfl) dX6_init_26 (fun H locs hP hS => ?_)
  have hD := zDfst (ws' := ([(h0, .inr (6, [.ref s.heap.size, .ref (s.heap.size + 1), .ref (s.heap.size + 2), .null, .null, .int 0, .int 0, .int 0])), (s.heap.size, .inl (g.2.2.1, 8, .inl (fun _ => 0))), ((s.heap.size + 1), .inl (g.2.2.1, 16, .inl (fun _ => 0))), ((s.heap.size + 2), .inl (g.2.2.1, 256, .inl (fun _ => 0)))] ++ [])) hD rfl
  have hP : va_P g.1 zcl ([(h0, .inr (6, [.ref s.heap.size, .ref (s.heap.size + 1), .ref (s.heap.size + 2), .null, .null, .int 0, .int 0, .int 0])), (s.heap.size, .inl (g.2.2.1, 8, .inl (fun _ => 0))), ((s.heap.size + 1), .inl (g.2.2.1, 16, .inl (fun _ => 0))), ((s.heap.size + 2), .inl (g.2.2.1, 256, .inl (fun _ => 0)))] ++ []) H := hP
  refine lv_aload_n hx hb dX6_init_29 rfl (lv_at hl 0 rfl) ?_
  refine lv_sipush (v := 256) hx hb dX6_init_30 (by decide) ?_
  refine zszm (n := 3) hP (List.mem_append_left _ (List.mem_of_getElem? (i := 3) rfl)) rfl rfl (fun hh => ?_)
  refine zN1 (N := 256) (h := (s.heap.size + 3)) hC hP hD hS hh (hA _ (Nat.le_add_right _ _)) (by decide) (by decide) (by decide) (Nat.le_of_ble_eq_true rfl) (Nat.le_of_ble_eq_true rfl) dX6_init_33 (fun H hP hD hS => ?_)
  have hP : va_P g.1 zcl ([(h0, .inr (6, [.ref s.heap.size, .ref (s.heap.size + 1), .ref (s.heap.size + 2), .null, .null, .int 0, .int 0, .int 0])), (s.heap.size, .inl (g.2.2.1, 8, .inl (fun _ => 0))), ((s.heap.size + 1), .inl (g.2.2.1, 16, .inl (fun _ => 0))), ((s.heap.size + 2), .inl (g.2.2.1, 256, .inl (fun _ => 0))), ((s.heap.size + 3), .inl (g.2.2.1, 256, .inl (fun _ => 0)))] ++ []) H := hP
  have hD : va_D (zA h0 s.heap.size) ([(h0, .inr (6, [.ref s.heap.size, .ref (s.heap.size + 1), .ref (s.heap.size + 2), .null, .null, .int 0, .int 0, .int 0])), (s.heap.size, .inl (g.2.2.1, 8, .inl (fun _ => 0))), ((s.heap.size + 1), .inl (g.2.2.1, 16, .inl (fun _ => 0))), ((s.heap.size + 2), .inl (g.2.2.1, 256, .inl (fun _ => 0))), ((s.heap.size + 3), .inl (g.2.2.1, 256, .inl (fun _ => 0)))] ++ []) := hD
  refine W.widen (k := 4) (n := 536) (Nat.le_of_ble_eq_true rfl) (Nat.le_of_ble_eq_true rfl) ?_
  refine zputF hC uin_X6 tyX6 tyX6_ok nmX6 rfl hP hD hS 0 rfl 3 (by decide) (hC.word mw_427) rfl hin rfl (tyX6_ok 3 (by decide)) rfl rfl (Nat.le_of_ble_eq_true rfl) dX6_init_35 (fun H locs hP hS => ?_)
  have hD := zDfst (ws' := ([(h0, .inr (6, [.ref s.heap.size, .ref (s.heap.size + 1), .ref (s.heap.size + 2), .ref (s.heap.size + 3), .null, .int 0, .int 0, .int 0])), (s.heap.size, .inl (g.2.2.1, 8, .inl (fun _ => 0))), ((s.heap.size + 1), .inl (g.2.2.1, 16, .inl (fun _ => 0))), ((s.heap.size + 2), .inl (g.2.2.1, 256, .inl (fun _ => 0))), ((s.heap.size + 3), .inl (g.2.2.1, 256, .inl (fun _ => 0)))] ++ [])) hD rfl
  have hP : va_P g.1 zcl ([(h0, .inr (6, [.ref s.heap.size, .ref (s.heap.size + 1), .ref (s.heap.size + 2), .ref (s.heap.size + 3), .null, .int 0, .int 0, .int 0])), (s.heap.size, .inl (g.2.2.1, 8, .inl (fun _ => 0))), ((s.heap.size + 1), .inl (g.2.2.1, 16, .inl (fun _ => 0))), ((s.heap.size + 2), .inl (g.2.2.1, 256, .inl (fun _ => 0))), ((s.heap.size + 3), .inl (g.2.2.1, 256, .inl (fun _ => 0)))] ++ []) H := hP
  refine lv_aload_n hx hb dX6_init_38 rfl (lv_at hl 0 rfl) ?_
  refine lv_bipush (v := 64) hx hb dX6_init_39 (by decide) ?_
  refine zszm (n := 4) hP (List.mem_append_left _ (List.mem_of_getElem? (i := 4) rfl)) rfl rfl (fun hh => ?_)
  refine zN1 (N := 64) (h := (s.heap.size + 4)) hC hP hD hS hh (hA _ (Nat.le_add_right _ _)) (by decide) (by decide) (by decide) (Nat.le_of_ble_eq_true rfl) (Nat.le_of_ble_eq_true rfl) dX6_init_41 (fun H hP hD hS => ?_)
  have hP : va_P g.1 zcl ([(h0, .inr (6, [.ref s.heap.size, .ref (s.heap.size + 1), .ref (s.heap.size + 2), .ref (s.heap.size + 3), .null, .int 0, .int 0, .int 0])), (s.heap.size, .inl (g.2.2.1, 8, .inl (fun _ => 0))), ((s.heap.size + 1), .inl (g.2.2.1, 16, .inl (fun _ => 0))), ((s.heap.size + 2), .inl (g.2.2.1, 256, .inl (fun _ => 0))), ((s.heap.size + 3), .inl (g.2.2.1, 256, .inl (fun _ => 0))), ((s.heap.size + 4), .inl (g.2.2.1, 64, .inl (fun _ => 0)))] ++ []) H := hP
  have hD : va_D (zA h0 s.heap.size) ([(h0, .inr (6, [.ref s.heap.size, .ref (s.heap.size + 1), .ref (s.heap.size + 2), .ref (s.heap.size + 3), .null, .int 0, .int 0, .int 0])), (s.heap.size, .inl (g.2.2.1, 8, .inl (fun _ => 0))), ((s.heap.size + 1), .inl (g.2.2.1, 16, .inl (fun _ => 0))), ((s.heap.size + 2), .inl (g.2.2.1, 256, .inl (fun _ => 0))), ((s.heap.size + 3), .inl (g.2.2.1, 256, .inl (fun _ => 0))), ((s.heap.size + 4), .inl (g.2.2.1, 64, .inl (fun _ => 0)))] ++ []) := hD
  refine W.widen (k := 5) (n := 600) (Nat.le_of_ble_eq_true rfl) (Nat.le_of_ble_eq_true rfl) ?_
  refine zputF hC uin_X6 tyX6 tyX6_ok nmX6 rfl hP hD hS 0 rfl 4 (by decide) (hC.word mw_428) rfl hin rfl (tyX6_ok 4 (by decide)) rfl rfl (Nat.le_of_ble_eq_true rfl) dX6_init_43 (fun H locs hP hS => ?_)
  have hD := zDfst (ws' := ([(h0, .inr (6, [.ref s.heap.size, .ref (s.heap.size + 1), .ref (s.heap.size + 2), .ref (s.heap.size + 3), .ref (s.heap.size + 4), .int 0, .int 0, .int 0])), (s.heap.size, .inl (g.2.2.1, 8, .inl (fun _ => 0))), ((s.heap.size + 1), .inl (g.2.2.1, 16, .inl (fun _ => 0))), ((s.heap.size + 2), .inl (g.2.2.1, 256, .inl (fun _ => 0))), ((s.heap.size + 3), .inl (g.2.2.1, 256, .inl (fun _ => 0))), ((s.heap.size + 4), .inl (g.2.2.1, 64, .inl (fun _ => 0)))] ++ [])) hD rfl
  have hP : va_P g.1 zcl ([(h0, .inr (6, [.ref s.heap.size, .ref (s.heap.size + 1), .ref (s.heap.size + 2), .ref (s.heap.size + 3), .ref (s.heap.size + 4), .int 0, .int 0, .int 0])), (s.heap.size, .inl (g.2.2.1, 8, .inl (fun _ => 0))), ((s.heap.size + 1), .inl (g.2.2.1, 16, .inl (fun _ => 0))), ((s.heap.size + 2), .inl (g.2.2.1, 256, .inl (fun _ => 0))), ((s.heap.size + 3), .inl (g.2.2.1, 256, .inl (fun _ => 0))), ((s.heap.size + 4), .inl (g.2.2.1, 64, .inl (fun _ => 0)))] ++ []) H := hP
  refine zszm (n := 5) hP (List.mem_append_left _ (List.mem_of_getElem? (i := 5) rfl)) rfl rfl (fun hz => ?_)
  refine W.widen (k := 5) (n := 600) (Nat.le_of_ble_eq_true rfl) (Nat.le_of_ble_eq_true rfl) ?_
  exact W.vret hx hb hr (fun t ht hW => ⟨⟨(), rfl, trivial, (congrArg Array.size ht).trans hz, by rw [← ht] at hP; exact hP, hD⟩, hS.F ht⟩) hS.2.2 dX6_init_46 hlk
theorem yi_X1 : zYI yX1_init cX1_init 1 := ⟨mw_455, mw_144, mw_456, by decide +kernel, rfl⟩
theorem zfs_X1 : ∀ j, j < 3 → defaultValue (tyX1 j) = vp_V [.int 0, .int 0, .int 0] j := by
  intro j hj
  rcases (show j = 0 ∨ j = 1 ∨ j = 2 by omega) with rfl | rfl | rfl <;> rfl
def zF_X1 (g : zG) (h0 sz : Nat) : va_W := [(h0, .inr (1, [.int 0, .int 0, .int 0]))]
def zR_X1 (g : zG) (sz : Nat) : va_W := []
set_option maxHeartbeats 4000000 in
set_option maxRecDepth 100000 in
theorem ci_X1 (hZ : zMnaS) (l : Launch) {g : zG} {h0 sz : Nat} (hb0 : zB g h0) (hlt : h0 < sz) : zNj l yX1_init cX1_init 1 1 0 0 g [(h0, .inr (1, [.int 0, .int 0, .int 0]))] (zF_X1 g h0 sz ++ zR_X1 g sz) h0 sz := by
  refine Met.ofW (cc := cX1_init) (maxL := 1) (ret := none) (by decide +kernel) rfl ?_
  intro p e s m args below meth c s₁ B hml hv
  obtain ⟨rfl, ⟨hsz, hP, hK, hST⟩, hAO⟩ := hv
  subst hsz
  have hC := zstart (own := RX1) rfl B hml hK hST
  have hin : meth.name = "<init>" := (name_of_methodNamed B.named B.method).1
  have hl := lv_entry ([.ref h0]) (n := 1) (Nat.le_of_ble_eq_true rfl)
  rw [lg_entry_eq]
  generalize (lg_sl ([.ref h0]) ++ List.replicate (1 - (lg_sl ([.ref h0])).length) Slot.unset).toArray = ls at hl ⊢
  have hl : lv_has ls 1 [(0, .ref h0)] := hl
  obtain ⟨hx, hb, hr, hml, hown, hts, hK, hlk, hST⟩ := id hC
  have hB : ∀ q, zA h0 s.heap.size q → zB g q := fun q h => h.elim (fun h => by rw [h]; exact hb0) (fun h => Nat.le_trans hST.1 h)
  have hA : ∀ q, s.heap.size ≤ q → zA h0 s.heap.size q := fun q h => Or.inr h
  have hS : va_S (zA h0 s.heap.size) s.heap s.heap [] := va_S.rf
  have hP : va_P g.1 zcl ([(h0, .inr (1, [.int 0, .int 0, .int 0]))] ++ []) s.heap := hP
  have hD : va_D (zA h0 s.heap.size) ([(h0, .inr (1, [.int 0, .int 0, .int 0]))] ++ []) := ⟨fun i j x y hi hj _ => by
    have h1 := (List.getElem?_eq_some_iff.mp hi).1
    have h2 := (List.getElem?_eq_some_iff.mp hj).1
    have h3 : ([(h0, .inr (1, [.int 0, .int 0, .int 0]))] ++ [] : va_W).length = 1 := rfl
    omega, fun k q hq => by
    have h1 : q ∈ ([(h0, .inr (1, [.int 0, .int 0, .int 0]))] ++ [] : va_W) := List.mem_of_getElem? hq
    rcases List.mem_cons.mp h1 with h | h
    · rw [h]; exact Or.inl rfl
    · cases h⟩
  refine lv_aload_n hx hb dX1_init_0 rfl (lv_at hl 0 rfl) ?_
  refine W.objInit hx hb hown (hC.word mw_457) (hC.word mw_165) (hC.word mw_166) rfl (by rw [hml]; exact hl.1) rfl dX1_init_1 (Nat.le_of_ble_eq_true rfl) (Nat.le_of_ble_eq_true rfl) ?_
  refine W.eq (g2 := F0 m 4 ls []) rfl ?_
  have hz : s.heap.size = s.heap.size + 0 := rfl
  refine W.widen (k := 0) (n := 0) (Nat.le_of_ble_eq_true rfl) (Nat.le_of_ble_eq_true rfl) ?_
  exact W.vret hx hb hr (fun t ht hW => ⟨⟨(), rfl, trivial, (congrArg Array.size ht).trans hz, by rw [← ht] at hP; exact hP, hD⟩, hS.F ht⟩) hS.2.2 dX1_init_4 hlk
theorem yi_X9 : zYI yX9_init cX9_init 1 := ⟨mw_162, mw_135, mw_163, by decide +kernel, rfl⟩
theorem zfs_X9 : ∀ j, j < 13 → defaultValue (tyX9 j) = vp_V [.null, .null, .null, .null, .null, .null, .null, .null, .null, .null, .int 0, .int 0, .int 0] j := by
  intro j hj
  rcases (show j = 0 ∨ j = 1 ∨ j = 2 ∨ j = 3 ∨ j = 4 ∨ j = 5 ∨ j = 6 ∨ j = 7 ∨ j = 8 ∨ j = 9 ∨ j = 10 ∨ j = 11 ∨ j = 12 by omega) with rfl | rfl | rfl | rfl | rfl | rfl | rfl | rfl | rfl | rfl | rfl | rfl | rfl <;> rfl
def zF_X9 (g : zG) (h0 sz : Nat) : va_W := (h0, .inr (9, [.ref sz, .ref (sz + 2), .ref (sz + 18), .ref (sz + 25), .ref (sz + 32), .ref (sz + 42), .ref (sz + 46), .ref (sz + 50), .ref (sz + 56), .ref (sz + 62), .int 0, .int 0, .int 0])) :: (((((((((([] ++ zF_X8 g sz (sz + 1)) ++ zF_X5 g (sz + 2) ((sz + 2) + 1)) ++ zF_X7 g (sz + 18) ((sz + 18) + 1)) ++ zF_X7 g (sz + 25) ((sz + 25) + 1)) ++ zF_X0 g (sz + 32) ((sz + 32) + 1)) ++ zF_X2 g (sz + 42) ((sz + 42) + 1)) ++ zF_X4 g (sz + 46) ((sz + 46) + 1)) ++ zF_X3 g (sz + 50) ((sz + 50) + 1)) ++ zF_X6 g (sz + 56) ((sz + 56) + 1)) ++ zF_X1 g (sz + 62) ((sz + 62) + 1))
def zR_X9 (g : zG) (sz : Nat) : va_W := (((((((((([] ++ zR_X8 g (sz + 1)) ++ zR_X5 g ((sz + 2) + 1)) ++ zR_X7 g ((sz + 18) + 1)) ++ zR_X7 g ((sz + 25) + 1)) ++ zR_X0 g ((sz + 32) + 1)) ++ zR_X2 g ((sz + 42) + 1)) ++ zR_X4 g ((sz + 46) + 1)) ++ zR_X3 g ((sz + 50) + 1)) ++ zR_X6 g ((sz + 56) + 1)) ++ zR_X1 g ((sz + 62) + 1))
set_option maxHeartbeats 4000000 in
set_option maxRecDepth 100000 in
theorem ci_X9 (hZ : zMnaS) (l : Launch) {g : zG} {h0 sz : Nat} (hb0 : zB g h0) (hlt : h0 < sz) : zNj l yX9_init cX9_init 1 5 63 6016 g [(h0, .inr (9, [.null, .null, .null, .null, .null, .null, .null, .null, .null, .null, .int 0, .int 0, .int 0]))] (zF_X9 g h0 sz ++ zR_X9 g sz) h0 sz := by
  refine Met.ofW (cc := cX9_init) (maxL := 1) (ret := none) (by decide +kernel) rfl ?_
  intro p e s m args below meth c s₁ B hml hv
  obtain ⟨rfl, ⟨hsz, hP, hK, hST⟩, hAO⟩ := hv
  subst hsz
  have hC := zstart (own := RX9) rfl B hml hK hST
  have hin : meth.name = "<init>" := (name_of_methodNamed B.named B.method).1
  have hl := lv_entry ([.ref h0]) (n := 1) (Nat.le_of_ble_eq_true rfl)
  rw [lg_entry_eq]
  generalize (lg_sl ([.ref h0]) ++ List.replicate (1 - (lg_sl ([.ref h0])).length) Slot.unset).toArray = ls at hl ⊢
  have hl : lv_has ls 1 [(0, .ref h0)] := hl
  obtain ⟨hx, hb, hr, hml, hown, hts, hK, hlk, hST⟩ := id hC
  have hB : ∀ q, zA h0 s.heap.size q → zB g q := fun q h => h.elim (fun h => by rw [h]; exact hb0) (fun h => Nat.le_trans hST.1 h)
  have hA : ∀ q, s.heap.size ≤ q → zA h0 s.heap.size q := fun q h => Or.inr h
  have hS : va_S (zA h0 s.heap.size) s.heap s.heap [] := va_S.rf
  have hP : va_P g.1 zcl ([(h0, .inr (9, [.null, .null, .null, .null, .null, .null, .null, .null, .null, .null, .int 0, .int 0, .int 0]))] ++ []) s.heap := hP
  have hD : va_D (zA h0 s.heap.size) ([(h0, .inr (9, [.null, .null, .null, .null, .null, .null, .null, .null, .null, .null, .int 0, .int 0, .int 0]))] ++ []) := ⟨fun i j x y hi hj _ => by
    have h1 := (List.getElem?_eq_some_iff.mp hi).1
    have h2 := (List.getElem?_eq_some_iff.mp hj).1
    have h3 : ([(h0, .inr (9, [.null, .null, .null, .null, .null, .null, .null, .null, .null, .null, .int 0, .int 0, .int 0]))] ++ [] : va_W).length = 1 := rfl
    omega, fun k q hq => by
    have h1 : q ∈ ([(h0, .inr (9, [.null, .null, .null, .null, .null, .null, .null, .null, .null, .null, .int 0, .int 0, .int 0]))] ++ [] : va_W) := List.mem_of_getElem? hq
    rcases List.mem_cons.mp h1 with h | h
    · rw [h]; exact Or.inl rfl
    · cases h⟩
  refine lv_aload_n hx hb dX9_init_0 rfl (lv_at hl 0 rfl) ?_
  refine W.objInit hx hb hown (hC.word mw_164) (hC.word mw_165) (hC.word mw_166) rfl (by rw [hml]; exact hl.1) rfl dX9_init_1 (Nat.le_of_ble_eq_true rfl) (Nat.le_of_ble_eq_true rfl) ?_
  refine W.eq (g2 := F0 m 4 ls []) rfl ?_
  refine lv_aload_n hx hb dX9_init_4 rfl (lv_at hl 0 rfl) ?_
  refine zsz0 hS (fun hh => ?_)
  refine zInT (N := 8) (ci := 8) (fs := [.null, .int 0, .int 0, .int 0, .int 0, .int 0, .int 0, .int 0]) (b := s.heap.size) hC hAO uin_X8 tyX8 tyX8_ok mw_167 mw_168 mw_136 hP hD hS hB (fun q h => hA q h) rfl zfs_X8 hh (ci_X8 hZ l (hB _ (hA _ (Nat.le_refl _))) (Nat.lt_succ_self _)) (hC.mn mn_35) yi_X8 hl.1 (Nat.le_of_ble_eq_true rfl) ⟨Nat.le_of_ble_eq_true rfl, Nat.le_of_ble_eq_true rfl⟩ ⟨Nat.le_of_ble_eq_true rfl, Nat.le_of_ble_eq_true rfl⟩ dX9_init_5 dX9_init_8 dX9_init_9 (fun H locs hP hD hS hh => ?_)
  refine W.widen (k := 2) (n := 608) (Nat.le_of_ble_eq_true rfl) (Nat.le_of_ble_eq_true rfl) ?_
  refine zputFT (fs' := [.ref s.heap.size, .null, .null, .null, .null, .null, .null, .null, .null, .null, .int 0, .int 0, .int 0]) hC uin_X9 tyX9 tyX9_ok nmX9 rfl hP hD hS 0 (by decide) (hC.word mw_470) rfl hin rfl (tyX9_ok 0 (by decide)) rfl rfl (Nat.le_of_ble_eq_true rfl) rfl dX9_init_12 (fun H locs hP hD hS => ?_)
  refine lv_aload_n hx hb dX9_init_15 rfl (lv_at hl 0 rfl) ?_
  refine zszm (n := 2) hP (List.mem_append_left _ (List.mem_cons_of_mem _ (List.mem_append_right _ (List.mem_of_getElem? (i := 1) rfl)))) rfl rfl (fun hh => ?_)
  refine zInT (N := 3) (ci := 5) (fs := [.null, .null, .null]) (b := (s.heap.size + 2)) hC hAO uin_X5 tyX5 tyX5_ok mw_207 mw_208 mw_137 hP hD hS hB (fun q h => hA q (Nat.le_trans (Nat.le_add_right _ _) h)) rfl zfs_X5 hh (ci_X5 hZ l (hB _ (hA _ (Nat.le_add_right _ _))) (Nat.lt_succ_self _)) (hC.mn mn_75) yi_X5 hl.1 (Nat.le_of_ble_eq_true rfl) ⟨Nat.le_of_ble_eq_true rfl, Nat.le_of_ble_eq_true rfl⟩ ⟨Nat.le_of_ble_eq_true rfl, Nat.le_of_ble_eq_true rfl⟩ dX9_init_16 dX9_init_19 dX9_init_20 (fun H locs hP hD hS hh => ?_)
  refine W.widen (k := 18) (n := 1219) (Nat.le_of_ble_eq_true rfl) (Nat.le_of_ble_eq_true rfl) ?_
  refine zputFT (fs' := [.ref s.heap.size, .ref (s.heap.size + 2), .null, .null, .null, .null, .null, .null, .null, .null, .int 0, .int 0, .int 0]) hC uin_X9 tyX9 tyX9_ok nmX9 rfl hP hD hS 1 (by decide) (hC.word mw_471) rfl hin rfl (tyX9_ok 1 (by decide)) rfl rfl (Nat.le_of_ble_eq_true rfl) rfl dX9_init_23 (fun H locs hP hD hS => ?_)
  refine lv_aload_n hx hb dX9_init_26 rfl (lv_at hl 0 rfl) ?_
  refine zszm (n := 18) hP (List.mem_append_left _ (List.mem_cons_of_mem _ (List.mem_append_right _ (List.mem_of_getElem? (i := 10) rfl)))) rfl rfl (fun hh => ?_)
  refine zInT (N := 9) (ci := 7) (fs := [.null, .null, .null, .null, .null, .null, .int 0, .int 0, .int 0]) (b := (s.heap.size + 18)) hC hAO uin_X7 tyX7 tyX7_ok mw_297 mw_298 mw_140 hP hD hS hB (fun q h => hA q (Nat.le_trans (Nat.le_add_right _ _) h)) rfl zfs_X7 hh (ci_X7 hZ l (hB _ (hA _ (Nat.le_add_right _ _))) (Nat.lt_succ_self _)) (hC.mn mn_165) yi_X7 hl.1 (Nat.le_of_ble_eq_true rfl) ⟨Nat.le_of_ble_eq_true rfl, Nat.le_of_ble_eq_true rfl⟩ ⟨Nat.le_of_ble_eq_true rfl, Nat.le_of_ble_eq_true rfl⟩ dX9_init_27 dX9_init_30 dX9_init_31 (fun H locs hP hD hS hh => ?_)
  refine W.widen (k := 25) (n := 1270) (Nat.le_of_ble_eq_true rfl) (Nat.le_of_ble_eq_true rfl) ?_
  refine zputFT (fs' := [.ref s.heap.size, .ref (s.heap.size + 2), .ref (s.heap.size + 18), .null, .null, .null, .null, .null, .null, .null, .int 0, .int 0, .int 0]) hC uin_X9 tyX9 tyX9_ok nmX9 rfl hP hD hS 2 (by decide) (hC.word mw_472) rfl hin rfl (tyX9_ok 2 (by decide)) rfl rfl (Nat.le_of_ble_eq_true rfl) rfl dX9_init_34 (fun H locs hP hD hS => ?_)
  refine lv_aload_n hx hb dX9_init_37 rfl (lv_at hl 0 rfl) ?_
  refine zszm (n := 25) hP (List.mem_append_left _ (List.mem_cons_of_mem _ (List.mem_append_right _ (List.mem_of_getElem? (i := 6) rfl)))) rfl rfl (fun hh => ?_)
  refine zInT (N := 9) (ci := 7) (fs := [.null, .null, .null, .null, .null, .null, .int 0, .int 0, .int 0]) (b := (s.heap.size + 25)) hC hAO uin_X7 tyX7 tyX7_ok mw_297 mw_298 mw_140 hP hD hS hB (fun q h => hA q (Nat.le_trans (Nat.le_add_right _ _) h)) rfl zfs_X7 hh (ci_X7 hZ l (hB _ (hA _ (Nat.le_add_right _ _))) (Nat.lt_succ_self _)) (hC.mn mn_165) yi_X7 hl.1 (Nat.le_of_ble_eq_true rfl) ⟨Nat.le_of_ble_eq_true rfl, Nat.le_of_ble_eq_true rfl⟩ ⟨Nat.le_of_ble_eq_true rfl, Nat.le_of_ble_eq_true rfl⟩ dX9_init_38 dX9_init_41 dX9_init_42 (fun H locs hP hD hS hh => ?_)
  refine W.widen (k := 32) (n := 1321) (Nat.le_of_ble_eq_true rfl) (Nat.le_of_ble_eq_true rfl) ?_
  refine zputFT (fs' := [.ref s.heap.size, .ref (s.heap.size + 2), .ref (s.heap.size + 18), .ref (s.heap.size + 25), .null, .null, .null, .null, .null, .null, .int 0, .int 0, .int 0]) hC uin_X9 tyX9 tyX9_ok nmX9 rfl hP hD hS 3 (by decide) (hC.word mw_473) rfl hin rfl (tyX9_ok 3 (by decide)) rfl rfl (Nat.le_of_ble_eq_true rfl) rfl dX9_init_45 (fun H locs hP hD hS => ?_)
  refine lv_aload_n hx hb dX9_init_48 rfl (lv_at hl 0 rfl) ?_
  refine zszm (n := 32) hP (List.mem_append_left _ (List.mem_cons_of_mem _ (List.mem_append_right _ (List.mem_of_getElem? (i := 6) rfl)))) rfl rfl (fun hh => ?_)
  refine zInT (N := 6) (ci := 0) (fs := [.null, .null, .null, .null, .int 0, .int 0]) (b := (s.heap.size + 32)) hC hAO uin_X0 tyX0 tyX0_ok mw_354 mw_214 mw_138 hP hD hS hB (fun q h => hA q (Nat.le_trans (Nat.le_add_right _ _) h)) rfl zfs_X0 hh (ci_X0 hZ l (hB _ (hA _ (Nat.le_add_right _ _))) (Nat.lt_succ_self _)) (hC.mn mn_221) yi_X0 hl.1 (Nat.le_of_ble_eq_true rfl) ⟨Nat.le_of_ble_eq_true rfl, Nat.le_of_ble_eq_true rfl⟩ ⟨Nat.le_of_ble_eq_true rfl, Nat.le_of_ble_eq_true rfl⟩ dX9_init_49 dX9_init_52 dX9_init_53 (fun H locs hP hD hS hh => ?_)
  refine W.widen (k := 42) (n := 1467) (Nat.le_of_ble_eq_true rfl) (Nat.le_of_ble_eq_true rfl) ?_
  refine zputFT (fs' := [.ref s.heap.size, .ref (s.heap.size + 2), .ref (s.heap.size + 18), .ref (s.heap.size + 25), .ref (s.heap.size + 32), .null, .null, .null, .null, .null, .int 0, .int 0, .int 0]) hC uin_X9 tyX9 tyX9_ok nmX9 rfl hP hD hS 4 (by decide) (hC.word mw_474) rfl hin rfl (tyX9_ok 4 (by decide)) rfl rfl (Nat.le_of_ble_eq_true rfl) rfl dX9_init_56 (fun H locs hP hD hS => ?_)
  refine lv_aload_n hx hb dX9_init_59 rfl (lv_at hl 0 rfl) ?_
  refine zszm (n := 42) hP (List.mem_append_right _ (List.mem_append_right _ (zRw_mem (i := 4) (by decide)))) rfl rfl (fun hh => ?_)
  refine zInT (N := 4) (ci := 2) (fs := [.null, .null, .null, .int 0]) (b := (s.heap.size + 42)) hC hAO uin_X2 tyX2 tyX2_ok mw_356 mw_253 mw_139 hP hD hS hB (fun q h => hA q (Nat.le_trans (Nat.le_add_right _ _) h)) rfl zfs_X2 hh (ci_X2 hZ l (hB _ (hA _ (Nat.le_add_right _ _))) (Nat.lt_succ_self _)) (hC.mn mn_223) yi_X2 hl.1 (Nat.le_of_ble_eq_true rfl) ⟨Nat.le_of_ble_eq_true rfl, Nat.le_of_ble_eq_true rfl⟩ ⟨Nat.le_of_ble_eq_true rfl, Nat.le_of_ble_eq_true rfl⟩ dX9_init_60 dX9_init_63 dX9_init_64 (fun H locs hP hD hS hh => ?_)
  refine W.widen (k := 46) (n := 1921) (Nat.le_of_ble_eq_true rfl) (Nat.le_of_ble_eq_true rfl) ?_
  refine zputFT (fs' := [.ref s.heap.size, .ref (s.heap.size + 2), .ref (s.heap.size + 18), .ref (s.heap.size + 25), .ref (s.heap.size + 32), .ref (s.heap.size + 42), .null, .null, .null, .null, .int 0, .int 0, .int 0]) hC uin_X9 tyX9 tyX9_ok nmX9 rfl hP hD hS 5 (by decide) (hC.word mw_475) rfl hin rfl (tyX9_ok 5 (by decide)) rfl rfl (Nat.le_of_ble_eq_true rfl) rfl dX9_init_67 (fun H locs hP hD hS => ?_)
  refine lv_aload_n hx hb dX9_init_70 rfl (lv_at hl 0 rfl) ?_
  refine zszm (n := 46) hP (List.mem_append_left _ (List.mem_cons_of_mem _ (List.mem_append_right _ (List.mem_of_getElem? (i := 3) rfl)))) rfl rfl (fun hh => ?_)
  refine zInT (N := 9) (ci := 4) (fs := [.null, .null, .null, .int 0, .int 0, .int 0, .int 0, .int 0, .int 0]) (b := (s.heap.size + 46)) hC hAO uin_X4 tyX4 tyX4_ok mw_358 mw_359 mw_141 hP hD hS hB (fun q h => hA q (Nat.le_trans (Nat.le_add_right _ _) h)) rfl zfs_X4 hh (ci_X4 hZ l (hB _ (hA _ (Nat.le_add_right _ _))) (Nat.lt_succ_self _)) (hC.mn mn_226) yi_X4 hl.1 (Nat.le_of_ble_eq_true rfl) ⟨Nat.le_of_ble_eq_true rfl, Nat.le_of_ble_eq_true rfl⟩ ⟨Nat.le_of_ble_eq_true rfl, Nat.le_of_ble_eq_true rfl⟩ dX9_init_71 dX9_init_74 dX9_init_75 (fun H locs hP hD hS hh => ?_)
  refine W.widen (k := 50) (n := 2380) (Nat.le_of_ble_eq_true rfl) (Nat.le_of_ble_eq_true rfl) ?_
  refine zputFT (fs' := [.ref s.heap.size, .ref (s.heap.size + 2), .ref (s.heap.size + 18), .ref (s.heap.size + 25), .ref (s.heap.size + 32), .ref (s.heap.size + 42), .ref (s.heap.size + 46), .null, .null, .null, .int 0, .int 0, .int 0]) hC uin_X9 tyX9 tyX9_ok nmX9 rfl hP hD hS 6 (by decide) (hC.word mw_476) rfl hin rfl (tyX9_ok 6 (by decide)) rfl rfl (Nat.le_of_ble_eq_true rfl) rfl dX9_init_78 (fun H locs hP hD hS => ?_)
  refine lv_aload_n hx hb dX9_init_81 rfl (lv_at hl 0 rfl) ?_
  refine zszm (n := 50) hP (List.mem_append_left _ (List.mem_cons_of_mem _ (List.mem_append_right _ (List.mem_of_getElem? (i := 3) rfl)))) rfl rfl (fun hh => ?_)
  refine zInT (N := 4) (ci := 3) (fs := [.null, .null, .int 0, .int 0]) (b := (s.heap.size + 50)) hC hAO uin_X3 tyX3 tyX3_ok mw_395 mw_396 mw_142 hP hD hS hB (fun q h => hA q (Nat.le_trans (Nat.le_add_right _ _) h)) rfl zfs_X3 hh (ci_X3 hZ l (hB _ (hA _ (Nat.le_add_right _ _))) (Nat.lt_succ_self _)) (hC.mn mn_263) yi_X3 hl.1 (Nat.le_of_ble_eq_true rfl) ⟨Nat.le_of_ble_eq_true rfl, Nat.le_of_ble_eq_true rfl⟩ ⟨Nat.le_of_ble_eq_true rfl, Nat.le_of_ble_eq_true rfl⟩ dX9_init_82 dX9_init_85 dX9_init_86 (fun H locs hP hD hS hh => ?_)
  refine W.widen (k := 56) (n := 5405) (Nat.le_of_ble_eq_true rfl) (Nat.le_of_ble_eq_true rfl) ?_
  refine zputFT (fs' := [.ref s.heap.size, .ref (s.heap.size + 2), .ref (s.heap.size + 18), .ref (s.heap.size + 25), .ref (s.heap.size + 32), .ref (s.heap.size + 42), .ref (s.heap.size + 46), .ref (s.heap.size + 50), .null, .null, .int 0, .int 0, .int 0]) hC uin_X9 tyX9 tyX9_ok nmX9 rfl hP hD hS 7 (by decide) (hC.word mw_477) rfl hin rfl (tyX9_ok 7 (by decide)) rfl rfl (Nat.le_of_ble_eq_true rfl) rfl dX9_init_89 (fun H locs hP hD hS => ?_)
  refine lv_aload_n hx hb dX9_init_92 rfl (lv_at hl 0 rfl) ?_
  refine zszm (n := 56) hP (List.mem_append_right _ (List.mem_append_right _ (zRw_mem (i := 2) (by decide)))) rfl rfl (fun hh => ?_)
  refine zInT (N := 8) (ci := 6) (fs := [.null, .null, .null, .null, .null, .int 0, .int 0, .int 0]) (b := (s.heap.size + 56)) hC hAO uin_X6 tyX6 tyX6_ok mw_417 mw_418 mw_143 hP hD hS hB (fun q h => hA q (Nat.le_trans (Nat.le_add_right _ _) h)) rfl zfs_X6 hh (ci_X6 hZ l (hB _ (hA _ (Nat.le_add_right _ _))) (Nat.lt_succ_self _)) (hC.mn mn_285) yi_X6 hl.1 (Nat.le_of_ble_eq_true rfl) ⟨Nat.le_of_ble_eq_true rfl, Nat.le_of_ble_eq_true rfl⟩ ⟨Nat.le_of_ble_eq_true rfl, Nat.le_of_ble_eq_true rfl⟩ dX9_init_93 dX9_init_96 dX9_init_97 (fun H locs hP hD hS hh => ?_)
  refine W.widen (k := 62) (n := 6013) (Nat.le_of_ble_eq_true rfl) (Nat.le_of_ble_eq_true rfl) ?_
  refine zputFT (fs' := [.ref s.heap.size, .ref (s.heap.size + 2), .ref (s.heap.size + 18), .ref (s.heap.size + 25), .ref (s.heap.size + 32), .ref (s.heap.size + 42), .ref (s.heap.size + 46), .ref (s.heap.size + 50), .ref (s.heap.size + 56), .null, .int 0, .int 0, .int 0]) hC uin_X9 tyX9 tyX9_ok nmX9 rfl hP hD hS 8 (by decide) (hC.word mw_478) rfl hin rfl (tyX9_ok 8 (by decide)) rfl rfl (Nat.le_of_ble_eq_true rfl) rfl dX9_init_100 (fun H locs hP hD hS => ?_)
  refine lv_aload_n hx hb dX9_init_103 rfl (lv_at hl 0 rfl) ?_
  refine zszm (n := 62) hP (List.mem_append_left _ (List.mem_cons_of_mem _ (List.mem_append_right _ (List.mem_of_getElem? (i := 5) rfl)))) rfl rfl (fun hh => ?_)
  refine zInT (N := 3) (ci := 1) (fs := [.int 0, .int 0, .int 0]) (b := (s.heap.size + 62)) hC hAO uin_X1 tyX1 tyX1_ok mw_452 mw_453 mw_144 hP hD hS hB (fun q h => hA q (Nat.le_trans (Nat.le_add_right _ _) h)) rfl zfs_X1 hh (ci_X1 hZ l (hB _ (hA _ (Nat.le_add_right _ _))) (Nat.lt_succ_self _)) (hC.mn mn_320) yi_X1 hl.1 (Nat.le_of_ble_eq_true rfl) ⟨Nat.le_of_ble_eq_true rfl, Nat.le_of_ble_eq_true rfl⟩ ⟨Nat.le_of_ble_eq_true rfl, Nat.le_of_ble_eq_true rfl⟩ dX9_init_104 dX9_init_107 dX9_init_108 (fun H locs hP hD hS hh => ?_)
  refine W.widen (k := 63) (n := 6016) (Nat.le_of_ble_eq_true rfl) (Nat.le_of_ble_eq_true rfl) ?_
  refine zputFT (fs' := [.ref s.heap.size, .ref (s.heap.size + 2), .ref (s.heap.size + 18), .ref (s.heap.size + 25), .ref (s.heap.size + 32), .ref (s.heap.size + 42), .ref (s.heap.size + 46), .ref (s.heap.size + 50), .ref (s.heap.size + 56), .ref (s.heap.size + 62), .int 0, .int 0, .int 0]) hC uin_X9 tyX9 tyX9_ok nmX9 rfl hP hD hS 9 (by decide) (hC.word mw_479) rfl hin rfl (tyX9_ok 9 (by decide)) rfl rfl (Nat.le_of_ble_eq_true rfl) rfl dX9_init_111 (fun H locs hP hD hS => ?_)
  refine zszm (n := 63) hP (List.mem_append_left _ (List.mem_cons_of_mem _ (List.mem_append_right _ (List.mem_of_getElem? (i := 0) rfl)))) rfl rfl (fun hz => ?_)
  refine W.widen (k := 63) (n := 6016) (Nat.le_of_ble_eq_true rfl) (Nat.le_of_ble_eq_true rfl) ?_
  exact W.vret hx hb hr (fun t ht hW => ⟨⟨(), rfl, trivial, (congrArg Array.size ht).trans hz, by rw [← ht] at hP; exact hP, hD⟩, hS.F ht⟩) hS.2.2 dX9_init_114 hlk
