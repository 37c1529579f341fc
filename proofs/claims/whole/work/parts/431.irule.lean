/-! rules for constructors: worlds 'fixed cells ++ rows' -/
def zAO (U : State) : Prop := (Cond.arrayOver (.array .int)).before #[] U = true
theorem zAO.any {U : State} {a : Array Value} (h : zAO U) : (Cond.arrayOver (.array .int)).before a U = true := h
theorem zAO.alike {U U' : State} (hal : U.vm.Alike U'.vm) (h : zAO U) : zAO U' := by
  unfold zAO at h ⊢
  simp only [Cond.before, Cond.holds, Cond.value] at h ⊢
  rw [hal.findClass]
  cases hf : U.vm.findClass (FieldType.array .int).toString with
  | none => rw [hf] at h; simp at h
  | some comp =>
    rw [hf] at h
    simp only [Option.bind_some] at h ⊢
    rw [hal.findIdx_congr _ (fun _ _ _ _ => rfl)]
    generalize hF : (U.vm.classes.findIdx? fun (x : Class) => match x.kind with | .array component _ => component == comp | _ => false) = fi at h ⊢
    cases fi with
    | none => simp at h
    | some c =>
      simp only [Option.bind_some] at h ⊢
      cases hk : U.vm.classes[c]? with
      | none => rw [hk] at h; simp at h
      | some k =>
        obtain ⟨k', hk', ek⟩ := hal.2.2 _ _ hk
        rw [hk] at h
        rw [hk', hal.findClass]
        have ekind : k'.kind = k.kind := by rw [ek]
        simp only [Option.map_some] at h ⊢
        rw [ekind]
        exact h
theorem zPm {D : va_G} {cl : List vw_C} {ws ws' : va_W} {H : Heap} (h : va_P D cl ws H) (hm : ∀ q ∈ ws', q ∈ ws) : va_P D cl ws' H := fun k q hk => by
  obtain ⟨i, hi⟩ := List.mem_iff_getElem?.mp (hm q (List.mem_of_getElem? hk))
  exact h i q hi
theorem zPlt {D : va_G} {cl : List vw_C} {ws : va_W} {H : Heap} (h : va_P D cl ws H) {q : Nat × va_E} (hm : q ∈ ws) : q.1 < H.size := by
  obtain ⟨i, hi⟩ := List.mem_iff_getElem?.mp hm
  exact (h i q hi).lt
/-- the rows of a table, the first at h -/
def zRw (g : zG) (h N K : Nat) : va_W := (List.range N).map (fun i => (h + i, .inl (g.2.2.1, K, .inl (fun _ => 0))))
def zOut (g : zG) (h N : Nat) : Nat × va_E := (h, .inl (g.2.2.2.1, N, .inr (.inr (.inr (.inr (fun i => if i < N then some (h + 1 + i) else none))))))
theorem zRw_mem {g : zG} {h N K i : Nat} (hi : i < N) : (h + i, (.inl (g.2.2.1, K, .inl (fun _ => 0)) : va_E)) ∈ zRw g h N K := List.mem_map.mpr ⟨i, List.mem_range.mpr hi, rfl⟩
theorem zRw_at {g : zG} {h N K i : Nat} {p : Nat × va_E} (hp : (zRw g h N K)[i]? = some p) : p.1 = h + i ∧ i < N := by
  unfold zRw at hp
  rw [List.getElem?_map] at hp
  by_cases hi : i < N
  · rw [List.getElem?_range hi] at hp
    cases hp
    exact ⟨rfl, hi⟩
  · rw [List.getElem?_eq_none (by simp; omega)] at hp
    cases hp
theorem zRw_D {g : zG} {h N K : Nat} {A : Nat → Prop} (hA : ∀ q, h ≤ q → A q) : va_D A (zRw g h N K) := by
  refine ⟨fun i j x y hi hj e => ?_, fun k q hq => ?_⟩
  · have h1 := zRw_at hi
    have h2 := zRw_at hj
    omega
  · have h1 := zRw_at hq
    exact hA _ (by omega)
theorem zmixP {D : va_G} {cl : List vw_C} {F Rw Fs Rs : va_W} {H : Heap} (h1 : va_P D cl (F ++ Rw) H) (h2 : va_P D cl (Fs ++ Rs) H) : va_P D cl ((F ++ Fs) ++ (Rw ++ Rs)) H := zPm (h1.app h2) (fun q hq => by
  simp only [List.mem_append] at hq ⊢
  rcases hq with (h | h) | (h | h)
  · exact Or.inl (Or.inl h)
  · exact Or.inr (Or.inl h)
  · exact Or.inl (Or.inr h)
  · exact Or.inr (Or.inr h))
theorem zmixD {F Rw Fs Rs : va_W} {A : Nat → Prop} (h1 : va_D A (F ++ Rw)) (h2 : va_D A (Fs ++ Rs)) (hx : ∀ (i j : Nat) (p q : Nat × va_E), (F ++ Rw)[i]? = some p → (Fs ++ Rs)[j]? = some q → p.1 ≠ q.1) : va_D A ((F ++ Fs) ++ (Rw ++ Rs)) := by
  have h := va_D.swap (h1.app h2 hx)
  rw [← List.append_assoc F] at h
  have h := va_D.swap h
  rw [List.append_assoc (F ++ Fs)] at h
  exact h
def zA (h0 sz : Nat) : Nat → Prop := fun q => q = h0 ∨ sz ≤ q
def zPrJ (g : zG) (ws : va_W) (sz : Nat) : State → Prop := fun U => zPre g ws sz U ∧ zAO U
/-- a constructor: from its object alone to its whole world, mc cells more -/
abbrev zNj (l : Launch) (y : MethodName) (cc : ByteArray) (nL k mc ms : Nat) (g : zG) (ws ws' : va_W) (h0 sz : Nat) : Prop :=
  Met l y (zW y cc nL none) { frames := k, cells := mc, slots := ms, locals := 60 * k } (va_Pc [.ref h0] (zPrJ g ws sz)) (va_Qv (fun (_ : Unit) => True) (fun _ t => t.heap.size = sz + mc ∧ va_P g.1 zcl ws' t.heap ∧ va_D (zA h0 sz) ws') (zA h0 sz)) mc ms (zA h0 sz)
theorem zwAC : Cond.arrayClass .int ∈ AW := List.mem_filter.mpr ⟨zu1 (List.mem_of_getElem? (i := 72) (by rfl)), rfl⟩
section ZIR
variable {p : Program} {l : Launch} {e : Env} {R : Room} {s : State} {m : MethodId} {args : Array Value} {below : List Frame} {meth : Method} {c : Code} {H : Heap} {locs : List Loc} {cells slots : Nat} {Q : State → Prop}
variable {g : zG} {own : String} {cc : ByteArray} {nL : Nat} {ret : Option FieldType} {pc : Nat} {ls : Array Slot} {rest : List Value} {A : Nat → Prop} {ws : va_W} {H0 : Heap}
theorem zcallJ {y : MethodName} {bytes : ByteArray} {maxL index k mc ms h0 sz : Nat} {st0 : List Value} {ws1 ws' : va_W} (hC : zC g own cc nL ret p s m meth c args) (hAO : zAO s) (hP : va_P g.1 zcl ws1 H) (hS : va_S A s.heap H locs) (hB : ∀ q, A q → zB g q) (hh : H.size = sz) (hA : ∀ q, zA h0 sz q → A q) (hM : zNj l y bytes maxL k mc ms g ws1 ws' h0 sz) (hl : zML own index y s) (hy : zYI y bytes maxL)
    (hls : ls.size = nL) (hst : st0 = .ref h0 :: rest) (hw : (rest.map fun v => v.category).sum ≤ 8) (hR : k + 1 ≤ R.frames ∧ 8 + (maxL + 11) + 60 * k ≤ R.locals) (hcs : cells + mc ≤ R.cells ∧ slots + ms ≤ R.slots) (hdg : decode cc pc = .ok (.invokespecial index, 3))
    (kk : ∀ (H1 : Heap) (locs1 : List Loc), va_P g.1 zcl ws' H1 → va_D (zA h0 sz) ws' → va_S A s.heap H1 locs1 → H1.size = sz + mc → (∀ q : Nat, q < H.size → q ≠ h0 → H1[q]? = H[q]?) → W p l e R s m args below meth c H1 locs1 (cells + mc) (slots + ms) Q (F0 m (pc + 3) ls rest)) : W p l e R s m args below meth c H locs cells slots Q (F0 m pc ls st0) := by
  subst hh
  have hp : PreS s H (va_Pc [.ref h0] (zPrJ g ws1 H.size)) [.ref h0] := ⟨fun a U f mk h => ⟨h.1, ⟨h.2.1.1, h.2.1.2.1, h.2.1.2.2.1.calling, h.2.1.2.2.2.calling⟩, zAO.alike (U := U) (U' := U.calling f mk a) (Vm.Alike.refl U.vm) h.2.2⟩, fun U hU hW => ⟨rfl, ⟨by rw [hU], by rw [hU]; exact hP, hC.2.2.2.2.2.2.1.warm hW, hC.2.2.2.2.2.2.2.2.to hB hS hU hW⟩, hAO.alike hW.alike⟩⟩
  obtain ⟨y1, y3, y4, y5, y6⟩ := hy
  have hG := zGoodIn y4
  have hrun : va_Run p l e R s m args below meth c H locs cells slots mc ms (F0 m pc ls st0) rest (va_Qv (fun (_ : Unit) => True) (fun _ t => t.heap.size = H.size + mc ∧ va_P g.1 zcl ws' t.heap ∧ va_D (zA h0 H.size) ws') (zA h0 H.size) ([.ref h0] : List Value).toArray) (zA h0 H.size) := by
    obtain ⟨hx, hb, hr, hml, hown, hts, hK, hlk, hST⟩ := hC
    rcases hl with ⟨A9, hl⟩ | ⟨host, hl⟩
    · exact va_runI (As := []) (rest := rest) (n := 0) ⟨hx, hb, hml, hown, hts⟩ hM ⟨callB_of 0 hts hG rfl rfl rfl (hts _ y3) (va_Nw.use rfl (va_Nw.of rfl hl)) y5 hR, y6, hts _ y1⟩ hp rfl rfl hls hst (lv_room hw) hdg hcs
    · exact va_runIN (As := []) (rest := rest) (n := 0) ⟨hx, hb, hml, hown, hts⟩ hM ⟨va_cnB 0 hts hG rfl rfl rfl hl (hts _ y3) y5 hR, y6, hts _ y1⟩ hp rfl rfl hls hst (lv_room hw) hdg hcs
  refine va_callv hrun hS (fun q _ h => hA q h) hA (fun u t H1 locs1 ht hv hpp hbb hz hk hS1 => ?_)
  subst ht
  exact kk _ locs1 hbb.2.1 hbb.2.2 hS1 hbb.1 (fun q h1 h2 => hk q h1 (fun z => z.elim h2 (fun z => absurd z (by omega))))
/-- new int[n] behind the fixed cells -/
theorem zN1 (hC : zC g own cc nL ret p s m meth c args) {F Rw : va_W} (hP : va_P g.1 zcl (F ++ Rw) H) (hD : va_D A (F ++ Rw)) (hS : va_S A H0 H locs)
    {n : Int32} {N h : Nat} (hh : H.size = h) (hA : A h) (hn : ¬ n < 0) (hN : n.toNatClampNeg = N) (hbytes : N * 4 ≤ 536870912) (hcells : cells + 1 ≤ R.cells) (hslots : slots + N ≤ R.slots) (hdg : decode cc pc = .ok (.newarray .int, 2))
    (kk : ∀ (H1 : Heap), va_P g.1 zcl ((F ++ [(h, .inl (g.2.2.1, N, .inl (fun _ => 0)))]) ++ Rw) H1 → va_D A ((F ++ [(h, .inl (g.2.2.1, N, .inl (fun _ => 0)))]) ++ Rw) → va_S A H0 H1 locs → W p l e R s m args below meth c H1 locs (cells + 1) (slots + N) Q (F0 m (pc + 2) ls (.ref h :: rest))) : W p l e R s m args below meth c H locs cells slots Q (F0 m pc ls (.int n :: rest)) :=
  zNewA hC (hC.word zwAC) hP hS hh hn hN hbytes hcells hslots hdg (fun H1 hP1 z1 hS1 => kk H1 hP1.swap (va_D.swap (hD.push hP hh.symm hA)) hS1)
/-- new int[n][k], as a hypothesis: its proof stands in the last part -/
def zMnaS : Prop := ∀ (p : Program) (l : Launch) (e : Env) (R : Room) (s : State) (m : MethodId) (args : Array Value) (below : List Frame) (meth : Method) (c : Code) (H : Heap) (locs : List Loc) (cells slots : Nat) (Q : State → Prop) (g : zG) (own : String) (cc : ByteArray) (nL : Nat) (ret : Option FieldType) (pc : Nat) (ls : Array Slot) (rest : List Value) (A : Nat → Prop) (ws : va_W) (H0 : Heap) (index : Nat) (n k : Int32) (N K h : Nat),
  zC g own cc nL ret p s m meth c args → (Cond.classLink own index "[[I").before args s = true → (Cond.arrayOver (.array .int)).before args s = true → (Cond.arrayClass .int).before args s = true → va_P g.1 zcl ws H → va_S A H0 H locs →
  H.size = h → ¬ n < 0 → ¬ k < 0 → n.toNatClampNeg = N → k.toNatClampNeg = K → N * 4 ≤ 536870912 → K * 4 ≤ 536870912 → cells + (1 + N) ≤ R.cells → slots + (N + N * K) ≤ R.slots → decode cc pc = .ok (.multianewarray index 2, 4) →
  (∀ (H1 : Heap), va_P g.1 zcl (ws ++ (zOut g h N :: zRw g (h + 1) N K)) H1 → H1.size = h + 1 + N → va_S A H0 H1 locs → W p l e R s m args below meth c H1 locs (cells + 1 + N) (slots + N + N * K) Q (F0 m (pc + 4) ls (.ref h :: rest))) → W p l e R s m args below meth c H locs cells slots Q (F0 m pc ls (.int k :: .int n :: rest))
theorem zN2 (hZ : zMnaS) (hC : zC g own cc nL ret p s m meth c args) (hAO : zAO s) {F Rw : va_W} (hP : va_P g.1 zcl (F ++ Rw) H) (hD : va_D A (F ++ Rw)) (hS : va_S A H0 H locs)
    {n k : Int32} {N K h index : Nat} (hh : H.size = h) (hA : ∀ q, h ≤ q → A q) (hcl : Cond.classLink own index "[[I" ∈ AW) (hn : ¬ n < 0) (hk : ¬ k < 0) (hN : n.toNatClampNeg = N) (hK : k.toNatClampNeg = K) (hb1 : N * 4 ≤ 536870912) (hb2 : K * 4 ≤ 536870912) (hcells : cells + (1 + N) ≤ R.cells) (hslots : slots + (N + N * K) ≤ R.slots) (hdg : decode cc pc = .ok (.multianewarray index 2, 4))
    (kk : ∀ (H1 : Heap), va_P g.1 zcl ((F ++ [zOut g h N]) ++ (Rw ++ zRw g (h + 1) N K)) H1 → va_D A ((F ++ [zOut g h N]) ++ (Rw ++ zRw g (h + 1) N K)) → va_S A H0 H1 locs → W p l e R s m args below meth c H1 locs (cells + 1 + N) (slots + N + N * K) Q (F0 m (pc + 4) ls (.ref h :: rest))) : W p l e R s m args below meth c H locs cells slots Q (F0 m pc ls (.int k :: .int n :: rest)) := by
  refine hZ p l e R s m args below meth c H locs cells slots Q g own cc nL ret pc ls rest A (F ++ Rw) H0 index n k N K h hC (hC.word hcl) hAO.any (hC.word zwAC) hP hS hh hn hk hN hK hb1 hb2 hcells hslots hdg (fun H1 hP1 z1 hS1 => ?_)
  refine kk H1 (zPm hP1 (fun q hq => by
    simp only [List.mem_append, List.mem_cons, List.not_mem_nil, or_false] at hq ⊢
    rcases hq with (h | h) | (h | h)
    · exact Or.inl (Or.inl h)
    · exact Or.inr (Or.inl h)
    · exact Or.inl (Or.inr h)
    · exact Or.inr (Or.inr h))) ?_ hS1
  have hlt : ∀ (i : Nat) (q : Nat × va_E), (F ++ Rw)[i]? = some q → q.1 < h := fun i q hq => hh ▸ (hP i q hq).lt
  have h1 : va_D A (F ++ Rw ++ [zOut g h N]) := hD.push hP hh.symm (hA h (Nat.le_refl _))
  have h2 := va_D.swap h1
  have h3 : va_D A ((F ++ [zOut g h N] ++ Rw) ++ zRw g (h + 1) N K) := h2.app (zRw_D (fun q hq => hA q (by omega))) (fun i j x y hi hj => by
    have hy := zRw_at hj
    have hx := List.mem_of_getElem? hi
    simp only [List.mem_append, List.mem_cons, List.not_mem_nil, or_false] at hx
    have hxl : x.1 ≤ h := by
      rcases hx with (hx | hx) | hx
      · obtain ⟨i', hi'⟩ := List.mem_iff_getElem?.mp (List.mem_append_left Rw hx)
        have := hlt i' x hi'; omega
      · rw [hx]; exact Nat.le_refl h
      · obtain ⟨i', hi'⟩ := List.mem_iff_getElem?.mp (List.mem_append_right F hx)
        have := hlt i' x hi'; omega
    omega)
  rw [List.append_assoc (F ++ [zOut g h N])] at h3
  exact h3
/-- new C, dup, its constructor -/
theorem zIn (hC : zC g own cc nL ret p s m meth c args) (hAO : zAO s) {C : String} {T : u_T} {N ci index i2 : Nat} (hin : ∀ w ∈ u_ws C T N, w ∈ AW) (ty : Nat → FieldType) (hty : ∀ k, k < N → parseFieldDescriptor (T k).2.2.1 = some (ty k)) (hcl : Cond.classLink own index C ∈ AW) (hinst : Cond.instantiable C N ∈ AW) (hini : Cond.initialized C ∈ AW)
    {F Rw Fs Rs : va_W} (hP : va_P g.1 zcl (F ++ Rw) H) (hD : va_D A (F ++ Rw)) (hS : va_S A s.heap H locs) (hB : ∀ q, A q → zB g q) {b : Nat} (hA : ∀ q, b ≤ q → A q) (hc : zcl[ci]? = some (C, T, N)) {fs : List Value} (hfs : ∀ j, j < N → defaultValue (ty j) = vp_V fs j) (hh : H.size = b)
    {y : MethodName} {bytes : ByteArray} {maxL k mc ms : Nat} (hM : zNj l y bytes maxL k mc ms g [(b, .inr (ci, fs))] (Fs ++ Rs) b (b + 1)) (hl : zML own i2 y s) (hy : zYI y bytes maxL)
    (hls : ls.size = nL) (hw : ((.ref b :: rest : List Value).map fun v => v.category).sum ≤ 8) (hR : k + 1 ≤ R.frames ∧ 8 + (maxL + 11) + 60 * k ≤ R.locals) (hcs : cells + 1 + mc ≤ R.cells ∧ slots + N + ms ≤ R.slots) (hd1 : decode cc pc = .ok (.new index, 3)) (hd2 : decode cc (pc + 3) = .ok (.dup, 1)) (hd3 : decode cc (pc + 4) = .ok (.invokespecial i2, 3))
    (kk : ∀ (H1 : Heap) (locs1 : List Loc), va_P g.1 zcl ((F ++ Fs) ++ (Rw ++ Rs)) H1 → va_D A ((F ++ Fs) ++ (Rw ++ Rs)) → va_S A s.heap H1 locs1 → H1.size = b + 1 + mc → W p l e R s m args below meth c H1 locs1 (cells + 1 + mc) (slots + N + ms) Q (F0 m (pc + 7) ls (.ref b :: rest))) : W p l e R s m args below meth c H locs cells slots Q (F0 m pc ls rest) := by
  refine zNewO hC hin ty hty (hC.word hcl) (hC.word hinst) (hC.word hini) hP hS hc hfs hh (by omega) (by omega) hd1 (fun H1 hP1 z1 hS1 => ?_)
  refine lv_dup hC.1 hC.2.1 hd2 rfl ?_
  have hPo : va_P g.1 zcl [(b, .inr (ci, fs))] H1 := zPm hP1 (fun q hq => List.mem_append_right _ hq)
  have hPr : va_P g.1 zcl (F ++ Rw) H1 := zPm hP1 (fun q hq => List.mem_append_left _ hq)
  have hlt : ∀ (i : Nat) (q : Nat × va_E), (F ++ Rw)[i]? = some q → q.1 < b := fun i q hq => hh ▸ (hP i q hq).lt
  refine zcallJ (st0 := .ref b :: .ref b :: rest) (rest := .ref b :: rest) hC hAO hPo hS1 hB z1 (fun q h => by rcases h with h | h <;> exact hA q (by omega)) hM hl hy hls rfl hw hR hcs hd3 (fun H2 locs2 hP2 hD2 hS2 z2 hk2 => ?_)
  have hPr2 : va_P g.1 zcl (F ++ Rw) H2 := hPr.kept (fun k q hq => hk2 q.1 (by have := hlt k q hq; omega) (by have := hlt k q hq; omega))
  exact kk H2 locs2 (zmixP hPr2 hP2) (zmixD hD (hD2.weaken (fun k q _ h => by rcases h with h | h <;> exact hA q.1 (by omega))) (fun i j x y hi hj e => by
    have h1 := hlt i x hi
    have h2 := hD2.2 j y hj
    rcases h2 with h2 | h2 <;> omega)) hS2 z2
/-- the heap's size, by the last cell made -/
theorem zszm {f : JFrame} {D : va_G} {cl : List vw_C} {n : Nat} {q : Nat × va_E} (hP : va_P D cl ws H) (hq : q ∈ ws) (he : q.1 + 1 = s.heap.size + n) (hc : cells = n) (kk : H.size = s.heap.size + n → W p l e R s m args below meth c H locs cells slots Q f) : W p l e R s m args below meth c H locs cells slots Q f := by
  refine zsle (fun h => kk ?_)
  have := zPlt hP hq
  subst hc
  omega
end ZIR
