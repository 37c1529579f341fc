/-! DRAFT, not yet compiled: rules for constructors; the addresses are known -/
section ZINI
variable {p : Program} {l : Launch} {e : Env} {R : Room} {s : State} {m : MethodId} {args : Array Value} {below : List Frame} {meth : Method} {c : Code} {H : Heap} {locs : List Loc} {cells slots : Nat} {Q : State → Prop}
variable {g : zG} {own : String} {cc : ByteArray} {nL : Nat} {ret : Option FieldType} {pc : Nat} {ls : Array Slot} {rest : List Value} {A : Nat → Prop} {ws : va_W} {H0 : Heap}
/-- the list's addresses: h0, then sz, sz+1, .. in the order of allocation -/
theorem zDseq {h0 sz n : Nat} (h : ws.map Prod.fst = h0 :: (List.range n).map (fun k => sz + k)) (hlt : h0 < sz) (hA0 : A h0) (hA : ∀ q, sz ≤ q → A q) : va_D A ws := by
  have hat : ∀ (k : Nat) (q : Nat × va_E), ws[k]? = some q → (k = 0 ∧ q.1 = h0) ∨ (∃ j, k = j + 1 ∧ q.1 = sz + j) := fun k q hq => by
    have h1 : (ws.map Prod.fst)[k]? = some q.1 := by rw [List.getElem?_map, hq]; rfl
    rw [h] at h1
    cases k with
    | zero => exact Or.inl ⟨rfl, (Option.some.inj h1).symm⟩
    | succ j =>
      rw [List.getElem?_cons_succ, List.getElem?_map] at h1
      by_cases hj : j < n
      · rw [List.getElem?_range hj] at h1
        exact Or.inr ⟨j, rfl, (Option.some.inj h1).symm⟩
      · rw [List.getElem?_eq_none (by simp; omega)] at h1
        cases h1
  refine ⟨fun i j x y hi hj e => ?_, fun k q hq => ?_⟩
  · rcases hat i x hi with ⟨a1, a2⟩ | ⟨i', a1, a2⟩ <;> rcases hat j y hj with ⟨b1, b2⟩ | ⟨j', b1, b2⟩ <;> omega
  · rcases hat k q hq with ⟨a1, a2⟩ | ⟨j, a1, a2⟩
    · rw [a2]; exact hA0
    · rw [a2]; exact hA _ (by omega)
/-- new int[n] -/
theorem zNewA (hC : zC g own cc nL ret p s m meth c args) (harr : (Cond.arrayClass .int).before args s = true) (hP : va_P g.1 zcl ws H) (hS : va_S A H0 H locs)
    {n : Int32} {N h : Nat} (hh : H.size = h) (hn : ¬ n < 0) (hN : n.toNatClampNeg = N) (hbytes : N * 4 ≤ 536870912) (hcells : cells + 1 ≤ R.cells) (hslots : slots + N ≤ R.slots) (hdg : decode cc pc = .ok (.newarray .int, 2))
    (kk : ∀ (H1 : Heap), va_P g.1 zcl (ws ++ [(h, .inl (g.2.2.1, N, .inl (fun _ => 0)))]) H1 → H1.size = h + 1 → va_S A H0 H1 locs → W p l e R s m args below meth c H1 locs (cells + 1) (slots + N) Q (F0 m (pc + 2) ls (.ref h :: rest))) : W p l e R s m args below meth c H locs cells slots Q (F0 m pc ls (.int n :: rest)) := by
  obtain ⟨hx, hb, hr, hml, hown, hts, hK, hlk, hST⟩ := id hC
  refine va_newaK (atype := .int) hx hb harr rfl hdg rfl hn hN hbytes hcells hslots hh fun H1 cA e1 z1 o1 hAr hNm => ?_
  have hk : ∀ (k : Nat) (x : Nat × va_E), ws[k]? = some x → H1[x.1]? = H[x.1]? := fun k x hx => o1 x.1 (by have := (hP k x hx).lt; omega)
  have hcA : cA = g.2.2.1 := Option.some.inj (hNm.symm.trans (hK.1.2 0 _ rfl).2)
  subst hcA
  refine kk H1 ((hP.kept hk).app (fun k x hx => ?_)) z1 ⟨Nat.le_trans hS.1 (by omega), fun x h1 h2 => (o1 x (Nat.lt_of_lt_of_le h1 (hh ▸ hS.1))).trans (hS.2.1 x h1 h2), hS.2.2⟩
  have hz : k < 1 := (List.getElem?_eq_some_iff.mp hx).1
  rw [show k = 0 by omega] at hx
  cases hx
  show H1[h]? = some (vp_cell _ _)
  rw [vp_cell_i]
  exact e1
/-- new C -/
theorem zNewO (hC : zC g own cc nL ret p s m meth c args) {C : String} {T : u_T} {N ci index : Nat} (hin : ∀ w ∈ u_ws C T N, w ∈ AW) (ty : Nat → FieldType) (hty : ∀ k, k < N → parseFieldDescriptor (T k).2.2.1 = some (ty k)) (hcl : (Cond.classLink own index C).before args s = true) (hinst : (Cond.instantiable C N).before args s = true) (hini : (Cond.initialized C).before args s = true)
    (hP : va_P g.1 zcl ws H) (hS : va_S A H0 H locs) (hc : zcl[ci]? = some (C, T, N)) {fs : List Value} (hfs : ∀ j, j < N → defaultValue (ty j) = vp_V fs j) {h : Nat} (hh : H.size = h) (hcells : cells + 1 ≤ R.cells) (hslots : slots + N ≤ R.slots) (hdg : decode cc pc = .ok (.new index, 3))
    (kk : ∀ (H1 : Heap), va_P g.1 zcl (ws ++ [(h, .inr (ci, fs))]) H1 → H1.size = h + 1 → va_S A H0 H1 locs → W p l e R s m args below meth c H1 locs (cells + 1) (slots + N) Q (F0 m (pc + 3) ls (.ref h :: rest))) : W p l e R s m args below meth c H locs cells slots Q (F0 m pc ls rest) := by
  obtain ⟨hx, hb, hr, hml, hown, hts, hK, hlk, hST⟩ := id hC
  subst hh
  have hKn := hK.1.1 ci _ hc
  refine W.newcK hx hb hown hcl hinst hini rfl hdg hcells hslots hKn.2.1 rfl fun H1 kC hkC e1 z1 o1 => ?_
  have hk : ∀ (k : Nat) (x : Nat × va_E), ws[k]? = some x → H1[x.1]? = H[x.1]? := fun k x hx => o1 x.1 ((hP k x hx).lt)
  refine kk H1 ((hP.kept hk).app (fun k x hx => ?_)) z1 ⟨Nat.le_trans hS.1 (by omega), fun x h1 h2 => (o1 x (Nat.lt_of_lt_of_le h1 hS.1)).trans (hS.2.1 x h1 h2), hS.2.2⟩
  have hz : k < 1 := (List.getElem?_eq_some_iff.mp hx).1
  rw [show k = 0 by omega] at hx
  cases hx
  exact ⟨_, hc, (u_born ty hts hin hKn hkC e1 hty).to hfs⟩
/-- a final field's place, out of a constructor -/
theorem zputF (hC : zC g own cc nL ret p s m meth c args) {a : Nat} {C : String} {T : u_T} {N ci index : Nat} (huin : ∀ w ∈ u_ws C T N, w ∈ AW) (ty0 : Nat → FieldType) (hty : ∀ k, k < N → parseFieldDescriptor (T k).2.2.1 = some (ty0 k)) (hnm : ∀ a, a < N → ∀ b, b < N → a ≠ b → (T a).2.1 ≠ (T b).2.1) (hc : zcl[ci]? = some (C, T, N)) (hP : va_P g.1 zcl ws H) (hD : va_D A ws) (hS : va_S A H0 H locs) (q0 : Nat) {fs : List Value} (he : ws[q0]? = some (a, .inr (ci, fs))) (j : Nat) (hj : j < N) {v : Value} {ty : FieldType}
    (hl : (Cond.fieldLink own index (T j).1 (T j).2.1 (T j).2.2.1).before args s = true) (hfin : (T j).2.2.2 = true) (hin : meth.name = "<init>") (hdecl : (T j).1 = own) (hd : parseFieldDescriptor (T j).2.2.1 = some ty) (hn : narrow ty v = v) (hfit : fits ty v = true) (hlen : j < fs.length) (hdg : decode cc pc = .ok (.putfield index, 3))
    (kk : ∀ (H1 : Heap) (locs1 : List Loc), va_P g.1 zcl (ws.set q0 (a, .inr (ci, fs.set j v))) H1 → va_S A H0 H1 locs1 → W p l e R s m args below meth c H1 locs1 cells slots Q (F0 m (pc + 3) ls rest)) : W p l e R s m args below meth c H locs cells slots Q (F0 m pc ls (v :: .ref a :: rest)) := by
  obtain ⟨hx, hb, hr, hml, hown, hts, hK, hlk, hST⟩ := hC
  exact va_putF (D := g.1) (ci := ci) (v := v) (ty := ty) (C := C) (T := T) (N := N) hx hb hts huin ty0 hty hnm hown hK.1 hP hD hS q0 he hc j hj hl (fun _ h9 => h9) hfin hin hdecl hd hn hfit hlen hdg (fun H1 locs1 h1 _ h2 => kk H1 locs1 h1 h2)
/-- a constructor: from its object alone to its whole world, mc cells more -/
abbrev zNi (l : Launch) (y : MethodName) (cc : ByteArray) (nL k mc ms : Nat) (g : zG) (ws ws' : va_W) (h0 sz : Nat) : Prop :=
  Met l y (zW y cc nL none) { frames := k, cells := mc, slots := ms, locals := 60 * k } (va_Pc [.ref h0] (zPre g ws sz)) (va_Qv (fun (_ : Unit) => True) (fun _ t => t.heap.size = sz + mc ∧ va_P g.1 zcl ws' t.heap) (fun q => q = h0 ∨ sz ≤ q)) mc ms (fun q => q = h0 ∨ sz ≤ q)
def zYI (y : MethodName) (cc : ByteArray) (nL : Nat) : Prop := Cond.instanceMethod y ∈ AW ∧ Cond.initialized y.cls ∈ AW ∧ Cond.code y cc nL none ∈ AW ∧ zyd y 0 ∧ y.name = "<init>"
theorem zcallI {y : MethodName} {bytes : ByteArray} {maxL index k mc ms h0 sz : Nat} {st0 : List Value} {ws1 ws' : va_W} (hC : zC g own cc nL ret p s m meth c args) (hP : va_P g.1 zcl ws1 H) (hS : va_S A s.heap H locs) (hB : ∀ q, A q → zB g q) (hh : H.size = sz) (hA : ∀ q, (q = h0 ∨ sz ≤ q) → A q) (hM : zNi l y bytes maxL k mc ms g ws1 ws' h0 sz) (hl : zML own index y s) (hy : zYI y bytes maxL)
    (hls : ls.size = nL) (hst : st0 = .ref h0 :: rest) (hw : (rest.map fun v => v.category).sum ≤ 8) (hR : k + 1 ≤ R.frames ∧ 8 + (maxL + 11) + 60 * k ≤ R.locals) (hcs : cells + mc ≤ R.cells ∧ slots + ms ≤ R.slots) (hdg : decode cc pc = .ok (.invokespecial index, 3))
    (kk : ∀ (H1 : Heap) (locs1 : List Loc), va_P g.1 zcl ws' H1 → va_S A s.heap H1 locs1 → H1.size = sz + mc → (∀ q : Nat, q < H.size → q ≠ h0 → H1[q]? = H[q]?) → W p l e R s m args below meth c H1 locs1 (cells + mc) (slots + ms) Q (F0 m (pc + 3) ls rest)) : W p l e R s m args below meth c H locs cells slots Q (F0 m pc ls st0) := by
  subst hh
  have hp : PreS s H (va_Pc [.ref h0] (zPre g ws1 H.size)) [.ref h0] := zpreS hC hS hB hP
  obtain ⟨y1, y3, y4, y5, y6⟩ := hy
  have hG := zGoodIn y4
  have hrun : va_Run p l e R s m args below meth c H locs cells slots mc ms (F0 m pc ls st0) rest (va_Qv (fun (_ : Unit) => True) (fun _ t => t.heap.size = H.size + mc ∧ va_P g.1 zcl ws' t.heap) (fun q => q = h0 ∨ H.size ≤ q) ([.ref h0] : List Value).toArray) (fun q => q = h0 ∨ H.size ≤ q) := by
    obtain ⟨hx, hb, hr, hml, hown, hts, hK, hlk, hST⟩ := hC
    rcases hl with ⟨A9, hl⟩ | ⟨host, hl⟩
    · exact va_runI (As := []) (rest := rest) (n := 0) ⟨hx, hb, hml, hown, hts⟩ hM ⟨callB_of 0 hts hG rfl rfl rfl (hts _ y3) (va_Nw.use rfl (va_Nw.of rfl hl)) y5 hR, y6, hts _ y1⟩ hp rfl rfl hls hst (lv_room hw) hdg hcs
    · exact va_runIN (As := []) (rest := rest) (n := 0) ⟨hx, hb, hml, hown, hts⟩ hM ⟨va_cnB 0 hts hG rfl rfl rfl hl (hts _ y3) y5 hR, y6, hts _ y1⟩ hp rfl rfl hls hst (lv_room hw) hdg hcs
  refine va_callv hrun hS (fun q _ h => hA q h) hA (fun u t H1 locs1 ht hv hpp hbb hz hk hS1 => ?_)
  subst ht
  exact kk _ locs1 hbb.2 hS1 hbb.1 (fun q h1 h2 => hk q h1 (fun z => z.elim h2 (fun z => absurd z (by omega))))
/-- the heap is as large as the cells say: no more by the frame, no less by the last cell -/
theorem zsle {f : JFrame} (kk : H.size ≤ s.heap.size + cells → W p l e R s m args below meth c H locs cells slots Q f) : W p l e R s m args below meth c H locs cells slots Q f := by
  intro T hT X
  refine kk ?_ T hT X
  rw [← hT]
  exact X.same.2.2.1
theorem zsz {f : JFrame} {D : va_G} {cl : List vw_C} {j n : Nat} {x : va_E} (hP : va_P D cl ws H) (he : ws[j]? = some (s.heap.size + n, x)) (hc : cells = n + 1) (kk : H.size = s.heap.size + (n + 1) → W p l e R s m args below meth c H locs cells slots Q f) : W p l e R s m args below meth c H locs cells slots Q f := by
  refine zsle (fun h => kk ?_)
  have := (hP j _ he).lt
  subst hc
  show H.size = s.heap.size + (n + 1)
  have h2 : s.heap.size + n < H.size := this
  omega
theorem zsz0 {f : JFrame} (hS : va_S A s.heap H locs) (kk : H.size = s.heap.size → W p l e R s m args below meth c H locs 0 slots Q f) : W p l e R s m args below meth c H locs 0 slots Q f := zsle (fun h => kk (Nat.le_antisymm h hS.1))
end ZINI
