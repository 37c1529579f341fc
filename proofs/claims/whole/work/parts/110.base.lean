/-! The ground of the walk: one list of words, one predicate of the context, calls, worlds by rows. -/
abbrev zG : Type := va_G × (Nat → Nat) × ClassId × ClassId × ClassId × (Nat → Nat) × (Nat → Nat) × Nat
abbrev zcl : List vw_C := [(RX0, TX0, 6), (RX1, TX1, 3), (RX2, TX2, 4), (RX3, TX3, 4), (RX4, TX4, 9), (RX5, TX5, 3), (RX6, TX6, 8), (RX7, TX7, 9), (RX8, TX8, 8), (RX9, TX9, 13), (RX10, TX10, 42)]
def AW : List Cond := lw_tbl.filter goodWord
def zisN : Cond → Bool
  | .fieldLinkNest .. => true
  | .methodLinkNest .. => true
  | .castable .. => true
  | .declares .. => true
  | _ => false
def NWL : List Cond := tables_1.filter zisN
def zNW (U : State) : Prop := ∀ w ∈ NWL, va_Nw w U
theorem zNW.warm {s U : State} (hW : s.WarmedH U.vm) (h : zNW s) : zNW U := by
  intro w hw
  have h1 := h w hw
  have hz : zisN w = true := (List.mem_filter.mp hw).2
  cases w <;> first | exact va_Nw.warmF hW h1 | exact va_Nw.warmM hW h1 | exact va_Nw.warmD hW h1 | exact va_tabs rfl (rfl : (s.setVm U.vm).vm = U.vm) ((Cond.castable_setVm (args := #[]) hW.alike _ _).trans h1) | (simp [zisN] at hz)
theorem zNW.same {s U : State} (hv : s.vm = U.vm) (h : zNW s) : zNW U := by
  intro w hw
  have h1 := h w hw
  have hz : zisN w = true := (List.mem_filter.mp hw).2
  refine va_Nw.same ?_ hv h1
  cases w <;> first | rfl | (simp [zisN] at hz)
def zK (g : zG) (U : State) : Prop := va_K g.1 zcl [(g.2.2.1, .int), (g.2.2.2.1, .array .int), (g.2.2.2.2.1, .long)] U ∧ zNW U
theorem zK.warm {g : zG} {s U : State} (hW : s.WarmedH U.vm) (h : zK g s) : zK g U := ⟨va_K.moved hW.alike h.1, h.2.warm hW⟩
theorem zK.calling {g : zG} {U : State} {f : JFrame} {mk : MethodId} {a : Array Value} (h : zK g U) : zK g (U.calling f mk a) := ⟨va_K.moved (u := U) (U := U.calling f mk a) (Vm.Alike.refl U.vm) h.1, zNW.same (s := U) (U := U.calling f mk a) rfl h.2⟩
def zstr : List (String × Nat × String × Nat) := [("StripeTrade", 385, "an argument that the document does not allow", 0), ("StripeTrade$Book", 76, "beast", 1), ("StripeTrade$Book", 82, "gate", 2), ("StripeTrade$Book", 84, "list", 3), ("StripeTrade$Book", 86, "purse", 4), ("StripeTrade$Law", 71, "least", 5), ("StripeTrade$Law", 81, "most", 6), ("StripeTrade$Law", 100, "toll", 7), ("StripeTrade$Law", 102, "apart", 8), ("StripeTrade$Law", 104, "marks", 9), ("StripeTrade$Law", 106, "age", 10), ("StripeTrade$Law", 108, "gone", 11), ("StripeTrade$Law", 110, "passed", 12), ("StripeTrade$Law", 112, "number", 13), ("StripeTrade$Law", 114, "gate", 2), ("StripeTrade$Plan", 76, "tar", 14), ("StripeTrade$Plan", 82, "rub", 15), ("StripeTrade$Plan", 84, "wash", 16), ("StripeTrade$Plan", 86, "pass", 17), ("StripeTrade$Plan", 88, "foal", 18), ("StripeTrade$Plan", 90, "year", 19), ("StripeTrade$Plan", 92, "again", 20), ("StripeTrade", 395, "no such beast or gate", 21)]
/-- what is old: no cell of ours -/
def zB (g : zG) : Nat → Prop := fun q => g.2.2.2.2.2.2.2 ≤ q
/-- texts and statics that a walk reads -/
def zST (g : zG) (U : State) : Prop := g.2.2.2.2.2.2.2 ≤ U.heap.size ∧ vk_S 22 zslen zsbyt g.2.2.2.2.2.1 g.2.2.2.2.2.2.1 (zB g) U U.heap ∧ (∀ q ∈ zstr, vk_R q.1 q.2.1 q.2.2.1 (g.2.2.2.2.2.1 q.2.2.2) U) ∧ va_Z "java/lang/String" "COMPACT_STRINGS" "Z" (.int 1) (zB g) U U.heap ∧ vx_Zq Bundle.tN "UNASSIGNED_STACK" Bundle.steD (zB g) U U.heap ∧ vx_Zq Bundle.tN "SUPPRESSED_SENTINEL" Bundle.listD (zB g) U U.heap ∧ va_Zq "jdk/internal/util/Preconditions" "SIOOBE_FORMATTER" "Ljava/util/function/BiFunction;" (zB g) U U.heap ∧ va_Nc "java/lang/IllegalArgumentException" "java/util/NoSuchElementException" U
theorem zST.to {g : zG} {s U : State} {H : Heap} {locs : List Loc} {A0 : Nat → Prop} (h : zST g s) (hB : ∀ q, A0 q → zB g q) (hS : va_S A0 s.heap H locs) (hU : U.heap = H) (hW : s.WarmedH U.vm) : zST g U := by
  obtain ⟨h1, h2, h3, h4, h5, h6, h7, h8⟩ := h
  have hq : ∀ a : Nat, a < s.heap.size → ¬ zB g a → U.heap[a]? = s.heap[a]? := fun a ha hb => by rw [hU]; exact hS.2.1 a ha (fun h => hb (hB a h))
  have hal := hW.alike
  exact ⟨by rw [hU]; exact Nat.le_trans h1 hS.1, vk_S.moved hal (vk_S.kept h2 hq), fun q hm => vk_R.warm hW (h3 q hm), va_Z.moved hal (va_Z.kept h4 hq), vx_Zq.moved hal (vx_Zq.kept h5 hq), vx_Zq.moved hal (vx_Zq.kept h6 hq), va_Zq.moved hal (va_Zq.kept h7 hq), va_Nc.moved hal h8⟩
theorem zST.calling {g : zG} {U : State} {f : JFrame} {mk : MethodId} {a : Array Value} (h : zST g U) : zST g (U.calling f mk a) := by
  obtain ⟨h1, h2, h3, h4, h5, h6, h7, h8⟩ := h
  have hal : U.vm.Alike (U.calling f mk a).vm := Vm.Alike.refl U.vm
  exact ⟨h1, vk_S.moved (u := U) (U := U.calling f mk a) hal h2, fun q hm => vk_R.same (u := U) (U := U.calling f mk a) rfl (h3 q hm), va_Z.moved (u := U) (U := U.calling f mk a) hal h4, vx_Zq.moved (u := U) (U := U.calling f mk a) hal h5, vx_Zq.moved (u := U) (U := U.calling f mk a) hal h6, va_Zq.moved (u := U) (U := U.calling f mk a) hal h7, va_Nc.moved (u := U) (U := U.calling f mk a) hal h8⟩
def zC (g : zG) (own : String) (cc : ByteArray) (nL : Nat) (ret : Option FieldType) (p : Program) (s : State) (m : MethodId) (meth : Method) (c : Code) (args : Array Value) : Prop :=
  p.tables.exec = Jvm.exec ∧ c.code = cc ∧ meth.sig.returnType = ret ∧ c.maxLocals = nL ∧ s.vm.findClass own = some m.cls ∧ (∀ w ∈ AW, w.before args s = true) ∧ zK g s ∧ meth.locks = false ∧ zST g s
def zW (y : MethodName) (cc : ByteArray) (nL : Nat) (ret : Option FieldType) : List Cond := .code y cc nL ret :: AW
theorem zgood {w : Cond} (h : w ∈ AW) : (w.onTables && w.keeps) = true ∨ ∃ ty, w = .arrayClass ty := good_of_word (List.mem_filter.mp h).2
theorem zGoodIn {y : MethodName} {cc : ByteArray} {nL : Nat} {ret : Option FieldType} (h : Cond.code y cc nL ret ∈ AW) : GoodIn AW (zW y cc nL ret) := by
  intro w hw
  rcases List.mem_cons.mp hw with rfl | hw
  · exact ⟨h, zgood h⟩
  · exact ⟨hw, zgood hw⟩
/-- pure steps -/
theorem zleti {A B : Type} {x y : A} {k : A → B} {r : B} (e : y = x) (h : zlet x k = r) : k y = r := by subst e; exact h
theorem zite {A : Type} {c : Prop} {a : Option A} {r : A} {d : Decidable c} (h : @ite (Option A) c d a none = some r) : c ∧ a = some r := by
  by_cases hc : c
  · rw [if_pos hc] at h; exact ⟨hc, h⟩
  · rw [if_neg hc] at h; cases h
theorem zifp {A : Type} {c : Prop} {a b r : A} {d : Decidable c} (hc : c) (h : @ite A c d a b = r) : a = r := by rw [if_pos hc] at h; exact h
theorem zifn {A : Type} {c : Prop} {a b r : A} {d : Decidable c} (hc : ¬ c) (h : @ite A c d a b = r) : b = r := by rw [if_neg hc] at h; exact h
/-- an index within n -/
theorem zin_vp {i : Int32} {n : Nat} (h : zin i n = true) : vp_in i n := by
  simp only [zin, Bool.and_eq_true, decide_eq_true_eq] at h
  intro q
  rcases q with q | q
  · have h1 := Int32.lt_iff_toInt_lt.mp q
    have h2 := Int32.le_iff_toInt_le.mp h.1
    omega
  · omega
theorem zin_lt {i : Int32} {n : Nat} (h : zin i n = true) : i.toNatClampNeg < n := by
  simp only [zin, Bool.and_eq_true, decide_eq_true_eq] at h
  exact h.2
/-- rows of a table: n cells from place off on, each of len ints -/
def zRows (g : zG) (off len n : Nat) (f : Nat → Nat → Int32) : va_W := (List.range n).map fun i => (g.2.1 (off + i), .inl (g.2.2.1, len, .inl (f i)))
theorem zRows_len {g : zG} {off len n : Nat} {f : Nat → Nat → Int32} : (zRows g off len n f).length = n := by simp [zRows]
theorem zrow_get {P S ws : va_W} {L : Nat} {g : zG} {off len n : Nat} {f : Nat → Nat → Int32} (hw : ws = P ++ (zRows g off len n f ++ S)) (hL : P.length = L) {i : Nat} (hi : i < n) : ws[L + i]? = some (g.2.1 (off + i), .inl (g.2.2.1, len, .inl (f i))) := by
  subst hw; subst hL
  rw [List.getElem?_append_right (by omega), Nat.add_sub_cancel_left, List.getElem?_append_left (by rw [zRows_len]; exact hi)]
  simp [zRows, hi]
theorem zrow_set {P S ws : va_W} {L : Nat} {g : zG} {off len n : Nat} {f : Nat → Nat → Int32} (hw : ws = P ++ (zRows g off len n f ++ S)) (hL : P.length = L) {i : Nat} (hi : i < n) (v : Nat → Int32) : ws.set (L + i) (g.2.1 (off + i), .inl (g.2.2.1, len, .inl v)) = P ++ (zRows g off len n (va_up f i v) ++ S) := by
  subst hw; subst hL
  rw [List.set_append_right _ _ (by omega), Nat.add_sub_cancel_left, List.set_append_left _ _ (by rw [zRows_len]; exact hi)]
  congr 2
  apply List.ext_getElem?
  intro j
  by_cases hj : j = i
  · subst hj
    rw [List.getElem?_set_self (by rw [zRows_len]; exact hi)]
    simp [zRows, hi, va_up]
  · rw [List.getElem?_set_ne (Ne.symm hj)]
    by_cases hn : j < n
    · simp [zRows, hn, va_up, hj]
    · simp [zRows, hn]
/-- cells lo to hi of the system, and new ones -/
def zF (g : zG) (lo hi sz : Nat) : Nat → Prop := fun q => (∃ k, lo ≤ k ∧ k < hi ∧ q = g.2.1 k) ∨ sz ≤ q
def zI (g : zG) (n : Nat) : Prop := (∀ i j, i < n → j < n → g.2.1 i = g.2.1 j → i = j) ∧ ∀ i, i < n → g.2.2.2.2.2.2.2 ≤ g.2.1 i
/-- the list's addresses are those of the cells from lo on -/
def zAd (g : zG) (lo n : Nat) (ws : va_W) : Prop := ws.map Prod.fst = (List.range n).map (fun k => g.2.1 (lo + k))
theorem zAd.at {g : zG} {lo n : Nat} {ws : va_W} (h : zAd g lo n ws) {k : Nat} {q : Nat × va_E} (hq : ws[k]? = some q) : q.1 = g.2.1 (lo + k) ∧ k < n := by
  have h1 : (ws.map Prod.fst)[k]? = some q.1 := by rw [List.getElem?_map, hq]; rfl
  rw [h, List.getElem?_map] at h1
  by_cases hk : k < n
  · rw [List.getElem?_range hk] at h1
    exact ⟨(Option.some.inj h1).symm, hk⟩
  · rw [List.getElem?_eq_none (by simp; omega)] at h1
    cases h1
theorem zAd.D {g : zG} {lo n N : Nat} {ws : va_W} (h : zAd g lo n ws) (hI : zI g N) (hn : lo + n ≤ N) {A : Nat → Prop} (hA : ∀ k, lo ≤ k → k < lo + n → A (g.2.1 k)) : va_D A ws := by
  refine ⟨fun i j p q hi hj e => ?_, fun k q hq => ?_⟩
  · obtain ⟨h1, h2⟩ := h.at hi
    obtain ⟨h3, h4⟩ := h.at hj
    have := hI.1 _ _ (by omega) (by omega) (h1.symm.trans (e.trans h3))
    omega
  · obtain ⟨h1, h2⟩ := h.at hq
    rw [h1]
    exact hA _ (by omega) (by omega)
theorem zF.own {g : zG} {lo hi sz k : Nat} (h1 : lo ≤ k) (h2 : k < hi) : zF g lo hi sz (g.2.1 k) := Or.inl ⟨k, h1, h2, rfl⟩
theorem zF.base {g : zG} {lo hi sz N : Nat} (hI : zI g N) (hN : hi ≤ N) (hs : g.2.2.2.2.2.2.2 ≤ sz) (q : Nat) (h : zF g lo hi sz q) : zB g q := by
  rcases h with ⟨k, h1, h2, rfl⟩ | h
  · exact hI.2 k (by omega)
  · exact Nat.le_trans hs h
theorem zF.mono {g : zG} {lo hi sz sz' : Nat} (h : sz ≤ sz') {q : Nat} (hq : zF g lo hi sz' q) : zF g lo hi sz q := by
  rcases hq with hq | hq
  · exact Or.inl hq
  · exact Or.inr (by omega)
/-! field and array rows over zC -/
def zFL (own : String) (index : Nat) (ref name desc : String) (s : State) (args : Array Value) : Prop := (Cond.fieldLink own index ref name desc).before args s = true ∨ ∃ host, (Cond.fieldLinkNest own index ref name desc host).before args s = true
def zML (own : String) (index : Nat) (y : MethodName) (s : State) : Prop := (∃ A, (Cond.methodLink own index y).before A s = true) ∨ ∃ host, va_Nw (.methodLinkNest own index y host) s
section ZR
variable {p : Program} {l : Launch} {e : Env} {R : Room} {s : State} {m : MethodId} {args : Array Value} {below : List Frame} {meth : Method} {c : Code} {H : Heap} {locs : List Loc} {cells slots : Nat} {Q : State → Prop}
variable {g : zG} {own : String} {cc : ByteArray} {nL : Nat} {ret : Option FieldType} {pc : Nat} {ls : Array Slot} {rest : List Value} {A : Nat → Prop} {a : Nat} {ws : va_W} {H0 : Heap}
theorem zC.word (hC : zC g own cc nL ret p s m meth c args) {w : Cond} (h : w ∈ AW) : w.before args s = true := hC.2.2.2.2.2.1 w h
theorem zC.fl (hC : zC g own cc nL ret p s m meth c args) {index : Nat} {ref name desc : String} (h : Cond.fieldLink own index ref name desc ∈ AW) : zFL own index ref name desc s args := Or.inl (hC.word h)
theorem zC.fn (hC : zC g own cc nL ret p s m meth c args) {index : Nat} {ref name desc host : String} (h : Cond.fieldLinkNest own index ref name desc host ∈ NWL) : zFL own index ref name desc s args := Or.inr ⟨host, va_Nw.use rfl (hC.2.2.2.2.2.2.1.2 _ h)⟩
theorem zC.ml (hC : zC g own cc nL ret p s m meth c args) {index : Nat} {y : MethodName} (h : Cond.methodLink own index y ∈ AW) : zML own index y s := Or.inl ⟨_, hC.word h⟩
theorem zC.mn (hC : zC g own cc nL ret p s m meth c args) {index : Nat} {y : MethodName} {host : String} (h : Cond.methodLinkNest own index y host ∈ NWL) : zML own index y s := Or.inr ⟨host, hC.2.2.2.2.2.2.1.2 _ h⟩
theorem zget (hC : zC g own cc nL ret p s m meth c args) {C : String} {T : u_T} {N ci index : Nat} (huin : ∀ w ∈ u_ws C T N, w ∈ AW) (hc : zcl[ci]? = some (C, T, N)) (hP : va_P g.1 zcl ws H) (q0 : Nat) {fs : List Value} (he : ws[q0]? = some (a, .inr (ci, fs))) (j : Nat) (hj : j < N) {v : Value} (hv : fs[j]? = some v) (hl : zFL own index (T j).1 (T j).2.1 (T j).2.2.1 s args) (hdg : decode cc pc = .ok (.getfield index, 3))
    (kk : W p l e R s m args below meth c H locs cells slots Q (F0 m (pc + 3) ls (v :: rest))) : W p l e R s m args below meth c H locs cells slots Q (F0 m pc ls (.ref a :: rest)) := by
  obtain ⟨hx, hb, hr, hml, hown, hts, hK, hlk, hST⟩ := hC
  rcases hl with hl | ⟨host, hl⟩
  · exact va_get (D := g.1) (ci := ci) (v := v) (C := C) (T := T) (N := N) hx hb hts huin hown hK.1 hP q0 he hc j hj hl (fun _ h9 => h9) hv hdg kk
  · exact va_getN (D := g.1) (ci := ci) (v := v) (C := C) (T := T) (N := N) hx hb hts huin hown hK.1 hP q0 he hc j hj hl (fun _ h9 => h9) hv hdg kk
theorem zput (hC : zC g own cc nL ret p s m meth c args) {C : String} {T : u_T} {N ci index : Nat} (huin : ∀ w ∈ u_ws C T N, w ∈ AW) (ty0 : Nat → FieldType) (hty : ∀ k, k < N → parseFieldDescriptor (T k).2.2.1 = some (ty0 k)) (hnm : ∀ a, a < N → ∀ b, b < N → a ≠ b → (T a).2.1 ≠ (T b).2.1) (hc : zcl[ci]? = some (C, T, N)) (hP : va_P g.1 zcl ws H) (hD : va_D A ws) (hS : va_S A H0 H locs) (q0 : Nat) {fs : List Value} (he : ws[q0]? = some (a, .inr (ci, fs))) (j : Nat) (hj : j < N) {x : Int32} (hl : zFL own index (T j).1 (T j).2.1 (T j).2.2.1 s args) (hfin : (T j).2.2.2 = false) (hd : parseFieldDescriptor (T j).2.2.1 = some .int) (hlen : j < fs.length) (hdg : decode cc pc = .ok (.putfield index, 3))
    (kk : ∀ (H1 : Heap) (locs1 : List Loc), va_P g.1 zcl (ws.set q0 (a, .inr (ci, fs.set j (.int x)))) H1 → va_S A H0 H1 locs1 → W p l e R s m args below meth c H1 locs1 cells slots Q (F0 m (pc + 3) ls rest)) : W p l e R s m args below meth c H locs cells slots Q (F0 m pc ls (.int x :: .ref a :: rest)) := by
  obtain ⟨hx, hb, hr, hml, hown, hts, hK, hlk, hST⟩ := hC
  rcases hl with hl | ⟨host, hl⟩
  · exact va_put (D := g.1) (ci := ci) (v := .int x) (ty := .int) (C := C) (T := T) (N := N) hx hb hts huin ty0 hty hnm hown hK.1 hP hD hS q0 he hc j hj hl (fun _ h9 => h9) hfin hd rfl rfl hlen hdg (fun H1 locs1 h1 _ h2 => kk H1 locs1 h1 h2)
  · exact va_putN (D := g.1) (ci := ci) (v := .int x) (ty := .int) (C := C) (T := T) (N := N) hx hb hts huin ty0 hty hnm hown hK.1 hP hD hS q0 he hc j hj hl (fun _ h9 => h9) hfin hd rfl rfl hlen hdg (fun H1 locs1 h1 _ h2 => kk H1 locs1 h1 h2)
theorem zald (hC : zC g own cc nL ret p s m meth c args) (hP : va_P g.1 zcl ws H) (q0 : Nat) {n : Nat} {f : Nat → Int32} (ha : ws[q0]? = some (a, .inl (g.2.2.1, n, .inl f))) {i : Int32} (hin : zin i n = true) (hdg : decode cc pc = .ok (.iaload, 1))
    (kk : W p l e R s m args below meth c H locs cells slots Q (F0 m (pc + 1) ls (.int (f i.toNatClampNeg) :: rest))) : W p l e R s m args below meth c H locs cells slots Q (F0 m pc ls (.int i :: .ref a :: rest)) :=
  va_iald hC.1 hC.2.1 hC.2.2.2.2.2.2.1.1 hP q0 0 ha rfl (zin_vp hin) hdg kk
theorem zast (hC : zC g own cc nL ret p s m meth c args) (hP : va_P g.1 zcl ws H) (hD : va_D A ws) (hS : va_S A H0 H locs) (q0 : Nat) {n : Nat} {f : Nat → Int32} (ha : ws[q0]? = some (a, .inl (g.2.2.1, n, .inl f))) {i x : Int32} (hin : zin i n = true) (hdg : decode cc pc = .ok (.iastore, 1))
    (kk : ∀ (H1 : Heap) (locs1 : List Loc), va_P g.1 zcl (ws.set q0 (a, .inl (g.2.2.1, n, .inl (upd f i.toNatClampNeg x)))) H1 → va_S A H0 H1 locs1 → W p l e R s m args below meth c H1 locs1 cells slots Q (F0 m (pc + 1) ls rest)) : W p l e R s m args below meth c H locs cells slots Q (F0 m pc ls (.int x :: .int i :: .ref a :: rest)) :=
  va_iast hC.1 hC.2.1 hC.2.2.2.2.2.2.1.1 hP hD hS q0 0 ha rfl (zin_vp hin) hdg (fun H1 locs1 h1 _ h2 => kk H1 locs1 h1 h2)
/-- a row's reference out of a table of rows -/
theorem zaldq (hC : zC g own cc nL ret p s m meth c args) (hP : va_P g.1 zcl ws H) (q0 : Nat) {n : Nat} {f : Nat → Option Nat} (ha : ws[q0]? = some (a, .inl (g.2.2.2.1, n, .inr (.inr (.inr (.inr f)))))) {i : Int32} (hin : zin i n = true) {v : Nat} (hv : f i.toNatClampNeg = some v) (hdg : decode cc pc = .ok (.aaload, 1))
    (kk : W p l e R s m args below meth c H locs cells slots Q (F0 m (pc + 1) ls (.ref v :: rest))) : W p l e R s m args below meth c H locs cells slots Q (F0 m pc ls (.int i :: .ref a :: rest)) := by
  obtain ⟨hx, hb, hr, hml, hown, hts, hK, hlk, hST⟩ := hC
  have h1 := zin_vp hin
  have hlt := zin_lt hin
  exact W.aald (v := .ref v) (ty := .array .int) hx hb (hP q0 _ ha) ((hK.1.2 1 _ rfl).1 n (fun j => va_rf (f j))) rfl (fun q => by cases q) (by show ¬ (i < 0 ∨ (arrV _ _ _).slots.size ≤ _); rw [arrV_size]; exact h1) (by show (arrV _ _ _).slots[_]? = _; rw [arrV_read _ _ hlt, hv]; rfl) rfl rfl hdg kk
theorem zalen (hC : zC g own cc nL ret p s m meth c args) (hP : va_P g.1 zcl ws H) (q0 : Nat) {n : Nat} {f : Nat → Int32} (ha : ws[q0]? = some (a, .inl (g.2.2.1, n, .inl f))) {v : Int32} (hv : Int32.ofNat n = v) (hdg : decode cc pc = .ok (.arraylength, 1))
    (kk : W p l e R s m args below meth c H locs cells slots Q (F0 m (pc + 1) ls (.int v :: rest))) : W p l e R s m args below meth c H locs cells slots Q (F0 m pc ls (.ref a :: rest)) :=
  va_alen hC.1 hC.2.1 hC.2.2.2.2.2.2.1.1 hP q0 0 ha (ty := .int) rfl (x := (n, .inl f)) hv hdg kk
end ZR
