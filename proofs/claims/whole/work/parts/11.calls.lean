/-! contracts and calls -/
abbrev zR (k : Nat) : Room := { frames := k, cells := 0, slots := 0, locals := 60 * k }
def zPre (g : zG) (ws : va_W) (sz : Nat) : State → Prop := fun U => U.heap.size = sz ∧ va_P g.1 zcl ws U.heap ∧ zK g U
/-- a method of a world: from the world ws it comes to ws', with the answer r -/
abbrev zMi (l : Launch) (y : MethodName) (cc : ByteArray) (nL : Nat) (ret : Option FieldType) (k : Nat) (g : zG) (ws ws' : va_W) (sz : Nat) (A : Nat → Prop) (av : List Value) (r : Int32) : Prop :=
  Met l y (zW y cc nL ret) (zR k) (va_Pc av (zPre g ws sz)) (va_Qi (fun r' (_ : Unit) => r' = r) (fun _ t => va_P g.1 zcl ws' t.heap) A) 0 0 A
abbrev zMl (l : Launch) (y : MethodName) (cc : ByteArray) (nL : Nat) (ret : Option FieldType) (k : Nat) (g : zG) (ws ws' : va_W) (sz : Nat) (A : Nat → Prop) (av : List Value) (r : Int64) : Prop :=
  Met l y (zW y cc nL ret) (zR k) (va_Pc av (zPre g ws sz)) (va_Ql (fun r' (_ : Unit) => r' = r) (fun _ t => va_P g.1 zcl ws' t.heap) A) 0 0 A
abbrev zMv (l : Launch) (y : MethodName) (cc : ByteArray) (nL : Nat) (ret : Option FieldType) (k : Nat) (g : zG) (ws ws' : va_W) (sz : Nat) (A : Nat → Prop) (av : List Value) : Prop :=
  Met l y (zW y cc nL ret) (zR k) (va_Pc av (zPre g ws sz)) (va_Qv (fun (_ : Unit) => True) (fun _ t => va_P g.1 zcl ws' t.heap) A) 0 0 A
/-- a static function of numbers alone -/
abbrev zMp (l : Launch) (y : MethodName) (cc : ByteArray) (nL : Nat) (ret : Option FieldType) (k : Nat) (g : zG) (av : List Value) (r : Int32) : Prop :=
  Met l y (zW y cc nL ret) (zR k) (va_Pc av (zK g)) (va_Qi (fun r' (_ : Unit) => r' = r) (fun _ _ => True) (fun _ => False)) 0 0 (fun _ => False)
abbrev zyd (y : MethodName) (n : Nat) : Prop := y.cls ≠ "java/lang/invoke/MethodHandle" ∧ y.cls ≠ "java/lang/invoke/VarHandle" ∧ (parseMethodDescriptor y.desc).map (fun d => d.parameters.length) = some n
def zYV (y : MethodName) (cc : ByteArray) (nL : Nat) (ret : Option FieldType) (n : Nat) : Prop := Cond.instanceMethod y ∈ AW ∧ Cond.selects y.cls y y ∈ AW ∧ Cond.initialized y.cls ∈ AW ∧ Cond.code y cc nL ret ∈ AW ∧ zyd y n
def zYS (y : MethodName) (cc : ByteArray) (nL : Nat) (ret : Option FieldType) (n : Nat) : Prop := Cond.static y ∈ AW ∧ Cond.initialized y.cls ∈ AW ∧ Cond.code y cc nL ret ∈ AW ∧ zyd y n
theorem zPre.blind {g : zG} {ws : va_W} {sz : Nat} {av : List Value} : FrameBlind (va_Pc av (zPre g ws sz)) := fun a U f mk h => ⟨h.1, h.2.1, h.2.2.1, h.2.2.2.calling⟩
section ZL
variable {p : Program} {l : Launch} {e : Env} {R : Room} {s : State} {m : MethodId} {args : Array Value} {below : List Frame} {meth : Method} {c : Code} {H : Heap} {locs : List Loc} {cells slots : Nat} {Q : State → Prop}
variable {g : zG} {own : String} {cc : ByteArray} {nL : Nat} {ret0 : Option FieldType} {pc : Nat} {ls : Array Slot} {st0 rest As : List Value} {A0 A1 : Nat → Prop} {b : Nat} {ws ws' : va_W} {H0 : Heap}
variable {y : MethodName} {bytes : ByteArray} {maxL index n k : Nat} {ret : Option FieldType}
theorem zrunV {Pc : Array Value → State → Prop} {Qc : Array Value → State → Outcome → State → Prop} {mc ms : Nat} {free : Nat → Prop} {rm : Room} (hC : zC g own cc nL ret0 p s m meth c args) (hM : Met l y (zW y bytes maxL ret) rm Pc Qc mc ms free) (hl : zML own index y s) (hy : zYV y bytes maxL ret n) (hrc : rm.cells = mc) (hrs : rm.slots = ms) (hR : rm.frames + 1 ≤ R.frames ∧ 8 + (maxL + 11) + rm.locals ≤ R.locals) (hp : PreV s H y.cls b Pc As)
    (hn : As.length = n) (hls : ls.size = nL) (hst : st0 = As.reverse ++ .ref b :: rest) (hw : (rest.map fun v => v.category).sum ≤ 8) (hdg : decode cc pc = .ok (.invokevirtual index, 3)) (hf : cells + mc ≤ R.cells ∧ slots + ms ≤ R.slots) :
    va_Run p l e R s m args below meth c H locs cells slots mc ms (F0 m pc ls st0) rest (Qc (Value.ref b :: As).toArray) free := by
  obtain ⟨hx, hb, hr, hml, hown, hts, hK, hlk⟩ := hC
  obtain ⟨y1, y2, y3, y4, y5⟩ := hy
  have hG := zGoodIn y4
  rcases hl with ⟨A9, hl⟩ | ⟨host, hl⟩
  · refine va_runV (As := As) (rest := rest) (n := n) ⟨hx, hb, hml, hown, hts⟩ hM ⟨callB_of n hts hG rfl hrc hrs (hts _ y3) (va_Nw.use rfl (va_Nw.of rfl hl)) y5 hR, hts _ y1, hts _ y2⟩ hp rfl hn hls hst (lv_room hw) hdg hf
  · exact va_runVN (As := As) (rest := rest) (n := n) ⟨hx, hb, hml, hown, hts⟩ hM ⟨va_cnB n hts hG rfl hrc hrs hl (hts _ y3) y5 hR, hts _ y1, hts _ y2⟩ hp rfl hn hls hst (lv_room hw) hdg hf
theorem zrunS {Pc : Array Value → State → Prop} {Qc : Array Value → State → Outcome → State → Prop} {mc ms : Nat} {free : Nat → Prop} {rm : Room} (hC : zC g own cc nL ret0 p s m meth c args) (hM : Met l y (zW y bytes maxL ret) rm Pc Qc mc ms free) (hl : zML own index y s) (hy : zYS y bytes maxL ret n) (hrc : rm.cells = mc) (hrs : rm.slots = ms) (hR : rm.frames + 1 ≤ R.frames ∧ 8 + (maxL + 11) + rm.locals ≤ R.locals) (hp : PreS s H Pc As)
    (hn : As.length = n) (hls : ls.size = nL) (hst : st0 = As.reverse ++ rest) (hw : (rest.map fun v => v.category).sum ≤ 8) (hdg : decode cc pc = .ok (.invokestatic index, 3)) (hf : cells + mc ≤ R.cells ∧ slots + ms ≤ R.slots) :
    va_Run p l e R s m args below meth c H locs cells slots mc ms (F0 m pc ls st0) rest (Qc As.toArray) free := by
  obtain ⟨hx, hb, hr, hml, hown, hts, hK, hlk⟩ := hC
  obtain ⟨y1, y3, y4, y5⟩ := hy
  have hG := zGoodIn y4
  rcases hl with ⟨A9, hl⟩ | ⟨host, hl⟩
  · exact va_runS (As := As) (rest := rest) (n := n) ⟨hx, hb, hml, hown, hts⟩ hM ⟨callB_of n hts hG rfl hrc hrs (hts _ y3) (va_Nw.use rfl (va_Nw.of rfl hl)) y5 hR, hts _ y1⟩ hp rfl hn hls hst (lv_room hw) hdg hf
  · exact va_runSN (As := As) (rest := rest) (n := n) ⟨hx, hb, hml, hown, hts⟩ hM ⟨va_cnB n hts hG rfl hrc hrs hl (hts _ y3) y5 hR, hts _ y1, trivial⟩ hp rfl hn hls hst (lv_room hw) hdg hf
theorem zpreV {av : List Value} (hC : zC g own cc nL ret0 p s m meth c args) (hP : va_P g.1 zcl ws H) (q0 : Nat) {ci : Nat} {q : vw_C} {fs : List Value} (he : ws[q0]? = some (b, .inr (ci, fs))) (hc : zcl[ci]? = some q) (hy : q.1 = y.cls) : PreV s H y.cls b (va_Pc (.ref b :: As) (zPre g ws H.size)) As := by
  refine ⟨zPre.blind, ?_, fun U hU hW => ⟨rfl, by rw [hU], by rw [hU]; exact hP, hC.2.2.2.2.2.2.1.warm hW⟩⟩
  have h1 := va_recv hC.2.2.2.2.2.2.1.1 hP hc he
  rw [hy] at h1
  exact h1
theorem zpreS (hC : zC g own cc nL ret0 p s m meth c args) (hP : va_P g.1 zcl ws H) : PreS s H (va_Pc As (zPre g ws H.size)) As := ⟨zPre.blind, fun U hU hW => ⟨rfl, by rw [hU], by rw [hU]; exact hP, hC.2.2.2.2.2.2.1.warm hW⟩⟩
theorem zcallVi {r : Int32} (hC : zC g own cc nL ret0 p s m meth c args) (hP : va_P g.1 zcl ws H) (hS : va_S A0 H0 H locs) (hA : ∀ q, A1 q → A0 q) (hM : zMi l y bytes maxL ret k g ws ws' H.size A1 (.ref b :: As) r) (hl : zML own index y s) (hy : zYV y bytes maxL ret n) (q0 : Nat) {ci : Nat} {q : vw_C} {fs : List Value} (he : ws[q0]? = some (b, .inr (ci, fs))) (hc : zcl[ci]? = some q) (hyc : q.1 = y.cls) (hn : As.length = n) (hls : ls.size = nL) (hst : st0 = As.reverse ++ .ref b :: rest) (hw : (rest.map fun v => v.category).sum ≤ 8) (hR : k + 1 ≤ R.frames ∧ 8 + (maxL + 11) + 60 * k ≤ R.locals) (hcs : cells ≤ R.cells ∧ slots ≤ R.slots) (hdg : decode cc pc = .ok (.invokevirtual index, 3))
    (kk : ∀ (H1 : Heap) (locs1 : List Loc), va_P g.1 zcl ws' H1 → va_S A0 H0 H1 locs1 → H.size ≤ H1.size → (∀ q : Nat, q < H.size → ¬ A1 q → H1[q]? = H[q]?) → W p l e R s m args below meth c H1 locs1 cells slots Q (F0 m (pc + 3) ls (.int r :: rest))) : W p l e R s m args below meth c H locs cells slots Q (F0 m pc ls st0) := by
  refine va_calli (zrunV (As := As) (rest := rest) hC hM hl hy rfl rfl hR (zpreV (av := []) hC hP q0 he hc hyc) hn hls hst hw hdg hcs) hS (fun q _ h => hA q h) hA (fun r1 u t H1 locs1 ht hv hp hb hz hk hS1 => ?_)
  subst hp; exact kk H1 locs1 (by rw [← ht]; exact hb) hS1 hz hk
theorem zcallVl {r : Int64} (hC : zC g own cc nL ret0 p s m meth c args) (hP : va_P g.1 zcl ws H) (hS : va_S A0 H0 H locs) (hA : ∀ q, A1 q → A0 q) (hM : zMl l y bytes maxL ret k g ws ws' H.size A1 (.ref b :: As) r) (hl : zML own index y s) (hy : zYV y bytes maxL ret n) (q0 : Nat) {ci : Nat} {q : vw_C} {fs : List Value} (he : ws[q0]? = some (b, .inr (ci, fs))) (hc : zcl[ci]? = some q) (hyc : q.1 = y.cls) (hn : As.length = n) (hls : ls.size = nL) (hst : st0 = As.reverse ++ .ref b :: rest) (hw : (rest.map fun v => v.category).sum ≤ 8) (hR : k + 1 ≤ R.frames ∧ 8 + (maxL + 11) + 60 * k ≤ R.locals) (hcs : cells ≤ R.cells ∧ slots ≤ R.slots) (hdg : decode cc pc = .ok (.invokevirtual index, 3))
    (kk : ∀ (H1 : Heap) (locs1 : List Loc), va_P g.1 zcl ws' H1 → va_S A0 H0 H1 locs1 → H.size ≤ H1.size → (∀ q : Nat, q < H.size → ¬ A1 q → H1[q]? = H[q]?) → W p l e R s m args below meth c H1 locs1 cells slots Q (F0 m (pc + 3) ls (.long r :: rest))) : W p l e R s m args below meth c H locs cells slots Q (F0 m pc ls st0) := by
  refine va_calll (zrunV (As := As) (rest := rest) hC hM hl hy rfl rfl hR (zpreV (av := []) hC hP q0 he hc hyc) hn hls hst hw hdg hcs) hS (fun q _ h => hA q h) hA (fun r1 u t H1 locs1 ht hv hp hb hz hk hS1 => ?_)
  subst hp; exact kk H1 locs1 (by rw [← ht]; exact hb) hS1 hz hk
theorem zcallVv (hC : zC g own cc nL ret0 p s m meth c args) (hP : va_P g.1 zcl ws H) (hS : va_S A0 H0 H locs) (hA : ∀ q, A1 q → A0 q) (hM : zMv l y bytes maxL ret k g ws ws' H.size A1 (.ref b :: As)) (hl : zML own index y s) (hy : zYV y bytes maxL ret n) (q0 : Nat) {ci : Nat} {q : vw_C} {fs : List Value} (he : ws[q0]? = some (b, .inr (ci, fs))) (hc : zcl[ci]? = some q) (hyc : q.1 = y.cls) (hn : As.length = n) (hls : ls.size = nL) (hst : st0 = As.reverse ++ .ref b :: rest) (hw : (rest.map fun v => v.category).sum ≤ 8) (hR : k + 1 ≤ R.frames ∧ 8 + (maxL + 11) + 60 * k ≤ R.locals) (hcs : cells ≤ R.cells ∧ slots ≤ R.slots) (hdg : decode cc pc = .ok (.invokevirtual index, 3))
    (kk : ∀ (H1 : Heap) (locs1 : List Loc), va_P g.1 zcl ws' H1 → va_S A0 H0 H1 locs1 → H.size ≤ H1.size → (∀ q : Nat, q < H.size → ¬ A1 q → H1[q]? = H[q]?) → W p l e R s m args below meth c H1 locs1 cells slots Q (F0 m (pc + 3) ls (rest))) : W p l e R s m args below meth c H locs cells slots Q (F0 m pc ls st0) := by
  refine va_callv (zrunV (As := As) (rest := rest) hC hM hl hy rfl rfl hR (zpreV (av := []) hC hP q0 he hc hyc) hn hls hst hw hdg hcs) hS (fun q _ h => hA q h) hA (fun u t H1 locs1 ht hv hp hb hz hk hS1 => ?_)
  exact kk H1 locs1 (by rw [← ht]; exact hb) hS1 hz hk
theorem zcallSi {r : Int32} (hC : zC g own cc nL ret0 p s m meth c args) (hP : va_P g.1 zcl ws H) (hS : va_S A0 H0 H locs) (hA : ∀ q, A1 q → A0 q) (hM : zMi l y bytes maxL ret k g ws ws' H.size A1 As r) (hl : zML own index y s) (hy : zYS y bytes maxL ret n) (hn : As.length = n) (hls : ls.size = nL) (hst : st0 = As.reverse ++ rest) (hw : (rest.map fun v => v.category).sum ≤ 8) (hR : k + 1 ≤ R.frames ∧ 8 + (maxL + 11) + 60 * k ≤ R.locals) (hcs : cells ≤ R.cells ∧ slots ≤ R.slots) (hdg : decode cc pc = .ok (.invokestatic index, 3))
    (kk : ∀ (H1 : Heap) (locs1 : List Loc), va_P g.1 zcl ws' H1 → va_S A0 H0 H1 locs1 → H.size ≤ H1.size → (∀ q : Nat, q < H.size → ¬ A1 q → H1[q]? = H[q]?) → W p l e R s m args below meth c H1 locs1 cells slots Q (F0 m (pc + 3) ls (.int r :: rest))) : W p l e R s m args below meth c H locs cells slots Q (F0 m pc ls st0) := by
  refine va_calli (zrunS (As := As) (rest := rest) hC hM hl hy rfl rfl hR (zpreS hC hP) hn hls hst hw hdg hcs) hS (fun q _ h => hA q h) hA (fun r1 u t H1 locs1 ht hv hp hb hz hk hS1 => ?_)
  subst hp; exact kk H1 locs1 (by rw [← ht]; exact hb) hS1 hz hk
theorem zcallSl {r : Int64} (hC : zC g own cc nL ret0 p s m meth c args) (hP : va_P g.1 zcl ws H) (hS : va_S A0 H0 H locs) (hA : ∀ q, A1 q → A0 q) (hM : zMl l y bytes maxL ret k g ws ws' H.size A1 As r) (hl : zML own index y s) (hy : zYS y bytes maxL ret n) (hn : As.length = n) (hls : ls.size = nL) (hst : st0 = As.reverse ++ rest) (hw : (rest.map fun v => v.category).sum ≤ 8) (hR : k + 1 ≤ R.frames ∧ 8 + (maxL + 11) + 60 * k ≤ R.locals) (hcs : cells ≤ R.cells ∧ slots ≤ R.slots) (hdg : decode cc pc = .ok (.invokestatic index, 3))
    (kk : ∀ (H1 : Heap) (locs1 : List Loc), va_P g.1 zcl ws' H1 → va_S A0 H0 H1 locs1 → H.size ≤ H1.size → (∀ q : Nat, q < H.size → ¬ A1 q → H1[q]? = H[q]?) → W p l e R s m args below meth c H1 locs1 cells slots Q (F0 m (pc + 3) ls (.long r :: rest))) : W p l e R s m args below meth c H locs cells slots Q (F0 m pc ls st0) := by
  refine va_calll (zrunS (As := As) (rest := rest) hC hM hl hy rfl rfl hR (zpreS hC hP) hn hls hst hw hdg hcs) hS (fun q _ h => hA q h) hA (fun r1 u t H1 locs1 ht hv hp hb hz hk hS1 => ?_)
  subst hp; exact kk H1 locs1 (by rw [← ht]; exact hb) hS1 hz hk
theorem zcallSv (hC : zC g own cc nL ret0 p s m meth c args) (hP : va_P g.1 zcl ws H) (hS : va_S A0 H0 H locs) (hA : ∀ q, A1 q → A0 q) (hM : zMv l y bytes maxL ret k g ws ws' H.size A1 As) (hl : zML own index y s) (hy : zYS y bytes maxL ret n) (hn : As.length = n) (hls : ls.size = nL) (hst : st0 = As.reverse ++ rest) (hw : (rest.map fun v => v.category).sum ≤ 8) (hR : k + 1 ≤ R.frames ∧ 8 + (maxL + 11) + 60 * k ≤ R.locals) (hcs : cells ≤ R.cells ∧ slots ≤ R.slots) (hdg : decode cc pc = .ok (.invokestatic index, 3))
    (kk : ∀ (H1 : Heap) (locs1 : List Loc), va_P g.1 zcl ws' H1 → va_S A0 H0 H1 locs1 → H.size ≤ H1.size → (∀ q : Nat, q < H.size → ¬ A1 q → H1[q]? = H[q]?) → W p l e R s m args below meth c H1 locs1 cells slots Q (F0 m (pc + 3) ls (rest))) : W p l e R s m args below meth c H locs cells slots Q (F0 m pc ls st0) := by
  refine va_callv (zrunS (As := As) (rest := rest) hC hM hl hy rfl rfl hR (zpreS hC hP) hn hls hst hw hdg hcs) hS (fun q _ h => hA q h) hA (fun u t H1 locs1 ht hv hp hb hz hk hS1 => ?_)
  exact kk H1 locs1 (by rw [← ht]; exact hb) hS1 hz hk
theorem zcallP {r : Int32} (hC : zC g own cc nL ret0 p s m meth c args) (hS : va_S A0 H0 H locs) (hM : zMp l y bytes maxL ret k g As r) (hl : zML own index y s) (hy : zYS y bytes maxL ret n) (hn : As.length = n) (hls : ls.size = nL) (hst : st0 = As.reverse ++ rest) (hw : (rest.map fun v => v.category).sum ≤ 8) (hR : k + 1 ≤ R.frames ∧ 8 + (maxL + 11) + 60 * k ≤ R.locals) (hcs : cells ≤ R.cells ∧ slots ≤ R.slots) (hdg : decode cc pc = .ok (.invokestatic index, 3))
    (kk : ∀ (H1 : Heap) (locs1 : List Loc), (∀ (D : va_G) (cl : List vw_C) (w : va_W), va_P D cl w H → va_P D cl w H1) → va_S A0 H0 H1 locs1 → H.size ≤ H1.size → W p l e R s m args below meth c H1 locs1 cells slots Q (F0 m (pc + 3) ls (.int r :: rest))) : W p l e R s m args below meth c H locs cells slots Q (F0 m pc ls st0) := by
  refine va_calli (zrunS (As := As) (rest := rest) hC hM hl hy rfl rfl hR ⟨fun a U f mk h => ⟨h.1, h.2.calling⟩, fun U hU hW => ⟨rfl, hC.2.2.2.2.2.2.1.warm hW⟩⟩ hn hls hst hw hdg hcs) hS (fun q _ h => h.elim) (fun q h => h.elim) (fun r1 u t H1 locs1 ht hv hp hb hz hk hS1 => ?_)
  subst hp
  exact kk H1 locs1 (fun D cl w hw => hw.kept (fun j q hj => hk q.1 ((hw j q hj).lt) (fun h => h))) hS1 hz
/-- the start of a method's walk -/
theorem zstart {g : zG} {ws : va_W} {sz : Nat} {rm : Room} {y : MethodName} {bytes : ByteArray} {maxL : Nat} {ret : Option FieldType} {own : String} (ho : y.cls = own) {s₁ : State} (B : BodyLoose p l y (headSpec (zW y bytes maxL ret) rm) bytes maxL ret e s m args below meth c s₁) (hml : c.maxLocals = maxL) (hK : zK g s) : zC g own bytes maxL ret p s m meth c args := by
  have hts := atoms_spec (ws := zW y bytes maxL ret) B.pre
  have h1 : s.vm.findClass y.cls = some m.cls := findClass_of_methodNamed B.named
  rw [ho] at h1
  exact ⟨B.exec, B.bytes, B.returns, hml, h1, fun w hw => hts w (List.mem_cons_of_mem _ hw), hK, B.notSynchronized⟩
end ZL
