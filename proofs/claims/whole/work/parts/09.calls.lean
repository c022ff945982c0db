/-! Start, end and calls of methods that make no cell. -/
theorem xw_Pc_blind {D : va_G} {cl : List vw_C} {tys : List (ClassId × FieldType)} {ids : List (Nat × Nat)} {ad : Nat × Nat → Nat} {xk : Nat × Nat → (Nat → Int32) → va_E} {nl : List (String × Nat × MethodName × String)} {M : Nat × Nat → Nat → Int32} {av : List Value} : FrameBlind (xw_Pc D cl tys ids ad xk nl M av) := fun a U g mk q => by
  obtain ⟨q0, qP, qK, qD, qN⟩ := q
  exact ⟨q0, qP, va_K.moved (u := U) (U := U.calling g mk a) (Vm.Alike.refl U.vm) qK, qD, fun x hx => va_Nw.same rfl (u := U) (U := U.calling g mk a) rfl (qN x hx)⟩
theorem xw_good {tb : List Cond} (hg : ∀ w ∈ tb, goodWord w = true) {c1 c2 : Cond} (h2 : c2 ∈ tb) : GoodIn (c1 :: tb) (c2 :: tb) := fun w hw => by
  rcases List.mem_cons.mp hw with rfl | hw
  · exact ⟨List.mem_cons_of_mem _ h2, good_of_word (hg _ h2)⟩
  · exact ⟨List.mem_cons_of_mem _ hw, good_of_word (hg _ hw)⟩
section XS
variable {D : va_G} {cl : List vw_C} {tys : List (ClassId × FieldType)} {ids : List (Nat × Nat)} {ad : Nat × Nat → Nat} {xk : Nat × Nat → (Nat → Int32) → va_E} {nl : List (String × Nat × MethodName × String)} {M : Nat × Nat → Nat → Int32} {tb : List Cond} {r : Option Value} {Pm : (Nat × Nat → Nat → Int32) → Prop}
theorem xw_start {l : Launch} {y : MethodName} {b : ByteArray} {mL : Nat} {ret : Option FieldType} {rm : Room} (av : List Value) (hy : plainName y.cls = true) (hlen : (lg_sl av).length ≤ mL)
    (body : ∀ (p : Program) (e : Env) (s : State) (m : MethodId) (below : List Frame) (meth : Method) (c : Code) (ls : Array Slot), xw_Z p c b s av.toArray m y.cls (Cond.code y b mL ret :: tb) D cl tys → c.maxLocals = mL → meth.sig.returnType = ret → meth.locks = false → xw_N nl s → lv_has ls mL (lv_args 0 av) → xw_H D cl (xw_A ids ad) s.heap ids ad (xw_M xk M) s.heap [] →
      W p l e rm s m av.toArray below meth c s.heap [] 0 0 (MQ below (xw_Qc D cl ids ad xk r Pm) av.toArray s 0 0 (xw_A ids ad)) (F0 m 0 ls [])) :
    Met l y (Cond.code y b mL ret :: tb) rm (xw_Pc D cl tys ids ad xk nl M av) (xw_Qc D cl ids ad xk r Pm) 0 0 (xw_A ids ad) := by
  refine Met.ofW (cc := b) (maxL := mL) (ret := ret) hy rfl ?_
  intro p e s m args below meth c s₁ B hml hv
  obtain ⟨rfl, hP, hK, hD, hN⟩ := hv
  have hl := lv_entry av (n := mL) hlen
  rw [lg_entry_eq]
  generalize (lg_sl av ++ List.replicate (mL - (lg_sl av).length) Slot.unset).toArray = ls at hl ⊢
  exact body p e s m below meth c ls ⟨B.exec, B.bytes, atoms_spec (ws := Cond.code y b mL ret :: tb) B.pre, findClass_of_methodNamed B.named, hK⟩ hml B.returns B.notSynchronized hN hl ⟨hP, hD, va_S.rf⟩
variable {p : Program} {l : Launch} {e : Env} {R : Room} {s : State} {m : MethodId} {args : Array Value} {below : List Frame} {meth : Method} {c : Code} {H : Heap} {locs : List Loc} {cells slots : Nat} {Q : State → Prop}
variable {cc : ByteArray} {pc : Nat} {ls : Array Slot} {rest : List Value} {H0 : Heap} {own : String} {cd : Cond}
theorem xw_vret (Z : xw_Z p c cc s args m own (cd :: tb) D cl tys) (hr : meth.sig.returnType = none) (hlk : meth.locks = false) (hw : xw_H D cl (xw_A ids ad) s.heap ids ad (xw_M xk M) H locs) (hdg : decode cc pc = .ok (.return_, 1)) (hp : Pm M) : W p l e R s m args below meth c H locs 0 0 (MQ below (xw_Qc D cl ids ad xk none Pm) args s 0 0 (xw_A ids ad)) (F0 m pc ls []) :=
  W.vret Z.1 Z.2.1 hr (fun t ht _ => ⟨⟨rfl, M, hp, by rw [ht]; exact hw.1⟩, hw.2.2.F ht⟩) hw.2.2.2.2 hdg hlk
theorem xw_iret (Z : xw_Z p c cc s args m own (cd :: tb) D cl tys) (hr : meth.sig.returnType = some .int) (hlk : meth.locks = false) (hw : xw_H D cl (xw_A ids ad) s.heap ids ad (xw_M xk M) H locs) (hdg : decode cc pc = .ok (.ireturn, 1)) {v w : Int32} (hv : v = w) (hp : Pm M) : W p l e R s m args below meth c H locs 0 0 (MQ below (xw_Qc D cl ids ad xk (some (.int w)) Pm) args s 0 0 (xw_A ids ad)) (F0 m pc ls [.int v]) := by
  subst hv
  exact W.iret Z.1 Z.2.1 hr (fun t ht _ => ⟨⟨rfl, M, hp, by rw [ht]; exact hw.1⟩, hw.2.2.F ht⟩) hw.2.2.2.2 hdg hlk
theorem xw_zret (Z : xw_Z p c cc s args m own (cd :: tb) D cl tys) (hr : meth.sig.returnType = some .boolean) (hlk : meth.locks = false) (hw : xw_H D cl (xw_A ids ad) s.heap ids ad (xw_M xk M) H locs) (hdg : decode cc pc = .ok (.ireturn, 1)) {v w : Int32} (hv : v = w) (hn : narrow .boolean (.int v) = .int v) (hp : Pm M) : W p l e R s m args below meth c H locs 0 0 (MQ below (xw_Qc D cl ids ad xk (some (.int w)) Pm) args s 0 0 (xw_A ids ad)) (F0 m pc ls [.int v]) := by
  subst hv
  exact W.zret Z.1 Z.2.1 hr hn (fun t ht _ => ⟨⟨rfl, M, hp, by rw [ht]; exact hw.1⟩, hw.2.2.F ht⟩) hw.2.2.2.2 hdg hlk
theorem xw_aret (Z : xw_Z p c cc s args m own (cd :: tb) D cl tys) {C : String} (hr : meth.sig.returnType = some (.object C)) (hlk : meth.locks = false) (hw : xw_H D cl (xw_A ids ad) s.heap ids ad (xw_M xk M) H locs) (hdg : decode cc pc = .ok (.areturn, 1)) {a : Nat} (hp : Pm M) : W p l e R s m args below meth c H locs 0 0 (MQ below (xw_Qc D cl ids ad xk (some (.ref a)) Pm) args s 0 0 (xw_A ids ad)) (F0 m pc ls [.ref a]) :=
  W.aret Z.1 Z.2.1 hr (Or.inl ⟨C, rfl⟩) (Or.inr ⟨a, rfl⟩) (fun t ht _ => ⟨⟨rfl, M, hp, by rw [ht]; exact hw.1⟩, hw.2.2.F ht⟩) hw.2.2.2.2 hdg hlk
variable {y : MethodName} {b : ByteArray} {mL nL fr lo n : Nat} {ret : Option FieldType} {st0 : List Value} {index : Nat}
theorem xw_cV (Z : xw_Z p c cc s args m own (cd :: tb) D cl tys) (hml : c.maxLocals = nL) (hls : ls.size = nL) (hN : xw_N nl s) (hw : xw_H D cl (xw_A ids ad) H0 ids ad (xw_M xk M) H locs) {k : Nat × Nat} {As : List Value}
    (hM : Met l y (Cond.code y b mL ret :: tb) { frames := fr, cells := 0, slots := 0, locals := lo } (xw_Pc D cl tys ids ad xk nl M (.ref (ad k) :: As)) (xw_Qc D cl ids ad xk r Pm) 0 0 (xw_A ids ad))
    (hg : ∀ w ∈ tb, goodWord w = true) (hcode : Cond.code y b mL ret ∈ tb) (hlink : Cond.methodLink own index y ∈ tb) (hin : Cond.instanceMethod y ∈ tb) (hsel : Cond.selects y.cls y y ∈ tb) (hini : Cond.initialized y.cls ∈ tb)
    (hd : y.cls ≠ "java/lang/invoke/MethodHandle" ∧ y.cls ≠ "java/lang/invoke/VarHandle" ∧ (parseMethodDescriptor y.desc).map (fun d => d.parameters.length) = some n) (hR : fr + 1 ≤ R.frames ∧ 8 + (mL + 11) + lo ≤ R.locals)
    (hk : k ∈ ids) {ci : Nat} {fs : List Value} (he : xk k (M k) = .inr (ci, fs)) {q : vw_C} (hc : cl[ci]? = some q) (hq : q.1 = y.cls) (hn : As.length = n) (hst : st0 = As.reverse ++ .ref (ad k) :: rest) (hW : (rest.map fun v => v.category).sum ≤ 8) (hcs : cells ≤ R.cells ∧ slots ≤ R.slots) (hdg : decode cc pc = .ok (.invokevirtual index, 3))
    (kk : ∀ (M1 : Nat × Nat → Nat → Int32) (H1 : Heap) (locs1 : List Loc), Pm M1 → xw_H D cl (xw_A ids ad) H0 ids ad (xw_M xk M1) H1 locs1 → W p l e R s m args below meth c H1 locs1 cells slots Q (F0 m (pc + 3) ls (r.toList ++ rest))) : W p l e R s m args below meth c H locs cells slots Q (F0 m pc ls st0) := by
  obtain ⟨hx, hb, hts, hown, hK⟩ := Z
  have T : ∀ w ∈ tb, w.before args s = true := fun w h => hts w (List.mem_cons_of_mem _ h)
  obtain ⟨q0, hq0⟩ := List.getElem?_of_mem hk
  refine xw_call (va_runV (C := y.cls) (As := As) (rest := rest) (n := n) (mc := 0) (ms := 0) (bytes := b) (maxL := mL) (ret := ret) ⟨hx, hb, hml, hown, hts⟩ hM ⟨callB_of n hts (xw_good hg hcode) rfl rfl rfl (T _ hini) (T _ hlink) hd hR, T _ hin, T _ hsel⟩ ⟨xw_Pc_blind, ?_, fun U hU hW => ⟨rfl, by rw [hU]; exact hw.1, va_K.moved hW.alike hK, hw.2.1, hN.warm hW⟩⟩ rfl hn hls hst ?_ hdg hcs) hw kk
  · obtain ⟨cell, c1, c2, c3⟩ := va_recv hK hw.1 hc (q0 := q0) (a := ad k) (fs := fs) (by rw [xw_at hq0]; exact congrArg (fun z => some (ad k, z)) he)
    exact ⟨cell, c1, c2, by rw [← hq]; exact c3⟩
  · exact lv_room hW
theorem xw_cS (Z : xw_Z p c cc s args m own (cd :: tb) D cl tys) (hml : c.maxLocals = nL) (hls : ls.size = nL) (hN : xw_N nl s) (hw : xw_H D cl (xw_A ids ad) H0 ids ad (xw_M xk M) H locs) {As : List Value}
    (hM : Met l y (Cond.code y b mL ret :: tb) { frames := fr, cells := 0, slots := 0, locals := lo } (xw_Pc D cl tys ids ad xk nl M As) (xw_Qc D cl ids ad xk r Pm) 0 0 (xw_A ids ad))
    (hg : ∀ w ∈ tb, goodWord w = true) (hcode : Cond.code y b mL ret ∈ tb) (hlink : Cond.methodLink own index y ∈ tb) (hin : Cond.static y ∈ tb) (hini : Cond.initialized y.cls ∈ tb)
    (hd : y.cls ≠ "java/lang/invoke/MethodHandle" ∧ y.cls ≠ "java/lang/invoke/VarHandle" ∧ (parseMethodDescriptor y.desc).map (fun d => d.parameters.length) = some n) (hR : fr + 1 ≤ R.frames ∧ 8 + (mL + 11) + lo ≤ R.locals)
    (hn : As.length = n) (hst : st0 = As.reverse ++ rest) (hW : (rest.map fun v => v.category).sum ≤ 8) (hcs : cells ≤ R.cells ∧ slots ≤ R.slots) (hdg : decode cc pc = .ok (.invokestatic index, 3))
    (kk : ∀ (M1 : Nat × Nat → Nat → Int32) (H1 : Heap) (locs1 : List Loc), Pm M1 → xw_H D cl (xw_A ids ad) H0 ids ad (xw_M xk M1) H1 locs1 → W p l e R s m args below meth c H1 locs1 cells slots Q (F0 m (pc + 3) ls (r.toList ++ rest))) : W p l e R s m args below meth c H locs cells slots Q (F0 m pc ls st0) := by
  obtain ⟨hx, hb, hts, hown, hK⟩ := Z
  have T : ∀ w ∈ tb, w.before args s = true := fun w h => hts w (List.mem_cons_of_mem _ h)
  exact xw_call (va_runS (As := As) (rest := rest) (n := n) (mc := 0) (ms := 0) (bytes := b) (maxL := mL) (ret := ret) ⟨hx, hb, hml, hown, hts⟩ hM ⟨callB_of n hts (xw_good hg hcode) rfl rfl rfl (T _ hini) (T _ hlink) hd hR, T _ hin⟩ ⟨xw_Pc_blind, fun U hU hW => ⟨rfl, by rw [hU]; exact hw.1, va_K.moved hW.alike hK, hw.2.1, hN.warm hW⟩⟩ rfl hn hls hst (lv_room hW) hdg hcs) hw kk
/-- a static method of a nest mate -/
theorem xw_cN (Z : xw_Z p c cc s args m own (cd :: tb) D cl tys) (hml : c.maxLocals = nL) (hls : ls.size = nL) (hN : xw_N nl s) (hw : xw_H D cl (xw_A ids ad) H0 ids ad (xw_M xk M) H locs) {As : List Value}
    (hM : Met l y (Cond.code y b mL ret :: tb) { frames := fr, cells := 0, slots := 0, locals := lo } (xw_Pc D cl tys ids ad xk nl M As) (xw_Qc D cl ids ad xk r Pm) 0 0 (xw_A ids ad))
    (hg : ∀ w ∈ tb, goodWord w = true) (hcode : Cond.code y b mL ret ∈ tb) {host : String} (hlink : (own, index, y, host) ∈ nl) (hin : Cond.static y ∈ tb) (hini : Cond.initialized y.cls ∈ tb)
    (hd : y.cls ≠ "java/lang/invoke/MethodHandle" ∧ y.cls ≠ "java/lang/invoke/VarHandle" ∧ (parseMethodDescriptor y.desc).map (fun d => d.parameters.length) = some n) (hR : fr + 1 ≤ R.frames ∧ 8 + (mL + 11) + lo ≤ R.locals)
    (hn : As.length = n) (hst : st0 = As.reverse ++ rest) (hW : (rest.map fun v => v.category).sum ≤ 8) (hcs : cells ≤ R.cells ∧ slots ≤ R.slots) (hdg : decode cc pc = .ok (.invokestatic index, 3))
    (kk : ∀ (M1 : Nat × Nat → Nat → Int32) (H1 : Heap) (locs1 : List Loc), Pm M1 → xw_H D cl (xw_A ids ad) H0 ids ad (xw_M xk M1) H1 locs1 → W p l e R s m args below meth c H1 locs1 cells slots Q (F0 m (pc + 3) ls (r.toList ++ rest))) : W p l e R s m args below meth c H locs cells slots Q (F0 m pc ls st0) := by
  obtain ⟨hx, hb, hts, hown, hK⟩ := Z
  have T : ∀ w ∈ tb, w.before args s = true := fun w h => hts w (List.mem_cons_of_mem _ h)
  exact xw_call (va_runSN (As := As) (rest := rest) (n := n) (mc := 0) (ms := 0) (bytes := b) (maxL := mL) (ret := ret) ⟨hx, hb, hml, hown, hts⟩ hM ⟨va_cnB n hts (xw_good hg hcode) rfl rfl rfl (hN _ hlink) (T _ hini) hd hR, T _ hin, trivial⟩ ⟨xw_Pc_blind, fun U hU hW => ⟨rfl, by rw [hU]; exact hw.1, va_K.moved hW.alike hK, hw.2.1, hN.warm hW⟩⟩ rfl hn hls hst (lv_room hW) hdg hcs) hw kk
end XS
