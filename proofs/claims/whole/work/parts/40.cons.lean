/-! Constructors: their new cells stand one behind another, from the object's own address on. -/
def xn_P (D : va_G) (cl : List vw_C) (a : Nat) (E : List va_E) (H : Heap) : Prop := H.size = a + E.length ∧ ∀ (j : Nat) (e : va_E), E[j]? = some e → va_at D cl (a + j, e) H
def xn_H (D : va_G) (cl : List vw_C) (a : Nat) (E : List va_E) (H0 H : Heap) (locs : List Loc) : Prop := xn_P D cl a E H ∧ va_S (fun q => a ≤ q) H0 H locs
def xn_lo (D : va_G) (cl : List vw_C) (low : List (Nat × va_E)) (a : Nat) (H : Heap) : Prop := ∀ q ∈ low, va_at D cl q H ∧ q.1 < a
def xn_AO (U : State) : Prop := va_AO tb_RSlt U ∧ va_AO tb_RAcc U
def xn_Pc (D : va_G) (cl : List vw_C) (tys : List (ClassId × FieldType)) (nl : List (String × Nat × MethodName × String)) (a : Nat) (e0 : va_E) (low : List (Nat × va_E)) (av : List Value) : Array Value → State → Prop := fun v U =>
  v = (Value.ref a :: av).toArray ∧ xn_P D cl a [e0] U.heap ∧ xn_lo D cl low a U.heap ∧ va_K D cl tys U ∧ xw_N nl U ∧ xn_AO U
def xn_Qc (D : va_G) (cl : List vw_C) (a : Nat) (E : List va_E) : Array Value → State → Outcome → State → Prop := fun _ st o t =>
  (o = .returned none ∧ xn_P D cl a E t.heap) ∧ va_F (fun q => a ≤ q) st t
theorem xn_push {D : va_G} {cl : List vw_C} {a : Nat} {E : List va_E} {H0 H H1 : Heap} {locs : List Loc} (hw : xn_H D cl a E H0 H locs) (z : H1.size = H.size + 1) (o : ∀ q : Nat, q < H.size → H1[q]? = H[q]?) {e : va_E} (he : va_at D cl (H.size, e) H1) : xn_H D cl a (E ++ [e]) H0 H1 locs := by
  obtain ⟨⟨h1, h2⟩, h3⟩ := hw
  refine ⟨⟨by rw [z, h1]; simp; omega, fun j x hx => ?_⟩, ⟨by rw [z]; exact Nat.le_succ_of_le h3.1, fun q q1 q2 => (o q (Nat.lt_of_lt_of_le q1 h3.1)).trans (h3.2.1 q q1 q2), h3.2.2⟩⟩
  by_cases hj : j < E.length
  · rw [List.getElem?_append_left hj] at hx
    exact (h2 j x hx).kept (o _ (by rw [h1]; show a + j < _; omega))
  · rw [List.getElem?_append_right (by omega)] at hx
    have hz : j - E.length < 1 := (List.getElem?_eq_some_iff.mp hx).1
    rw [show j - E.length = 0 by omega] at hx
    cases hx
    rw [show a + j = H.size by rw [h1]; omega]
    exact he
theorem xn_upd {D : va_G} {cl : List vw_C} {a j k : Nat} {E : List va_E} {H0 H H1 : Heap} {locs : List Loc} (hw : xn_H D cl a E H0 H locs) (hj : j < E.length) (z : H1.size = H.size) (o : ∀ q : Nat, q ≠ a + j → H1[q]? = H[q]?) {e : va_E} (he : va_at D cl (a + j, e) H1) : xn_H D cl a (E.set j e) H0 H1 (locs ++ [⟨a + j, k⟩]) := by
  obtain ⟨⟨h1, h2⟩, h3⟩ := hw
  refine ⟨⟨by rw [z, h1]; simp, fun i x hx => ?_⟩, h3.put z o (Nat.le_add_right a j)⟩
  by_cases hi : i = j
  · subst hi
    rw [List.getElem?_set_self hj] at hx
    cases hx
    exact he
  · rw [List.getElem?_set_ne (Ne.symm hi)] at hx
    exact (h2 i x hx).kept (o _ (by show a + i ≠ a + j; omega))
theorem xn_low {D : va_G} {cl : List vw_C} {low : List (Nat × va_E)} {a : Nat} {H0 H : Heap} {locs : List Loc} (h : xn_lo D cl low a H0) (hS : va_S (fun q => a ≤ q) H0 H locs) {q : Nat × va_E} (hq : q ∈ low) : va_at D cl q H :=
  (h q hq).1.kept (hS.2.1 q.1 ((h q hq).1.lt) (Nat.not_le.mpr (h q hq).2))
section XN
variable {p : Program} {l : Launch} {e : Env} {R : Room} {s : State} {m : MethodId} {args : Array Value} {below : List Frame} {meth : Method} {c : Code} {H : Heap} {locs : List Loc} {cells slots : Nat} {Q : State → Prop}
variable {cc : ByteArray} {pc : Nat} {ls : Array Slot} {rest : List Value} {D : va_G} {cl : List vw_C} {tys : List (ClassId × FieldType)} {H0 : Heap} {tb : List Cond} {cd : Cond} {own : String} {a : Nat} {E : List va_E}
theorem xn_new (Z : xw_Z p c cc s args m own (cd :: tb) D cl tys) (hw : xn_H D cl a E H0 H locs) {C : String} {T : u_T} {N ci index : Nat} (hc : cl[ci]? = some (C, T, N)) (hin : ∀ w ∈ u_ws C T N, w ∈ tb) (ty : Nat → FieldType) (hty : ∀ k, k < N → parseFieldDescriptor (T k).2.2.1 = some (ty k)) (hcl : Cond.classLink own index C ∈ tb) (hinst : Cond.instantiable C N ∈ tb) (hini : Cond.initialized C ∈ tb) (fs : List Value) (hfs : ∀ j, j < N → defaultValue (ty j) = vp_V fs j) (cells1 slots1 : Nat) (h1 : cells + 1 ≤ cells1) (h2 : slots + N ≤ slots1) (h3 : cells1 ≤ R.cells) (h4 : slots1 ≤ R.slots) (x : Nat) (hx : a + E.length = x) (hdg : decode cc pc = .ok (.new index, 3))
    (kk : ∀ H1 : Heap, xn_H D cl a (E ++ [.inr (ci, fs)]) H0 H1 locs → W p l e R s m args below meth c H1 locs cells1 slots1 Q (F0 m (pc + 3) ls (.ref x :: rest))) : W p l e R s m args below meth c H locs cells slots Q (F0 m pc ls rest) := by
  obtain ⟨hxe, hb, hts, hown, hK⟩ := Z
  have T' : ∀ w ∈ tb, w.before args s = true := fun w h => hts w (List.mem_cons_of_mem _ h)
  have hKn := hK.1 ci _ hc
  refine W.newcK hxe hb hown (T' _ hcl) (T' _ hinst) (T' _ hini) rfl hdg (Nat.le_trans h1 h3) (Nat.le_trans h2 h4) hKn.2.1 rfl fun H1 kC hkC e1 z1 o1 => ?_
  have hxx : H.size = x := by rw [hw.1.1]; exact hx
  refine W.widen h1 h2 ?_
  refine W.eq (g2 := F0 m (pc + 3) ls (.ref x :: rest)) (by rw [hxx]) ?_
  exact kk H1 (xn_push hw z1 o1 ⟨_, hc, (u_born ty T' hin hKn hkC e1 hty).to hfs⟩)
theorem xn_newa (Z : xw_Z p c cc s args m own (cd :: tb) D cl tys) (hw : xn_H D cl a E H0 H locs) {atype : ArrayType} {ty : FieldType} (hty : newarray.typeOf atype = ty) (hint : ty = .int ∨ ty = .boolean) (harr : Cond.arrayClass ty ∈ tb) (t0 : Nat) {cA : ClassId} (ht : tys[t0]? = some (cA, ty)) {i : Int32} (N : Nat) (hi : i = nI N) (hN : N < 1000) (cells1 slots1 : Nat) (h1 : cells + 1 ≤ cells1) (h2 : slots + N ≤ slots1) (h3 : cells1 ≤ R.cells) (h4 : slots1 ≤ R.slots) (x : Nat) (hx : a + E.length = x) (hdg : decode cc pc = .ok (.newarray atype, 2))
    (kk : ∀ H1 : Heap, xn_H D cl a (E ++ [.inl (cA, N, .inl (fun _ => 0))]) H0 H1 locs → W p l e R s m args below meth c H1 locs cells1 slots1 Q (F0 m (pc + 2) ls (.ref x :: rest))) : W p l e R s m args below meth c H locs cells slots Q (F0 m pc ls (.int i :: rest)) := by
  obtain ⟨hxe, hb, hts, hown, hK⟩ := Z
  subst hi
  subst hty
  have hxx : H.size = x := by rw [hw.1.1]; exact hx
  refine va_newaK (N := N) hxe hb (hts _ (List.mem_cons_of_mem _ harr)) rfl hdg rfl (nI_pos (by omega)) (nI_clamp (by omega)) ?_ (Nat.le_trans h1 h3) (Nat.le_trans h2 h4) rfl fun H1 cA' e1 z1 o1 _ hf => ?_
  · rcases hint with h | h <;> rw [h] <;> show N * _ ≤ _ <;> simp [componentBytes] <;> omega
  · have hc : cA' = cA := by
      have h := (hK.2 t0 _ ht).2
      refine Option.some.inj (hf.symm.trans ?_)
      rcases hint with h' | h' <;> rw [h'] at h ⊢ <;> exact h
    subst hc
    refine W.widen h1 h2 ?_
    refine W.eq (g2 := F0 m (pc + 2) ls (.ref x :: rest)) (by rw [hxx]) ?_
    refine kk H1 (xn_push hw z1 o1 ?_)
    show H1[H.size]? = some (vp_cell _ _)
    rw [e1]
    rcases hint with h | h <;> rw [h] <;> rfl
theorem xn_anew (Z : xw_Z p c cc s args m own (cd :: tb) D cl tys) (hw : xn_H D cl a E H0 H locs) {C : String} {index : Nat} (hcl : Cond.classLink own index C ∈ tb) (hAO : va_AO C s) (t0 : Nat) {cA : ClassId} (ht : tys[t0]? = some (cA, .object C)) {i : Int32} (N : Nat) (hi : i = nI N) (hN : N < 1000) (cells1 slots1 : Nat) (h1 : cells + 1 ≤ cells1) (h2 : slots + N ≤ slots1) (h3 : cells1 ≤ R.cells) (h4 : slots1 ≤ R.slots) (x : Nat) (hx : a + E.length = x) (hdg : decode cc pc = .ok (.anewarray index, 3))
    (kk : ∀ H1 : Heap, xn_H D cl a (E ++ [.inl (cA, N, .inr (.inr (.inr (.inr (fun _ => none)))))]) H0 H1 locs → W p l e R s m args below meth c H1 locs cells1 slots1 Q (F0 m (pc + 3) ls (.ref x :: rest))) : W p l e R s m args below meth c H locs cells slots Q (F0 m pc ls (.int i :: rest)) := by
  obtain ⟨hxe, hb, hts, hown, hK⟩ := Z
  subst hi
  have hxx : H.size = x := by rw [hw.1.1]; exact hx
  have hcl' := nI_clamp (n := N) (by omega)
  refine W.anew hxe hb hown (hts _ (List.mem_cons_of_mem _ hcl)) hAO.use rfl hdg rfl (nI_pos (by omega)) (by rw [hcl']; omega) (Nat.le_trans h1 h3) (by rw [hcl']; exact Nat.le_trans h2 h4) fun cA' kA comp f1 f2 f3 f4 => ?_
  have hc : cA' = cA := by
    obtain ⟨_, _, _, _, _, h⟩ := (hK.2 t0 _ ht).2
    exact Option.some.inj (f1.symm.trans h)
  subst hc
  rw [hcl']
  refine W.widen h1 h2 ?_
  refine W.eq (g2 := F0 m (pc + 3) ls (.ref x :: rest)) (by rw [hxx]) ?_
  refine kk _ (xn_push hw (by simp) (fun q hq => by rw [Array.getElem?_push, if_neg (Nat.ne_of_lt hq)]) ?_)
  show (H.push _)[H.size]? = some (vp_cell _ _)
  rw [arrV_new, vp_cell_q]
  simp [va_rf]
theorem xn_get (Z : xw_Z p c cc s args m own (cd :: tb) D cl tys) {x ci : Nat} {fs : List Value} (he : va_at D cl (x, .inr (ci, fs)) H) {C : String} {T : u_T} {N : Nat} (hc : cl[ci]? = some (C, T, N)) (hin : ∀ w ∈ u_ws C T N, w ∈ tb) (j : Nat) (hj : j < N) {index : Nat} (hl : Cond.fieldLink own index C (T j).2.1 (T j).2.2.1 ∈ tb) (hT : (T j).1 = C) {v : Value} (hv : fs[j]? = some v) (hdg : decode cc pc = .ok (.getfield index, 3))
    (kk : W p l e R s m args below meth c H locs cells slots Q (F0 m (pc + 3) ls (v :: rest))) : W p l e R s m args below meth c H locs cells slots Q (F0 m pc ls (.ref x :: rest)) := by
  obtain ⟨hx, hb, hts, hown, hK⟩ := Z
  refine va_get (ws := [(x, .inr (ci, fs))]) hx hb hts (fun w h => List.mem_cons_of_mem _ (hin w h)) hown hK (fun k q hk => ?_) 0 rfl hc j hj (hts _ (List.mem_cons_of_mem _ hl)) (fun x h => by rw [hT] at h; exact h) hv hdg kk
  have hz : k < 1 := (List.getElem?_eq_some_iff.mp hk).1
  rw [show k = 0 by omega] at hk
  cases hk
  exact he
theorem xn_at (hw : xn_H D cl a E H0 H locs) {j : Nat} {x : va_E} (h : E[j]? = some x) {b : Nat} (hb : a + j = b) : va_at D cl (b, x) H := by
  subst hb
  exact hw.1.2 j x h
theorem xn_put (Z : xw_Z p c cc s args m own (cd :: tb) D cl tys) (hin2 : meth.name = "<init>") (hw : xn_H D cl a E H0 H locs) (j : Nat) {ci : Nat} {fs : List Value} (he : E[j]? = some (.inr (ci, fs))) {T : u_T} {N : Nat} (hc : cl[ci]? = some (own, T, N)) (hin : ∀ w ∈ u_ws own T N, w ∈ tb) (ty0 : Nat → FieldType) (hty : ∀ k, k < N → parseFieldDescriptor (T k).2.2.1 = some (ty0 k)) (hnm : ∀ a, a < N → ∀ b, b < N → a ≠ b → (T a).2.1 ≠ (T b).2.1) (k : Nat) (hk : k < N) {index : Nat} (hl : Cond.fieldLink own index own (T k).2.1 (T k).2.2.1 ∈ tb) (hT : (T k).1 = own) (hfin : (T k).2.2.2 = true) {v : Value} (hn : narrow (ty0 k) v = v) (hfit : fits (ty0 k) v = true) (hlen : k < fs.length) {x : Nat} (hxa : a + j = x) (hdg : decode cc pc = .ok (.putfield index, 3))
    (kk : ∀ (H1 : Heap) (locs1 : List Loc), xn_H D cl a (E.set j (.inr (ci, fs.set k v))) H0 H1 locs1 → W p l e R s m args below meth c H1 locs1 cells slots Q (F0 m (pc + 3) ls rest)) : W p l e R s m args below meth c H locs cells slots Q (F0 m pc ls (v :: .ref x :: rest)) := by
  obtain ⟨hx, hb, hts0, hown, hK⟩ := Z
  subst hxa
  have hts : ∀ w ∈ tb, w.before args s = true := fun w h => hts0 w (List.mem_cons_of_mem _ h)
  have hap := va_apart (own := own) hts hin ty0 hty hnm hK hc
  obtain ⟨r, h1, cell, q1, q2, q3, q4⟩ := hw.1.2 j _ he
  have hr : r = (own, T, N) := Option.some.inj (h1.symm.trans hc)
  subst hr
  obtain ⟨hS, hfc, kC, hkC, hkind⟩ := hK.1 ci _ hc
  obtain ⟨cf, kf, fi, f, hi, hsl⟩ := hS k hk
  have hlay := hts _ (hin _ (u_in_lay hk))
  unfold u_lay at hlay
  rw [if_pos hfin] at hlay
  have hst := (u_facts hfc hkC (u_lays hts hin hk) hi).1
  have hcf : m.cls = cf := by
    obtain ⟨_, _, c', _, _, _, -, -, hf', -, -, -, hown2, -⟩ := Cond.laysFinal_spec hlay
    have e1 : c' = cf := by have := hi.symm.trans hf'; simp at this; exact this.1.symm
    rw [hT] at hown2
    rw [← e1]; exact Option.some.inj (hown.symm.trans hown2)
  have h6 := u_fits hfc hkC hkind (Or.inr hlay) hi (hty k hk) hn hfit
  refine W.putFinK hx hb hown (hts _ hl) (by have h7 := hi; rw [hT] at h7; exact h7) hst hcf hin2 (by rw [q2]; exact h6) q1 q3 (by rw [hsl]; exact k2_hasslot (q4 k hk)) rfl rfl hdg fun H' e1 e2 e3 => ?_
  rw [hsl] at e1 ⊢
  exact kk H' _ (xn_upd hw (List.getElem?_eq_some_iff.mp he).1 e2 e3 ⟨_, hc, t_OB.to (V := updV (vp_V fs) k v) ⟨_, e1, q2, q3, t_set q4 hap hk v⟩ (fun j _ => vp_updV_set hlen v j)⟩)
theorem xn_aast (Z : xw_Z p c cc s args m own (cd :: tb) D cl tys) (hw : xn_H D cl a E H0 H locs) (j t0 ci : Nat) {cA : ClassId} {r : vw_C} {n x v : Nat} {vs : List Value} {f : Nat → Option Nat} (he : E[j]? = some (.inl (cA, n, .inr (.inr (.inr (.inr f)))))) (ht : tys[t0]? = some (cA, .object r.1)) (hv : va_at D cl (v, .inr (ci, vs)) H) (hc : cl[ci]? = some r) {i : Int32} (k : Nat) (hi : i = nI k) (hk : k < n) (hn : n < 1000) (hxa : a + j = x) (hdg : decode cc pc = .ok (.aastore, 1))
    (kk : ∀ (H1 : Heap) (locs1 : List Loc), xn_H D cl a (E.set j (.inl (cA, n, .inr (.inr (.inr (.inr (va_up f k (some v)))))))) H0 H1 locs1 → W p l e R s m args below meth c H1 locs1 cells slots Q (F0 m (pc + 1) ls rest)) : W p l e R s m args below meth c H locs cells slots Q (F0 m pc ls (.ref v :: .int i :: .ref x :: rest)) := by
  obtain ⟨hx, hb, hts, hown, hK⟩ := Z
  subst hi
  subst hxa
  have hcl := nI_clamp (n := k) (by omega)
  obtain ⟨r', hr', cellV, g1, g2, g3, -⟩ := hv
  have hcls := (hK.1 ci r hc).2
  obtain ⟨kA, comp, k1, k2, k3, -⟩ := (hK.2 t0 _ ht).2
  have hcomp : comp = D.1 ci := Option.some.inj (k3.symm.trans hcls.1)
  subst hcomp
  obtain ⟨kC, hkC, -⟩ := hcls.2
  refine W.aast hx hb (hw.1.2 j _ he) (fun q h => by cases h) (fun h => by cases h) k1 k2 rfl hkC ⟨nI_pos (by omega), by show _ < (arrV _ _ _).slots.size; rw [arrV_size, hcl]; exact hk⟩ g1 (fun q h => by rw [g3] at h; cases h) (by rw [g2]; exact hkC) (by rw [g2]; exact va_assign hcls) rfl rfl hdg fun H1 e z oq => ?_
  refine kk H1 _ (xn_upd hw (List.getElem?_eq_some_iff.mp he).1 z oq ?_)
  show H1[a + j]? = some (vp_cell _ _)
  rw [e, hcl]
  rw [vp_cell_q, vp_cell_q, arrV_store]
  congr 2
  funext q
  by_cases hq : q = k
  · subst hq
    simp [updV, va_up, va_rf]
  · simp [updV, va_up, hq]
end XN
theorem xn_Pc_blind {D : va_G} {cl : List vw_C} {tys : List (ClassId × FieldType)} {nl : List (String × Nat × MethodName × String)} {a : Nat} {e0 : va_E} {low : List (Nat × va_E)} {av : List Value} : FrameBlind (xn_Pc D cl tys nl a e0 low av) := fun a U g mk q => by
  obtain ⟨q0, qP, qL, qK, qN, qA⟩ := q
  exact ⟨q0, qP, qL, va_K.moved (u := U) (U := U.calling g mk a) (Vm.Alike.refl U.vm) qK, fun x hx => va_Nw.same rfl (u := U) (U := U.calling g mk a) rfl (qN x hx), va_AO.moved (u := U) (U := U.calling g mk a) (Vm.Alike.refl U.vm) qA.1, va_AO.moved (u := U) (U := U.calling g mk a) (Vm.Alike.refl U.vm) qA.2⟩
section XNS
variable {D : va_G} {cl : List vw_C} {tys : List (ClassId × FieldType)} {nl : List (String × Nat × MethodName × String)} {tb : List Cond} {a : Nat} {E : List va_E} {low : List (Nat × va_E)}
theorem xn_start {l : Launch} {y : MethodName} {b : ByteArray} {mL mc ms : Nat} {rm : Room} (e0 : va_E) (av : List Value) (hy : plainName y.cls = true) (hyn : y.name = "<init>") (hlen : (lg_sl (.ref a :: av)).length ≤ mL)
    (body : ∀ (p : Program) (e : Env) (s : State) (m : MethodId) (below : List Frame) (meth : Method) (c : Code) (ls : Array Slot), xw_Z p c b s (.ref a :: av : List Value).toArray m y.cls (Cond.code y b mL none :: tb) D cl tys → c.maxLocals = mL → meth.sig.returnType = none → meth.locks = false → meth.name = "<init>" → xw_N nl s → xn_AO s → lv_has ls mL (lv_args 0 (.ref a :: av)) → xn_lo D cl low a s.heap → xn_H D cl a [e0] s.heap s.heap [] →
      W p l e rm s m (.ref a :: av : List Value).toArray below meth c s.heap [] 0 0 (MQ below (xn_Qc D cl a E) (.ref a :: av : List Value).toArray s mc ms (fun q => a ≤ q)) (F0 m 0 ls [])) :
    Met l y (Cond.code y b mL none :: tb) rm (xn_Pc D cl tys nl a e0 low av) (xn_Qc D cl a E) mc ms (fun q => a ≤ q) := by
  refine Met.ofW (cc := b) (maxL := mL) (ret := none) hy rfl ?_
  intro p e s m args below meth c s₁ B hml hv
  obtain ⟨rfl, hP, hL, hK, hN, hAO⟩ := hv
  have hin : meth.name = "<init>" := (name_of_methodNamed B.named B.method).1.trans hyn
  have hl := lv_entry (.ref a :: av) (n := mL) hlen
  rw [lg_entry_eq]
  generalize (lg_sl (.ref a :: av) ++ List.replicate (mL - (lg_sl (.ref a :: av)).length) Slot.unset).toArray = ls at hl ⊢
  exact body p e s m below meth c ls ⟨B.exec, B.bytes, atoms_spec (ws := Cond.code y b mL none :: tb) B.pre, findClass_of_methodNamed B.named, hK⟩ hml B.returns B.notSynchronized hin hN hAO hl hL ⟨hP, va_S.rf⟩
variable {p : Program} {l : Launch} {e : Env} {R : Room} {s : State} {m : MethodId} {args : Array Value} {below : List Frame} {meth : Method} {c : Code} {H : Heap} {locs : List Loc} {cells slots : Nat} {Q : State → Prop}
variable {cc : ByteArray} {pc : Nat} {ls : Array Slot} {rest : List Value} {H0 : Heap} {own : String} {cd : Cond}
theorem xn_ret (Z : xw_Z p c cc s args m own (cd :: tb) D cl tys) (hr : meth.sig.returnType = none) (hlk : meth.locks = false) (hw : xn_H D cl a E s.heap H locs) {mc ms : Nat} (h1 : cells ≤ mc) (h2 : slots ≤ ms) (hdg : decode cc pc = .ok (.return_, 1)) : W p l e R s m args below meth c H locs cells slots (MQ below (xn_Qc D cl a E) args s mc ms (fun q => a ≤ q)) (F0 m pc ls []) :=
  W.widen h1 h2 (W.vret Z.1 Z.2.1 hr (fun t ht _ => ⟨⟨rfl, by rw [ht]; exact hw.1⟩, hw.2.F ht⟩) hw.2.2.2 hdg hlk)
theorem xn_obj (Z : xw_Z p c cc s args m own (cd :: tb) D cl tys) (hls : ls.size = c.maxLocals) {idx : Nat} (hlink : Cond.methodLink own idx Lib.objectInit ∈ tb) (hinst : Cond.instanceMethod Lib.objectInit ∈ tb) (hcode : Cond.code Lib.objectInit ⟨#[0xb1]⟩ 1 none ∈ tb) {x : Nat} (hdg : decode cc pc = .ok (.invokespecial idx, 3)) (hf : 1 ≤ R.frames) (hlo : 12 ≤ R.locals)
    (kk : W p l e R s m args below meth c H locs cells slots Q (F0 m (pc + 3) ls [])) : W p l e R s m args below meth c H locs cells slots Q (F0 m pc ls [.ref x]) := by
  obtain ⟨hx, hb, hts, hown, hK⟩ := Z
  exact W.objInit hx hb hown (hts _ (List.mem_cons_of_mem _ hlink)) (hts _ (List.mem_cons_of_mem _ hinst)) (hts _ (List.mem_cons_of_mem _ hcode)) (g := F0 m pc ls [.ref x]) rfl hls rfl hdg hf (by show 2 * 0 + 0 + 12 ≤ _; omega) kk
theorem xn_back {y : MethodName} {mc ms : Nat} {b : Nat} {e0 : va_E} {E1 E2 : List va_E} {st0 : List Value} {av : Array Value} (hb : a + E1.length = b) (hr : va_Run p l e R s m args below meth c H locs cells slots mc ms (F0 m pc ls st0) rest (xn_Qc D cl b E2 av) (fun q => b ≤ q)) (hw : xn_H D cl a (E1 ++ [e0]) H0 H locs)
    (kk : ∀ (H1 : Heap) (locs1 : List Loc), xn_H D cl a (E1 ++ E2) H0 H1 locs1 → W p l e R s m args below meth c H1 locs1 (cells + mc) (slots + ms) Q (F0 m (pc + 3) ls rest)) : W p l e R s m args below meth c H locs cells slots Q (F0 m pc ls st0) := by
  intro T hT X
  obtain ⟨v, st₀, t, T', L, h0, X', hL, e1, e2, ⟨⟨hv, hP⟩, hz, hk⟩, st⟩ := hr T hT X
  obtain rfl : v = none := by injection hv
  rw [h0] at hz hk
  obtain ⟨⟨h1, h2⟩, hS⟩ := hw
  have hA : ∀ (j : Nat) (x : va_E), (E1 ++ E2)[j]? = some x → va_at D cl (a + j, x) T'.heap := fun j x hx => by
    rw [e1]
    by_cases hj : j < E1.length
    · rw [List.getElem?_append_left hj] at hx
      refine (h2 j x (by rw [List.getElem?_append_left hj]; exact hx)).kept (hk _ ?_ ?_)
      · rw [h1]; show a + j < _; simp; omega
      · show ¬ b ≤ a + j; omega
    · rw [List.getElem?_append_right (by omega)] at hx
      have := hP.2 _ _ hx
      rw [show b + (j - E1.length) = a + j by omega] at this
      exact this
  have hB : ∀ q ∈ locs ++ L, a ≤ q.base := fun q hq => by
    rcases List.mem_append.mp hq with h | h
    · exact hS.2.2 q h
    · have := hL q h
      dsimp only at this
      omega
  obtain ⟨t2, a1, b1⟩ := kk T'.heap (locs ++ L) ⟨⟨by rw [e1, hP.1, ← hb]; simp; omega, hA⟩, ⟨Nat.le_trans hS.1 (by rw [e1]; exact hz), fun q q1 q2 => by rw [e1, hk q (Nat.lt_of_lt_of_le q1 hS.1) (fun h => q2 (by show a ≤ q; dsimp only at h; omega))]; exact hS.2.1 q q1 q2, hB⟩⟩ T' rfl X'
  exact ⟨t2, st t2 a1, b1⟩
variable {y : MethodName} {b : ByteArray} {mL nL fr lo n mc ms : Nat} {st0 : List Value} {index : Nat}
theorem xn_pre {ba : Nat} {e0 : va_E} {E1 : List va_E} {low2 : List (Nat × va_E)} {As : List Value} (hK : va_K D cl tys s) (hN : xw_N nl s) (hAO : xn_AO s) (hw : xn_H D cl a (E1 ++ [e0]) H0 H locs) (hba : a + E1.length = ba) (hlow : xn_lo D cl low2 ba H) : PreS s H (xn_Pc D cl tys nl ba e0 low2 As) (.ref ba :: As) := by
  refine ⟨xn_Pc_blind, fun U hU hW => ⟨rfl, ?_, ?_, va_K.moved hW.alike hK, hN.warm hW, va_AO.moved hW.alike hAO.1, va_AO.moved hW.alike hAO.2⟩⟩
  · rw [hU]
    refine ⟨by rw [hw.1.1, ← hba]; simp; omega, fun j x hx => ?_⟩
    have hz : j < 1 := (List.getElem?_eq_some_iff.mp hx).1
    have := hw.1.2 (E1.length + j) x (by rw [List.getElem?_append_right (by omega), Nat.add_sub_cancel_left]; exact hx)
    rw [show a + (E1.length + j) = ba + j by omega] at this
    exact this
  · rw [hU]; exact hlow
theorem xn_cI (Z : xw_Z p c cc s args m own (cd :: tb) D cl tys) (hml : c.maxLocals = nL) (hls : ls.size = nL) (hN : xw_N nl s) (hAO : xn_AO s) {ba : Nat} {e0 : va_E} {E1 E2 : List va_E} {low2 : List (Nat × va_E)} {As : List Value} (hw : xn_H D cl a (E1 ++ [e0]) H0 H locs) (hba : a + E1.length = ba)
    (hM : Met l y (Cond.code y b mL none :: tb) { frames := fr, cells := mc, slots := ms, locals := lo } (xn_Pc D cl tys nl ba e0 low2 As) (xn_Qc D cl ba E2) mc ms (fun q => ba ≤ q)) (hlow : xn_lo D cl low2 ba H)
    (hg : ∀ w ∈ tb, goodWord w = true) (hcode : Cond.code y b mL none ∈ tb) (hlink : Cond.methodLink own index y ∈ tb) (hin : Cond.instanceMethod y ∈ tb) (hini : Cond.initialized y.cls ∈ tb) (hyn : y.name = "<init>")
    (hd : y.cls ≠ "java/lang/invoke/MethodHandle" ∧ y.cls ≠ "java/lang/invoke/VarHandle" ∧ (parseMethodDescriptor y.desc).map (fun d => d.parameters.length) = some n) (hR : fr + 1 ≤ R.frames ∧ 8 + (mL + 11) + lo ≤ R.locals)
    (hn : As.length = n) (hst : st0 = As.reverse ++ .ref ba :: rest) (hW : (rest.map fun v => v.category).sum ≤ 8) (hcs : cells + mc ≤ R.cells ∧ slots + ms ≤ R.slots) (hdg : decode cc pc = .ok (.invokespecial index, 3))
    (kk : ∀ (H1 : Heap) (locs1 : List Loc), xn_H D cl a (E1 ++ E2) H0 H1 locs1 → W p l e R s m args below meth c H1 locs1 (cells + mc) (slots + ms) Q (F0 m (pc + 3) ls rest)) : W p l e R s m args below meth c H locs cells slots Q (F0 m pc ls st0) := by
  obtain ⟨hx, hb, hts, hown, hK⟩ := Z
  have T : ∀ w ∈ tb, w.before args s = true := fun w h => hts w (List.mem_cons_of_mem _ h)
  exact xn_back (y := y) hba (va_runI (As := As) (rest := rest) (n := n) (bytes := b) (maxL := mL) ⟨hx, hb, hml, hown, hts⟩ hM ⟨callB_of n hts (xw_good hg hcode) rfl rfl rfl (T _ hini) (T _ hlink) hd hR, hyn, T _ hin⟩ (xn_pre hK hN hAO hw hba hlow) rfl hn hls hst (lv_room hW) hdg hcs) hw kk
theorem xn_cIN (Z : xw_Z p c cc s args m own (cd :: tb) D cl tys) (hml : c.maxLocals = nL) (hls : ls.size = nL) (hN : xw_N nl s) (hAO : xn_AO s) {ba : Nat} {e0 : va_E} {E1 E2 : List va_E} {low2 : List (Nat × va_E)} {As : List Value} (hw : xn_H D cl a (E1 ++ [e0]) H0 H locs) (hba : a + E1.length = ba)
    (hM : Met l y (Cond.code y b mL none :: tb) { frames := fr, cells := mc, slots := ms, locals := lo } (xn_Pc D cl tys nl ba e0 low2 As) (xn_Qc D cl ba E2) mc ms (fun q => ba ≤ q)) (hlow : xn_lo D cl low2 ba H)
    (hg : ∀ w ∈ tb, goodWord w = true) (hcode : Cond.code y b mL none ∈ tb) {host : String} (hlink : (own, index, y, host) ∈ nl) (hin : Cond.instanceMethod y ∈ tb) (hini : Cond.initialized y.cls ∈ tb) (hyn : y.name = "<init>")
    (hd : y.cls ≠ "java/lang/invoke/MethodHandle" ∧ y.cls ≠ "java/lang/invoke/VarHandle" ∧ (parseMethodDescriptor y.desc).map (fun d => d.parameters.length) = some n) (hR : fr + 1 ≤ R.frames ∧ 8 + (mL + 11) + lo ≤ R.locals)
    (hn : As.length = n) (hst : st0 = As.reverse ++ .ref ba :: rest) (hW : (rest.map fun v => v.category).sum ≤ 8) (hcs : cells + mc ≤ R.cells ∧ slots + ms ≤ R.slots) (hdg : decode cc pc = .ok (.invokespecial index, 3))
    (kk : ∀ (H1 : Heap) (locs1 : List Loc), xn_H D cl a (E1 ++ E2) H0 H1 locs1 → W p l e R s m args below meth c H1 locs1 (cells + mc) (slots + ms) Q (F0 m (pc + 3) ls rest)) : W p l e R s m args below meth c H locs cells slots Q (F0 m pc ls st0) := by
  obtain ⟨hx, hb, hts, hown, hK⟩ := Z
  have T : ∀ w ∈ tb, w.before args s = true := fun w h => hts w (List.mem_cons_of_mem _ h)
  exact xn_back (y := y) hba (va_runIN (As := As) (rest := rest) (n := n) (bytes := b) (maxL := mL) ⟨hx, hb, hml, hown, hts⟩ hM ⟨va_cnB n hts (xw_good hg hcode) rfl rfl rfl (hN _ hlink) (T _ hini) hd hR, hyn, T _ hin⟩ (xn_pre hK hN hAO hw hba hlow) rfl hn hls hst (lv_room hW) hdg hcs) hw kk
end XNS
