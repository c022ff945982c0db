/-! Rows of my own over the kit's: a world whose cells have numbers of two parts; a memory of ints (cell, place); contracts of methods that make no cell. -/
def xw_ws (ids : List (Nat × Nat)) (ad : Nat × Nat → Nat) (cf : Nat × Nat → va_E) : va_W := ids.map (fun k => (ad k, cf k))
def xw_up (cf : Nat × Nat → va_E) (k : Nat × Nat) (e : va_E) : Nat × Nat → va_E := fun j => if j = k then e else cf j
def xw_A (ids : List (Nat × Nat)) (ad : Nat × Nat → Nat) : Nat → Prop := fun q => ∃ k, k ∈ ids ∧ ad k = q
theorem xw_at {ids : List (Nat × Nat)} {ad : Nat × Nat → Nat} {cf : Nat × Nat → va_E} {q0 : Nat} {k : Nat × Nat} (h : ids[q0]? = some k) : (xw_ws ids ad cf)[q0]? = some (ad k, cf k) := by
  simp [xw_ws, h]
theorem xw_of {ids : List (Nat × Nat)} {ad : Nat × Nat → Nat} {cf : Nat × Nat → va_E} {q0 : Nat} {x : Nat × va_E} (h : (xw_ws ids ad cf)[q0]? = some x) : ∃ k, ids[q0]? = some k ∧ x = (ad k, cf k) := by
  simp only [xw_ws, List.getElem?_map] at h
  cases hk : ids[q0]? with
  | none => rw [hk] at h; cases h
  | some k => rw [hk] at h; exact ⟨k, rfl, (Option.some.inj h).symm⟩
theorem xw_set {ids : List (Nat × Nat)} {ad : Nat × Nat → Nat} {cf : Nat × Nat → va_E} {A : Nat → Prop} (hD : va_D A (xw_ws ids ad cf)) {q0 : Nat} {k : Nat × Nat} (h : ids[q0]? = some k) (e : va_E) : (xw_ws ids ad cf).set q0 (ad k, e) = xw_ws ids ad (xw_up cf k e) := by
  have hl : q0 < ids.length := (List.getElem?_eq_some_iff.mp h).1
  refine List.ext_getElem? (fun i => ?_)
  by_cases hi : i = q0
  · subst hi
    rw [List.getElem?_set_self (by simp [xw_ws]; exact hl), xw_at h]
    simp [xw_up]
  · rw [List.getElem?_set_ne (Ne.symm hi)]
    cases hk : ids[i]? with
    | none => simp [xw_ws, hk]
    | some j =>
      rw [xw_at hk, xw_at hk]
      have hne : j ≠ k := fun z => by
        subst z
        exact hi (hD.1 i q0 _ _ (xw_at hk) (xw_at h) rfl)
      simp [xw_up, hne]
theorem xw_D {ids : List (Nat × Nat)} {ad : Nat × Nat → Nat} {cf cf' : Nat × Nat → va_E} {A : Nat → Prop} (hD : va_D A (xw_ws ids ad cf)) : va_D A (xw_ws ids ad cf') := by
  refine ⟨fun i j x y hi hj hxy => ?_, fun i x hi => ?_⟩
  · obtain ⟨a, ha, rfl⟩ := xw_of hi
    obtain ⟨b, hb, rfl⟩ := xw_of hj
    exact hD.1 i j _ _ (xw_at ha) (xw_at hb) hxy
  · obtain ⟨a, ha, rfl⟩ := xw_of hi
    exact hD.2 i (ad a, cf a) (xw_at ha)
theorem xw_DA {ids : List (Nat × Nat)} {ad : Nat × Nat → Nat} {cf : Nat × Nat → va_E} {A : Nat → Prop} (hD : va_D A (xw_ws ids ad cf)) : va_D (xw_A ids ad) (xw_ws ids ad cf) := by
  refine ⟨hD.1, fun i x hi => ?_⟩
  obtain ⟨a, ha, rfl⟩ := xw_of hi
  exact ⟨a, List.mem_of_getElem? ha, rfl⟩
/-- the fixed part of a walk: machine, bytes, words of the tables, own name, what is known of the names -/
def xw_Z (p : Program) (c : Code) (cc : ByteArray) (s : State) (args : Array Value) (m : MethodId) (own : String) (Ts : List Cond) (D : va_G) (cl : List vw_C) (tys : List (ClassId × FieldType)) : Prop :=
  p.tables.exec = Jvm.exec ∧ c.code = cc ∧ (∀ w ∈ Ts, w.before args s = true) ∧ s.vm.findClass own = some m.cls ∧ va_K D cl tys s
/-- the world now -/
def xw_H (D : va_G) (cl : List vw_C) (A : Nat → Prop) (H0 : Heap) (ids : List (Nat × Nat)) (ad : Nat × Nat → Nat) (cf : Nat × Nat → va_E) (H : Heap) (locs : List Loc) : Prop :=
  va_P D cl (xw_ws ids ad cf) H ∧ va_D A (xw_ws ids ad cf) ∧ va_S A H0 H locs
def xw_M (xk : Nat × Nat → (Nat → Int32) → va_E) (M : Nat × Nat → Nat → Int32) : Nat × Nat → va_E := fun k => xk k (M k)
def xw_mw (M : Nat × Nat → Nat → Int32) (k : Nat × Nat) (g : Nat → Int32) : Nat × Nat → Nat → Int32 := fun j => if j = k then g else M j
theorem xw_mw_s (M : Nat × Nat → Nat → Int32) (k : Nat × Nat) (g : Nat → Int32) : xw_mw M k g k = g := by simp [xw_mw]
theorem xw_mw_n {M : Nat × Nat → Nat → Int32} {k j : Nat × Nat} {g : Nat → Int32} (h : j ≠ k) : xw_mw M k g j = M j := by simp [xw_mw, h]
theorem xw_up_M (xk : Nat × Nat → (Nat → Int32) → va_E) (M : Nat × Nat → Nat → Int32) (k : Nat × Nat) (g : Nat → Int32) : xw_up (xw_M xk M) k (xk k g) = xw_M xk (xw_mw M k g) := by
  funext j
  by_cases h : j = k
  · subst h; simp [xw_up, xw_M, xw_mw]
  · simp [xw_up, xw_M, xw_mw, h]
section XW
variable {p : Program} {l : Launch} {e : Env} {R : Room} {s : State} {m : MethodId} {args : Array Value} {below : List Frame} {meth : Method} {c : Code} {H : Heap} {locs : List Loc} {cells slots : Nat} {Q : State → Prop}
variable {cc : ByteArray} {pc : Nat} {ls : Array Slot} {rest : List Value} {D : va_G} {cl : List vw_C} {A : Nat → Prop} {tys : List (ClassId × FieldType)} {H0 : Heap} {Ts : List Cond} {own : String}
variable {ids : List (Nat × Nat)} {ad : Nat × Nat → Nat} {cf : Nat × Nat → va_E} {xk : Nat × Nat → (Nat → Int32) → va_E} {M : Nat × Nat → Nat → Int32}
theorem xw_get (Z : xw_Z p c cc s args m own Ts D cl tys) (hw : xw_H D cl A H0 ids ad cf H locs) {k : Nat × Nat} (hk : k ∈ ids) {ci : Nat} {fs : List Value} (he : cf k = .inr (ci, fs)) {C : String} {T : u_T} {N : Nat} (hc : cl[ci]? = some (C, T, N)) (hin : ∀ w ∈ u_ws C T N, w ∈ Ts) (j : Nat) (hj : j < N) {index : Nat} (hl : Cond.fieldLink own index C (T j).2.1 (T j).2.2.1 ∈ Ts) (hT : (T j).1 = C) {v : Value} (hv : fs[j]? = some v) (hdg : decode cc pc = .ok (.getfield index, 3))
    (kk : W p l e R s m args below meth c H locs cells slots Q (F0 m (pc + 3) ls (v :: rest))) : W p l e R s m args below meth c H locs cells slots Q (F0 m pc ls (.ref (ad k) :: rest)) := by
  obtain ⟨hx, hb, hts, hown, hK⟩ := Z
  obtain ⟨q0, hq⟩ := List.getElem?_of_mem hk
  exact va_get hx hb hts hin hown hK hw.1 q0 (by rw [xw_at hq, he]) hc j hj (hts _ hl) (fun x h => by rw [hT] at h; exact h) hv hdg kk
theorem xw_put (Z : xw_Z p c cc s args m own Ts D cl tys) (hw : xw_H D cl A H0 ids ad cf H locs) {k : Nat × Nat} (hk : k ∈ ids) {ci : Nat} {fs : List Value} (he : cf k = .inr (ci, fs)) {C : String} {T : u_T} {N : Nat} (hc : cl[ci]? = some (C, T, N)) (hin : ∀ w ∈ u_ws C T N, w ∈ Ts) (ty0 : Nat → FieldType) (hty : ∀ k, k < N → parseFieldDescriptor (T k).2.2.1 = some (ty0 k)) (hnm : ∀ a, a < N → ∀ b, b < N → a ≠ b → (T a).2.1 ≠ (T b).2.1) (j : Nat) (hj : j < N) {index : Nat} (hl : Cond.fieldLink own index C (T j).2.1 (T j).2.2.1 ∈ Ts) (hT : (T j).1 = C) (hfin : (T j).2.2.2 = false) {v : Value} (hn : narrow (ty0 j) v = v) (hfit : fits (ty0 j) v = true) (hlen : j < fs.length) (hdg : decode cc pc = .ok (.putfield index, 3))
    (kk : ∀ (H1 : Heap) (locs1 : List Loc), xw_H D cl A H0 ids ad (xw_up cf k (.inr (ci, fs.set j v))) H1 locs1 → W p l e R s m args below meth c H1 locs1 cells slots Q (F0 m (pc + 3) ls rest)) : W p l e R s m args below meth c H locs cells slots Q (F0 m pc ls (v :: .ref (ad k) :: rest)) := by
  obtain ⟨hx, hb, hts, hown, hK⟩ := Z
  obtain ⟨q0, hq⟩ := List.getElem?_of_mem hk
  refine va_put (A := A) (H0 := H0) hx hb hts hin ty0 hty hnm hown hK hw.1 hw.2.1 hw.2.2 q0 (by rw [xw_at hq, he]) hc j hj (hts _ hl) (fun x h => by rw [hT] at h; exact h) hfin (hty j hj) hn hfit hlen hdg (fun H1 locs1 hP hD hS => ?_)
  rw [xw_set hw.2.1 hq] at hP hD
  exact kk H1 locs1 ⟨hP, hD, hS⟩
/-- an int field of the memory -/
theorem xw_puti (Z : xw_Z p c cc s args m own Ts D cl tys) (hw : xw_H D cl A H0 ids ad (xw_M xk M) H locs) {k : Nat × Nat} (hk : k ∈ ids) {ci : Nat} {fs : (Nat → Int32) → List Value} (he : ∀ g, xk k g = .inr (ci, fs g)) {C : String} {T : u_T} {N : Nat} (hc : cl[ci]? = some (C, T, N)) (hin : ∀ w ∈ u_ws C T N, w ∈ Ts) (ty0 : Nat → FieldType) (hty : ∀ k, k < N → parseFieldDescriptor (T k).2.2.1 = some (ty0 k)) (hnm : ∀ a, a < N → ∀ b, b < N → a ≠ b → (T a).2.1 ≠ (T b).2.1) (j : Nat) (hj : j < N) {index : Nat} (hl : Cond.fieldLink own index C (T j).2.1 (T j).2.2.1 ∈ Ts) (hT : (T j).1 = C) (hfin : (T j).2.2.2 = false) {v : Int32} (hi : ty0 j = .int) (hset : ∀ g : Nat → Int32, j < (fs g).length ∧ (fs g).set j (.int v) = fs (upd g j v)) (hdg : decode cc pc = .ok (.putfield index, 3))
    (kk : ∀ (H1 : Heap) (locs1 : List Loc), xw_H D cl A H0 ids ad (xw_M xk (xw_mw M k (upd (M k) j v))) H1 locs1 → W p l e R s m args below meth c H1 locs1 cells slots Q (F0 m (pc + 3) ls rest)) : W p l e R s m args below meth c H locs cells slots Q (F0 m pc ls (.int v :: .ref (ad k) :: rest)) := by
  refine xw_put Z hw hk (he (M k)) hc hin ty0 hty hnm j hj hl hT hfin (by rw [hi]; rfl) (by rw [hi]; rfl) (hset _).1 hdg (fun H1 locs1 h => ?_)
  rw [(hset _).2, ← he, xw_up_M] at h
  exact kk H1 locs1 h
theorem xw_iald (Z : xw_Z p c cc s args m own Ts D cl tys) (hw : xw_H D cl A H0 ids ad (xw_M xk M) H locs) {k : Nat × Nat} (hk : k ∈ ids) {cA : ClassId} {N : Nat} (he : ∀ g, xk k g = .inl (cA, N, .inl g)) (t0 : Nat) (ht : tys[t0]? = some (cA, .int)) {i : Int32} (j : Nat) (hi : i = nI j) (hj : j < N) (hN : N < 2 ^ 31) (hdg : decode cc pc = .ok (.iaload, 1))
    (kk : W p l e R s m args below meth c H locs cells slots Q (F0 m (pc + 1) ls (.int (M k j) :: rest))) : W p l e R s m args below meth c H locs cells slots Q (F0 m pc ls (.int i :: .ref (ad k) :: rest)) := by
  obtain ⟨hx, hb, hts, hown, hK⟩ := Z
  obtain ⟨q0, hq⟩ := List.getElem?_of_mem hk
  subst hi
  refine va_iald hx hb hK hw.1 q0 t0 (f := M k) (n := N) (by rw [xw_at hq]; exact congrArg (fun z => some (ad k, z)) (he (M k))) ht (vp_in_nI hj hN) hdg ?_
  rw [nI_clamp (by omega)]
  exact kk
theorem xw_iast (Z : xw_Z p c cc s args m own Ts D cl tys) (hw : xw_H D cl A H0 ids ad (xw_M xk M) H locs) {k : Nat × Nat} (hk : k ∈ ids) {cA : ClassId} {N : Nat} (he : ∀ g, xk k g = .inl (cA, N, .inl g)) (t0 : Nat) (ht : tys[t0]? = some (cA, .int)) {i x : Int32} (j : Nat) (hi : i = nI j) (hj : j < N) (hN : N < 2 ^ 31) (hdg : decode cc pc = .ok (.iastore, 1))
    (kk : ∀ (H1 : Heap) (locs1 : List Loc), xw_H D cl A H0 ids ad (xw_M xk (xw_mw M k (upd (M k) j x))) H1 locs1 → W p l e R s m args below meth c H1 locs1 cells slots Q (F0 m (pc + 1) ls rest)) : W p l e R s m args below meth c H locs cells slots Q (F0 m pc ls (.int x :: .int i :: .ref (ad k) :: rest)) := by
  obtain ⟨hx, hb, hts, hown, hK⟩ := Z
  obtain ⟨q0, hq⟩ := List.getElem?_of_mem hk
  subst hi
  refine va_iast (A := A) (H0 := H0) hx hb hK hw.1 hw.2.1 hw.2.2 q0 t0 (f := M k) (n := N) (by rw [xw_at hq]; exact congrArg (fun z => some (ad k, z)) (he (M k))) ht (vp_in_nI hj hN) hdg (fun H1 locs1 hP hD hS => ?_)
  rw [nI_clamp (by omega), xw_set hw.2.1 hq, ← he, xw_up_M] at hP hD
  exact kk H1 locs1 ⟨hP, hD, hS⟩
theorem xw_zald (Z : xw_Z p c cc s args m own Ts D cl tys) (hw : xw_H D cl A H0 ids ad (xw_M xk M) H locs) {k : Nat × Nat} (hk : k ∈ ids) {cA : ClassId} {N : Nat} (he : ∀ g, xk k g = .inl (cA, N, .inl g)) (t0 : Nat) (ht : tys[t0]? = some (cA, .boolean)) {i : Int32} (j : Nat) (hi : i = nI j) (hj : j < N) (hN : N < 2 ^ 31) (hdg : decode cc pc = .ok (.baload, 1))
    (kk : W p l e R s m args below meth c H locs cells slots Q (F0 m (pc + 1) ls (.int (M k j) :: rest))) : W p l e R s m args below meth c H locs cells slots Q (F0 m pc ls (.int i :: .ref (ad k) :: rest)) := by
  obtain ⟨hx, hb, hts, hown, hK⟩ := Z
  obtain ⟨q0, hq⟩ := List.getElem?_of_mem hk
  subst hi
  refine va_zald hx hb hK hw.1 q0 t0 (f := M k) (n := N) (by rw [xw_at hq]; exact congrArg (fun z => some (ad k, z)) (he (M k))) ht (vp_in_nI hj hN) hdg ?_
  rw [nI_clamp (by omega)]
  exact kk
theorem xw_zast (Z : xw_Z p c cc s args m own Ts D cl tys) (hw : xw_H D cl A H0 ids ad (xw_M xk M) H locs) {k : Nat × Nat} (hk : k ∈ ids) {cA : ClassId} {N : Nat} (he : ∀ g, xk k g = .inl (cA, N, .inl g)) (t0 : Nat) (ht : tys[t0]? = some (cA, .boolean)) {i x : Int32} (hx01 : vp_nar .boolean x = x) (j : Nat) (hi : i = nI j) (hj : j < N) (hN : N < 2 ^ 31) (hdg : decode cc pc = .ok (.bastore, 1))
    (kk : ∀ (H1 : Heap) (locs1 : List Loc), xw_H D cl A H0 ids ad (xw_M xk (xw_mw M k (upd (M k) j x))) H1 locs1 → W p l e R s m args below meth c H1 locs1 cells slots Q (F0 m (pc + 1) ls rest)) : W p l e R s m args below meth c H locs cells slots Q (F0 m pc ls (.int x :: .int i :: .ref (ad k) :: rest)) := by
  obtain ⟨hx, hb, hts, hown, hK⟩ := Z
  obtain ⟨q0, hq⟩ := List.getElem?_of_mem hk
  subst hi
  refine va_zast (A := A) (H0 := H0) hx hb hK hw.1 hw.2.1 hw.2.2 q0 t0 (f := M k) (n := N) (by rw [xw_at hq]; exact congrArg (fun z => some (ad k, z)) (he (M k))) ht (vp_in_nI hj hN) hdg (fun H1 locs1 hP hD hS => ?_)
  rw [nI_clamp (by omega), xw_set hw.2.1 hq, hx01, ← he, xw_up_M] at hP hD
  exact kk H1 locs1 ⟨hP, hD, hS⟩
/-- an array of references that stays as it is -/
theorem xw_aald (Z : xw_Z p c cc s args m own Ts D cl tys) (hw : xw_H D cl A H0 ids ad cf H locs) {k : Nat × Nat} (hk : k ∈ ids) {cA : ClassId} {N : Nat} {f : Nat → Option Nat} (he : cf k = .inl (cA, N, .inr (.inr (.inr (.inr f))))) {C : String} (t0 : Nat) (ht : tys[t0]? = some (cA, .object C)) {i : Int32} (j : Nat) (hi : i = nI j) (hj : j < N) (hN : N < 2 ^ 31) {a : Nat} (hf : f j = some a) (hdg : decode cc pc = .ok (.aaload, 1))
    (kk : W p l e R s m args below meth c H locs cells slots Q (F0 m (pc + 1) ls (.ref a :: rest))) : W p l e R s m args below meth c H locs cells slots Q (F0 m pc ls (.int i :: .ref (ad k) :: rest)) := by
  obtain ⟨hx, hb, hts, hown, hK⟩ := Z
  obtain ⟨q0, hq⟩ := List.getElem?_of_mem hk
  subst hi
  refine va_aldq hx hb hK hw.1 q0 t0 (f := f) (n := N) (by rw [xw_at hq, he]) ht (vp_in_nI hj hN) hdg ?_
  rw [nI_clamp (by omega), hf]
  exact kk
end XW
def xw_N (nl : List (String × Nat × MethodName × String)) (U : State) : Prop := ∀ x ∈ nl, va_Nw (.methodLinkNest x.1 x.2.1 x.2.2.1 x.2.2.2) U
theorem xw_N.warm {nl : List (String × Nat × MethodName × String)} {s U : State} (hW : s.WarmedH U.vm) (h : xw_N nl s) : xw_N nl U := fun x hx => va_Nw.warmM hW (h x hx)
/-- a contract's start and end: the world at memory M; the answer, and a memory with Pm -/
def xw_Pc (D : va_G) (cl : List vw_C) (tys : List (ClassId × FieldType)) (ids : List (Nat × Nat)) (ad : Nat × Nat → Nat) (xk : Nat × Nat → (Nat → Int32) → va_E) (nl : List (String × Nat × MethodName × String)) (M : Nat × Nat → Nat → Int32) (av : List Value) : Array Value → State → Prop := fun v U =>
  v = av.toArray ∧ va_P D cl (xw_ws ids ad (xw_M xk M)) U.heap ∧ va_K D cl tys U ∧ va_D (xw_A ids ad) (xw_ws ids ad (xw_M xk M)) ∧ xw_N nl U
def xw_Qc (D : va_G) (cl : List vw_C) (ids : List (Nat × Nat)) (ad : Nat × Nat → Nat) (xk : Nat × Nat → (Nat → Int32) → va_E) (r : Option Value) (Pm : (Nat × Nat → Nat → Int32) → Prop) : Array Value → State → Outcome → State → Prop := fun _ st o t =>
  (o = .returned r ∧ ∃ M', Pm M' ∧ va_P D cl (xw_ws ids ad (xw_M xk M')) t.heap) ∧ va_F (xw_A ids ad) st t
section XC
variable {p : Program} {l : Launch} {e : Env} {R : Room} {s : State} {m : MethodId} {args : Array Value} {below : List Frame} {meth : Method} {c : Code} {H : Heap} {locs : List Loc} {cells slots : Nat} {Q : State → Prop}
variable {pc : Nat} {ls : Array Slot} {rest st0 : List Value} {D : va_G} {cl : List vw_C} {H0 : Heap} {a : Array Value}
variable {ids : List (Nat × Nat)} {ad : Nat × Nat → Nat} {xk : Nat × Nat → (Nat → Int32) → va_E} {M : Nat × Nat → Nat → Int32} {r : Option Value} {Pm : (Nat × Nat → Nat → Int32) → Prop}
theorem xw_call (hr : va_Run p l e R s m args below meth c H locs cells slots 0 0 (F0 m pc ls st0) rest (xw_Qc D cl ids ad xk r Pm a) (xw_A ids ad)) (hw : xw_H D cl (xw_A ids ad) H0 ids ad (xw_M xk M) H locs)
    (kk : ∀ (M1 : Nat × Nat → Nat → Int32) (H1 : Heap) (locs1 : List Loc), Pm M1 → xw_H D cl (xw_A ids ad) H0 ids ad (xw_M xk M1) H1 locs1 → W p l e R s m args below meth c H1 locs1 cells slots Q (F0 m (pc + 3) ls (r.toList ++ rest))) : W p l e R s m args below meth c H locs cells slots Q (F0 m pc ls st0) := by
  intro T hT X
  obtain ⟨v, st₀, t, T', L, h0, X', hL, e1, e2, ⟨⟨hv, M1, hp, hP⟩, hz, hk⟩, st⟩ := hr T hT X
  obtain rfl : v = r := by injection hv
  rw [h0] at hz hk
  have hS := hw.2.2
  obtain ⟨t2, a1, b1⟩ := kk M1 T'.heap (locs ++ L) hp ⟨by rw [e1]; exact hP, xw_D hw.2.1, ⟨Nat.le_trans hS.1 (by rw [e1]; exact hz), fun q h1 h2 => by rw [e1, hk q (Nat.lt_of_lt_of_le h1 hS.1) h2]; exact hS.2.1 q h1 h2, fun q hq => by
      rcases List.mem_append.mp hq with h | h
      · exact hS.2.2 q h
      · exact hL q h⟩⟩ T' rfl X'
  exact ⟨t2, st t2 a1, b1⟩
end XC
