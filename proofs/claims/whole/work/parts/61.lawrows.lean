/-! The law: both worlds beside the script. -/
/-- what stays as it is through the whole walk -/
def lx_X (p : Program) (c : Code) (s : State) (m : MethodId) (b L : Nat) (xs : Nat → Int32) (D : va_G) (n : Nat) (ad1 ad2 : Nat × Nat → Nat) (cI cZ cS cA : ClassId) (cd : Cond) : Prop :=
  xw_Z p c code s #[Value.ref b] m "FastBallotsLaw" (cd :: tb_W) D tb_cl (fb_ty cI cZ cS cA) ∧ c.maxLocals = 4 ∧ xw_N tb_nl s ∧ va_X b L xs s s.heap ∧ b < s.heap.size ∧ L ≤ 2051 ∧
  (∀ cf, va_D (xw_A (fb_ids n) ad1) (xw_ws (fb_ids n) ad1 cf)) ∧ (∀ cf, va_D (xw_A gm_ids ad2) (xw_ws gm_ids ad2 cf)) ∧ (∀ k ∈ fb_ids n, ∀ k' ∈ gm_ids, ad1 k ≠ ad2 k') ∧ (∀ k ∈ fb_ids n, s.heap.size ≤ ad1 k) ∧ (∀ k ∈ gm_ids, s.heap.size ≤ ad2 k)
/-- both worlds now -/
def lx_W (s : State) (D : va_G) (n : Nat) (ad1 ad2 : Nat × Nat → Nat) (cI cZ cS cA : ClassId) (M1 M2 : fr_M) (H : Heap) (locs : List Loc) : Prop :=
  va_P D tb_cl (xw_ws (fb_ids n) ad1 (xw_M (fb_k n ad1 cI cZ cS cA) M1)) H ∧ va_P D tb_cl (xw_ws gm_ids ad2 (xw_M (gm_k ad2 cI cZ) M2)) H ∧ va_S (fun q => s.heap.size ≤ q) s.heap H locs
theorem lx_Zs {p : Program} {c : Code} {cc : ByteArray} {s : State} {args : Array Value} {m : MethodId} {own : String} {Ts : List Cond} {D : va_G} {cI cZ cS cA : ClassId} (Z : xw_Z p c cc s args m own Ts D tb_cl (fb_ty cI cZ cS cA)) : xw_Z p c cc s args m own Ts D tb_cl (gm_ty cI cZ) := ⟨Z.1, Z.2.1, Z.2.2.1, Z.2.2.2.1, Z.2.2.2.2.sub [0, 1] rfl⟩
section LXR
variable {p : Program} {l : Launch} {e : Env} {s : State} {m : MethodId} {below : List Frame} {meth : Method} {c : Code} {H : Heap} {locs : List Loc} {cells slots : Nat} {Q : State → Prop}
variable {pc : Nat} {ls : Array Slot} {rest : List Value} {D : va_G} {b L n : Nat} {xs : Nat → Int32} {ad1 ad2 : Nat × Nat → Nat} {cI cZ cS cA : ClassId} {cd : Cond} {M1 M2 : fr_M}
theorem lx_sld (X : lx_X p c s m b L xs D n ad1 ad2 cI cZ cS cA cd) (hS : va_S (fun q => s.heap.size ≤ q) s.heap H locs) {i : Int32} (j : Nat) (hi : i = nI j) (hj : j < L) (hdg : decode code pc = .ok (.iaload, 1))
    (kk : W p l e room_1 s m #[Value.ref b] below meth c H locs cells slots Q (F0 m (pc + 1) ls (.int (xs j) :: rest))) : W p l e room_1 s m #[Value.ref b] below meth c H locs cells slots Q (F0 m pc ls (.int i :: .ref b :: rest)) := by
  obtain ⟨Z, hml, hN, hX, hbl, hL, -⟩ := X
  subst hi
  refine va_sld Z.1 Z.2.1 hX hbl (Nat.not_le.mpr hbl) hS (vp_in_nI hj (by omega)) hdg ?_
  rw [nI_clamp (by omega)]
  exact kk
variable {y : MethodName} {bb : ByteArray} {mL fr lo np : Nat} {ret : Option FieldType} {st0 : List Value} {index : Nat} {As : List Value} {r : Int32} {Pm : fr_M → Prop}
theorem lx_1 (X : lx_X p c s m b L xs D n ad1 ad2 cI cZ cS cA cd) (hls : ls.size = 4) (hw : lx_W s D n ad1 ad2 cI cZ cS cA M1 M2 H locs) (hM : fb_C l D n ad1 cI cZ cS cA y bb mL ret fr lo M1 (.ref (ad1 (0, 0)) :: As) (some (.int r)) Pm) (hb : fr ≤ 8 ∧ lo ≤ 200) (hmL : mL ≤ 9)
    (hcode : Cond.code y bb mL ret ∈ tb_W) (hlink : Cond.methodLink "FastBallotsLaw" index y ∈ tb_W) (hin : Cond.instanceMethod y ∈ tb_W) (hsel : Cond.selects y.cls y y ∈ tb_W) (hini : Cond.initialized y.cls ∈ tb_W) (hyc : tb_RFB = y.cls)
    (hd : y.cls ≠ "java/lang/invoke/MethodHandle" ∧ y.cls ≠ "java/lang/invoke/VarHandle" ∧ (parseMethodDescriptor y.desc).map (fun d => d.parameters.length) = some np) (hn : As.length = np) (hst : st0 = As.reverse ++ .ref (ad1 (0, 0)) :: rest) (hW : (rest.map fun v => v.category).sum ≤ 8) (hcs : cells ≤ 600000 ∧ slots ≤ 7302249) (hdg : decode code pc = .ok (.invokevirtual index, 3))
    (kk : ∀ (M1' : fr_M) (H1 : Heap) (locs1 : List Loc), Pm M1' → lx_W s D n ad1 ad2 cI cZ cS cA M1' M2 H1 locs1 → W p l e room_1 s m #[Value.ref b] below meth c H1 locs1 cells slots Q (F0 m (pc + 3) ls (.int r :: rest))) : W p l e room_1 s m #[Value.ref b] below meth c H locs cells slots Q (F0 m pc ls st0) := by
  obtain ⟨Z, hml, hN, hX, hbl, hL, d1, d2, ap, z1, z2⟩ := X
  refine va_forget (fun q hq => hw.2.2.2.2 q hq) ?_
  refine xw_cV (k := (0, 0)) (rest := rest) Z hml hls hN ⟨hw.1, d1 _, va_S.rf⟩ hM tb_g hcode hlink hin hsel hini hd ⟨by show fr + 1 ≤ 9; omega, by show 8 + (mL + 11) + lo ≤ 316; omega⟩ (fb_in0 n) (fb_e0 n ad1 cI cZ cS cA _) rfl hyc hn hst hW hcs hdg (fun M1' H1 locs1 hp hv => ?_)
  refine kk M1' H1 locs1 hp ⟨hv.1, hw.2.1.kept (fun i x hx => ?_), ⟨Nat.le_trans hw.2.2.1 hv.2.2.1, fun q q1 q2 => ?_, fun q hq => ?_⟩⟩
  · obtain ⟨k, hk, rfl⟩ := xw_of hx
    refine hv.2.2.2.1 _ (hw.2.1 i _ hx).lt (fun h => ?_)
    obtain ⟨k1, hk1, e1⟩ := h
    exact ap k1 hk1 k (List.mem_of_getElem? hk) e1
  · rw [hv.2.2.2.1 q (Nat.lt_of_lt_of_le q1 hw.2.2.1) (fun h => ?_)]
    · exact hw.2.2.2.1 q q1 q2
    · obtain ⟨k1, hk1, e1⟩ := h
      exact q2 (by rw [← e1]; exact z1 k1 hk1)
  · obtain ⟨k1, hk1, e1⟩ := hv.2.2.2.2 q hq
    show s.heap.size ≤ q.base
    rw [← e1]
    exact z1 k1 hk1
theorem lx_2 (X : lx_X p c s m b L xs D n ad1 ad2 cI cZ cS cA cd) (hls : ls.size = 4) (hw : lx_W s D n ad1 ad2 cI cZ cS cA M1 M2 H locs) (hM : gm_C l D ad2 cI cZ y bb mL ret fr lo M2 (.ref (ad2 (0, 0)) :: As) (some (.int r)) Pm) (hb : fr ≤ 8 ∧ lo ≤ 200) (hmL : mL ≤ 9)
    (hcode : Cond.code y bb mL ret ∈ tb_W) (hlink : Cond.methodLink "FastBallotsLaw" index y ∈ tb_W) (hin : Cond.instanceMethod y ∈ tb_W) (hsel : Cond.selects y.cls y y ∈ tb_W) (hini : Cond.initialized y.cls ∈ tb_W) (hyc : tb_RMod = y.cls)
    (hd : y.cls ≠ "java/lang/invoke/MethodHandle" ∧ y.cls ≠ "java/lang/invoke/VarHandle" ∧ (parseMethodDescriptor y.desc).map (fun d => d.parameters.length) = some np) (hn : As.length = np) (hst : st0 = As.reverse ++ .ref (ad2 (0, 0)) :: rest) (hW : (rest.map fun v => v.category).sum ≤ 8) (hcs : cells ≤ 600000 ∧ slots ≤ 7302249) (hdg : decode code pc = .ok (.invokevirtual index, 3))
    (kk : ∀ (M2' : fr_M) (H1 : Heap) (locs1 : List Loc), Pm M2' → lx_W s D n ad1 ad2 cI cZ cS cA M1 M2' H1 locs1 → W p l e room_1 s m #[Value.ref b] below meth c H1 locs1 cells slots Q (F0 m (pc + 3) ls (.int r :: rest))) : W p l e room_1 s m #[Value.ref b] below meth c H locs cells slots Q (F0 m pc ls st0) := by
  obtain ⟨Z, hml, hN, hX, hbl, hL, d1, d2, ap, z1, z2⟩ := X
  refine va_forget (fun q hq => hw.2.2.2.2 q hq) ?_
  refine xw_cV (k := (0, 0)) (rest := rest) (lx_Zs Z) hml hls hN ⟨hw.2.1, d2 _, va_S.rf⟩ hM tb_g hcode hlink hin hsel hini hd ⟨by show fr + 1 ≤ 9; omega, by show 8 + (mL + 11) + lo ≤ 316; omega⟩ (by decide) (gm_e0 ad2 cI cZ _) rfl hyc hn hst hW hcs hdg (fun M2' H1 locs1 hp hv => ?_)
  refine kk M2' H1 locs1 hp ⟨hw.1.kept (fun i x hx => ?_), hv.1, ⟨Nat.le_trans hw.2.2.1 hv.2.2.1, fun q q1 q2 => ?_, fun q hq => ?_⟩⟩
  · obtain ⟨k, hk, rfl⟩ := xw_of hx
    refine hv.2.2.2.1 _ (hw.1 i _ hx).lt (fun h => ?_)
    obtain ⟨k1, hk1, e1⟩ := h
    exact ap k (List.mem_of_getElem? hk) k1 hk1 e1.symm
  · rw [hv.2.2.2.1 q (Nat.lt_of_lt_of_le q1 hw.2.2.1) (fun h => ?_)]
    · exact hw.2.2.2.1 q q1 q2
    · obtain ⟨k1, hk1, e1⟩ := h
      exact q2 (by rw [← e1]; exact z2 k1 hk1)
  · obtain ⟨k1, hk1, e1⟩ := hv.2.2.2.2 q hq
    show s.heap.size ≤ q.base
    rw [← e1]
    exact z2 k1 hk1
end LXR
