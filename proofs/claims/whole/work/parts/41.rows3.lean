/-! Methods that leave the heap as it is; words for constructors; how the sizes come out of the three numbers. -/
def xo_Pc (D : va_G) (tys : List (ClassId × FieldType)) (B : State → Prop) (av : List Value) : Array Value → State → Prop := fun v U => v = av.toArray ∧ va_K D tb_cl tys U ∧ B U
def xo_Qc (r : Int32) : Array Value → State → Outcome → State → Prop := fun _ st o t => o = .returned (some (.int r)) ∧ t.heap = st.heap
def xo_C (l : Launch) (D : va_G) (tys : List (ClassId × FieldType)) (B : State → Prop) (y : MethodName) (b : ByteArray) (mL : Nat) (ret : Option FieldType) (fr lo : Nat) (av : List Value) (r : Int32) : Prop :=
  Met l y (Cond.code y b mL ret :: tb_W) { frames := fr, cells := 0, slots := 0, locals := lo } (xo_Pc D tys B av) (xo_Qc r) 0 0 (fun _ => False)
section XO
variable {D : va_G} {tys : List (ClassId × FieldType)} {B : State → Prop} {tb : List Cond}
theorem xo_start {l : Launch} {y : MethodName} {b : ByteArray} {mL : Nat} {ret : Option FieldType} {rm : Room} {r : Int32} (av : List Value) (hy : plainName y.cls = true) (hlen : (lg_sl av).length ≤ mL)
    (body : ∀ (p : Program) (e : Env) (s : State) (m : MethodId) (below : List Frame) (meth : Method) (c : Code) (ls : Array Slot), xw_Z p c b s av.toArray m y.cls (Cond.code y b mL ret :: tb) D tb_cl tys → c.maxLocals = mL → meth.sig.returnType = ret → meth.locks = false → B s → lv_has ls mL (lv_args 0 av) →
      W p l e rm s m av.toArray below meth c s.heap [] 0 0 (MQ below (xo_Qc r) av.toArray s 0 0 (fun _ => False)) (F0 m 0 ls [])) :
    Met l y (Cond.code y b mL ret :: tb) rm (xo_Pc D tys B av) (xo_Qc r) 0 0 (fun _ => False) := by
  refine Met.ofW (cc := b) (maxL := mL) (ret := ret) hy rfl ?_
  intro p e s m args below meth c s₁ B0 hml hv
  obtain ⟨rfl, hK, hB⟩ := hv
  have hl := lv_entry av (n := mL) hlen
  rw [lg_entry_eq]
  generalize (lg_sl av ++ List.replicate (mL - (lg_sl av).length) Slot.unset).toArray = ls at hl ⊢
  exact body p e s m below meth c ls ⟨B0.exec, B0.bytes, atoms_spec (ws := Cond.code y b mL ret :: tb) B0.pre, findClass_of_methodNamed B0.named, hK⟩ hml B0.returns B0.notSynchronized hB hl
variable {p : Program} {l : Launch} {e : Env} {R : Room} {s : State} {m : MethodId} {args : Array Value} {below : List Frame} {meth : Method} {c : Code} {H : Heap} {locs : List Loc} {cells slots : Nat} {Q : State → Prop}
variable {cc : ByteArray} {pc : Nat} {ls : Array Slot} {rest : List Value} {own : String} {cd : Cond} {r : Int32}
theorem xo_zret (Z : xw_Z p c cc s args m own (cd :: tb) D tb_cl tys) (hr : meth.sig.returnType = some .boolean) (hlk : meth.locks = false) (hdg : decode cc pc = .ok (.ireturn, 1)) {v : Int32} (hv : v = r) (hn : narrow .boolean (.int v) = .int v) : W p l e R s m args below meth c s.heap [] 0 0 (MQ below (xo_Qc r) args s 0 0 (fun _ => False)) (F0 m pc ls [.int v]) := by
  subst hv
  exact W.zret Z.1 Z.2.1 hr hn (fun t ht _ => ⟨rfl, ht⟩) (fun q h => by cases h) hdg hlk
theorem xo_iret (Z : xw_Z p c cc s args m own (cd :: tb) D tb_cl tys) (hr : meth.sig.returnType = some .int) (hlk : meth.locks = false) (hdg : decode cc pc = .ok (.ireturn, 1)) {v : Int32} (hv : v = r) : W p l e R s m args below meth c s.heap [] 0 0 (MQ below (xo_Qc r) args s 0 0 (fun _ => False)) (F0 m pc ls [.int v]) := by
  subst hv
  exact W.iret Z.1 Z.2.1 hr (fun t ht _ => ⟨rfl, ht⟩) (fun q h => by cases h) hdg hlk
variable {y : MethodName} {b : ByteArray} {mL nL fr lo n : Nat} {ret : Option FieldType} {st0 : List Value} {index : Nat}
theorem xo_cS {tys' : List (ClassId × FieldType)} (Z : xw_Z p c cc s args m own (cd :: tb_W) D tb_cl tys) (hK' : va_K D tb_cl tys' s) (hml : c.maxLocals = nL) (hls : ls.size = nL) {As : List Value}
    (hM : xo_C l D tys' B y b mL ret fr lo As r) (hBb : FrameBlind (xo_Pc D tys' B As)) (hB : ∀ U : State, U.heap = H → s.WarmedH U.vm → B U)
    (hcode : Cond.code y b mL ret ∈ tb_W) (hlink : Cond.methodLink own index y ∈ tb_W) (hin : Cond.static y ∈ tb_W) (hini : Cond.initialized y.cls ∈ tb_W)
    (hd : y.cls ≠ "java/lang/invoke/MethodHandle" ∧ y.cls ≠ "java/lang/invoke/VarHandle" ∧ (parseMethodDescriptor y.desc).map (fun d => d.parameters.length) = some n) (hR : fr + 1 ≤ R.frames ∧ 8 + (mL + 11) + lo ≤ R.locals)
    (hn : As.length = n) (hst : st0 = As.reverse ++ rest) (hW : (rest.map fun v => v.category).sum ≤ 8) (hcs : cells ≤ R.cells ∧ slots ≤ R.slots) (hdg : decode cc pc = .ok (.invokestatic index, 3))
    (kk : W p l e R s m args below meth c H locs cells slots Q (F0 m (pc + 3) ls (.int r :: rest))) : W p l e R s m args below meth c H locs cells slots Q (F0 m pc ls st0) := by
  obtain ⟨hx, hb, hts, hown, hK⟩ := Z
  have T : ∀ w ∈ tb_W, w.before args s = true := fun w h => hts w (List.mem_cons_of_mem _ h)
  have hr := va_runS (p := p) (l := l) (e := e) (R := R) (below := below) (meth := meth) (H := H) (locs := locs) (cells := cells) (slots := slots) (g := F0 m pc ls st0) (As := As) (rest := rest) (n := n) (mc := 0) (ms := 0) (bytes := b) (maxL := mL) (ret := ret) (index := index) ⟨hx, hb, hml, hown, hts⟩ hM ⟨callB_of n hts (xw_good tb_g hcode) rfl rfl rfl (T _ hini) (T _ hlink) hd hR, T _ hin⟩ ⟨hBb, fun U hU hW => ⟨rfl, va_K.moved hW.alike hK', hB U hU hW⟩⟩ rfl hn hls hst (lv_room hW) hdg hcs
  intro T' hT X
  obtain ⟨v, st₀, t, T1, L, h0, X', hL, e1, e2, ⟨hv, hh⟩, st⟩ := hr T' hT X
  obtain rfl : v = some (.int r) := by injection hv
  obtain rfl : L = [] := List.eq_nil_iff_forall_not_mem.mpr (fun q hq => hL q hq)
  rw [List.append_nil] at X'
  obtain ⟨t2, a1, b1⟩ := kk T1 (by rw [e1, hh, h0]) X'
  exact ⟨t2, st t2 a1, b1⟩
end XO
theorem mo_i : Cond.instanceMethod Lib.objectInit ∈ tb_W := tb_m1 18 rfl rfl
theorem mo_c : Cond.code Lib.objectInit ⟨#[0xb1]⟩ 1 none ∈ tb_W := tb_m1 19 (by decide +kernel) rfl
theorem mo_FB : Cond.methodLink "FastBallots" 1 Lib.objectInit ∈ tb_W := tb_m1 17 rfl rfl
theorem mo_Siz : Cond.methodLink "FastBallots$Sizes" 3 Lib.objectInit ∈ tb_W := tb_m1 25 rfl rfl
theorem mo_Mail : Cond.methodLink "FastBallots$Mail" 1 Lib.objectInit ∈ tb_W := tb_m1 58 rfl rfl
theorem mo_Msg : Cond.methodLink "FastBallots$Message" 1 Lib.objectInit ∈ tb_W := tb_m1 64 rfl rfl
theorem mo_Slt : Cond.methodLink "FastBallots$Slot" 3 Lib.objectInit ∈ tb_W := tb_m1 123 rfl rfl
theorem mo_Tal : Cond.methodLink "FastBallots$Tally" 3 Lib.objectInit ∈ tb_W := tb_m1 129 rfl rfl
theorem mo_Cor : Cond.methodLink "FastBallots$Coordinator" 3 Lib.objectInit ∈ tb_W := tb_m1 147 rfl rfl
theorem mo_Acc : Cond.methodLink "FastBallots$Acceptor" 3 Lib.objectInit ∈ tb_W := tb_m1 187 rfl rfl
theorem mo_Mod : Cond.methodLink "FastBallotsModel" 1 Lib.objectInit ∈ tb_W := tb_m3 21 rfl rfl
theorem mn_FB : Cond.instantiable "FastBallots" 4 ∈ tb_W := tb_m1 13 rfl rfl
theorem mn_Siz : Cond.instantiable "FastBallots$Sizes" 3 ∈ tb_W := tb_m1 21 rfl rfl
theorem mn_Mail : Cond.instantiable "FastBallots$Mail" 4 ∈ tb_W := tb_m1 54 rfl rfl
theorem mn_Msg : Cond.instantiable "FastBallots$Message" 7 ∈ tb_W := tb_m1 60 rfl rfl
theorem mn_Slt : Cond.instantiable "FastBallots$Slot" 5 ∈ tb_W := tb_m1 119 rfl rfl
theorem mn_Tal : Cond.instantiable "FastBallots$Tally" 3 ∈ tb_W := tb_m1 125 rfl rfl
theorem mn_Cor : Cond.instantiable "FastBallots$Coordinator" 10 ∈ tb_W := tb_m1 143 rfl rfl
theorem mn_Acc : Cond.instantiable "FastBallots$Acceptor" 9 ∈ tb_W := tb_m1 183 rfl rfl
theorem mn_Mod : Cond.instantiable "FastBallotsModel" 27 ∈ tb_W := tb_m3 17 rfl rfl
theorem mr_int : Cond.arrayClass .int ∈ tb_W := tb_m1 101 rfl rfl
theorem mr_boolean : Cond.arrayClass .boolean ∈ tb_W := tb_m1 141 rfl rfl
/-- a contract of a constructor -/
def xn_C (l : Launch) (D : va_G) (cI cZ cS cA : ClassId) (y : MethodName) (b : ByteArray) (mL fr mc ms lo a : Nat) (e0 : va_E) (low : List (Nat × va_E)) (av : List Value) (E : List va_E) : Prop :=
  Met l y (Cond.code y b mL none :: tb_W) { frames := fr, cells := mc, slots := ms, locals := lo } (xn_Pc D tb_cl (fb_ty cI cZ cS cA) tb_nl a e0 low av) (xn_Qc D tb_cl a E) mc ms (fun q => a ≤ q)
/-! The numbers. -/
def zx_at (x : Int32) (n : Nat) : Prop := 3 ≤ n ∧ n ≤ 5 ∧ ((x < nI 3 ∧ n = 3) ∨ (nI 5 < x ∧ n = 5) ∨ x = nI n)
def zq_o (n : Nat) (y z : Int32) : Prop := y < nI 1 ∨ nI n < y ∨ z < nI 1 ∨ nI n < z
def zq_b (n q f : Nat) : Prop := 3 ≤ n ∧ n ≤ 5 ∧ 1 ≤ q ∧ q ≤ n ∧ 1 ≤ f ∧ f ≤ n ∧ ¬ (n < 2 * q ∧ 2 * n < q + 2 * f)
def zq_at (n : Nat) (y z : Int32) (q f : Nat) : Prop := (y = nI q ∧ z = nI f ∧ pz_Q n q f) ∨ ((zq_o n y z ∨ ∃ q1 f1, y = nI q1 ∧ z = nI f1 ∧ zq_b n q1 f1) ∧ q = n / 2 + 1 ∧ f = (3 * n + 3) / 4)
theorem zx_of (x : Int32) : ∃ n, zx_at x n := by
  by_cases h : x < nI 3
  · exact ⟨3, by omega, by omega, Or.inl ⟨h, rfl⟩⟩
  · by_cases h5 : nI 5 < x
    · exact ⟨5, by omega, by omega, Or.inr (Or.inl ⟨h5, rfl⟩)⟩
    · have h0 : ¬ x < 0 := fun z => h (Int32.lt_trans z (by decide))
      obtain ⟨j, hj, rfl⟩ := nI_of h0
      have h1 : ¬ j < 3 := fun z => h (nI_lt z (by omega))
      have h2 : ¬ 5 < j := fun z => h5 (nI_lt z hj)
      exact ⟨j, by omega, by omega, Or.inr (Or.inr rfl)⟩
theorem zq_of {n : Nat} (hn : 3 ≤ n ∧ n ≤ 5) (y z : Int32) : ∃ q f, zq_at n y z q f ∧ pz_Q n q f := by
  have hd : pz_Q n (n / 2 + 1) ((3 * n + 3) / 4) := by
    unfold pz_Q
    rcases (show n = 3 ∨ n = 4 ∨ n = 5 by omega) with rfl | rfl | rfl <;> decide
  by_cases ho : zq_o n y z
  · exact ⟨_, _, Or.inr ⟨Or.inl ho, rfl, rfl⟩, hd⟩
  · have nat : ∀ w : Int32, ¬ w < nI 1 → ¬ nI n < w → ∃ j, 1 ≤ j ∧ j ≤ n ∧ w = nI j := fun w w1 w2 => by
      have h0 : ¬ w < 0 := fun z => w1 (Int32.lt_trans z (by decide))
      obtain ⟨j, hj, rfl⟩ := nI_of h0
      have h1 : ¬ j < 1 := fun z => w1 (nI_lt z (by omega))
      have h2 : ¬ n < j := fun z => w2 (nI_lt z hj)
      exact ⟨j, by omega, by omega, rfl⟩
    unfold zq_o at ho
    obtain ⟨q1, q2, q3, rfl⟩ := nat y (fun h => ho (Or.inl h)) (fun h => ho (Or.inr (Or.inl h)))
    obtain ⟨f1, f2, f3, rfl⟩ := nat z (fun h => ho (Or.inr (Or.inr (Or.inl h)))) (fun h => ho (Or.inr (Or.inr (Or.inr h))))
    by_cases hk : n < 2 * q1 ∧ 2 * n < q1 + 2 * f1
    · have hQ : pz_Q n q1 f1 := ⟨hn.1, hn.2, q2, q3, f2, f3, hk.1, hk.2⟩
      exact ⟨q1, f1, Or.inl ⟨rfl, rfl, hQ⟩, hQ⟩
    · exact ⟨_, _, Or.inr ⟨Or.inr ⟨q1, f1, rfl, rfl, hn.1, hn.2, q2, q3, f2, f3, hk⟩, rfl, rfl⟩, hd⟩
theorem zx_mm {x : Int32} {n : Nat} (h : zx_at x n) : (if nI 3 < (if x < nI 5 then x else nI 5) then (if x < nI 5 then x else nI 5) else nI 3) = nI n := by
  obtain ⟨h1, h2, ⟨h3, rfl⟩ | ⟨h3, rfl⟩ | rfl⟩ := h
  · have e1 : x < nI 5 := Int32.lt_trans h3 (by decide)
    rw [if_pos e1, if_neg (fun z => Int32.lt_irrefl (Int32.lt_trans h3 z))]
  · rw [if_neg (fun z => Int32.lt_irrefl (Int32.lt_trans h3 z)), if_pos (by decide)]
  · rcases (show n = 3 ∨ n = 4 ∨ n = 5 by omega) with rfl | rfl | rfl <;> decide
