/-! More words, and the row of a copy within one array. -/
theorem mk_Mail_52 : Cond.methodLink "FastBallots$Mail" 52 arraycopyName ∈ tb_W := tb_m2 68 rfl rfl
theorem mt_acopy : Cond.static arraycopyName ∈ tb_W := tb_m2 69 rfl rfl
theorem mn_acopy : Cond.native arraycopyName ∈ tb_W := tb_m2 70 rfl rfl
theorem mz_System : Cond.initialized "java/lang/System" ∈ tb_W := tb_m1 11 rfl rfl
theorem mz_Math : Cond.initialized "java/lang/Math" ∈ tb_W := tb_m1 3 rfl rfl
theorem mk_Siz_9 : Cond.methodLink "FastBallots$Sizes" 9 Lib.Math.min.name ∈ tb_W := tb_m1 26 rfl rfl
theorem mt_min : Cond.static Lib.Math.min.name ∈ tb_W := tb_m1 27 rfl rfl
theorem mc_min : Cond.code Lib.Math.min.name Lib.Math.min.code 2 (some .int) ∈ tb_W := tb_m1 28 (by decide +kernel) rfl
theorem mk_Siz_15 : Cond.methodLink "FastBallots$Sizes" 15 Lib.Math.max.name ∈ tb_W := tb_m1 29 rfl rfl
theorem mt_max : Cond.static Lib.Math.max.name ∈ tb_W := tb_m1 30 rfl rfl
theorem mc_max : Cond.code Lib.Math.max.name Lib.Math.max.code 2 (some .int) ∈ tb_W := tb_m1 31 (by decide +kernel) rfl
theorem mk_Cor_135 : Cond.methodLink "FastBallots$Coordinator" 135 Lib.Math.max.name ∈ tb_W := tb_m2 117 rfl rfl
section XD
variable {p : Program} {l : Launch} {e : Env} {R : Room} {s : State} {m : MethodId} {args : Array Value} {below : List Frame} {meth : Method} {c : Code} {H : Heap} {locs : List Loc} {cells slots : Nat} {Q : State → Prop}
variable {cc : ByteArray} {pc : Nat} {ls : Array Slot} {rest : List Value} {D : va_G} {cl : List vw_C} {A : Nat → Prop} {tys : List (ClassId × FieldType)} {H0 : Heap} {cd : Cond} {own : String}
variable {ids : List (Nat × Nat)} {ad : Nat × Nat → Nat} {xk : Nat × Nat → (Nat → Int32) → va_E} {M : Nat × Nat → Nat → Int32}
theorem xb_copy (Z : xw_Z p c cc s args m own (cd :: tb_W) D cl tys) (hml : c.maxLocals = ls.size) (hw : xw_H D cl A H0 ids ad (xw_M xk M) H locs) {k : Nat × Nat} (hk : k ∈ ids) {cA : ClassId} {N : Nat} (he : ∀ g, xk k g = .inl (cA, N, .inl g)) (t0 : Nat) (ht : tys[t0]? = some (cA, .int)) {index : Nat} (hl : Cond.methodLink own index arraycopyName ∈ tb_W) {a b d : Nat} (h1 : a + d ≤ N) (h2 : b + d ≤ N) (hN : N < 2 ^ 31) (hfr : 1 ≤ R.frames) (hlo : (rest.map fun v => v.category).sum + 18 ≤ R.locals) (hdg : decode cc pc = .ok (.invokestatic index, 3))
    (kk : ∀ (M1 : Nat × Nat → Nat → Int32) (H1 : Heap) (locs1 : List Loc), M1 = xw_mw M k (va_cpy (M k) (M k) a b d) → xw_H D cl A H0 ids ad (xw_M xk M1) H1 locs1 → W p l e R s m args below meth c H1 locs1 cells slots Q (F0 m (pc + 3) ls rest)) : W p l e R s m args below meth c H locs cells slots Q (F0 m pc ls (.int (nI d) :: .int (nI b) :: .ref (ad k) :: .int (nI a) :: .ref (ad k) :: rest)) := by
  obtain ⟨hx, hb, hts, hown, hK⟩ := Z
  have T : ∀ w ∈ tb_W, w.before args s = true := fun w h => hts w (List.mem_cons_of_mem _ h)
  obtain ⟨q0, hq⟩ := List.getElem?_of_mem hk
  have hat : (xw_ws ids ad (xw_M xk M))[q0]? = some (ad k, .inl (cA, N, .inl (M k))) := by rw [xw_at hq]; exact congrArg (fun z => some (ad k, z)) (he (M k))
  refine va_copyi (A := A) (H0 := H0) hx hb hml hown (T _ hl) (T _ mn_acopy) (T _ mt_acopy) (T _ mz_System) hK hw.1 hw.2.1 hw.2.2 q0 q0 t0 t0 hat hat ht ht rfl (nI_pos (by omega)) (nI_pos (by omega)) (nI_pos (by omega)) (by rw [nI_clamp (by omega), nI_clamp (by omega)]; exact h1) (by rw [nI_clamp (by omega), nI_clamp (by omega)]; exact h2) (fun _ _ => rfl) hfr hlo hdg (fun H1 locs1 hP hD hS => ?_)
  rw [nI_clamp (by omega), nI_clamp (by omega), nI_clamp (by omega), xw_set hw.2.1 hq, ← he, xw_up_M] at hP hD
  exact kk _ H1 locs1 rfl ⟨hP, hD, hS⟩
end XD
theorem fr_a {n q f : Nat} {S : pz_T} {ex : Nat → Nat → Prop} {M : fr_M} (h : fr_R n q f S ex M) {s a : Nat} (hs : s < 3) (ha : a < n) : M (15, 5 * s + a) 0 = nI a ∧ M (15, 5 * s + a) 1 = nI s ∧ M (15, 5 * s + a) 4 = nI (S.2 s 0 a 0) ∧ M (15, 5 * s + a) 5 = nI (S.2 s 1 a 0) ∧ M (15, 5 * s + a) 6 = nI (S.2 s 2 a 0) ∧ M (15, 5 * s + a) 7 = nI (S.2 s 3 a 0) ∧ M (15, 5 * s + a) 8 = nI (S.2 s 4 a 0) := h.2.2.2.2.2.2.2.2 s a hs ha
theorem fr_c {n q f : Nat} {S : pz_T} {ex : Nat → Nat → Prop} {M : fr_M} (h : fr_R n q f S ex M) {s c : Nat} (hs : s < 3) (hc : c < 2) : M (9, 2 * s + c) 0 = nI s ∧ M (9, 2 * s + c) 3 = nI (S.2 s 8 c 0) ∧ M (9, 2 * s + c) 4 = nI (S.2 s 9 c 0) ∧ M (9, 2 * s + c) 5 = nI (S.2 s 10 c 0) := h.2.2.2.2.1 s c hs hc
theorem fr_t {n q f : Nat} {S : pz_T} {ex : Nat → Nat → Prop} {M : fr_M} (h : fr_R n q f S ex M) {s c : Nat} (hs : s < 3) (hc : c < 2) (hx : ¬ ex s c) : M (9, 2 * s + c) 9 = nI (pz_te n (S.2 s) c) ∧ ∀ a, a < n → M (10, 2 * s + c) a = nI (S.2 s 11 c a) ∧ (S.2 s 11 c a ≠ 0 → M (11, 2 * s + c) a = nI (S.2 s 12 c a) ∧ M (12, 2 * s + c) a = nI (S.2 s 13 c a)) := h.2.2.2.2.2.1 s c hs hc hx
theorem fr_s {n q f : Nat} {S : pz_T} {ex : Nat → Nat → Prop} {M : fr_M} (h : fr_R n q f S ex M) {s : Nat} (hs : s < 3) : M (13, 2 * s) 2 = nI (S.2 s 16 0 0) ∧ M (13, 2 * s + 1) 2 = nI (S.2 s 7 0 0) := h.2.2.2.2.2.2.1 s hs
theorem fr_v {n q f : Nat} {S : pz_T} {ex : Nat → Nat → Prop} {M : fr_M} (h : fr_R n q f S ex M) {s r a : Nat} (hs : s < 3) (hr : r ≤ 12) (ha : a < n) : M (14, 2 * s) (r * n + a) = nI (S.2 s 5 r a) ∧ M (14, 2 * s + 1) (r * n + a) = nI (S.2 s 6 r a) := h.2.2.2.2.2.2.2.1 s r a hs hr ha
theorem fr_len {S : pz_T} {s : Nat} {p : pz_P} : (pz_pw S s p).1 = S.1 := rfl
theorem fr_sd_len {S : pz_T} {g : pz_M} (h : S.1.length ≤ 60) : (pz_sd S g).1.length ≤ 60 := by
  unfold pz_sd
  split
  · simp; omega
  · exact h
