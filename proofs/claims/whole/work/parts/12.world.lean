/-! The world of the program: what its cells hold, by number; words as every walk wants them. -/
def fb_ids (n : Nat) : List (Nat × Nat) := [(0, 0), (1, 0), (2, 0), (3, 0), (4, 0), (5, 0), (6, 0)] ++ ((List.range 3).flatMap (fun s => [(7, s), (8, s)]) ++ ((List.range 6).flatMap (fun i => [(9, i), (10, i), (11, i), (12, i), (13, i), (14, i)]) ++ ((List.range 15).filter (fun i => decide (i % 5 < n))).map (fun i => (15, i))))
theorem fb_in0 (n : Nat) : (0, 0) ∈ fb_ids n := List.mem_append_left _ (by decide)
theorem fb_in1 (n : Nat) : (1, 0) ∈ fb_ids n := List.mem_append_left _ (by decide)
theorem fb_in2 (n : Nat) : (2, 0) ∈ fb_ids n := List.mem_append_left _ (by decide)
theorem fb_in3 (n : Nat) : (3, 0) ∈ fb_ids n := List.mem_append_left _ (by decide)
theorem fb_in4 (n : Nat) : (4, 0) ∈ fb_ids n := List.mem_append_left _ (by decide)
theorem fb_in5 (n : Nat) : (5, 0) ∈ fb_ids n := List.mem_append_left _ (by decide)
theorem fb_in6 (n : Nat) : (6, 0) ∈ fb_ids n := List.mem_append_left _ (by decide)
theorem fb_in7 (n : Nat) {s : Nat} (hs : s < 3) : (7, s) ∈ fb_ids n := List.mem_append_right _ (List.mem_append_left _ (List.mem_flatMap.mpr ⟨s, List.mem_range.mpr hs, by simp⟩))
theorem fb_in8 (n : Nat) {s : Nat} (hs : s < 3) : (8, s) ∈ fb_ids n := List.mem_append_right _ (List.mem_append_left _ (List.mem_flatMap.mpr ⟨s, List.mem_range.mpr hs, by simp⟩))
theorem fb_in9 (n : Nat) {s c : Nat} (hs : s < 3) (hc : c < 2) : (9, 2 * s + c) ∈ fb_ids n := List.mem_append_right _ (List.mem_append_right _ (List.mem_append_left _ (List.mem_flatMap.mpr ⟨2 * s + c, List.mem_range.mpr (by omega), by simp⟩)))
theorem fb_in10 (n : Nat) {s c : Nat} (hs : s < 3) (hc : c < 2) : (10, 2 * s + c) ∈ fb_ids n := List.mem_append_right _ (List.mem_append_right _ (List.mem_append_left _ (List.mem_flatMap.mpr ⟨2 * s + c, List.mem_range.mpr (by omega), by simp⟩)))
theorem fb_in11 (n : Nat) {s c : Nat} (hs : s < 3) (hc : c < 2) : (11, 2 * s + c) ∈ fb_ids n := List.mem_append_right _ (List.mem_append_right _ (List.mem_append_left _ (List.mem_flatMap.mpr ⟨2 * s + c, List.mem_range.mpr (by omega), by simp⟩)))
theorem fb_in12 (n : Nat) {s c : Nat} (hs : s < 3) (hc : c < 2) : (12, 2 * s + c) ∈ fb_ids n := List.mem_append_right _ (List.mem_append_right _ (List.mem_append_left _ (List.mem_flatMap.mpr ⟨2 * s + c, List.mem_range.mpr (by omega), by simp⟩)))
theorem fb_in13 (n : Nat) {s c : Nat} (hs : s < 3) (hc : c < 2) : (13, 2 * s + c) ∈ fb_ids n := List.mem_append_right _ (List.mem_append_right _ (List.mem_append_left _ (List.mem_flatMap.mpr ⟨2 * s + c, List.mem_range.mpr (by omega), by simp⟩)))
theorem fb_in14 (n : Nat) {s c : Nat} (hs : s < 3) (hc : c < 2) : (14, 2 * s + c) ∈ fb_ids n := List.mem_append_right _ (List.mem_append_right _ (List.mem_append_left _ (List.mem_flatMap.mpr ⟨2 * s + c, List.mem_range.mpr (by omega), by simp⟩)))
theorem fb_in15 {n : Nat} (hn : n ≤ 5) {s a : Nat} (hs : s < 3) (ha : a < n) : (15, 5 * s + a) ∈ fb_ids n := List.mem_append_right _ (List.mem_append_right _ (List.mem_append_right _ (List.mem_map.mpr ⟨5 * s + a, List.mem_filter.mpr ⟨List.mem_range.mpr (by omega), decide_eq_true (by omega)⟩, rfl⟩)))
def fb_k (n : Nat) (ad : Nat × Nat → Nat) (cI cZ cS cA : ClassId) : Nat × Nat → (Nat → Int32) → va_E := fun k g => match k with
  | (0, _) => .inr (0, [.ref (ad (1, 0)), .ref (ad (2, 0)), .ref (ad (3, 0)), .ref (ad (4, 0))])
  | (1, _) => .inr (1, [.int (g 0), .int (g 1), .int (g 2)])
  | (2, _) => .inr (2, [.ref (ad (5, 0)), .ref (ad (6, 0)), .int (g 2), .int (g 3)])
  | (3, _) => .inl (cS, 3, .inr (.inr (.inr (.inr (fun j => some (ad (7, j)))))))
  | (4, _) => .inl (cZ, 11, .inl g)
  | (5, _) => .inl (cI, 420, .inl g)
  | (6, _) => .inr (3, [.int (g 0), .int (g 1), .int (g 2), .int (g 3), .int (g 4), .int (g 5), .int (g 6)])
  | (7, i) => .inr (4, [.ref (ad (8, i)), .ref (ad (9, 2 * i + 0)), .ref (ad (9, 2 * i + 1)), .ref (ad (13, 2 * i + 0)), .ref (ad (13, 2 * i + 1))])
  | (8, i) => .inl (cA, n, .inr (.inr (.inr (.inr (fun j => some (ad (15, 5 * i + j)))))))
  | (9, i) => .inr (5, [.int (g 0), .ref (ad (1, 0)), .ref (ad (2, 0)), .int (g 3), .int (g 4), .int (g 5), .ref (ad (10, i)), .ref (ad (11, i)), .ref (ad (12, i)), .int (g 9)])
  | (10, _) => .inl (cZ, n, .inl g)
  | (11, _) => .inl (cI, n, .inl g)
  | (12, _) => .inl (cI, n, .inl g)
  | (13, i) => .inr (6, [.ref (ad (1, 0)), .ref (ad (14, i)), .int (g 2)])
  | (14, _) => .inl (cI, 13 * n, .inl g)
  | (15, i) => .inr (7, [.int (g 0), .int (g 1), .ref (ad (2, 0)), .ref (ad (13, 2 * (i / 5) + 0)), .int (g 4), .int (g 5), .int (g 6), .int (g 7), .int (g 8)])
  | _ => .inr (0, [])
def fb_f0 (ad : Nat × Nat → Nat) (g : Nat → Int32) : List Value := [.ref (ad (1, 0)), .ref (ad (2, 0)), .ref (ad (3, 0)), .ref (ad (4, 0))]
theorem fb_e0 (n : Nat) (ad : Nat × Nat → Nat) (cI cZ cS cA : ClassId) (g : Nat → Int32) : fb_k n ad cI cZ cS cA (0, 0) g = .inr (0, fb_f0 ad g) := rfl
def fb_f1 (ad : Nat × Nat → Nat) (g : Nat → Int32) : List Value := [.int (g 0), .int (g 1), .int (g 2)]
theorem fb_e1 (n : Nat) (ad : Nat × Nat → Nat) (cI cZ cS cA : ClassId) (g : Nat → Int32) : fb_k n ad cI cZ cS cA (1, 0) g = .inr (1, fb_f1 ad g) := rfl
theorem fb_s1_0 (ad : Nat × Nat → Nat) (v : Int32) (g : Nat → Int32) : 0 < (fb_f1 ad g).length ∧ (fb_f1 ad g).set 0 (.int v) = fb_f1 ad (upd g 0 v) := ⟨by simp [fb_f1], by simp [fb_f1, upd]⟩
theorem fb_s1_1 (ad : Nat × Nat → Nat) (v : Int32) (g : Nat → Int32) : 1 < (fb_f1 ad g).length ∧ (fb_f1 ad g).set 1 (.int v) = fb_f1 ad (upd g 1 v) := ⟨by simp [fb_f1], by simp [fb_f1, upd]⟩
theorem fb_s1_2 (ad : Nat × Nat → Nat) (v : Int32) (g : Nat → Int32) : 2 < (fb_f1 ad g).length ∧ (fb_f1 ad g).set 2 (.int v) = fb_f1 ad (upd g 2 v) := ⟨by simp [fb_f1], by simp [fb_f1, upd]⟩
def fb_f2 (ad : Nat × Nat → Nat) (g : Nat → Int32) : List Value := [.ref (ad (5, 0)), .ref (ad (6, 0)), .int (g 2), .int (g 3)]
theorem fb_e2 (n : Nat) (ad : Nat × Nat → Nat) (cI cZ cS cA : ClassId) (g : Nat → Int32) : fb_k n ad cI cZ cS cA (2, 0) g = .inr (2, fb_f2 ad g) := rfl
theorem fb_s2_2 (ad : Nat × Nat → Nat) (v : Int32) (g : Nat → Int32) : 2 < (fb_f2 ad g).length ∧ (fb_f2 ad g).set 2 (.int v) = fb_f2 ad (upd g 2 v) := ⟨by simp [fb_f2], by simp [fb_f2, upd]⟩
theorem fb_s2_3 (ad : Nat × Nat → Nat) (v : Int32) (g : Nat → Int32) : 3 < (fb_f2 ad g).length ∧ (fb_f2 ad g).set 3 (.int v) = fb_f2 ad (upd g 3 v) := ⟨by simp [fb_f2], by simp [fb_f2, upd]⟩
theorem fb_e3 (n : Nat) (ad : Nat × Nat → Nat) (cI cZ cS cA : ClassId) (g : Nat → Int32) : fb_k n ad cI cZ cS cA (3, 0) g = .inl (cS, 3, .inr (.inr (.inr (.inr (fun j => some (ad (7, j))))))) := rfl
theorem fb_e4 (n : Nat) (ad : Nat × Nat → Nat) (cI cZ cS cA : ClassId) (g : Nat → Int32) : fb_k n ad cI cZ cS cA (4, 0) g = .inl (cZ, 11, .inl g) := rfl
theorem fb_e5 (n : Nat) (ad : Nat × Nat → Nat) (cI cZ cS cA : ClassId) (g : Nat → Int32) : fb_k n ad cI cZ cS cA (5, 0) g = .inl (cI, 420, .inl g) := rfl
def fb_f6 (ad : Nat × Nat → Nat) (g : Nat → Int32) : List Value := [.int (g 0), .int (g 1), .int (g 2), .int (g 3), .int (g 4), .int (g 5), .int (g 6)]
theorem fb_e6 (n : Nat) (ad : Nat × Nat → Nat) (cI cZ cS cA : ClassId) (g : Nat → Int32) : fb_k n ad cI cZ cS cA (6, 0) g = .inr (3, fb_f6 ad g) := rfl
theorem fb_s6_0 (ad : Nat × Nat → Nat) (v : Int32) (g : Nat → Int32) : 0 < (fb_f6 ad g).length ∧ (fb_f6 ad g).set 0 (.int v) = fb_f6 ad (upd g 0 v) := ⟨by simp [fb_f6], by simp [fb_f6, upd]⟩
theorem fb_s6_1 (ad : Nat × Nat → Nat) (v : Int32) (g : Nat → Int32) : 1 < (fb_f6 ad g).length ∧ (fb_f6 ad g).set 1 (.int v) = fb_f6 ad (upd g 1 v) := ⟨by simp [fb_f6], by simp [fb_f6, upd]⟩
theorem fb_s6_2 (ad : Nat × Nat → Nat) (v : Int32) (g : Nat → Int32) : 2 < (fb_f6 ad g).length ∧ (fb_f6 ad g).set 2 (.int v) = fb_f6 ad (upd g 2 v) := ⟨by simp [fb_f6], by simp [fb_f6, upd]⟩
theorem fb_s6_3 (ad : Nat × Nat → Nat) (v : Int32) (g : Nat → Int32) : 3 < (fb_f6 ad g).length ∧ (fb_f6 ad g).set 3 (.int v) = fb_f6 ad (upd g 3 v) := ⟨by simp [fb_f6], by simp [fb_f6, upd]⟩
theorem fb_s6_4 (ad : Nat × Nat → Nat) (v : Int32) (g : Nat → Int32) : 4 < (fb_f6 ad g).length ∧ (fb_f6 ad g).set 4 (.int v) = fb_f6 ad (upd g 4 v) := ⟨by simp [fb_f6], by simp [fb_f6, upd]⟩
theorem fb_s6_5 (ad : Nat × Nat → Nat) (v : Int32) (g : Nat → Int32) : 5 < (fb_f6 ad g).length ∧ (fb_f6 ad g).set 5 (.int v) = fb_f6 ad (upd g 5 v) := ⟨by simp [fb_f6], by simp [fb_f6, upd]⟩
theorem fb_s6_6 (ad : Nat × Nat → Nat) (v : Int32) (g : Nat → Int32) : 6 < (fb_f6 ad g).length ∧ (fb_f6 ad g).set 6 (.int v) = fb_f6 ad (upd g 6 v) := ⟨by simp [fb_f6], by simp [fb_f6, upd]⟩
def fb_f7 (ad : Nat × Nat → Nat) (i : Nat) (g : Nat → Int32) : List Value := [.ref (ad (8, i)), .ref (ad (9, 2 * i + 0)), .ref (ad (9, 2 * i + 1)), .ref (ad (13, 2 * i + 0)), .ref (ad (13, 2 * i + 1))]
theorem fb_e7 (n : Nat) (ad : Nat × Nat → Nat) (cI cZ cS cA : ClassId) (i : Nat) (g : Nat → Int32) : fb_k n ad cI cZ cS cA (7, i) g = .inr (4, fb_f7 ad i g) := rfl
theorem fb_e8 (n : Nat) (ad : Nat × Nat → Nat) (cI cZ cS cA : ClassId) (i : Nat) (g : Nat → Int32) : fb_k n ad cI cZ cS cA (8, i) g = .inl (cA, n, .inr (.inr (.inr (.inr (fun j => some (ad (15, 5 * i + j))))))) := rfl
def fb_f9 (ad : Nat × Nat → Nat) (i : Nat) (g : Nat → Int32) : List Value := [.int (g 0), .ref (ad (1, 0)), .ref (ad (2, 0)), .int (g 3), .int (g 4), .int (g 5), .ref (ad (10, i)), .ref (ad (11, i)), .ref (ad (12, i)), .int (g 9)]
theorem fb_e9 (n : Nat) (ad : Nat × Nat → Nat) (cI cZ cS cA : ClassId) (i : Nat) (g : Nat → Int32) : fb_k n ad cI cZ cS cA (9, i) g = .inr (5, fb_f9 ad i g) := rfl
theorem fb_s9_0 (ad : Nat × Nat → Nat) (i : Nat) (v : Int32) (g : Nat → Int32) : 0 < (fb_f9 ad i g).length ∧ (fb_f9 ad i g).set 0 (.int v) = fb_f9 ad i (upd g 0 v) := ⟨by simp [fb_f9], by simp [fb_f9, upd]⟩
theorem fb_s9_3 (ad : Nat × Nat → Nat) (i : Nat) (v : Int32) (g : Nat → Int32) : 3 < (fb_f9 ad i g).length ∧ (fb_f9 ad i g).set 3 (.int v) = fb_f9 ad i (upd g 3 v) := ⟨by simp [fb_f9], by simp [fb_f9, upd]⟩
theorem fb_s9_4 (ad : Nat × Nat → Nat) (i : Nat) (v : Int32) (g : Nat → Int32) : 4 < (fb_f9 ad i g).length ∧ (fb_f9 ad i g).set 4 (.int v) = fb_f9 ad i (upd g 4 v) := ⟨by simp [fb_f9], by simp [fb_f9, upd]⟩
theorem fb_s9_5 (ad : Nat × Nat → Nat) (i : Nat) (v : Int32) (g : Nat → Int32) : 5 < (fb_f9 ad i g).length ∧ (fb_f9 ad i g).set 5 (.int v) = fb_f9 ad i (upd g 5 v) := ⟨by simp [fb_f9], by simp [fb_f9, upd]⟩
theorem fb_s9_9 (ad : Nat × Nat → Nat) (i : Nat) (v : Int32) (g : Nat → Int32) : 9 < (fb_f9 ad i g).length ∧ (fb_f9 ad i g).set 9 (.int v) = fb_f9 ad i (upd g 9 v) := ⟨by simp [fb_f9], by simp [fb_f9, upd]⟩
theorem fb_e10 (n : Nat) (ad : Nat × Nat → Nat) (cI cZ cS cA : ClassId) (i : Nat) (g : Nat → Int32) : fb_k n ad cI cZ cS cA (10, i) g = .inl (cZ, n, .inl g) := rfl
theorem fb_e11 (n : Nat) (ad : Nat × Nat → Nat) (cI cZ cS cA : ClassId) (i : Nat) (g : Nat → Int32) : fb_k n ad cI cZ cS cA (11, i) g = .inl (cI, n, .inl g) := rfl
theorem fb_e12 (n : Nat) (ad : Nat × Nat → Nat) (cI cZ cS cA : ClassId) (i : Nat) (g : Nat → Int32) : fb_k n ad cI cZ cS cA (12, i) g = .inl (cI, n, .inl g) := rfl
def fb_f13 (ad : Nat × Nat → Nat) (i : Nat) (g : Nat → Int32) : List Value := [.ref (ad (1, 0)), .ref (ad (14, i)), .int (g 2)]
theorem fb_e13 (n : Nat) (ad : Nat × Nat → Nat) (cI cZ cS cA : ClassId) (i : Nat) (g : Nat → Int32) : fb_k n ad cI cZ cS cA (13, i) g = .inr (6, fb_f13 ad i g) := rfl
theorem fb_s13_2 (ad : Nat × Nat → Nat) (i : Nat) (v : Int32) (g : Nat → Int32) : 2 < (fb_f13 ad i g).length ∧ (fb_f13 ad i g).set 2 (.int v) = fb_f13 ad i (upd g 2 v) := ⟨by simp [fb_f13], by simp [fb_f13, upd]⟩
theorem fb_e14 (n : Nat) (ad : Nat × Nat → Nat) (cI cZ cS cA : ClassId) (i : Nat) (g : Nat → Int32) : fb_k n ad cI cZ cS cA (14, i) g = .inl (cI, 13 * n, .inl g) := rfl
def fb_f15 (ad : Nat × Nat → Nat) (i : Nat) (g : Nat → Int32) : List Value := [.int (g 0), .int (g 1), .ref (ad (2, 0)), .ref (ad (13, 2 * (i / 5) + 0)), .int (g 4), .int (g 5), .int (g 6), .int (g 7), .int (g 8)]
theorem fb_e15 (n : Nat) (ad : Nat × Nat → Nat) (cI cZ cS cA : ClassId) (i : Nat) (g : Nat → Int32) : fb_k n ad cI cZ cS cA (15, i) g = .inr (7, fb_f15 ad i g) := rfl
theorem fb_s15_0 (ad : Nat × Nat → Nat) (i : Nat) (v : Int32) (g : Nat → Int32) : 0 < (fb_f15 ad i g).length ∧ (fb_f15 ad i g).set 0 (.int v) = fb_f15 ad i (upd g 0 v) := ⟨by simp [fb_f15], by simp [fb_f15, upd]⟩
theorem fb_s15_1 (ad : Nat × Nat → Nat) (i : Nat) (v : Int32) (g : Nat → Int32) : 1 < (fb_f15 ad i g).length ∧ (fb_f15 ad i g).set 1 (.int v) = fb_f15 ad i (upd g 1 v) := ⟨by simp [fb_f15], by simp [fb_f15, upd]⟩
theorem fb_s15_4 (ad : Nat × Nat → Nat) (i : Nat) (v : Int32) (g : Nat → Int32) : 4 < (fb_f15 ad i g).length ∧ (fb_f15 ad i g).set 4 (.int v) = fb_f15 ad i (upd g 4 v) := ⟨by simp [fb_f15], by simp [fb_f15, upd]⟩
theorem fb_s15_5 (ad : Nat × Nat → Nat) (i : Nat) (v : Int32) (g : Nat → Int32) : 5 < (fb_f15 ad i g).length ∧ (fb_f15 ad i g).set 5 (.int v) = fb_f15 ad i (upd g 5 v) := ⟨by simp [fb_f15], by simp [fb_f15, upd]⟩
theorem fb_s15_6 (ad : Nat × Nat → Nat) (i : Nat) (v : Int32) (g : Nat → Int32) : 6 < (fb_f15 ad i g).length ∧ (fb_f15 ad i g).set 6 (.int v) = fb_f15 ad i (upd g 6 v) := ⟨by simp [fb_f15], by simp [fb_f15, upd]⟩
theorem fb_s15_7 (ad : Nat × Nat → Nat) (i : Nat) (v : Int32) (g : Nat → Int32) : 7 < (fb_f15 ad i g).length ∧ (fb_f15 ad i g).set 7 (.int v) = fb_f15 ad i (upd g 7 v) := ⟨by simp [fb_f15], by simp [fb_f15, upd]⟩
theorem fb_s15_8 (ad : Nat × Nat → Nat) (i : Nat) (v : Int32) (g : Nat → Int32) : 8 < (fb_f15 ad i g).length ∧ (fb_f15 ad i g).set 8 (.int v) = fb_f15 ad i (upd g 8 v) := ⟨by simp [fb_f15], by simp [fb_f15, upd]⟩
abbrev fb_ty (cI cZ cS cA : ClassId) : List (ClassId × FieldType) := [(cI, .int), (cZ, .boolean), (cS, .object tb_RSlt), (cA, .object tb_RAcc)]
/-- a contract of a method of the program -/
def fb_C (l : Launch) (D : va_G) (n : Nat) (ad : Nat × Nat → Nat) (cI cZ cS cA : ClassId) (y : MethodName) (b : ByteArray) (mL : Nat) (ret : Option FieldType) (fr lo : Nat) (M : fr_M) (av : List Value) (r : Option Value) (Pm : fr_M → Prop) : Prop :=
  Met l y (Cond.code y b mL ret :: tb_W) { frames := fr, cells := 0, slots := 0, locals := lo } (xw_Pc D tb_cl (fb_ty cI cZ cS cA) (fb_ids n) ad (fb_k n ad cI cZ cS cA) tb_nl M av) (xw_Qc D tb_cl (fb_ids n) ad (fb_k n ad cI cZ cS cA) r Pm) 0 0 (xw_A (fb_ids n) ad)
section XB
variable {p : Program} {l : Launch} {e : Env} {R : Room} {s : State} {m : MethodId} {args : Array Value} {below : List Frame} {meth : Method} {c : Code} {H : Heap} {locs : List Loc} {cells slots : Nat} {Q : State → Prop}
variable {cc : ByteArray} {pc : Nat} {ls : Array Slot} {rest : List Value} {D : va_G} {cl : List vw_C} {A : Nat → Prop} {tys : List (ClassId × FieldType)} {H0 : Heap} {tb : List Cond} {cd : Cond} {own : String}
variable {ids : List (Nat × Nat)} {ad : Nat × Nat → Nat} {cf : Nat × Nat → va_E} {xk : Nat × Nat → (Nat → Int32) → va_E} {M : Nat × Nat → Nat → Int32}
theorem xb_get (Z : xw_Z p c cc s args m own (cd :: tb) D cl tys) (hw : xw_H D cl A H0 ids ad (xw_M xk M) H locs) {k : Nat × Nat} (hk : k ∈ ids) {ci : Nat} {fs : (Nat → Int32) → List Value} (he : ∀ g, xk k g = .inr (ci, fs g)) {C : String} {T : u_T} {N : Nat} (hc : cl[ci]? = some (C, T, N)) (hin : ∀ w ∈ u_ws C T N, w ∈ tb) (j : Nat) (hj : j < N) {index : Nat} (hl : Cond.fieldLink own index C (T j).2.1 (T j).2.2.1 ∈ tb) (hT : (T j).1 = C) {v : Value} (hv : (fs (M k))[j]? = some v) (hdg : decode cc pc = .ok (.getfield index, 3))
    (kk : W p l e R s m args below meth c H locs cells slots Q (F0 m (pc + 3) ls (v :: rest))) : W p l e R s m args below meth c H locs cells slots Q (F0 m pc ls (.ref (ad k) :: rest)) :=
  xw_get Z hw hk (he (M k)) hc (fun w h => List.mem_cons_of_mem _ (hin w h)) j hj (List.mem_cons_of_mem _ hl) hT hv hdg kk
theorem xb_put (Z : xw_Z p c cc s args m own (cd :: tb) D cl tys) (hw : xw_H D cl A H0 ids ad (xw_M xk M) H locs) {k : Nat × Nat} (hk : k ∈ ids) {ci : Nat} {fs : (Nat → Int32) → List Value} (he : ∀ g, xk k g = .inr (ci, fs g)) {C : String} {T : u_T} {N : Nat} (hc : cl[ci]? = some (C, T, N)) (hin : ∀ w ∈ u_ws C T N, w ∈ tb) (ty0 : Nat → FieldType) (hty : ∀ k, k < N → parseFieldDescriptor (T k).2.2.1 = some (ty0 k)) (hnm : ∀ a, a < N → ∀ b, b < N → a ≠ b → (T a).2.1 ≠ (T b).2.1) (j : Nat) (hj : j < N) {index : Nat} (hl : Cond.fieldLink own index C (T j).2.1 (T j).2.2.1 ∈ tb) (hT : (T j).1 = C) (hfin : (T j).2.2.2 = false) {v : Int32} (hi : ty0 j = .int) (hset : ∀ g : Nat → Int32, j < (fs g).length ∧ (fs g).set j (.int v) = fs (upd g j v)) (hdg : decode cc pc = .ok (.putfield index, 3))
    (kk : ∀ (M1 : Nat × Nat → Nat → Int32) (H1 : Heap) (locs1 : List Loc), M1 = xw_mw M k (upd (M k) j v) → xw_H D cl A H0 ids ad (xw_M xk M1) H1 locs1 → W p l e R s m args below meth c H1 locs1 cells slots Q (F0 m (pc + 3) ls rest)) : W p l e R s m args below meth c H locs cells slots Q (F0 m pc ls (.int v :: .ref (ad k) :: rest)) :=
  xw_puti Z hw hk he hc (fun w h => List.mem_cons_of_mem _ (hin w h)) ty0 hty hnm j hj (List.mem_cons_of_mem _ hl) hT hfin hi hset hdg (fun H1 locs1 h => kk _ H1 locs1 rfl h)
theorem xb_iast (Z : xw_Z p c cc s args m own (cd :: tb) D cl tys) (hw : xw_H D cl A H0 ids ad (xw_M xk M) H locs) {k : Nat × Nat} (hk : k ∈ ids) {cA : ClassId} {N : Nat} (he : ∀ g, xk k g = .inl (cA, N, .inl g)) (t0 : Nat) (ht : tys[t0]? = some (cA, .int)) {i x : Int32} (j : Nat) (hi : i = nI j) (hj : j < N) (hN : N < 2 ^ 31) (hdg : decode cc pc = .ok (.iastore, 1))
    (kk : ∀ (M1 : Nat × Nat → Nat → Int32) (H1 : Heap) (locs1 : List Loc), M1 = xw_mw M k (upd (M k) j x) → xw_H D cl A H0 ids ad (xw_M xk M1) H1 locs1 → W p l e R s m args below meth c H1 locs1 cells slots Q (F0 m (pc + 1) ls rest)) : W p l e R s m args below meth c H locs cells slots Q (F0 m pc ls (.int x :: .int i :: .ref (ad k) :: rest)) :=
  xw_iast Z hw hk he t0 ht j hi hj hN hdg (fun H1 locs1 h => kk _ H1 locs1 rfl h)
theorem xb_zast (Z : xw_Z p c cc s args m own (cd :: tb) D cl tys) (hw : xw_H D cl A H0 ids ad (xw_M xk M) H locs) {k : Nat × Nat} (hk : k ∈ ids) {cA : ClassId} {N : Nat} (he : ∀ g, xk k g = .inl (cA, N, .inl g)) (t0 : Nat) (ht : tys[t0]? = some (cA, .boolean)) {i x : Int32} (hx01 : vp_nar .boolean x = x) (j : Nat) (hi : i = nI j) (hj : j < N) (hN : N < 2 ^ 31) (hdg : decode cc pc = .ok (.bastore, 1))
    (kk : ∀ (M1 : Nat × Nat → Nat → Int32) (H1 : Heap) (locs1 : List Loc), M1 = xw_mw M k (upd (M k) j x) → xw_H D cl A H0 ids ad (xw_M xk M1) H1 locs1 → W p l e R s m args below meth c H1 locs1 cells slots Q (F0 m (pc + 1) ls rest)) : W p l e R s m args below meth c H locs cells slots Q (F0 m pc ls (.int x :: .int i :: .ref (ad k) :: rest)) :=
  xw_zast Z hw hk he t0 ht hx01 j hi hj hN hdg (fun H1 locs1 h => kk _ H1 locs1 rfl h)
end XB
theorem xi_inc1 (a : Nat) : nI a + Int32.ofInt 1 = nI (a + 1) := by rw [lit1]; exact nI_1 a
theorem xi_z0 : vp_nar .boolean (nI 0) = nI 0 := by decide
theorem xi_z1 : vp_nar .boolean (nI 1) = nI 1 := by decide
