/-! The world of the reference: its object is (0,0), the row of its field j is (j,0). -/
def gm_ids : List (Nat × Nat) := [(0, 0), (3, 0), (6, 0), (7, 0), (8, 0), (9, 0), (10, 0), (11, 0), (12, 0), (13, 0), (14, 0), (15, 0), (16, 0), (17, 0), (18, 0), (19, 0), (20, 0), (21, 0), (22, 0), (23, 0), (24, 0), (25, 0), (26, 0)]
theorem gm_in {k : Nat} (h : (k, 0) ∈ gm_ids) : (k, 0) ∈ gm_ids := h
def gm_k (ad : Nat × Nat → Nat) (cI cZ : ClassId) : Nat × Nat → (Nat → Int32) → va_E := fun k g => match k with
  | (0, _) => .inr (8, [.int (g 0), .int (g 1), .int (g 2), .ref (ad (3, 0)), .int (g 4), .int (g 5), .ref (ad (6, 0)), .ref (ad (7, 0)), .ref (ad (8, 0)), .ref (ad (9, 0)), .ref (ad (10, 0)), .ref (ad (11, 0)), .ref (ad (12, 0)), .ref (ad (13, 0)), .ref (ad (14, 0)), .ref (ad (15, 0)), .ref (ad (16, 0)), .ref (ad (17, 0)), .ref (ad (18, 0)), .ref (ad (19, 0)), .ref (ad (20, 0)), .ref (ad (21, 0)), .ref (ad (22, 0)), .ref (ad (23, 0)), .ref (ad (24, 0)), .ref (ad (25, 0)), .ref (ad (26, 0))])
  | (3, _) => .inl (cZ, 11, .inl g)
  | (6, _) => .inl (cI, 60, .inl g)
  | (7, _) => .inl (cI, 60, .inl g)
  | (8, _) => .inl (cI, 60, .inl g)
  | (9, _) => .inl (cI, 60, .inl g)
  | (10, _) => .inl (cI, 60, .inl g)
  | (11, _) => .inl (cI, 60, .inl g)
  | (12, _) => .inl (cI, 60, .inl g)
  | (13, _) => .inl (cI, 15, .inl g)
  | (14, _) => .inl (cI, 15, .inl g)
  | (15, _) => .inl (cI, 15, .inl g)
  | (16, _) => .inl (cI, 15, .inl g)
  | (17, _) => .inl (cI, 15, .inl g)
  | (18, _) => .inl (cI, 195, .inl g)
  | (19, _) => .inl (cI, 195, .inl g)
  | (20, _) => .inl (cI, 3, .inl g)
  | (21, _) => .inl (cI, 6, .inl g)
  | (22, _) => .inl (cI, 6, .inl g)
  | (23, _) => .inl (cI, 6, .inl g)
  | (24, _) => .inl (cZ, 30, .inl g)
  | (25, _) => .inl (cI, 30, .inl g)
  | (26, _) => .inl (cI, 30, .inl g)
  | _ => .inr (0, [])
def gm_f (ad : Nat × Nat → Nat) (g : Nat → Int32) : List Value := [.int (g 0), .int (g 1), .int (g 2), .ref (ad (3, 0)), .int (g 4), .int (g 5), .ref (ad (6, 0)), .ref (ad (7, 0)), .ref (ad (8, 0)), .ref (ad (9, 0)), .ref (ad (10, 0)), .ref (ad (11, 0)), .ref (ad (12, 0)), .ref (ad (13, 0)), .ref (ad (14, 0)), .ref (ad (15, 0)), .ref (ad (16, 0)), .ref (ad (17, 0)), .ref (ad (18, 0)), .ref (ad (19, 0)), .ref (ad (20, 0)), .ref (ad (21, 0)), .ref (ad (22, 0)), .ref (ad (23, 0)), .ref (ad (24, 0)), .ref (ad (25, 0)), .ref (ad (26, 0))]
theorem gm_e0 (ad : Nat × Nat → Nat) (cI cZ : ClassId) (g : Nat → Int32) : gm_k ad cI cZ (0, 0) g = .inr (8, gm_f ad g) := rfl
theorem gm_e3 (ad : Nat × Nat → Nat) (cI cZ : ClassId) (g : Nat → Int32) : gm_k ad cI cZ (3, 0) g = .inl (cZ, 11, .inl g) := rfl
theorem gm_e6 (ad : Nat × Nat → Nat) (cI cZ : ClassId) (g : Nat → Int32) : gm_k ad cI cZ (6, 0) g = .inl (cI, 60, .inl g) := rfl
theorem gm_e7 (ad : Nat × Nat → Nat) (cI cZ : ClassId) (g : Nat → Int32) : gm_k ad cI cZ (7, 0) g = .inl (cI, 60, .inl g) := rfl
theorem gm_e8 (ad : Nat × Nat → Nat) (cI cZ : ClassId) (g : Nat → Int32) : gm_k ad cI cZ (8, 0) g = .inl (cI, 60, .inl g) := rfl
theorem gm_e9 (ad : Nat × Nat → Nat) (cI cZ : ClassId) (g : Nat → Int32) : gm_k ad cI cZ (9, 0) g = .inl (cI, 60, .inl g) := rfl
theorem gm_e10 (ad : Nat × Nat → Nat) (cI cZ : ClassId) (g : Nat → Int32) : gm_k ad cI cZ (10, 0) g = .inl (cI, 60, .inl g) := rfl
theorem gm_e11 (ad : Nat × Nat → Nat) (cI cZ : ClassId) (g : Nat → Int32) : gm_k ad cI cZ (11, 0) g = .inl (cI, 60, .inl g) := rfl
theorem gm_e12 (ad : Nat × Nat → Nat) (cI cZ : ClassId) (g : Nat → Int32) : gm_k ad cI cZ (12, 0) g = .inl (cI, 60, .inl g) := rfl
theorem gm_e13 (ad : Nat × Nat → Nat) (cI cZ : ClassId) (g : Nat → Int32) : gm_k ad cI cZ (13, 0) g = .inl (cI, 15, .inl g) := rfl
theorem gm_e14 (ad : Nat × Nat → Nat) (cI cZ : ClassId) (g : Nat → Int32) : gm_k ad cI cZ (14, 0) g = .inl (cI, 15, .inl g) := rfl
theorem gm_e15 (ad : Nat × Nat → Nat) (cI cZ : ClassId) (g : Nat → Int32) : gm_k ad cI cZ (15, 0) g = .inl (cI, 15, .inl g) := rfl
theorem gm_e16 (ad : Nat × Nat → Nat) (cI cZ : ClassId) (g : Nat → Int32) : gm_k ad cI cZ (16, 0) g = .inl (cI, 15, .inl g) := rfl
theorem gm_e17 (ad : Nat × Nat → Nat) (cI cZ : ClassId) (g : Nat → Int32) : gm_k ad cI cZ (17, 0) g = .inl (cI, 15, .inl g) := rfl
theorem gm_e18 (ad : Nat × Nat → Nat) (cI cZ : ClassId) (g : Nat → Int32) : gm_k ad cI cZ (18, 0) g = .inl (cI, 195, .inl g) := rfl
theorem gm_e19 (ad : Nat × Nat → Nat) (cI cZ : ClassId) (g : Nat → Int32) : gm_k ad cI cZ (19, 0) g = .inl (cI, 195, .inl g) := rfl
theorem gm_e20 (ad : Nat × Nat → Nat) (cI cZ : ClassId) (g : Nat → Int32) : gm_k ad cI cZ (20, 0) g = .inl (cI, 3, .inl g) := rfl
theorem gm_e21 (ad : Nat × Nat → Nat) (cI cZ : ClassId) (g : Nat → Int32) : gm_k ad cI cZ (21, 0) g = .inl (cI, 6, .inl g) := rfl
theorem gm_e22 (ad : Nat × Nat → Nat) (cI cZ : ClassId) (g : Nat → Int32) : gm_k ad cI cZ (22, 0) g = .inl (cI, 6, .inl g) := rfl
theorem gm_e23 (ad : Nat × Nat → Nat) (cI cZ : ClassId) (g : Nat → Int32) : gm_k ad cI cZ (23, 0) g = .inl (cI, 6, .inl g) := rfl
theorem gm_e24 (ad : Nat × Nat → Nat) (cI cZ : ClassId) (g : Nat → Int32) : gm_k ad cI cZ (24, 0) g = .inl (cZ, 30, .inl g) := rfl
theorem gm_e25 (ad : Nat × Nat → Nat) (cI cZ : ClassId) (g : Nat → Int32) : gm_k ad cI cZ (25, 0) g = .inl (cI, 30, .inl g) := rfl
theorem gm_e26 (ad : Nat × Nat → Nat) (cI cZ : ClassId) (g : Nat → Int32) : gm_k ad cI cZ (26, 0) g = .inl (cI, 30, .inl g) := rfl
theorem gm_s0_0 (ad : Nat × Nat → Nat) (v : Int32) (g : Nat → Int32) : 0 < (gm_f ad g).length ∧ (gm_f ad g).set 0 (.int v) = gm_f ad (upd g 0 v) := ⟨by simp [gm_f], by simp [gm_f, upd]⟩
theorem gm_s0_1 (ad : Nat × Nat → Nat) (v : Int32) (g : Nat → Int32) : 1 < (gm_f ad g).length ∧ (gm_f ad g).set 1 (.int v) = gm_f ad (upd g 1 v) := ⟨by simp [gm_f], by simp [gm_f, upd]⟩
theorem gm_s0_2 (ad : Nat × Nat → Nat) (v : Int32) (g : Nat → Int32) : 2 < (gm_f ad g).length ∧ (gm_f ad g).set 2 (.int v) = gm_f ad (upd g 2 v) := ⟨by simp [gm_f], by simp [gm_f, upd]⟩
theorem gm_s0_4 (ad : Nat × Nat → Nat) (v : Int32) (g : Nat → Int32) : 4 < (gm_f ad g).length ∧ (gm_f ad g).set 4 (.int v) = gm_f ad (upd g 4 v) := ⟨by simp [gm_f], by simp [gm_f, upd]⟩
theorem gm_s0_5 (ad : Nat × Nat → Nat) (v : Int32) (g : Nat → Int32) : 5 < (gm_f ad g).length ∧ (gm_f ad g).set 5 (.int v) = gm_f ad (upd g 5 v) := ⟨by simp [gm_f], by simp [gm_f, upd]⟩
abbrev gm_ty (cI cZ : ClassId) : List (ClassId × FieldType) := [(cI, .int), (cZ, .boolean)]
def gm_C (l : Launch) (D : va_G) (ad : Nat × Nat → Nat) (cI cZ : ClassId) (y : MethodName) (b : ByteArray) (mL : Nat) (ret : Option FieldType) (fr lo : Nat) (M : fr_M) (av : List Value) (r : Option Value) (Pm : fr_M → Prop) : Prop :=
  Met l y (Cond.code y b mL ret :: tb_W) { frames := fr, cells := 0, slots := 0, locals := lo } (xw_Pc D tb_cl (gm_ty cI cZ) gm_ids ad (gm_k ad cI cZ) tb_nl M av) (xw_Qc D tb_cl gm_ids ad (gm_k ad cI cZ) r Pm) 0 0 (xw_A gm_ids ad)
def gm_ix (k s x y : Nat) : Nat := if k ≤ 4 then 5 * s + x else if k ≤ 6 then 65 * s + 5 * x + y else if k ≤ 7 then s else if k ≤ 10 then 3 * x + s else 5 * (3 * x + s) + y
def gm_dom (k x y : Nat) : Prop := (k ≤ 4 → x < 5 ∧ y = 0) ∧ (4 < k → k ≤ 6 → x ≤ 12 ∧ y < 5) ∧ (k = 7 → x = 0 ∧ y = 0) ∧ (7 < k → k ≤ 10 → x < 2 ∧ y = 0) ∧ (10 < k → x < 2 ∧ y < 5)
theorem gm_inj {k s x y s' x' y' : Nat} (hk : k ≤ 13) (hs : s < 3) (hs' : s' < 3) (h : gm_dom k x y) (h' : gm_dom k x' y') (e : gm_ix k s x y = gm_ix k s' x' y') : s = s' ∧ x = x' ∧ y = y' := by
  unfold gm_ix at e
  unfold gm_dom at h h'
  by_cases k4 : k ≤ 4
  · rw [if_pos k4, if_pos k4] at e; omega
  · rw [if_neg k4, if_neg k4] at e
    by_cases k6 : k ≤ 6
    · rw [if_pos k6, if_pos k6] at e; omega
    · rw [if_neg k6, if_neg k6] at e
      by_cases k7 : k ≤ 7
      · rw [if_pos k7, if_pos k7] at e; omega
      · rw [if_neg k7, if_neg k7] at e
        by_cases k10 : k ≤ 10
        · rw [if_pos k10, if_pos k10] at e; omega
        · rw [if_neg k10, if_neg k10] at e; omega
def gm_1 (n q f : Nat) (M : fr_M) : Prop := M (0, 0) 0 = nI n ∧ M (0, 0) 1 = nI q ∧ M (0, 0) 2 = nI f
def gm_2 (S : pz_T) (M : fr_M) : Prop := M (0, 0) 4 = nI S.1.length ∧ M (0, 0) 5 = nI (S.2 3 15 0 0)
def gm_3 (S : pz_T) (M : fr_M) : Prop := ∀ w, w < 11 → M (3, 0) w = nI (S.2 3 14 w 0)
def gm_4 (S : pz_T) (M : fr_M) : Prop := ∀ i g, S.1[i]? = some g → M (6, 0) i = nI (g 0) ∧ M (7, 0) i = nI (g 1) ∧ M (8, 0) i = nI (g 2) ∧ M (9, 0) i = nI (g 4) ∧ M (10, 0) i = nI (g 3) ∧ M (11, 0) i = nI (g 5) ∧ M (12, 0) i = nI (g 6)
def gm_5 (S : pz_T) (M : fr_M) : Prop := ∀ k s x y, k ≤ 13 → s < 3 → gm_dom k x y → M (13 + k, 0) (gm_ix k s x y) = nI (S.2 s k x y)
def gm_R (n q f : Nat) (S : pz_T) (M : fr_M) : Prop := gm_1 n q f M ∧ gm_2 S M ∧ gm_3 S M ∧ gm_4 S M ∧ gm_5 S M
theorem gm_set {n q f k s x y v : Nat} {S : pz_T} {p : pz_P} {M M' : fr_M} (h : gm_R n q f (pz_pw S s p) M) (hk : k ≤ 13) (hs : s < 3) (hd : gm_dom k x y) (e : M' = xw_mw M (13 + k, 0) (upd (M (13 + k, 0)) (gm_ix k s x y) (nI v))) : gm_R n q f (pz_pw S s (pz_u p k x y v)) M' := by
  obtain ⟨a1, a2, a3, a4, a5⟩ := h
  have m : ∀ z, z ≤ 12 → M' (z, 0) = M (z, 0) := fun z hz => by rw [e, xw_mw_n (fr_pair (by omega))]
  have s3 : ∀ p', (pz_pw S s p').2 3 = S.2 3 := fun p' => pz_w_n (by omega)
  refine ⟨?_, ?_, ?_, ?_, ?_⟩
  · unfold gm_1; rw [m 0 (by omega)]; exact a1
  · unfold gm_2; rw [m 0 (by omega), s3]; unfold gm_2 at a2; rw [s3] at a2; exact a2
  · intro w hw; rw [m 3 (by omega), s3]; have := a3 w hw; rw [s3] at this; exact this
  · intro i g hg
    rw [m 6 (by omega), m 7 (by omega), m 8 (by omega), m 9 (by omega), m 10 (by omega), m 11 (by omega), m 12 (by omega)]
    exact a4 i g hg
  · intro k' s' x' y' hk' hs' hd'
    have old := a5 k' s' x' y' hk' hs' hd'
    by_cases ek : k' = k
    · subst ek
      rw [e, xw_mw_s]
      unfold upd
      by_cases ei : gm_ix k' s' x' y' = gm_ix k' s x y
      · obtain ⟨rfl, rfl, rfl⟩ := gm_inj hk hs' hs hd' hd ei
        rw [if_pos rfl, pz_pw_s, pz_u_s]
      · rw [if_neg ei, old]
        by_cases es : s' = s
        · subst es
          rw [pz_pw_s, pz_pw_s]
          unfold pz_u
          rw [if_neg (fun z => ei (by rw [z.2.1, z.2.2]))]
        · show nI (pz_w S.2 s p s' k' x' y') = nI (pz_w S.2 s _ s' k' x' y')
          rw [pz_w_n es, pz_w_n es]
    · rw [e, xw_mw_n (fr_pair (by omega)), old]
      by_cases es : s' = s
      · subst es; rw [pz_pw_s, pz_pw_s, pz_u_k ek]
      · show nI (pz_w S.2 s p s' k' x' y') = nI (pz_w S.2 s _ s' k' x' y')
        rw [pz_w_n es, pz_w_n es]
theorem gm_sE {n q f : Nat} {S S' : pz_T} {M : fr_M} (h : gm_R n q f S M) (h1 : S'.1 = S.1) (h2 : ∀ s k x y, k ≠ 17 → k ≠ 16 → S'.2 s k x y = S.2 s k x y) : gm_R n q f S' M := by
  obtain ⟨a1, a2, a3, a4, a5⟩ := h
  refine ⟨a1, ⟨by rw [h1]; exact a2.1, by rw [h2 3 15 0 0 (by omega) (by omega)]; exact a2.2⟩, fun w hw => by rw [h2 3 14 w 0 (by omega) (by omega)]; exact a3 w hw, fun i g hg => a4 i g (by rw [← h1]; exact hg), fun k s x y hk hs hd => by rw [h2 s k x y (by omega) (by omega)]; exact a5 k s x y hk hs hd⟩
theorem gm_send1 {n q f : Nat} {S : pz_T} {M M' : fr_M} {g : pz_M} (h : gm_R n q f S M) (hl : S.1.length < 60) (hk : ∀ k, ¬ (6 ≤ k ∧ k ≤ 12) → k ≠ 0 → M' (k, 0) = M (k, 0)) (h0 : ∀ j, j ≠ 4 → M' (0, 0) j = M (0, 0) j) (h4 : M' (0, 0) 4 = nI (S.1.length + 1)) (hr : ∀ k, 6 ≤ k → k ≤ 12 → M' (k, 0) = upd (M (k, 0)) S.1.length (M' (k, 0) S.1.length))
    (hv : M' (6, 0) S.1.length = nI (g 0) ∧ M' (7, 0) S.1.length = nI (g 1) ∧ M' (8, 0) S.1.length = nI (g 2) ∧ M' (9, 0) S.1.length = nI (g 4) ∧ M' (10, 0) S.1.length = nI (g 3) ∧ M' (11, 0) S.1.length = nI (g 5) ∧ M' (12, 0) S.1.length = nI (g 6)) : gm_R n q f (pz_sd S g) M' := by
  obtain ⟨a1, a2, a3, a4, a5⟩ := h
  have e : pz_sd S g = (S.1 ++ [g], S.2) := by unfold pz_sd; rw [if_pos hl]
  rw [e]
  refine ⟨?_, ⟨?_, ?_⟩, ?_, ?_, ?_⟩
  · unfold gm_1; rw [h0 0 (by omega), h0 1 (by omega), h0 2 (by omega)]; exact a1
  · rw [h4]; simp
  · rw [h0 5 (by omega)]; exact a2.2
  · intro w hw; rw [hk 3 (by omega) (by omega)]; exact a3 w hw
  · intro i x hx
    by_cases hi : i < S.1.length
    · rw [List.getElem?_append_left hi] at hx
      have o := a4 i x hx
      have u : ∀ k, 6 ≤ k → k ≤ 12 → M' (k, 0) i = M (k, 0) i := fun k k1 k2 => by rw [hr k k1 k2]; unfold upd; rw [if_neg (by omega)]
      rw [u 6 (by omega) (by omega), u 7 (by omega) (by omega), u 8 (by omega) (by omega), u 9 (by omega) (by omega), u 10 (by omega) (by omega), u 11 (by omega) (by omega), u 12 (by omega) (by omega)]
      exact o
    · rw [List.getElem?_append_right (by omega)] at hx
      have hz : i - S.1.length < 1 := (List.getElem?_eq_some_iff.mp hx).1
      have hi0 : i = S.1.length := by omega
      subst hi0
      rw [Nat.sub_self] at hx
      cases hx
      exact hv
  · intro k s x y hk' hs hd; rw [hk (13 + k) (by omega) (by omega)]; exact a5 k s x y hk' hs hd
theorem gm_send2 {n q f : Nat} {S : pz_T} {M M' : fr_M} {g : pz_M} (h : gm_R n q f S M) (hl : ¬ S.1.length < 60) (hk : ∀ k, k ≠ 0 → M' (k, 0) = M (k, 0)) (h0 : ∀ j, j ≠ 5 → M' (0, 0) j = M (0, 0) j) (h5 : M' (0, 0) 5 = nI (S.2 3 15 0 0 + 1)) : gm_R n q f (pz_sd S g) M' := by
  obtain ⟨a1, a2, a3, a4, a5⟩ := h
  have e : pz_sd S g = (S.1, pz_w S.2 3 (pz_u (S.2 3) 15 0 0 (S.2 3 15 0 0 + 1))) := by unfold pz_sd; rw [if_neg hl]
  have ss : ∀ s, s < 3 → pz_w S.2 3 (pz_u (S.2 3) 15 0 0 (S.2 3 15 0 0 + 1)) s = S.2 s := fun s hs => pz_w_n (by omega)
  have s3 : pz_w S.2 3 (pz_u (S.2 3) 15 0 0 (S.2 3 15 0 0 + 1)) 3 = pz_u (S.2 3) 15 0 0 (S.2 3 15 0 0 + 1) := pz_w_s _ _ _
  rw [e]
  refine ⟨?_, ⟨?_, ?_⟩, ?_, ?_, ?_⟩
  · unfold gm_1; rw [h0 0 (by omega), h0 1 (by omega), h0 2 (by omega)]; exact a1
  · rw [h0 4 (by omega)]; exact a2.1
  · show _ = nI (pz_w S.2 3 (pz_u (S.2 3) 15 0 0 (S.2 3 15 0 0 + 1)) 3 15 0 0)
    rw [h5, s3, pz_u_s]
  · intro w hw
    show _ = nI (pz_w S.2 3 (pz_u (S.2 3) 15 0 0 (S.2 3 15 0 0 + 1)) 3 14 w 0)
    rw [hk 3 (by omega), s3, pz_u_k (by omega)]; exact a3 w hw
  · intro i x hx
    rw [hk 6 (by omega), hk 7 (by omega), hk 8 (by omega), hk 9 (by omega), hk 10 (by omega), hk 11 (by omega), hk 12 (by omega)]
    exact a4 i x hx
  · intro k s x y hk' hs hd
    rw [hk (13 + k) (by omega)]
    show _ = nI (pz_w S.2 3 (pz_u (S.2 3) 15 0 0 (S.2 3 15 0 0 + 1)) s k x y)
    rw [ss s hs]; exact a5 k s x y hk' hs hd
theorem gm_rm {n q f i : Nat} {S : pz_T} {M M' : fr_M} (h : gm_R n q f S M) (hi : i < S.1.length) (hk : ∀ k, ¬ (6 ≤ k ∧ k ≤ 12) → k ≠ 0 → M' (k, 0) = M (k, 0)) (h0 : ∀ j, j ≠ 4 → M' (0, 0) j = M (0, 0) j) (h4 : M' (0, 0) 4 = nI (S.1.length - 1)) (hlo : ∀ k j, 6 ≤ k → k ≤ 12 → j < i → M' (k, 0) j = M (k, 0) j) (hhi : ∀ k j, 6 ≤ k → k ≤ 12 → i ≤ j → j < S.1.length - 1 → M' (k, 0) j = M (k, 0) (j + 1)) : gm_R n q f (pz_rm S i) M' := by
  obtain ⟨a1, a2, a3, a4, a5⟩ := h
  have hlen : (S.1.eraseIdx i).length = S.1.length - 1 := by rw [List.length_eraseIdx]; simp [hi]
  refine ⟨?_, ⟨?_, ?_⟩, ?_, ?_, ?_⟩
  · unfold gm_1; rw [h0 0 (by omega), h0 1 (by omega), h0 2 (by omega)]; exact a1
  · rw [h4]; show _ = nI (S.1.eraseIdx i).length; rw [hlen]
  · rw [h0 5 (by omega)]; exact a2.2
  · intro w hw; rw [hk 3 (by omega) (by omega)]; exact a3 w hw
  · intro j g hg
    have hg : (S.1.eraseIdx i)[j]? = some g := hg
    have hj : j < S.1.length - 1 := by rw [← hlen]; exact (List.getElem?_eq_some_iff.mp hg).1
    by_cases hji : j < i
    · rw [List.getElem?_eraseIdx_of_lt hji] at hg
      have u : ∀ k, 6 ≤ k → k ≤ 12 → M' (k, 0) j = M (k, 0) j := fun k k1 k2 => hlo k j k1 k2 hji
      rw [u 6 (by omega) (by omega), u 7 (by omega) (by omega), u 8 (by omega) (by omega), u 9 (by omega) (by omega), u 10 (by omega) (by omega), u 11 (by omega) (by omega), u 12 (by omega) (by omega)]
      exact a4 j g hg
    · rw [List.getElem?_eraseIdx_of_ge (by omega)] at hg
      have u : ∀ k, 6 ≤ k → k ≤ 12 → M' (k, 0) j = M (k, 0) (j + 1) := fun k k1 k2 => hhi k j k1 k2 (by omega) hj
      rw [u 6 (by omega) (by omega), u 7 (by omega) (by omega), u 8 (by omega) (by omega), u 9 (by omega) (by omega), u 10 (by omega) (by omega), u 11 (by omega) (by omega), u 12 (by omega) (by omega)]
      exact a4 (j + 1) g hg
  · intro k s x y hk' hs hd; rw [hk (13 + k) (by omega) (by omega)]; exact a5 k s x y hk' hs hd
theorem gm_halt {n q f w b : Nat} {S : pz_T} {M M' : fr_M} (h : gm_R n q f S M) (e : M' = xw_mw M (3, 0) (upd (M (3, 0)) w (nI b))) : gm_R n q f (pz_halt S w b) M' := by
  obtain ⟨a1, a2, a3, a4, a5⟩ := h
  have m : ∀ z, z ≠ 3 → M' (z, 0) = M (z, 0) := fun z hz => by rw [e, xw_mw_n (fr_pair hz)]
  have ss : ∀ s, s < 3 → (pz_halt S w b).2 s = S.2 s := fun s hs => pz_w_n (by omega)
  have s3 : (pz_halt S w b).2 3 = pz_u (S.2 3) 14 w 0 b := pz_w_s S.2 3 (pz_u (S.2 3) 14 w 0 b)
  refine ⟨?_, ⟨?_, ?_⟩, ?_, ?_, ?_⟩
  · unfold gm_1; rw [m 0 (by omega)]; exact a1
  · rw [m 0 (by omega)]; exact a2.1
  · rw [m 0 (by omega), s3, pz_u_k (by omega)]; exact a2.2
  · intro x hx
    rw [e, xw_mw_s, s3]
    unfold upd
    by_cases ex : x = w
    · subst ex; rw [if_pos rfl, pz_u_s]
    · rw [if_neg ex, pz_u_x ex]; exact a3 x hx
  · intro i g hg
    rw [m 6 (by omega), m 7 (by omega), m 8 (by omega), m 9 (by omega), m 10 (by omega), m 11 (by omega), m 12 (by omega)]
    exact a4 i g hg
  · intro k s x y hk' hs hd; rw [m (13 + k) (by omega), ss s hs]; exact a5 k s x y hk' hs hd
theorem gm_g0 {n q f s a : Nat} {S : pz_T} {M : fr_M} (h : gm_R n q f S M) (hs : s < 3) (ha : a < 5) : M (13, 0) (5 * s + a) = nI (S.2 s 0 a 0) := h.2.2.2.2 0 s a 0 (by decide) hs (by unfold gm_dom; omega)
theorem gm_w0 {n q f s a v : Nat} {S : pz_T} {p : pz_P} {M M' : fr_M} (h : gm_R n q f (pz_pw S s p) M) (hs : s < 3) (ha : a < 5) (e : M' = xw_mw M (13, 0) (upd (M (13, 0)) (5 * s + a) (nI v))) : gm_R n q f (pz_pw S s (pz_u p 0 a 0 v)) M' := gm_set h (by decide) hs (by unfold gm_dom; omega) e
theorem gm_g1 {n q f s a : Nat} {S : pz_T} {M : fr_M} (h : gm_R n q f S M) (hs : s < 3) (ha : a < 5) : M (14, 0) (5 * s + a) = nI (S.2 s 1 a 0) := h.2.2.2.2 1 s a 0 (by decide) hs (by unfold gm_dom; omega)
theorem gm_w1 {n q f s a v : Nat} {S : pz_T} {p : pz_P} {M M' : fr_M} (h : gm_R n q f (pz_pw S s p) M) (hs : s < 3) (ha : a < 5) (e : M' = xw_mw M (14, 0) (upd (M (14, 0)) (5 * s + a) (nI v))) : gm_R n q f (pz_pw S s (pz_u p 1 a 0 v)) M' := gm_set h (by decide) hs (by unfold gm_dom; omega) e
theorem gm_g2 {n q f s a : Nat} {S : pz_T} {M : fr_M} (h : gm_R n q f S M) (hs : s < 3) (ha : a < 5) : M (15, 0) (5 * s + a) = nI (S.2 s 2 a 0) := h.2.2.2.2 2 s a 0 (by decide) hs (by unfold gm_dom; omega)
theorem gm_w2 {n q f s a v : Nat} {S : pz_T} {p : pz_P} {M M' : fr_M} (h : gm_R n q f (pz_pw S s p) M) (hs : s < 3) (ha : a < 5) (e : M' = xw_mw M (15, 0) (upd (M (15, 0)) (5 * s + a) (nI v))) : gm_R n q f (pz_pw S s (pz_u p 2 a 0 v)) M' := gm_set h (by decide) hs (by unfold gm_dom; omega) e
theorem gm_g3 {n q f s a : Nat} {S : pz_T} {M : fr_M} (h : gm_R n q f S M) (hs : s < 3) (ha : a < 5) : M (16, 0) (5 * s + a) = nI (S.2 s 3 a 0) := h.2.2.2.2 3 s a 0 (by decide) hs (by unfold gm_dom; omega)
theorem gm_w3 {n q f s a v : Nat} {S : pz_T} {p : pz_P} {M M' : fr_M} (h : gm_R n q f (pz_pw S s p) M) (hs : s < 3) (ha : a < 5) (e : M' = xw_mw M (16, 0) (upd (M (16, 0)) (5 * s + a) (nI v))) : gm_R n q f (pz_pw S s (pz_u p 3 a 0 v)) M' := gm_set h (by decide) hs (by unfold gm_dom; omega) e
theorem gm_g4 {n q f s a : Nat} {S : pz_T} {M : fr_M} (h : gm_R n q f S M) (hs : s < 3) (ha : a < 5) : M (17, 0) (5 * s + a) = nI (S.2 s 4 a 0) := h.2.2.2.2 4 s a 0 (by decide) hs (by unfold gm_dom; omega)
theorem gm_w4 {n q f s a v : Nat} {S : pz_T} {p : pz_P} {M M' : fr_M} (h : gm_R n q f (pz_pw S s p) M) (hs : s < 3) (ha : a < 5) (e : M' = xw_mw M (17, 0) (upd (M (17, 0)) (5 * s + a) (nI v))) : gm_R n q f (pz_pw S s (pz_u p 4 a 0 v)) M' := gm_set h (by decide) hs (by unfold gm_dom; omega) e
theorem gm_g5 {n q f s a r : Nat} {S : pz_T} {M : fr_M} (h : gm_R n q f S M) (hs : s < 3) (hr : r ≤ 12) (ha : a < 5) : M (18, 0) (65 * s + 5 * r + a) = nI (S.2 s 5 r a) := h.2.2.2.2 5 s r a (by decide) hs (by unfold gm_dom; omega)
theorem gm_w5 {n q f s a r v : Nat} {S : pz_T} {p : pz_P} {M M' : fr_M} (h : gm_R n q f (pz_pw S s p) M) (hs : s < 3) (hr : r ≤ 12) (ha : a < 5) (e : M' = xw_mw M (18, 0) (upd (M (18, 0)) (65 * s + 5 * r + a) (nI v))) : gm_R n q f (pz_pw S s (pz_u p 5 r a v)) M' := gm_set h (by decide) hs (by unfold gm_dom; omega) e
theorem gm_g6 {n q f s a r : Nat} {S : pz_T} {M : fr_M} (h : gm_R n q f S M) (hs : s < 3) (hr : r ≤ 12) (ha : a < 5) : M (19, 0) (65 * s + 5 * r + a) = nI (S.2 s 6 r a) := h.2.2.2.2 6 s r a (by decide) hs (by unfold gm_dom; omega)
theorem gm_w6 {n q f s a r v : Nat} {S : pz_T} {p : pz_P} {M M' : fr_M} (h : gm_R n q f (pz_pw S s p) M) (hs : s < 3) (hr : r ≤ 12) (ha : a < 5) (e : M' = xw_mw M (19, 0) (upd (M (19, 0)) (65 * s + 5 * r + a) (nI v))) : gm_R n q f (pz_pw S s (pz_u p 6 r a v)) M' := gm_set h (by decide) hs (by unfold gm_dom; omega) e
theorem gm_g7 {n q f s  : Nat} {S : pz_T} {M : fr_M} (h : gm_R n q f S M) (hs : s < 3) : M (20, 0) (s) = nI (S.2 s 7 0 0) := h.2.2.2.2 7 s 0 0 (by decide) hs (by unfold gm_dom; omega)
theorem gm_w7 {n q f s  v : Nat} {S : pz_T} {p : pz_P} {M M' : fr_M} (h : gm_R n q f (pz_pw S s p) M) (hs : s < 3) (e : M' = xw_mw M (20, 0) (upd (M (20, 0)) (s) (nI v))) : gm_R n q f (pz_pw S s (pz_u p 7 0 0 v)) M' := gm_set h (by decide) hs (by unfold gm_dom; omega) e
theorem gm_g8 {n q f s c : Nat} {S : pz_T} {M : fr_M} (h : gm_R n q f S M) (hs : s < 3) (hc : c < 2) : M (21, 0) (3 * c + s) = nI (S.2 s 8 c 0) := h.2.2.2.2 8 s c 0 (by decide) hs (by unfold gm_dom; omega)
theorem gm_w8 {n q f s c v : Nat} {S : pz_T} {p : pz_P} {M M' : fr_M} (h : gm_R n q f (pz_pw S s p) M) (hs : s < 3) (hc : c < 2) (e : M' = xw_mw M (21, 0) (upd (M (21, 0)) (3 * c + s) (nI v))) : gm_R n q f (pz_pw S s (pz_u p 8 c 0 v)) M' := gm_set h (by decide) hs (by unfold gm_dom; omega) e
theorem gm_g9 {n q f s c : Nat} {S : pz_T} {M : fr_M} (h : gm_R n q f S M) (hs : s < 3) (hc : c < 2) : M (22, 0) (3 * c + s) = nI (S.2 s 9 c 0) := h.2.2.2.2 9 s c 0 (by decide) hs (by unfold gm_dom; omega)
theorem gm_w9 {n q f s c v : Nat} {S : pz_T} {p : pz_P} {M M' : fr_M} (h : gm_R n q f (pz_pw S s p) M) (hs : s < 3) (hc : c < 2) (e : M' = xw_mw M (22, 0) (upd (M (22, 0)) (3 * c + s) (nI v))) : gm_R n q f (pz_pw S s (pz_u p 9 c 0 v)) M' := gm_set h (by decide) hs (by unfold gm_dom; omega) e
theorem gm_g10 {n q f s c : Nat} {S : pz_T} {M : fr_M} (h : gm_R n q f S M) (hs : s < 3) (hc : c < 2) : M (23, 0) (3 * c + s) = nI (S.2 s 10 c 0) := h.2.2.2.2 10 s c 0 (by decide) hs (by unfold gm_dom; omega)
theorem gm_w10 {n q f s c v : Nat} {S : pz_T} {p : pz_P} {M M' : fr_M} (h : gm_R n q f (pz_pw S s p) M) (hs : s < 3) (hc : c < 2) (e : M' = xw_mw M (23, 0) (upd (M (23, 0)) (3 * c + s) (nI v))) : gm_R n q f (pz_pw S s (pz_u p 10 c 0 v)) M' := gm_set h (by decide) hs (by unfold gm_dom; omega) e
theorem gm_g11 {n q f s a c : Nat} {S : pz_T} {M : fr_M} (h : gm_R n q f S M) (hs : s < 3) (hc : c < 2) (ha : a < 5) : M (24, 0) (5 * (3 * c + s) + a) = nI (S.2 s 11 c a) := h.2.2.2.2 11 s c a (by decide) hs (by unfold gm_dom; omega)
theorem gm_w11 {n q f s a c v : Nat} {S : pz_T} {p : pz_P} {M M' : fr_M} (h : gm_R n q f (pz_pw S s p) M) (hs : s < 3) (hc : c < 2) (ha : a < 5) (e : M' = xw_mw M (24, 0) (upd (M (24, 0)) (5 * (3 * c + s) + a) (nI v))) : gm_R n q f (pz_pw S s (pz_u p 11 c a v)) M' := gm_set h (by decide) hs (by unfold gm_dom; omega) e
theorem gm_g12 {n q f s a c : Nat} {S : pz_T} {M : fr_M} (h : gm_R n q f S M) (hs : s < 3) (hc : c < 2) (ha : a < 5) : M (25, 0) (5 * (3 * c + s) + a) = nI (S.2 s 12 c a) := h.2.2.2.2 12 s c a (by decide) hs (by unfold gm_dom; omega)
theorem gm_w12 {n q f s a c v : Nat} {S : pz_T} {p : pz_P} {M M' : fr_M} (h : gm_R n q f (pz_pw S s p) M) (hs : s < 3) (hc : c < 2) (ha : a < 5) (e : M' = xw_mw M (25, 0) (upd (M (25, 0)) (5 * (3 * c + s) + a) (nI v))) : gm_R n q f (pz_pw S s (pz_u p 12 c a v)) M' := gm_set h (by decide) hs (by unfold gm_dom; omega) e
theorem gm_g13 {n q f s a c : Nat} {S : pz_T} {M : fr_M} (h : gm_R n q f S M) (hs : s < 3) (hc : c < 2) (ha : a < 5) : M (26, 0) (5 * (3 * c + s) + a) = nI (S.2 s 13 c a) := h.2.2.2.2 13 s c a (by decide) hs (by unfold gm_dom; omega)
theorem gm_w13 {n q f s a c v : Nat} {S : pz_T} {p : pz_P} {M M' : fr_M} (h : gm_R n q f (pz_pw S s p) M) (hs : s < 3) (hc : c < 2) (ha : a < 5) (e : M' = xw_mw M (26, 0) (upd (M (26, 0)) (5 * (3 * c + s) + a) (nI v))) : gm_R n q f (pz_pw S s (pz_u p 13 c a v)) M' := gm_set h (by decide) hs (by unfold gm_dom; omega) e
