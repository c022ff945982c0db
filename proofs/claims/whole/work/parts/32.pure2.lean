/-! What the reference's own ways of counting give. -/
theorem gm_eqd {n q f s : Nat} {S : pz_T} {p p' : pz_P} {M : fr_M} (h : gm_R n q f (pz_pw S s p) M) (he : ∀ k x y, k ≤ 13 → gm_dom k x y → p' k x y = p k x y) (hs : s < 3) : gm_R n q f (pz_pw S s p') M := by
  obtain ⟨a1, a2, a3, a4, a5⟩ := h
  have s3 : ∀ p', (pz_pw S s p').2 3 = S.2 3 := fun p' => pz_w_n (by omega)
  refine ⟨a1, ⟨a2.1, by rw [s3]; have := a2.2; rw [s3] at this; exact this⟩, fun w hw => by rw [s3]; have := a3 w hw; rw [s3] at this; exact this, a4, fun k z x y hk hz hd => ?_⟩
  rw [a5 k z x y hk hz hd]
  by_cases e : z = s
  · subst e; rw [pz_pw_s, pz_pw_s, he k x y hk hd]
  · show nI (pz_w S.2 s p z k x y) = nI (pz_w S.2 s p' z k x y)
    rw [pz_w_n e, pz_w_n e]
def gm_E (S S' : pz_T) : Prop := S'.1 = S.1 ∧ ∀ s k x y, k ≠ 17 → k ≠ 16 → S'.2 s k x y = S.2 s k x y
theorem gm_E_R {n q f : Nat} {S S' : pz_T} {M : fr_M} (h : gm_R n q f S M) (e : gm_E S S') : gm_R n q f S' M := gm_sE h e.1 e.2
theorem gm_E_sd {S S' : pz_T} (h : gm_E S S') (g : pz_M) : gm_E (pz_sd S g) (pz_sd S' g) := by
  obtain ⟨h1, h2⟩ := h
  unfold pz_sd
  rw [h1]
  split
  · exact ⟨rfl, h2⟩
  · refine ⟨rfl, fun s k x y hk hk2 => ?_⟩
    show pz_w S'.2 3 _ s k x y = pz_w S.2 3 _ s k x y
    unfold pz_w
    split
    · unfold pz_u
      rw [h2 3 15 0 0 (by omega) (by omega), h2 3 k x y hk hk2]
    · exact h2 s k x y hk hk2
theorem gm_E_sa {S S' : pz_T} (h : gm_E S S') (kd s r v : Nat) : ∀ i, gm_E (pz_sa kd s r v i S) (pz_sa kd s r v i S')
  | 0 => h
  | i + 1 => gm_E_sd (gm_E_sa h kd s r v i) _
theorem gm_E_pw {S : pz_T} {s : Nat} {p p' : pz_P} (h : ∀ k x y, k ≠ 17 → k ≠ 16 → p' k x y = p k x y) : gm_E (pz_pw S s p) (pz_pw S s p') := by
  refine ⟨rfl, fun z k x y hk hk2 => ?_⟩
  show pz_w S.2 s p' z k x y = pz_w S.2 s p z k x y
  unfold pz_w
  split
  · exact h k x y hk hk2
  · rfl
def pz_clr (p : pz_P) (c i : Nat) : pz_P := fun k x y => if k = 11 ∧ x = c ∧ y < i then 0 else p k x y
theorem pz_clr_0 (p : pz_P) (c : Nat) : pz_clr p c 0 = p := by
  funext k x y; unfold pz_clr; rw [if_neg (by omega)]
theorem pz_clr_s (p : pz_P) (c i : Nat) : pz_u (pz_clr p c i) 11 c i 0 = pz_clr p c (i + 1) := by
  funext k x y
  unfold pz_u pz_clr
  by_cases h : k = 11 ∧ x = c ∧ y = i
  · rw [if_pos h, if_pos (by omega)]
  · rw [if_neg h]
    by_cases h2 : k = 11 ∧ x = c ∧ y < i
    · rw [if_pos h2, if_pos (by omega)]
    · rw [if_neg h2, if_neg (by omega)]
theorem pz_clr_ld {p : pz_P} {c r w k x y : Nat} (hd : gm_dom k x y) : pz_ld p c r w k x y = pz_clr (pz_u (pz_u p 8 c 0 r) 9 c 0 w) c 5 k x y := by
  unfold pz_ld pz_clr pz_u
  unfold gm_dom at hd
  by_cases h8 : x = c ∧ k = 8 ∧ y = 0
  · rw [if_pos h8, if_neg (by omega), if_neg (by omega), if_pos (by omega)]
  · rw [if_neg h8]
    by_cases h9 : x = c ∧ k = 9 ∧ y = 0
    · rw [if_pos h9, if_neg (by omega), if_pos (by omega)]
    · rw [if_neg h9]
      by_cases h11 : x = c ∧ k = 11
      · rw [if_pos h11, if_pos (by omega)]
      · rw [if_neg h11, if_neg (by omega), if_neg (by omega), if_neg (by omega)]
theorem pz_sm_ext {g : Nat → Nat} {n : Nat} : ∀ m, n ≤ m → (∀ a, n ≤ a → a < m → g a = 0) → pz_sm m g = pz_sm n g
  | 0, h, _ => by have e : n = 0 := by omega
                  subst e; rfl
  | m + 1, h, H => by
    by_cases e : n = m + 1
    · subst e; rfl
    · simp only [pz_sm]
      rw [H m (by omega) (by omega), pz_sm_ext m (by omega) (fun a h1 h2 => H a h1 (by omega))]; rfl
def pz_sc (n : Nat) (p : pz_P) (c r : Nat) : Nat → Nat
  | 0 => 0
  | i + 1 => if 0 < pz_tf n p c r (1000 - i) then 1000 - i else pz_sc n p c r i
theorem pz_sc_ex {n : Nat} {p : pz_P} {c r : Nat} : ∀ i, i ≤ 1000 → (pz_sc n p c r i = 0 ∧ ∀ v, 1000 - i < v → v ≤ 1000 → pz_tf n p c r v = 0) ∨ (1000 - i < pz_sc n p c r i ∧ pz_sc n p c r i ≤ 1000 ∧ 0 < pz_tf n p c r (pz_sc n p c r i) ∧ ∀ v, 1000 - i < v → v < pz_sc n p c r i → pz_tf n p c r v = 0)
  | 0, _ => Or.inl ⟨rfl, fun v h1 h2 => by omega⟩
  | i + 1, hi => by
    simp only [pz_sc]
    by_cases e : 0 < pz_tf n p c r (1000 - i)
    · rw [if_pos e]; exact Or.inr ⟨by omega, by omega, e, fun v h1 h2 => by omega⟩
    · rw [if_neg e]
      rcases pz_sc_ex (n := n) (p := p) (c := c) (r := r) i (by omega) with ⟨z1, z2⟩ | ⟨z1, z2, z3, z4⟩
      · refine Or.inl ⟨z1, fun v h1 h2 => ?_⟩
        by_cases ev : v = 1000 - i
        · subst ev; omega
        · exact z2 v (by omega) h2
      · refine Or.inr ⟨by omega, z2, z3, fun v h1 h2 => ?_⟩
        by_cases ev : v = 1000 - i
        · subst ev; omega
        · exact z4 v (by omega) h2
theorem pz_ls_min {p : pz_P} {c r : Nat} : ∀ n, (∀ b, b < n → p 11 c b ≠ 0 → p 13 c b = r → p 12 c b ≠ 0) → ∀ a, a < n → p 11 c a ≠ 0 → p 13 c a = r → pz_ls p c r n ≤ p 12 c a
  | 0, _, a, h, _, _ => absurd h (Nat.not_lt_zero a)
  | k + 1, H, a, h1, h2, h3 => by
    simp only [pz_ls]
    by_cases e : p 11 c k ≠ 0 ∧ p 13 c k = r ∧ (pz_ls p c r k = 0 ∨ p 12 c k < pz_ls p c r k)
    · rw [if_pos e]
      by_cases ea : a = k
      · subst ea; exact Nat.le_refl _
      · have i1 := pz_ls_min k (fun b hb => H b (by omega)) a (by omega) h2 h3
        have i2 := pz_ls_ne k (fun b hb => H b (by omega)) ⟨a, by omega, h2, h3⟩
        omega
    · rw [if_neg e]
      by_cases ea : a = k
      · subst ea
        have : ¬ (pz_ls p c r a = 0 ∨ p 12 c a < pz_ls p c r a) := fun z => e ⟨h2, h3, z⟩
        omega
      · exact pz_ls_min k (fun b hb => H b (by omega)) a (by omega) h2 h3
theorem pz_tf_pos {n : Nat} {p : pz_P} {c r v : Nat} : 0 < pz_tf n p c r v ↔ ∃ a, a < n ∧ p 11 c a ≠ 0 ∧ p 13 c a = r ∧ p 12 c a = v := by
  constructor
  · intro h
    obtain ⟨a, ha, e⟩ := pz_sm_pos n h
    by_cases z : p 11 c a ≠ 0 ∧ p 13 c a = r ∧ p 12 c a = v
    · exact ⟨a, ha, z⟩
    · rw [if_neg z] at e; exact absurd e (Nat.lt_irrefl 0)
  · rintro ⟨a, ha, z⟩
    have := pz_sm_one (g := fun a => if p 11 c a ≠ 0 ∧ p 13 c a = r ∧ p 12 c a = v then 1 else 0) n a ha
    rw [if_pos z] at this
    exact this
theorem pz_sc_ls {n : Nat} {p : pz_P} {c r : Nat} (H : ∀ a, a < n → p 11 c a ≠ 0 → p 13 c a = r → p 12 c a ≠ 0 ∧ p 12 c a ≤ 1000) : pz_sc n p c r 1000 = pz_ls p c r n := by
  have nz : ∀ b, b < n → p 11 c b ≠ 0 → p 13 c b = r → p 12 c b ≠ 0 := fun b hb h1 h2 => (H b hb h1 h2).1
  rcases pz_ls_ex p c r n with z | ⟨b, b1, b2, b3, b4⟩
  · rcases pz_sc_ex (n := n) (p := p) (c := c) (r := r) 1000 (Nat.le_refl _) with ⟨y, -⟩ | ⟨y1, y2, y3, y4⟩
    · rw [y, z]
    · obtain ⟨a, a1, a2, a3, a4⟩ := pz_tf_pos.mp y3
      exact absurd z (pz_ls_ne n nz ⟨a, a1, a2, a3⟩)
  · have hb := H b b1 b2 b3
    have tfb : 0 < pz_tf n p c r (pz_ls p c r n) := pz_tf_pos.mpr ⟨b, b1, b2, b3, b4⟩
    rcases pz_sc_ex (n := n) (p := p) (c := c) (r := r) 1000 (Nat.le_refl _) with ⟨y, y2⟩ | ⟨y1, y2, y3, y4⟩
    · have := y2 (pz_ls p c r n) (by omega) (by omega)
      omega
    · obtain ⟨a, a1, a2, a3, a4⟩ := pz_tf_pos.mp y3
      have m := pz_ls_min n nz a a1 a2 a3
      by_cases e : pz_ls p c r n < pz_sc n p c r 1000
      · have := y4 (pz_ls p c r n) (by omega) e
        omega
      · omega
theorem pz_tf_te {n : Nat} {p : pz_P} {c r v : Nat} (h : ∀ a, p 11 c a ≤ 1) : pz_tf n p c r v ≤ pz_te n p c := pz_sm_le n (fun a _ => by
  by_cases z : p 11 c a ≠ 0 ∧ p 13 c a = r ∧ p 12 c a = v
  · rw [if_pos z]; omega
  · rw [if_neg z]; exact Nat.zero_le _)
theorem xi_dec1 {a b : Nat} (h : a = b + 1) : nI a + Int32.ofInt (-1) = nI b := by subst h; rw [litm1]; exact pk_m1 b
