section
/-! Pure part 1: one slot of the protocol (p k x y: what is kept, by kind, place and place), its invariant, what keeps it, and that no two values are chosen. -/
def pz_sm : Nat → (Nat → Nat) → Nat
  | 0, _ => 0
  | k + 1, g => pz_sm k g + g k
theorem pz_sm_le {g h : Nat → Nat} : ∀ (n : Nat), (∀ a, a < n → g a ≤ h a) → pz_sm n g ≤ pz_sm n h
  | 0, _ => Nat.le_refl _
  | k + 1, H => Nat.add_le_add (pz_sm_le k (fun a ha => H a (Nat.lt_succ_of_lt ha))) (H k (Nat.lt_succ_self k))
theorem pz_sm_eq {g h : Nat → Nat} (n : Nat) (H : ∀ a, a < n → g a = h a) : pz_sm n g = pz_sm n h :=
  Nat.le_antisymm (pz_sm_le n (fun a ha => Nat.le_of_eq (H a ha))) (pz_sm_le n (fun a ha => Nat.le_of_eq (H a ha).symm))
theorem pz_sm_add (g h : Nat → Nat) : ∀ n : Nat, pz_sm n (fun a => g a + h a) = pz_sm n g + pz_sm n h
  | 0 => rfl
  | k + 1 => by simp only [pz_sm, pz_sm_add g h k]; omega
theorem pz_sm_const (c : Nat) : ∀ n : Nat, pz_sm n (fun _ => c) = n * c
  | 0 => by simp [pz_sm]
  | k + 1 => by simp only [pz_sm, pz_sm_const c k, Nat.succ_mul]
theorem pz_sm_pos {g : Nat → Nat} : ∀ n : Nat, 0 < pz_sm n g → ∃ a, a < n ∧ 0 < g a
  | 0, h => absurd h (Nat.lt_irrefl 0)
  | k + 1, h => by
    by_cases h1 : 0 < pz_sm k g
    · obtain ⟨a, h2, h3⟩ := pz_sm_pos k h1
      exact ⟨a, Nat.lt_succ_of_lt h2, h3⟩
    · simp only [pz_sm] at h
      exact ⟨k, Nat.lt_succ_self k, by omega⟩
theorem pz_sm_one {g : Nat → Nat} : ∀ (n : Nat) (a : Nat), a < n → g a ≤ pz_sm n g
  | 0, a, h => absurd h (Nat.not_lt_zero a)
  | k + 1, a, h => by
    simp only [pz_sm]
    by_cases e : a = k
    · subst e; omega
    · have := pz_sm_one (g := g) k a (by omega)
      omega
theorem pz_sm_zero {g : Nat → Nat} (n : Nat) (h : ∀ a, a < n → g a = 0) : pz_sm n g = 0 := by
  rw [pz_sm_eq (h := fun _ => 0) n h, pz_sm_const, Nat.mul_zero]
theorem pz_count {n : Nat} {u v z : Nat → Nat} (H : ∀ a, a < n → u a + v a ≤ 1 + z a) : pz_sm n u + pz_sm n v ≤ n + pz_sm n z := by
  have h := pz_sm_le (g := fun a => u a + v a) (h := fun a => 1 + z a) n H
  rw [pz_sm_add, pz_sm_add (fun _ => 1), pz_sm_const] at h
  omega
theorem pz_count2 {n : Nat} {u v z : Nat → Nat} (H : ∀ a, a < n → u a + v a ≤ z a) : pz_sm n u + pz_sm n v ≤ pz_sm n z := by
  have h := pz_sm_le (g := fun a => u a + v a) (h := z) n H
  rw [pz_sm_add] at h
  exact h

abbrev pz_P : Type := Nat → Nat → Nat → Nat
/-- of a round: its coordinator, 0 or 1 -/
def pz_ci (r : Nat) : Nat := if (r + 1) / 2 % 2 = 1 then 0 else 1
theorem pz_ci_lt (r : Nat) : pz_ci r < 2 := by unfold pz_ci; split <;> omega
theorem pz_ci_succ {r : Nat} (h : r % 2 = 1) : pz_ci (r + 1) = pz_ci r := by
  unfold pz_ci
  have e : (r + 1 + 1) / 2 = (r + 1) / 2 := by omega
  rw [e]
/-- of a round: how many votes choose -/
def pz_en (q f r : Nat) : Nat := if r % 2 = 1 then f else q
/-- the sizes -/
def pz_Q (n q f : Nat) : Prop := 3 ≤ n ∧ n ≤ 5 ∧ 1 ≤ q ∧ q ≤ n ∧ 1 ≤ f ∧ f ≤ n ∧ n < 2 * q ∧ 2 * n < q + 2 * f
theorem pz_en_pos {n q f : Nat} (Q : pz_Q n q f) (r : Nat) : 0 < pz_en q f r := by
  obtain ⟨q1, q2, q3, q4, q5, q6, q7, q8⟩ := Q
  unfold pz_en; split <;> omega
theorem pz_en_two {n q f : Nat} (Q : pz_Q n q f) (r : Nat) : n < 2 * pz_en q f r := by
  obtain ⟨q1, q2, q3, q4, q5, q6, q7, q8⟩ := Q
  unfold pz_en; split <;> omega
theorem pz_en_q {n q f : Nat} (Q : pz_Q n q f) (r : Nat) : n < q + pz_en q f r := by
  obtain ⟨q1, q2, q3, q4, q5, q6, q7, q8⟩ := Q
  unfold pz_en; split <;> omega
/-- who has voted for w in r, or still can -/
def pz_cc (p : pz_P) (n r w : Nat) : Nat := pz_sm n (fun a => if p 5 r a = w ∨ (p 5 r a = 0 ∧ p 0 a 0 ≤ r) then 1 else 0)
def pz_cv (p : pz_P) (n r w : Nat) : Nat := pz_sm n (fun a => if p 5 r a = w then 1 else 0)
theorem pz_cv_le (p : pz_P) (n r w : Nat) : pz_cv p n r w ≤ pz_cc p n r w := by
  unfold pz_cv pz_cc
  refine pz_sm_le n (fun a _ => ?_)
  by_cases h : p 5 r a = w
  · rw [if_pos h, if_pos (Or.inl h)]; exact Nat.le_refl 1
  · rw [if_neg h]; exact Nat.zero_le _
/-- w can't be chosen in r any more -/
def pz_ND (n q f : Nat) (p : pz_P) (r w : Nat) : Prop := pz_cc p n r w < pz_en q f r
/-- what a promise for r says of a's votes -/
def pz_PF (p : pz_P) (r a v k : Nat) : Prop := r ≤ p 0 a 0 ∧ k < r ∧ (∀ x, x < r → p 5 x a ≠ 0 → x ≤ k) ∧ ((k = 0 ∧ v = 0) ∨ (0 < k ∧ p 5 k a = v ∧ v ≠ 0))
/-- time goes on: rounds don't fall, votes stay, and what was asked for stays -/
def pz_St (n : Nat) (p p' : pz_P) : Prop := (∀ a, a < n → p 0 a 0 ≤ p' 0 a 0) ∧ (∀ r a, a < n → p' 5 r a = p 5 r a ∨ (p 5 r a = 0 ∧ p 0 a 0 ≤ r)) ∧ ∀ r, p 17 r 0 ≠ 0 → p' 17 r 0 = p 17 r 0
theorem pz_St_same {n : Nat} {p p' : pz_P} (h0 : ∀ a, p' 0 a 0 = p 0 a 0) (h5 : ∀ r a, p' 5 r a = p 5 r a) (h17 : ∀ r, p 17 r 0 ≠ 0 → p' 17 r 0 = p 17 r 0) : pz_St n p p' :=
  ⟨fun a _ => Nat.le_of_eq (h0 a).symm, fun r a _ => Or.inl (h5 r a), h17⟩
theorem pz_ND_st {n q f : Nat} {p p' : pz_P} (h : pz_St n p p') {x w : Nat} (k : pz_ND n q f p x w) : pz_ND n q f p' x w := by
  unfold pz_ND at k ⊢
  refine Nat.lt_of_le_of_lt ?_ k
  unfold pz_cc
  refine pz_sm_le n (fun a ha => ?_)
  have h0 := h.1 a ha
  by_cases c' : p' 5 x a = w ∨ (p' 5 x a = 0 ∧ p' 0 a 0 ≤ x)
  · have c : p 5 x a = w ∨ (p 5 x a = 0 ∧ p 0 a 0 ≤ x) := by
      rcases h.2.1 x a ha with e | ⟨e1, e2⟩
      · rw [e] at c'
        rcases c' with c' | ⟨c1, c2⟩
        · exact Or.inl c'
        · exact Or.inr ⟨c1, by omega⟩
      · exact Or.inr ⟨e1, e2⟩
    rw [if_pos c', if_pos c]; exact Nat.le_refl 1
  · rw [if_neg c']; exact Nat.zero_le _
theorem pz_vd_st {n : Nat} {p p' : pz_P} (h : pz_St n p p') {r a v : Nat} (ha : a < n) (e : p 5 r a = v) (hv : v ≠ 0) : p' 5 r a = v := by
  rcases h.2.1 r a ha with e1 | ⟨e1, -⟩
  · rw [e1]; exact e
  · exact absurd (e.symm.trans e1) hv
theorem pz_PF_st {n : Nat} {p p' : pz_P} (h : pz_St n p p') {r a v k : Nat} (ha : a < n) (g : pz_PF p r a v k) : pz_PF p' r a v k := by
  obtain ⟨h1, h2, h3, h4⟩ := g
  refine ⟨Nat.le_trans h1 (h.1 a ha), h2, fun x hx hne => ?_, ?_⟩
  · rcases h.2.1 x a ha with e | ⟨e1, e2⟩
    · exact h3 x hx (by rw [← e]; exact hne)
    · omega
  · rcases h4 with h4 | ⟨g1, g2, g3⟩
    · exact Or.inl h4
    · exact Or.inr ⟨g1, pz_vd_st h ha g2 g3, g3⟩
theorem pz_PF_eq {p : pz_P} {r a v k v' k' : Nat} (h1 : pz_PF p r a v k) (h2 : pz_PF p r a v' k') : v = v' ∧ k = k' := by
  obtain ⟨-, b1, c1, d1⟩ := h1
  obtain ⟨-, b2, c2, d2⟩ := h2
  rcases d1 with ⟨x1, y1⟩ | ⟨x1, y1, z1⟩ <;> rcases d2 with ⟨x2, y2⟩ | ⟨x2, y2, z2⟩
  · exact ⟨by omega, by omega⟩
  · have := c1 k' b2 (by rw [y2]; exact z2)
    omega
  · have := c2 k b1 (by rw [y1]; exact z1)
    omega
  · have e1 := c2 k b1 (by rw [y1]; exact z1)
    have e2 := c1 k' b2 (by rw [y2]; exact z2)
    have e : k = k' := by omega
    subst e
    exact ⟨y1.symm.trans y2, rfl⟩

/-- the acceptors' votes -/
def pz_A (n : Nat) (p : pz_P) : Prop := ∀ a, a < n → p 2 a 0 ≤ p 0 a 0 ∧ p 0 a 0 ≤ 12 ∧ (∀ r, p 5 r a ≠ 0 → 1 ≤ r ∧ r ≤ p 2 a 0 ∧ p 5 r a ≤ 1000) ∧ ((p 2 a 0 = 0 ∧ p 1 a 0 = 0) ∨ (0 < p 2 a 0 ∧ p 5 (p 2 a 0) a = p 1 a 0 ∧ p 1 a 0 ≠ 0))
/-- where an acceptor may vote for what it hears first -/
def pz_O (n : Nat) (p : pz_P) : Prop := ∀ a, a < n → p 4 a 0 ≤ p 0 a 0 ∧ p 3 a 0 ≤ 1000 ∧ (0 < p 0 a 0 → p 4 a 0 = p 0 a 0 → p 17 (p 0 a 0) 0 = 1 ∧ (p 3 a 0 ≠ 0 → p 2 a 0 = p 0 a 0))
/-- what was asked for in a round: 0 nothing, 1 any, v + 1 the value v -/
def pz_G1 (p : pz_P) : Prop := ∀ r, p 17 r 0 ≠ 0 → 1 ≤ r ∧ r ≤ 12 ∧ r ≤ p 8 (pz_ci r) 0 ∧ (p 8 (pz_ci r) 0 = r → p 9 (pz_ci r) 0 = 3) ∧ p 17 r 0 ≤ 1001 ∧ (p 17 r 0 = 1 → r % 2 = 1)
def pz_G2 (n : Nat) (p : pz_P) : Prop := ∀ r a, a < n → p 5 r a ≠ 0 → p 17 r 0 = 1 ∨ p 17 r 0 = p 5 r a + 1
def pz_G3 (n q f : Nat) (p : pz_P) : Prop := ∀ x r w, p 17 r 0 ≠ 0 → 1 ≤ x → x < r → w ≠ 0 → p 17 r 0 ≠ w + 1 → pz_ND n q f p x w
/-- a coordinator -/
def pz_Cc (n q f : Nat) (p : pz_P) (c : Nat) : Prop := p 8 c 0 ≤ 12 ∧ p 9 c 0 ≤ 3 ∧ p 10 c 0 ≤ 1000 ∧ (p 9 c 0 ≠ 0 → 1 ≤ p 8 c 0 ∧ pz_ci (p 8 c 0) = c) ∧ (∀ a, p 11 c a ≤ 1) ∧
  (p 9 c 0 = 1 → pz_sm n (fun a => p 11 c a) < q ∧ ∀ a, a < n → p 11 c a ≠ 0 → pz_PF p (p 8 c 0) a (p 12 c a) (p 13 c a)) ∧
  (p 9 c 0 = 2 → p 10 c 0 = 0 ∧ p 8 c 0 % 2 = 0 ∧ (∀ a, p 11 c a = 0) ∧ ∀ x w, 1 ≤ x → x < p 8 c 0 → w ≠ 0 → pz_ND n q f p x w) ∧
  (p 9 c 0 = 3 → p 17 (p 8 c 0) 0 ≠ 0 ∧ ∀ a, a < n → p 11 c a ≠ 0 → p 13 c a = p 8 c 0 ∧ p 5 (p 8 c 0) a = p 12 c a ∧ p 12 c a ≠ 0)
/-- no acceptor but the n -/
def pz_Z (n : Nat) (p : pz_P) : Prop := (∀ r a, n ≤ a → p 5 r a = 0 ∧ p 6 r a = 0) ∧ (∀ r a, p 6 r a ≤ 1000) ∧ p 7 0 0 ≤ 1000 ∧ p 16 0 0 ≤ 1000
/-- the first value that was chosen -/
def pz_S (n q f : Nat) (p : pz_P) : Prop := (p 16 0 0 = 0 ∧ ∀ r w, w ≠ 0 → pz_cv p n r w < pz_en q f r) ∨ (p 16 0 0 ≠ 0 ∧ ∃ r, pz_en q f r ≤ pz_cv p n r (p 16 0 0))
def pz_IV (n q f : Nat) (p : pz_P) : Prop := pz_A n p ∧ pz_O n p ∧ pz_G1 p ∧ pz_G2 n p ∧ pz_G3 n q f p ∧ (∀ c, c < 2 → pz_Cc n q f p c) ∧ pz_Z n p ∧ pz_S n q f p

theorem pz_Cc_st {n q f : Nat} {p p' : pz_P} (h : pz_St n p p') {c : Nat} (hk : ∀ k y, 8 ≤ k → k ≤ 13 → p' k c y = p k c y) (C : pz_Cc n q f p c) : pz_Cc n q f p' c := by
  obtain ⟨c1, c2, c3, c4, c5, c6, c7, c8⟩ := C
  have e8 := hk 8 0 (by omega) (by omega)
  have e9 := hk 9 0 (by omega) (by omega)
  have e10 := hk 10 0 (by omega) (by omega)
  have e11 : ∀ a, p' 11 c a = p 11 c a := fun a => hk 11 a (by omega) (by omega)
  have e12 : ∀ a, p' 12 c a = p 12 c a := fun a => hk 12 a (by omega) (by omega)
  have e13 : ∀ a, p' 13 c a = p 13 c a := fun a => hk 13 a (by omega) (by omega)
  unfold pz_Cc
  simp only [e8, e9, e10, e11, e12, e13]
  refine ⟨c1, c2, c3, c4, c5, fun z => ⟨(c6 z).1, fun a ha t => pz_PF_st h ha ((c6 z).2 a ha t)⟩, fun z => ?_, fun z => ?_⟩
  · obtain ⟨d1, d2, d3, d4⟩ := c7 z
    exact ⟨d1, d2, d3, fun x w hx hr hw => pz_ND_st h (d4 x w hx hr hw)⟩
  · obtain ⟨d1, d2⟩ := c8 z
    refine ⟨by rw [h.2.2 _ d1]; exact d1, fun a ha t => ?_⟩
    obtain ⟨g1, g2, g3⟩ := d2 a ha t
    exact ⟨g1, pz_vd_st h ha g2 g3, g3⟩
theorem pz_G3_st {n q f : Nat} {p p' : pz_P} (h : pz_St n p p') (h17 : ∀ r, p' 17 r 0 = p 17 r 0) (G : pz_G3 n q f p) : pz_G3 n q f p' := by
  intro x r w h1 h2 h3 h4 h5
  rw [h17] at h1 h5
  exact pz_ND_st h (G x r w h1 h2 h3 h4 h5)
/-- no two values are chosen -/
theorem pz_uniq_lt {n q f : Nat} {p : pz_P} (Q : pz_Q n q f) (I : pz_IV n q f p) {x y v w : Nat} (hxy : x < y) (hv : v ≠ 0) (hw : w ≠ 0) (h1 : pz_en q f x ≤ pz_cv p n x v) (h2 : pz_en q f y ≤ pz_cv p n y w) : v = w := by
  obtain ⟨A, -, -, G2, G3, -, -, -⟩ := I
  have p1 := pz_en_pos Q x
  have p2 := pz_en_pos Q y
  obtain ⟨a, ha, ea⟩ := pz_sm_pos n (Nat.lt_of_lt_of_le p1 h1)
  obtain ⟨b, hb, eb⟩ := pz_sm_pos n (Nat.lt_of_lt_of_le p2 h2)
  have ea : p 5 x a = v := by
    by_cases z : p 5 x a = v
    · exact z
    · rw [if_neg z] at ea; exact absurd ea (Nat.lt_irrefl 0)
  have eb : p 5 y b = w := by
    by_cases z : p 5 y b = w
    · exact z
    · rw [if_neg z] at eb; exact absurd eb (Nat.lt_irrefl 0)
  have hx1 := ((A a ha).2.2.1 x (by rw [ea]; exact hv)).1
  by_cases e : v = w
  · exact e
  · have g := G2 y b hb (by rw [eb]; exact hw)
    rw [eb] at g
    have nd : pz_ND n q f p x v := G3 x y v (by omega) hx1 hxy hv (by omega)
    have := pz_cv_le p n x v
    unfold pz_ND at nd
    omega
theorem pz_uniq {n q f : Nat} {p : pz_P} (Q : pz_Q n q f) (I : pz_IV n q f p) {x y v w : Nat} (hv : v ≠ 0) (hw : w ≠ 0) (h1 : pz_en q f x ≤ pz_cv p n x v) (h2 : pz_en q f y ≤ pz_cv p n y w) : v = w := by
  rcases Nat.lt_trichotomy x y with h | h | h
  · exact pz_uniq_lt Q I h hv hw h1 h2
  · subst h
    by_cases e : v = w
    · exact e
    · have k : pz_cv p n x v + pz_cv p n x w ≤ pz_sm n (fun _ => 1) := by
        unfold pz_cv
        refine pz_count2 (fun a _ => ?_)
        by_cases e1 : p 5 x a = v
        · rw [if_pos e1, if_neg (fun z => e (e1.symm.trans z))]; exact Nat.le_refl 1
        · rw [if_neg e1]; split <;> omega
      rw [pz_sm_const] at k
      have := pz_en_two Q x
      omega
  · exact (pz_uniq_lt Q I h hw hv h2 h1).symm
theorem pz_Z_st {n : Nat} {p p' : pz_P} (Z : pz_Z n p) (h5 : ∀ r a, n ≤ a → p' 5 r a = p 5 r a) (h6 : ∀ r a, p' 6 r a = p 6 r a) (h7 : p' 7 0 0 = p 7 0 0) (h16 : p' 16 0 0 ≤ 1000) : pz_Z n p' := by
  refine ⟨fun r a ha => ?_, fun r a => ?_, ?_, h16⟩
  · rw [h5 r a ha, h6]; exact Z.1 r a ha
  · rw [h6]; exact Z.2.1 r a
  · rw [h7]; exact Z.2.2.1
end
section
/-! Pure part 2: what an acceptor's and a coordinator's steps keep. -/
def pz_u (p : pz_P) (k x y v : Nat) : pz_P := fun k' x' y' => if k' = k ∧ x' = x ∧ y' = y then v else p k' x' y'
theorem pz_u_s (p : pz_P) (k x y v : Nat) : pz_u p k x y v k x y = v := by simp [pz_u]
theorem pz_u_k {p : pz_P} {k x y v k' x' y' : Nat} (h : k' ≠ k) : pz_u p k x y v k' x' y' = p k' x' y' := by simp [pz_u, h]
theorem pz_u_x {p : pz_P} {k x y v k' x' y' : Nat} (h : x' ≠ x) : pz_u p k x y v k' x' y' = p k' x' y' := by simp [pz_u, h]
theorem pz_u_y {p : pz_P} {k x y v k' x' y' : Nat} (h : y' ≠ y) : pz_u p k x y v k' x' y' = p k' x' y' := by simp [pz_u, h]
/-- an acceptor's step without a vote -/
theorem pz_acc0 {n q f : Nat} {p p' : pz_P} {b : Nat} (I : pz_IV n q f p) (hk : ∀ k x y, 5 ≤ k → p' k x y = p k x y) (ho : ∀ k a, k ≤ 4 → a ≠ b → p' k a 0 = p k a 0)
    (h1 : p' 1 b 0 = p 1 b 0) (h2 : p' 2 b 0 = p 2 b 0) (h0 : p 0 b 0 ≤ p' 0 b 0) (h12 : p' 0 b 0 ≤ 12)
    (hO : p' 4 b 0 ≤ p' 0 b 0 ∧ p' 3 b 0 ≤ 1000 ∧ (0 < p' 0 b 0 → p' 4 b 0 = p' 0 b 0 → p 17 (p' 0 b 0) 0 = 1 ∧ (p' 3 b 0 ≠ 0 → p 2 b 0 = p' 0 b 0))) : pz_IV n q f p' ∧ pz_St n p p' := by
  obtain ⟨A, O, G1, G2, G3, C, Z, S⟩ := I
  have e5 : ∀ r a, p' 5 r a = p 5 r a := fun r a => hk 5 r a (by omega)
  have e17 : ∀ r, p' 17 r 0 = p 17 r 0 := fun r => hk 17 r 0 (by omega)
  have st : pz_St n p p' := by
    refine ⟨fun a _ => ?_, fun r a _ => Or.inl (e5 r a), fun r _ => e17 r⟩
    by_cases e : a = b
    · subst e; exact h0
    · rw [ho 0 a (by omega) e]; exact Nat.le_refl _
  refine ⟨⟨?_, ?_, ?_, ?_, pz_G3_st st e17 G3, fun c hc => pz_Cc_st st (fun k y _ _ => hk k c y (by omega)) (C c hc), ?_, ?_⟩, st⟩
  · intro a ha
    obtain ⟨a1, a2, a3, a4⟩ := A a ha
    by_cases e : a = b
    · subst e
      rw [h1, h2]
      refine ⟨by omega, h12, fun r hr => ?_, ?_⟩
      · rw [e5] at hr ⊢; exact a3 r hr
      · rw [e5]; exact a4
    · rw [ho 0 a (by omega) e, ho 1 a (by omega) e, ho 2 a (by omega) e]
      refine ⟨a1, a2, fun r hr => ?_, ?_⟩
      · rw [e5] at hr ⊢; exact a3 r hr
      · rw [e5]; exact a4
  · intro a ha
    by_cases e : a = b
    · subst e
      rw [h2, e17]
      exact hO
    · rw [ho 0 a (by omega) e, ho 2 a (by omega) e, ho 3 a (by omega) e, ho 4 a (by omega) e, e17]
      exact O a ha
  · intro r hr
    rw [e17] at hr
    rw [e17, hk 8 _ 0 (by omega), hk 9 _ 0 (by omega)]
    exact G1 r hr
  · intro r a ha hr
    rw [e5] at hr
    rw [e5, e17]
    exact G2 r a ha hr
  · exact pz_Z_st Z (fun r a _ => e5 r a) (fun r a => hk 6 r a (by omega)) (hk 7 0 0 (by omega)) (by rw [hk 16 0 0 (by omega)]; exact Z.2.2.2)
  · have ec : ∀ r w, pz_cv p' n r w = pz_cv p n r w := fun r w => by unfold pz_cv; simp only [e5]
    unfold pz_S
    rw [hk 16 0 0 (by omega)]
    simp only [ec]
    exact S
/-- an acceptor votes -/
theorem pz_acc1 {n q f : Nat} {p p' : pz_P} {b r v : Nat} (Q : pz_Q n q f) (hb : b < n) (I : pz_IV n q f p) (hk : ∀ k x y, 6 ≤ k → k ≠ 16 → p' k x y = p k x y) (ho : ∀ k a, k ≤ 4 → a ≠ b → p' k a 0 = p k a 0)
    (h5 : ∀ x a, ¬ (x = r ∧ a = b) → p' 5 x a = p 5 x a) (h5' : p' 5 r b = v) (h1 : p' 1 b 0 = v) (h2 : p' 2 b 0 = r) (h0 : p' 0 b 0 = r) (hr0 : p 0 b 0 ≤ r) (hr12 : r ≤ 12) (hr2 : p 2 b 0 < r) (hv : v ≠ 0) (hv2 : v ≤ 1000)
    (hg : p 17 r 0 = 1 ∨ p 17 r 0 = v + 1) (hO4 : p' 4 b 0 ≤ r) (hO3 : p' 3 b 0 ≤ 1000) (hO : p' 4 b 0 = r → p 17 r 0 = 1)
    (hS : p' 16 0 0 = if p 16 0 0 = 0 ∧ pz_en q f r ≤ pz_cv p' n r v then v else p 16 0 0) : pz_IV n q f p' ∧ pz_St n p p' := by
  obtain ⟨A, O, G1, G2, G3, C, Z, S⟩ := I
  have e17 : ∀ r, p' 17 r 0 = p 17 r 0 := fun r => hk 17 r 0 (by omega) (by omega)
  have old : p 5 r b = 0 := by
    by_cases z : p 5 r b = 0
    · exact z
    · have := ((A b hb).2.2.1 r z).2.1
      omega
  have st : pz_St n p p' := by
    refine ⟨fun a _ => ?_, fun x a _ => ?_, fun r _ => e17 r⟩
    · by_cases e : a = b
      · subst e; omega
      · rw [ho 0 a (by omega) e]; exact Nat.le_refl _
    · by_cases e : x = r ∧ a = b
      · obtain ⟨rfl, rfl⟩ := e
        exact Or.inr ⟨old, hr0⟩
      · exact Or.inl (h5 x a e)
  refine ⟨⟨?_, ?_, ?_, ?_, pz_G3_st st e17 G3, fun c hc => pz_Cc_st st (fun k y _ _ => hk k c y (by omega) (by omega)) (C c hc), ?_, ?_⟩, st⟩
  · intro a ha
    obtain ⟨a1, a2, a3, a4⟩ := A a ha
    by_cases e : a = b
    · subst e
      rw [h1, h2, h0]
      refine ⟨Nat.le_refl _, hr12, fun x hx => ?_, Or.inr ⟨by omega, h5', hv⟩⟩
      by_cases ex : x = r
      · subst ex
        rw [h5']
        exact ⟨by omega, Nat.le_refl _, hv2⟩
      · rw [h5 x a (fun z => ex z.1)] at hx ⊢
        obtain ⟨b1, b2, b3⟩ := a3 x hx
        exact ⟨b1, by omega, b3⟩
    · have e5 : ∀ x, p' 5 x a = p 5 x a := fun x => h5 x a (fun z => e z.2)
      rw [ho 0 a (by omega) e, ho 1 a (by omega) e, ho 2 a (by omega) e]
      refine ⟨a1, a2, fun x hx => ?_, ?_⟩
      · rw [e5] at hx ⊢; exact a3 x hx
      · rw [e5]; exact a4
  · intro a ha
    by_cases e : a = b
    · subst e
      rw [h2, h0, e17]
      exact ⟨hO4, hO3, fun _ z => ⟨hO z, fun _ => rfl⟩⟩
    · rw [ho 0 a (by omega) e, ho 2 a (by omega) e, ho 3 a (by omega) e, ho 4 a (by omega) e, e17]
      exact O a ha
  · intro x hx
    rw [e17] at hx
    rw [e17, hk 8 _ 0 (by omega) (by omega), hk 9 _ 0 (by omega) (by omega)]
    exact G1 x hx
  · intro x a ha hx
    rw [e17]
    by_cases e : x = r ∧ a = b
    · obtain ⟨rfl, rfl⟩ := e
      rw [h5']
      exact hg
    · rw [h5 x a e] at hx ⊢
      exact G2 x a ha hx
  · refine pz_Z_st Z (fun x a ha => h5 x a (fun z => by omega)) (fun x a => hk 6 x a (by omega) (by omega)) (hk 7 0 0 (by omega) (by omega)) ?_
    rw [hS]
    have := Z.2.2.2
    split <;> omega
  · rcases S with ⟨s1, s2⟩ | ⟨s1, x, s2⟩
    · by_cases z : pz_en q f r ≤ pz_cv p' n r v
      · rw [if_pos ⟨s1, z⟩] at hS
        exact Or.inr ⟨by rw [hS]; exact hv, r, by rw [hS]; exact z⟩
      · rw [if_neg (fun y => z y.2), s1] at hS
        refine Or.inl ⟨hS, fun x w hw => ?_⟩
        by_cases e : x = r ∧ w = v
        · obtain ⟨rfl, rfl⟩ := e
          omega
        · refine Nat.lt_of_le_of_lt ?_ (s2 x w hw)
          unfold pz_cv
          refine pz_sm_le n (fun a _ => ?_)
          by_cases ea : x = r ∧ a = b
          · obtain ⟨rfl, rfl⟩ := ea
            rw [h5', if_neg (fun y => e ⟨rfl, y.symm⟩)]
            exact Nat.zero_le _
          · rw [h5 x a ea]; exact Nat.le_refl _
    · rw [if_neg (fun y => s1 y.1)] at hS
      refine Or.inr ⟨by rw [hS]; exact s1, x, Nat.le_trans s2 ?_⟩
      rw [hS]
      unfold pz_cv
      refine pz_sm_le n (fun a ha => ?_)
      by_cases ea : p 5 x a = p 16 0 0
      · rw [if_pos ea, if_pos (pz_vd_st st ha ea s1)]; exact Nat.le_refl _
      · rw [if_neg ea]; exact Nat.zero_le _
/-- a coordinator's step that asks for nothing -/
theorem pz_cor0 {n q f : Nat} {p p' : pz_P} {c : Nat} (I : pz_IV n q f p) (hk : ∀ k x y, k ≤ 7 ∨ 14 ≤ k → p' k x y = p k x y) (ho : ∀ k d y, 8 ≤ k → k ≤ 13 → d ≠ c → p' k d y = p k d y)
    (hG : ∀ r, p 17 r 0 ≠ 0 → pz_ci r = c → r ≤ p' 8 c 0 ∧ (p' 8 c 0 = r → p' 9 c 0 = 3)) (hC : pz_St n p p' → pz_Cc n q f p' c) : pz_IV n q f p' ∧ pz_St n p p' := by
  obtain ⟨A, O, G1, G2, G3, C, Z, S⟩ := I
  have e17 : ∀ r, p' 17 r 0 = p 17 r 0 := fun r => hk 17 r 0 (by omega)
  have e5 : ∀ r a, p' 5 r a = p 5 r a := fun r a => hk 5 r a (by omega)
  have st : pz_St n p p' := pz_St_same (fun a => hk 0 a 0 (by omega)) e5 (fun r _ => e17 r)
  refine ⟨⟨?_, ?_, ?_, ?_, pz_G3_st st e17 G3, fun d hd => ?_, ?_, ?_⟩, st⟩
  · intro a ha
    rw [hk 0 a 0 (by omega), hk 1 a 0 (by omega), hk 2 a 0 (by omega)]
    simp only [e5]
    exact A a ha
  · intro a ha
    rw [hk 0 a 0 (by omega), hk 2 a 0 (by omega), hk 3 a 0 (by omega), hk 4 a 0 (by omega), e17]
    exact O a ha
  · intro r hr
    rw [e17] at hr
    obtain ⟨g1, g2, g3, g4, g5, g6⟩ := G1 r hr
    rw [e17]
    by_cases e : pz_ci r = c
    · rw [e]
      obtain ⟨k1, k2⟩ := hG r hr e
      exact ⟨g1, g2, k1, k2, g5, g6⟩
    · rw [ho 8 _ 0 (by omega) (by omega) e, ho 9 _ 0 (by omega) (by omega) e]
      exact ⟨g1, g2, g3, g4, g5, g6⟩
  · intro r a ha hr
    rw [e5] at hr
    rw [e5, e17]
    exact G2 r a ha hr
  · by_cases e : d = c
    · subst e; exact hC st
    · exact pz_Cc_st st (fun k y h8 h13 => ho k d y h8 h13 e) (C d hd)
  · exact pz_Z_st Z (fun r a _ => e5 r a) (fun r a => hk 6 r a (by omega)) (hk 7 0 0 (by omega)) (by rw [hk 16 0 0 (by omega)]; exact Z.2.2.2)
  · have ec : ∀ r w, pz_cv p' n r w = pz_cv p n r w := fun r w => by unfold pz_cv; simp only [e5]
    unfold pz_S
    rw [hk 16 0 0 (by omega)]
    simp only [ec]
    exact S
/-- a coordinator asks for x in its round R -/
theorem pz_cor1 {n q f : Nat} {p p' : pz_P} {c R x : Nat} (I : pz_IV n q f p) (hk : ∀ k x y, k ≤ 7 ∨ k = 16 → p' k x y = p k x y) (ho : ∀ k d y, 8 ≤ k → k ≤ 13 → d ≠ c → p' k d y = p k d y)
    (h17 : ∀ r, r ≠ R → p' 17 r 0 = p 17 r 0) (h17R : p 17 R 0 = 0) (h17x : p' 17 R 0 = x + 1) (hx : x ≤ 1000) (hx0 : x = 0 → R % 2 = 1) (hR1 : 1 ≤ R) (hR2 : R ≤ 12) (hRc : pz_ci R = c) (h8 : p' 8 c 0 = R) (h9 : p' 9 c 0 = 3) (h8p : p 8 c 0 ≤ R)
    (hND : ∀ y w, 1 ≤ y → y < R → w ≠ 0 → w ≠ x → pz_ND n q f p y w) (hC : pz_St n p p' → pz_Cc n q f p' c) : pz_IV n q f p' ∧ pz_St n p p' := by
  obtain ⟨A, O, G1, G2, G3, C, Z, S⟩ := I
  have e5 : ∀ r a, p' 5 r a = p 5 r a := fun r a => hk 5 r a (by omega)
  have n17 : ∀ r, p 17 r 0 ≠ 0 → p' 17 r 0 = p 17 r 0 := fun r hr => h17 r (fun z => hr (by rw [z]; exact h17R))
  have st : pz_St n p p' := pz_St_same (fun a => hk 0 a 0 (by omega)) e5 n17
  refine ⟨⟨?_, ?_, ?_, ?_, ?_, fun d hd => ?_, ?_, ?_⟩, st⟩
  · intro a ha
    rw [hk 0 a 0 (by omega), hk 1 a 0 (by omega), hk 2 a 0 (by omega)]
    simp only [e5]
    exact A a ha
  · intro a ha
    rw [hk 0 a 0 (by omega), hk 2 a 0 (by omega), hk 3 a 0 (by omega), hk 4 a 0 (by omega)]
    obtain ⟨o1, o2, o3⟩ := O a ha
    refine ⟨o1, o2, fun z1 z2 => ?_⟩
    obtain ⟨o4, o5⟩ := o3 z1 z2
    exact ⟨by rw [n17 _ (by omega)]; exact o4, o5⟩
  · intro r hr
    by_cases eR : r = R
    · subst eR
      rw [h17x, hRc, h8, h9]
      exact ⟨hR1, hR2, Nat.le_refl _, fun _ => rfl, by omega, fun z => hx0 (by omega)⟩
    · rw [h17 r eR] at hr ⊢
      obtain ⟨g1, g2, g3, g4, g5, g6⟩ := G1 r hr
      by_cases e : pz_ci r = c
      · rw [e, h8, h9]
        rw [e] at g3
        exact ⟨g1, g2, by omega, fun _ => rfl, g5, g6⟩
      · rw [ho 8 _ 0 (by omega) (by omega) e, ho 9 _ 0 (by omega) (by omega) e]
        exact ⟨g1, g2, g3, g4, g5, g6⟩
  · intro r a ha hr
    rw [e5] at hr ⊢
    have g := G2 r a ha hr
    rw [n17 r (by omega)]
    exact g
  · intro y r w h1 h2 h3 h4 h5
    by_cases eR : r = R
    · subst eR
      rw [h17x] at h5
      exact pz_ND_st st (hND y w h2 h3 h4 (by omega))
    · rw [h17 r eR] at h1 h5
      exact pz_ND_st st (G3 y r w h1 h2 h3 h4 h5)
  · by_cases e : d = c
    · subst e; exact hC st
    · exact pz_Cc_st st (fun k y h8 h13 => ho k d y h8 h13 e) (C d hd)
  · exact pz_Z_st Z (fun r a _ => e5 r a) (fun r a => hk 6 r a (by omega)) (hk 7 0 0 (by omega)) (by rw [hk 16 0 0 (by omega)]; exact Z.2.2.2)
  · have ec : ∀ r w, pz_cv p' n r w = pz_cv p n r w := fun r w => by unfold pz_cv; simp only [e5]
    unfold pz_S
    rw [hk 16 0 0 (by omega)]
    simp only [ec]
    exact S
/-- what a quorum of promises for r says of the rounds before it -/
theorem pz_told {n q f : Nat} {p : pz_P} {r y w : Nat} {t v k : Nat → Nat} (ht : ∀ a, a < n → t a ≤ 1) (hF : ∀ a, a < n → t a ≠ 0 → pz_PF p r a (v a) (k a)) (hy : y < r) :
    pz_cc p n y w + pz_sm n t ≤ n + pz_sm n (fun a => if t a ≠ 0 ∧ p 5 y a = w then 1 else 0) := by
  unfold pz_cc
  refine pz_count (fun a ha => ?_)
  have h1 := ht a ha
  by_cases z : t a ≠ 0
  · have h2 := (hF a ha z).1
    by_cases e : p 5 y a = w
    · rw [if_pos (Or.inl e), if_pos ⟨z, e⟩]; omega
    · rw [if_neg (fun d => by rcases d with d | ⟨d1, d2⟩ <;> omega), if_neg (fun d => e d.2)]; omega
  · rw [if_neg (c := t a ≠ 0 ∧ p 5 y a = w) (fun d => z d.1)]
    split <;> omega
def pz_tl (n : Nat) (t v k : Nat → Nat) (K w : Nat) : Nat := pz_sm n (fun a => if t a ≠ 0 ∧ k a = K ∧ v a = w then 1 else 0)
theorem pz_pick {n q f : Nat} {p : pz_P} (Q : pz_Q n q f) (I : pz_IV n q f p) {r K x : Nat} {t v k : Nat → Nat} (ht : ∀ a, a < n → t a ≤ 1) (hT : pz_sm n t = q) (hF : ∀ a, a < n → t a ≠ 0 → pz_PF p r a (v a) (k a)) (hK : ∀ a, a < n → t a ≠ 0 → k a ≤ K)
    (hx : K = 0 ∨ (0 < K ∧ (∃ b, b < n ∧ t b ≠ 0 ∧ k b = K ∧ v b = x) ∧ (K % 2 = 1 → q + f ≤ pz_tl n t v k K x + n ∨ ∀ b, b < n → t b ≠ 0 → k b = K → pz_tl n t v k K (v b) + n < q + f))) :
    ∀ y w, 1 ≤ y → y < r → w ≠ 0 → w ≠ x → pz_ND n q f p y w := by
  obtain ⟨A, -, G1, G2, G3, -, -, -⟩ := I
  intro y w hy1 hy hw hwx
  have base := pz_told (q := q) (f := f) (w := w) ht hF hy
  rw [hT] at base
  have enq := pz_en_q Q y
  have zero : pz_sm n (fun a => if t a ≠ 0 ∧ p 5 y a = w then 1 else 0) = 0 → pz_ND n q f p y w := fun z => by
    rw [z] at base
    unfold pz_ND
    omega
  -- a told vote for w in y
  have seen : ∀ a, a < n → t a ≠ 0 → p 5 y a = w → y ≤ k a := fun a ha h1 h2 => (hF a ha h1).2.2.1 y hy (by rw [h2]; exact hw)
  by_cases hyK : K < y
  · refine zero (pz_sm_zero n (fun a ha => ?_))
    rw [if_neg]
    intro d
    have h1 := seen a ha d.1 d.2
    have h2 := hK a ha d.1
    omega
  · rcases hx with hx | ⟨hK0, ⟨b, hb, hb1, hb2, hb3⟩, hx⟩
    · omega
    · have fb := hF b hb hb1
      have vb : p 5 K b = x ∧ x ≠ 0 := by
        rcases fb.2.2.2 with ⟨d, -⟩ | ⟨-, d1, d2⟩
        · omega
        · rw [hb2, hb3] at d1; rw [hb3] at d2; exact ⟨d1, d2⟩
      have gK := G2 K b hb (by rw [vb.1]; exact vb.2)
      rw [vb.1] at gK
      by_cases hyK2 : y < K
      · exact G3 y K w (by omega) hy1 hyK2 hw (by omega)
      · have e : y = K := by omega
        subst e
        by_cases hodd : y % 2 = 1
        · have hle : pz_sm n (fun a => if t a ≠ 0 ∧ p 5 y a = w then 1 else 0) ≤ pz_tl n t v k y w := by
            unfold pz_tl
            refine pz_sm_le n (fun a ha => ?_)
            by_cases d : t a ≠ 0 ∧ p 5 y a = w
            · have h1 := seen a ha d.1 d.2
              have h2 := hK a ha d.1
              have h3 : k a = y := by omega
              have h4 : v a = w := by
                rcases (hF a ha d.1).2.2.2 with ⟨z, -⟩ | ⟨-, d1, d2⟩
                · omega
                · rw [h3, d.2] at d1; exact d1.symm
              rw [if_pos d, if_pos ⟨d.1, h3, h4⟩]; exact Nat.le_refl _
            · rw [if_neg d]; exact Nat.zero_le _
          have enf : pz_en q f y = f := by unfold pz_en; rw [if_pos hodd]
          have hn1 : q ≤ n := Q.2.2.2.1
          have hn2 : 2 * n < q + 2 * f := Q.2.2.2.2.2.2.2
          unfold pz_ND
          rw [enf]
          rcases hx hodd with h | h
          · have two : pz_tl n t v k y w + pz_tl n t v k y x ≤ pz_sm n t := by
              unfold pz_tl
              refine pz_count2 (fun a ha => ?_)
              have h1 := ht a ha
              by_cases z : t a ≠ 0
              · by_cases z2 : v a = w
                · rw [if_neg (c := t a ≠ 0 ∧ k a = y ∧ v a = x) (fun d => hwx (z2.symm.trans d.2.2))]
                  split <;> omega
                · rw [if_neg (fun d => z2 d.2.2)]
                  split <;> omega
              · rw [if_neg (fun d => z d.1), if_neg (fun d => z d.1)]; exact Nat.zero_le _
            omega
          · by_cases z : pz_tl n t v k y w = 0
            · omega
            · obtain ⟨a, ha, ea⟩ := pz_sm_pos n (Nat.pos_of_ne_zero z)
              have d : t a ≠ 0 ∧ k a = y ∧ v a = w := by
                by_cases d : t a ≠ 0 ∧ k a = y ∧ v a = w
                · exact d
                · rw [if_neg d] at ea; exact absurd ea (Nat.lt_irrefl 0)
              have := h a ha d.1 d.2.1
              rw [d.2.2] at this
              omega
        · have g1 := (G1 y (by omega)).2.2.2.2.2
          refine zero (pz_sm_zero n (fun a ha => ?_))
          rw [if_neg]
          intro d
          have := G2 y a ha (by rw [d.2]; exact hw)
          rw [d.2] at this
          omega
/-- what a quorum of votes of a fast round says, where none can be chosen in it -/
theorem pz_recover {n q f : Nat} {p : pz_P} (I : pz_IV n q f p) {r x B : Nat} {t v : Nat → Nat} (ht : ∀ a, a < n → t a ≤ 1) (hodd : r % 2 = 1) (hF : ∀ a, a < n → t a ≠ 0 → p 5 r a = v a ∧ v a ≠ 0) (hg : p 17 r 0 ≠ 0)
    (hB : ∀ b, b < n → t b ≠ 0 → pz_sm n (fun a => if t a ≠ 0 ∧ v a = v b then 1 else 0) ≤ B) (hf : B + n < f + pz_sm n t) (hx : ∃ b, b < n ∧ t b ≠ 0 ∧ v b = x) :
    ∀ y w, 1 ≤ y → y < r + 1 → w ≠ 0 → w ≠ x → pz_ND n q f p y w := by
  obtain ⟨A, -, G1, G2, G3, -, -, -⟩ := I
  obtain ⟨b, hb, hb1, hb2⟩ := hx
  intro y w hy1 hy hw hwx
  by_cases e : y = r
  · subst e
    have base : pz_cc p n y w + pz_sm n t ≤ n + pz_sm n (fun a => if t a ≠ 0 ∧ v a = w then 1 else 0) := by
      unfold pz_cc
      refine pz_count (fun a ha => ?_)
      have h1 := ht a ha
      by_cases z : t a ≠ 0
      · obtain ⟨h2, h3⟩ := hF a ha z
        rw [h2]
        by_cases ev : v a = w
        · rw [if_pos (Or.inl ev), if_pos ⟨z, ev⟩]; omega
        · rw [if_neg (fun d => by rcases d with d | ⟨d1, d2⟩ <;> omega), if_neg (fun d => ev d.2)]; omega
      · rw [if_neg (c := t a ≠ 0 ∧ v a = w) (fun d => z d.1)]
        split <;> omega
    have le : pz_sm n (fun a => if t a ≠ 0 ∧ v a = w then 1 else 0) ≤ B := by
      by_cases z : pz_sm n (fun a => if t a ≠ 0 ∧ v a = w then 1 else 0) = 0
      · omega
      · obtain ⟨a, ha, ea⟩ := pz_sm_pos n (Nat.pos_of_ne_zero z)
        have d : t a ≠ 0 ∧ v a = w := by
          by_cases d : t a ≠ 0 ∧ v a = w
          · exact d
          · rw [if_neg d] at ea; exact absurd ea (Nat.lt_irrefl 0)
        have := hB a ha d.1
        rw [d.2] at this
        exact this
    unfold pz_ND pz_en
    rw [if_pos hodd]
    omega
  · obtain ⟨h2, h3⟩ := hF b hb hb1
    have g := G2 r b hb (by rw [h2]; exact h3)
    rw [h2, hb2] at g
    exact G3 y r w hg hy1 (by omega) hw (by omega)
end
section
/-! Pure part 3: the whole state (the messages that wait, and what is kept by slot; at 3 what belongs to no slot), its steps, its invariant. -/
abbrev pz_M : Type := Nat → Nat
abbrev pz_T : Type := List pz_M × (Nat → pz_P)
def pz_mg (k s r fr to v o : Nat) : pz_M := fun i => match i with
  | 0 => k
  | 1 => s
  | 2 => r
  | 3 => fr
  | 4 => to
  | 5 => v
  | _ => o
def pz_w (T : Nat → pz_P) (s : Nat) (p : pz_P) : Nat → pz_P := fun s' => if s' = s then p else T s'
theorem pz_w_s (T : Nat → pz_P) (s : Nat) (p : pz_P) : pz_w T s p s = p := by simp [pz_w]
theorem pz_w_n {T : Nat → pz_P} {s s' : Nat} {p : pz_P} (h : s' ≠ s) : pz_w T s p s' = T s' := by simp [pz_w, h]
def pz_pw (S : pz_T) (s : Nat) (p : pz_P) : pz_T := (S.1, pz_w S.2 s p)
def pz_sd (S : pz_T) (g : pz_M) : pz_T := if S.1.length < 60 then (S.1 ++ [g], S.2) else (S.1, pz_w S.2 3 (pz_u (S.2 3) 15 0 0 (S.2 3 15 0 0 + 1)))
def pz_sa (kd s r v : Nat) : Nat → pz_T → pz_T
  | 0, S => S
  | i + 1, S => pz_sd (pz_sa kd s r v i S) (pz_mg kd s r 0 i v 0)
def pz_ld (p : pz_P) (c r h : Nat) : pz_P := fun k x y => if x = c ∧ k = 8 ∧ y = 0 then r else if x = c ∧ k = 9 ∧ y = 0 then h else if x = c ∧ k = 11 then 0 else p k x y
def pz_tll (p : pz_P) (c a v r : Nat) : pz_P := pz_u (pz_u (pz_u p 11 c a 1) 12 c a v) 13 c a r
def pz_mx : Nat → (Nat → Nat) → Nat
  | 0, _ => 0
  | k + 1, g => if pz_mx k g < g k then g k else pz_mx k g
def pz_te (n : Nat) (p : pz_P) (c : Nat) : Nat := pz_sm n (fun a => p 11 c a)
def pz_tf (n : Nat) (p : pz_P) (c r v : Nat) : Nat := pz_sm n (fun a => if p 11 c a ≠ 0 ∧ p 13 c a = r ∧ p 12 c a = v then 1 else 0)
def pz_kk (n : Nat) (p : pz_P) (c : Nat) : Nat := pz_mx n (fun a => if p 11 c a ≠ 0 then p 13 c a else 0)
/-- the least told value of a round -/
def pz_ls (p : pz_P) (c r : Nat) : Nat → Nat
  | 0 => 0
  | k + 1 => if p 11 c k ≠ 0 ∧ p 13 c k = r ∧ (pz_ls p c r k = 0 ∨ p 12 c k < pz_ls p c r k) then p 12 c k else pz_ls p c r k
/-- the last told value that must be kept -/
def pz_hl (n f : Nat) (p : pz_P) (c K : Nat) : Nat → Nat
  | 0 => 0
  | k + 1 => if p 11 c k ≠ 0 ∧ p 13 c k = K ∧ (K % 2 = 0 ∨ pz_te n p c - pz_tf n p c K (p 12 c k) ≤ n - f) then p 12 c k else pz_hl n f p c K k
def pz_pk (n f : Nat) (p : pz_P) (c : Nat) : Nat :=
  if pz_kk n p c = 0 then 0 else if pz_hl n f p c (pz_kk n p c) n ≠ 0 then pz_hl n f p c (pz_kk n p c) n else pz_ls p c (pz_kk n p c) n
def pz_be (n : Nat) (p : pz_P) (c r : Nat) : Nat := pz_mx n (fun a => if p 11 c a ≠ 0 then pz_tf n p c r (p 12 c a) else 0)
def pz_propose (n : Nat) (S : pz_T) (s v : Nat) : pz_T := pz_sd (pz_sd (pz_sa 1 s 0 v n S) (pz_mg 1 s 0 0 8 v 0)) (pz_mg 1 s 0 0 9 v 0)
def pz_begin (n : Nat) (S : pz_T) (s r : Nat) : pz_T := pz_sa 2 s r 0 n (pz_pw S s (pz_ld (S.2 s) (pz_ci r) r 1))
def pz_vf (n : Nat) (S : pz_T) (s c v : Nat) : pz_T := pz_sa 4 s (S.2 s 8 c 0) v n (pz_pw S s (pz_u (pz_u (S.2 s) 9 c 0 3) 17 (S.2 s 8 c 0) 0 (v + 1)))
def pz_go (n f : Nat) (S : pz_T) (s c : Nat) : pz_T :=
  if pz_pk n f (S.2 s) c ≠ 0 then pz_vf n (pz_pw S s (pz_ld (S.2 s) c (S.2 s 8 c 0) 2)) s c (pz_pk n f (S.2 s) c)
  else if S.2 s 8 c 0 % 2 = 1 then pz_vf n (pz_pw S s (pz_ld (S.2 s) c (S.2 s 8 c 0) 2)) s c 0
  else if S.2 s 10 c 0 ≠ 0 then pz_vf n (pz_pw S s (pz_ld (S.2 s) c (S.2 s 8 c 0) 2)) s c (S.2 s 10 c 0)
  else pz_pw S s (pz_ld (S.2 s) c (S.2 s 8 c 0) 2)
def pz_rec (n q f : Nat) (S : pz_T) (s c r : Nat) : pz_T :=
  if pz_te n (S.2 s) c < q ∨ f + pz_te n (S.2 s) c ≤ pz_be n (S.2 s) c r + n then S
  else pz_vf n (pz_pw S s (pz_ld (S.2 s) c (r + 1) 3)) s c (pz_ls (S.2 s) c r n)
def pz_coord (n q f : Nat) (S : pz_T) (s c kd r fr v o : Nat) : pz_T :=
  if kd = 1 then
    if S.2 s 10 c 0 = 0 then
      if S.2 s 9 c 0 = 2 then pz_vf n (pz_pw S s (pz_u (S.2 s) 10 c 0 v)) s c v else pz_pw S s (pz_u (S.2 s) 10 c 0 v)
    else S
  else if kd = 3 then
    if S.2 s 8 c 0 = r ∧ S.2 s 9 c 0 = 1 then
      if pz_te n (pz_tll (S.2 s) c fr v o) c = q then pz_go n f (pz_pw S s (pz_tll (S.2 s) c fr v o)) s c else pz_pw S s (pz_tll (S.2 s) c fr v o)
    else S
  else if kd = 5 ∧ S.2 s 8 c 0 = r ∧ r % 2 = 1 ∧ S.2 s 9 c 0 = 3 then pz_rec n q f (pz_pw S s (pz_tll (S.2 s) c fr v r)) s c r
  else S
def pz_v1 (p : pz_P) (a r v : Nat) : pz_P := pz_u (pz_u (pz_u p 1 a 0 v) 2 a 0 r) 5 r a v
def pz_v2 (n q f : Nat) (p : pz_P) (a r v : Nat) : pz_P := pz_u (pz_v1 p a r v) 16 0 0 (if p 16 0 0 = 0 ∧ pz_en q f r ≤ pz_cv (pz_v1 p a r v) n r v then v else p 16 0 0)
def pz_cast (n q f : Nat) (S : pz_T) (s a r v : Nat) : pz_T := pz_sd (pz_sd (pz_pw S s (pz_v2 n q f (S.2 s) a r v)) (pz_mg 5 s r a (8 + pz_ci r) v 0)) (pz_mg 5 s r a 10 v 0)
def pz_accept (n q f : Nat) (S : pz_T) (s a kd r v : Nat) : pz_T :=
  if kd = 2 then
    if S.2 s 0 a 0 < r then pz_sd (pz_pw S s (pz_u (S.2 s) 0 a 0 r)) (pz_mg 3 s r a (8 + pz_ci r) (S.2 s 1 a 0) (S.2 s 2 a 0)) else S
  else if kd = 4 then
    if S.2 s 0 a 0 ≤ r ∧ S.2 s 2 a 0 < r then
      if v ≠ 0 then pz_cast n q f (pz_pw S s (pz_u (S.2 s) 0 a 0 r)) s a r v
      else if S.2 s 3 a 0 ≠ 0 then pz_cast n q f (pz_pw S s (pz_u (pz_u (S.2 s) 0 a 0 r) 4 a 0 r)) s a r (S.2 s 3 a 0)
      else pz_pw S s (pz_u (pz_u (S.2 s) 0 a 0 r) 4 a 0 r)
    else S
  else if kd = 1 then
    if S.2 s 3 a 0 = 0 then
      if 0 < S.2 s 0 a 0 ∧ S.2 s 4 a 0 = S.2 s 0 a 0 ∧ S.2 s 2 a 0 < S.2 s 0 a 0 then pz_cast n q f (pz_pw S s (pz_u (S.2 s) 3 a 0 v)) s a (S.2 s 0 a 0) v
      else pz_pw S s (pz_u (S.2 s) 3 a 0 v)
    else S
  else S
def pz_hv (p : pz_P) (n r w : Nat) : Nat := pz_sm n (fun a => if p 6 r a = w then 1 else 0)
def pz_l2 (n q f : Nat) (p : pz_P) (r a v : Nat) : pz_P := pz_u (pz_u p 6 r a v) 7 0 0 (if p 7 0 0 = 0 ∧ pz_en q f r ≤ pz_hv (pz_u p 6 r a v) n r v then v else p 7 0 0)
def pz_hear (n q f : Nat) (S : pz_T) (g : pz_M) : pz_T :=
  if S.2 3 14 (g 4) 0 ≠ 0 then S
  else if g 4 < 8 then pz_accept n q f S (g 1) (g 4) (g 0) (g 2) (g 5)
  else if g 4 < 10 then pz_coord n q f S (g 1) (g 4 - 8) (g 0) (g 2) (g 3) (g 5) (g 6)
  else pz_pw S (g 1) (pz_l2 n q f (S.2 (g 1)) (g 2) (g 3) (g 5))
def pz_rm (S : pz_T) (i : Nat) : pz_T := (S.1.eraseIdx i, S.2)
def pz_halt (S : pz_T) (w b : Nat) : pz_T := pz_pw S 3 (pz_u (S.2 3) 14 w 0 b)

/-- what holds of a message that waits -/
def pz_MS (n : Nat) (p : pz_P) (g : pz_M) : Prop :=
  (g 0 = 1 ∧ g 2 = 0 ∧ (g 4 < n ∨ g 4 = 8 ∨ g 4 = 9) ∧ 1 ≤ g 5 ∧ g 5 ≤ 1000) ∨ (g 0 = 2 ∧ 1 ≤ g 2 ∧ g 2 ≤ 12 ∧ g 4 < n ∧ g 5 = 0) ∨
  (g 0 = 3 ∧ 1 ≤ g 2 ∧ g 2 ≤ 12 ∧ g 3 < n ∧ g 4 = 8 + pz_ci (g 2) ∧ g 5 ≤ 1000 ∧ pz_PF p (g 2) (g 3) (g 5) (g 6)) ∨
  (g 0 = 4 ∧ 1 ≤ g 2 ∧ g 2 ≤ 12 ∧ g 4 < n ∧ g 5 ≤ 1000 ∧ p 17 (g 2) 0 = g 5 + 1) ∨
  (g 0 = 5 ∧ 1 ≤ g 2 ∧ g 2 ≤ 12 ∧ g 3 < n ∧ (g 4 = 8 + pz_ci (g 2) ∨ g 4 = 10) ∧ g 5 ≤ 1000 ∧ p 5 (g 2) (g 3) = g 5 ∧ g 5 ≠ 0)
theorem pz_MS_st {n : Nat} {p p' : pz_P} (h : pz_St n p p') {g : pz_M} (m : pz_MS n p g) : pz_MS n p' g := by
  rcases m with m | m | ⟨m1, m2, m3, m4, m5, m6, m7⟩ | ⟨m1, m2, m3, m4, m5, m6⟩ | ⟨m1, m2, m3, m4, m5, m6, m7, m8⟩
  · exact Or.inl m
  · exact Or.inr (Or.inl m)
  · exact Or.inr (Or.inr (Or.inl ⟨m1, m2, m3, m4, m5, m6, pz_PF_st h m4 m7⟩))
  · exact Or.inr (Or.inr (Or.inr (Or.inl ⟨m1, m2, m3, m4, m5, by rw [h.2.2 _ (by omega)]; exact m6⟩)))
  · exact Or.inr (Or.inr (Or.inr (Or.inr ⟨m1, m2, m3, m4, m5, m6, pz_vd_st h m4 m7 m8, m8⟩)))
def pz_Inv (n q f : Nat) (S : pz_T) : Prop := S.1.length ≤ 60 ∧ (∀ s, s < 3 → pz_IV n q f (S.2 s)) ∧ (∀ g ∈ S.1, g 1 < 3 ∧ pz_MS n (S.2 (g 1)) g) ∧ ∀ w, S.2 3 14 w 0 ≤ 1
theorem pz_sd_2 (S : pz_T) (g : pz_M) {s : Nat} (h : s < 3) : (pz_sd S g).2 s = S.2 s := by
  unfold pz_sd
  split
  · rfl
  · exact pz_w_n (by omega)
theorem pz_sd_h (S : pz_T) (g : pz_M) (w : Nat) : (pz_sd S g).2 3 14 w 0 = S.2 3 14 w 0 := by
  unfold pz_sd
  split
  · rfl
  · show pz_w S.2 3 (pz_u (S.2 3) 15 0 0 (S.2 3 15 0 0 + 1)) 3 14 w 0 = _
    rw [pz_w_s]
    exact pz_u_k (by omega)
theorem pz_sa_2 (kd s r v : Nat) (S : pz_T) {z : Nat} (h : z < 3) : ∀ i, (pz_sa kd s r v i S).2 z = S.2 z
  | 0 => rfl
  | i + 1 => by rw [pz_sa, pz_sd_2 _ _ h, pz_sa_2 kd s r v S h i]
theorem pz_pw_s (S : pz_T) (s : Nat) (p : pz_P) : (pz_pw S s p).2 s = p := pz_w_s _ _ _
theorem pz_pw_pw (S : pz_T) (s : Nat) (p p' : pz_P) : pz_pw (pz_pw S s p) s p' = pz_pw S s p' := by
  unfold pz_pw
  refine Prod.ext rfl ?_
  funext s'
  by_cases h : s' = s
  · subst h; simp [pz_w]
  · simp [pz_w, h]
theorem pz_sd_Inv {n q f : Nat} {S : pz_T} {g : pz_M} (I : pz_Inv n q f S) (h1 : g 1 < 3) (h2 : pz_MS n (S.2 (g 1)) g) : pz_Inv n q f (pz_sd S g) := by
  obtain ⟨i1, i2, i3, i4⟩ := I
  refine ⟨?_, fun s hs => by rw [pz_sd_2 S g hs]; exact i2 s hs, fun x hx => ?_, fun w => by rw [pz_sd_h]; exact i4 w⟩
  · unfold pz_sd
    split
    · simp; omega
    · exact i1
  · have hm : x ∈ S.1 ∨ x = g := by
      unfold pz_sd at hx
      split at hx
      · simpa using hx
      · exact Or.inl hx
    rcases hm with hm | hm
    · obtain ⟨a, b⟩ := i3 x hm
      exact ⟨a, by rw [pz_sd_2 S g a]; exact b⟩
    · subst hm
      exact ⟨h1, by rw [pz_sd_2 S x h1]; exact h2⟩
theorem pz_sa_Inv {n q f kd s r v : Nat} {S : pz_T} (I : pz_Inv n q f S) (hs : s < 3) : ∀ i, (∀ a, a < i → pz_MS n (S.2 s) (pz_mg kd s r 0 a v 0)) → pz_Inv n q f (pz_sa kd s r v i S)
  | 0, _ => I
  | i + 1, h => by
    refine pz_sd_Inv (pz_sa_Inv I hs i (fun a ha => h a (by omega))) hs ?_
    show pz_MS n ((pz_sa kd s r v i S).2 s) _
    rw [pz_sa_2 kd s r v S hs i]
    exact h i (by omega)
theorem pz_pw_Inv {n q f s : Nat} {S : pz_T} {p : pz_P} (I : pz_Inv n q f S) (hs : s < 3) (h : pz_IV n q f p ∧ pz_St n (S.2 s) p) : pz_Inv n q f (pz_pw S s p) := by
  obtain ⟨i1, i2, i3, i4⟩ := I
  refine ⟨i1, fun z hz => ?_, fun g hg => ?_, fun w => ?_⟩
  · by_cases e : z = s
    · subst e; rw [pz_pw_s]; exact h.1
    · show pz_IV n q f (pz_w S.2 s p z)
      rw [pz_w_n e]; exact i2 z hz
  · obtain ⟨a, b⟩ := i3 g hg
    refine ⟨a, ?_⟩
    show pz_MS n (pz_w S.2 s p (g 1)) g
    by_cases e : g 1 = s
    · rw [e, pz_w_s]
      rw [e] at b
      exact pz_MS_st h.2 b
    · rw [pz_w_n e]; exact b
  · show pz_w S.2 s p 3 14 w 0 ≤ 1
    rw [pz_w_n (by omega)]; exact i4 w
theorem pz_rm_Inv {n q f i : Nat} {S : pz_T} (I : pz_Inv n q f S) : pz_Inv n q f (pz_rm S i) := by
  obtain ⟨i1, i2, i3, i4⟩ := I
  refine ⟨Nat.le_trans (List.length_eraseIdx_le S.1 i) i1, i2, fun g hg => i3 g (List.mem_of_mem_eraseIdx hg), i4⟩
theorem pz_halt_Inv {n q f w b : Nat} {S : pz_T} (I : pz_Inv n q f S) (hb : b ≤ 1) : pz_Inv n q f (pz_halt S w b) := by
  obtain ⟨i1, i2, i3, i4⟩ := I
  refine ⟨i1, fun z hz => ?_, fun g hg => ?_, fun x => ?_⟩
  · show pz_IV n q f (pz_w S.2 3 _ z)
    rw [pz_w_n (by omega)]; exact i2 z hz
  · obtain ⟨a, b⟩ := i3 g hg
    refine ⟨a, ?_⟩
    show pz_MS n (pz_w S.2 3 _ (g 1)) g
    rw [pz_w_n (by omega)]; exact b
  · show pz_w S.2 3 (pz_u (S.2 3) 14 w 0 b) 3 14 x 0 ≤ 1
    rw [pz_w_s]
    by_cases e : x = w
    · subst e; rw [pz_u_s]; exact hb
    · rw [pz_u_x e]; exact i4 x
theorem pz_propose_Inv {n q f s v : Nat} {S : pz_T} (I : pz_Inv n q f S) (hs : s < 3) (h1 : 1 ≤ v) (h2 : v ≤ 1000) : pz_Inv n q f (pz_propose n S s v) :=
  pz_sd_Inv (pz_sd_Inv (pz_sa_Inv I hs n (fun a ha => Or.inl ⟨rfl, rfl, Or.inl ha, h1, h2⟩)) hs (Or.inl ⟨rfl, rfl, Or.inr (Or.inl rfl), h1, h2⟩)) hs (Or.inl ⟨rfl, rfl, Or.inr (Or.inr rfl), h1, h2⟩)
theorem pz_ld_0 {p : pz_P} {c r h k x y : Nat} (e : k ≠ 8 ∧ k ≠ 9 ∧ k ≠ 11) : pz_ld p c r h k x y = p k x y := by simp [pz_ld, e.1, e.2.1, e.2.2]
theorem pz_ld_x {p : pz_P} {c r h k x y : Nat} (e : x ≠ c) : pz_ld p c r h k x y = p k x y := by simp [pz_ld, e]
theorem pz_ld_8 {p : pz_P} {c r h : Nat} : pz_ld p c r h 8 c 0 = r := by simp [pz_ld]
theorem pz_ld_9 {p : pz_P} {c r h : Nat} : pz_ld p c r h 9 c 0 = h := by simp [pz_ld]
theorem pz_ld_11 {p : pz_P} {c r h a : Nat} : pz_ld p c r h 11 c a = 0 := by simp [pz_ld]
theorem pz_begin_Inv {n q f s r : Nat} {S : pz_T} (Q : pz_Q n q f) (I : pz_Inv n q f S) (hs : s < 3) (h1 : 1 ≤ r) (h2 : r ≤ 12) (h3 : S.2 s 8 (pz_ci r) 0 < r) : pz_Inv n q f (pz_begin n S s r) := by
  have IVs := I.2.1 s hs
  have C := IVs.2.2.2.2.2.1 (pz_ci r) (pz_ci_lt r)
  obtain ⟨c1, c2, c3, c4, c5, c6, c7, c8⟩ := C
  unfold pz_begin
  refine pz_sa_Inv (pz_pw_Inv I hs (pz_cor0 (p' := pz_ld (S.2 s) (pz_ci r) r 1) (c := pz_ci r) IVs (fun k x y hk => pz_ld_0 (by omega)) (fun k d y _ _ hd => pz_ld_x hd) (fun x hx hc => ?_) (fun _ => ?_))) hs n (fun a ha => Or.inr (Or.inl ⟨rfl, h1, h2, ha, rfl⟩))
  · have g := (IVs.2.2.1 x hx).2.2.1
    rw [hc] at g
    rw [pz_ld_8]
    exact ⟨by omega, fun z => by omega⟩
  · unfold pz_Cc
    rw [pz_ld_8, pz_ld_9, pz_ld_0 (by omega)]
    simp only [pz_ld_11]
    refine ⟨h2, by omega, c3, fun _ => ⟨h1, trivial⟩, fun _ => by omega, fun _ => ⟨?_, fun a _ z => absurd rfl z⟩, fun z => by omega, fun z => by omega⟩
    rw [pz_sm_const]
    have := Q.2.2.1
    omega
end
section
/-! Pure part 4: every step keeps the invariant. -/
theorem pz_mx_ge {g : Nat → Nat} : ∀ (n a : Nat), a < n → g a ≤ pz_mx n g
  | 0, a, h => absurd h (Nat.not_lt_zero a)
  | k + 1, a, h => by
    simp only [pz_mx]
    by_cases e : a = k
    · subst e; split <;> omega
    · have := pz_mx_ge (g := g) k a (by omega)
      split <;> omega
theorem pz_mx_ex {g : Nat → Nat} : ∀ n : Nat, pz_mx n g ≠ 0 → ∃ a, a < n ∧ g a = pz_mx n g
  | 0, h => absurd rfl h
  | k + 1, h => by
    simp only [pz_mx] at h ⊢
    by_cases e : pz_mx k g < g k
    · rw [if_pos e]; exact ⟨k, by omega, rfl⟩
    · rw [if_neg e] at h ⊢
      obtain ⟨a, h1, h2⟩ := pz_mx_ex k h
      exact ⟨a, by omega, h2⟩
theorem pz_ls_ex (p : pz_P) (c r : Nat) : ∀ n : Nat, pz_ls p c r n = 0 ∨ ∃ b, b < n ∧ p 11 c b ≠ 0 ∧ p 13 c b = r ∧ p 12 c b = pz_ls p c r n
  | 0 => Or.inl rfl
  | k + 1 => by
    simp only [pz_ls]
    by_cases e : p 11 c k ≠ 0 ∧ p 13 c k = r ∧ (pz_ls p c r k = 0 ∨ p 12 c k < pz_ls p c r k)
    · rw [if_pos e]; exact Or.inr ⟨k, by omega, e.1, e.2.1, rfl⟩
    · rw [if_neg e]
      rcases pz_ls_ex p c r k with h | ⟨b, h1, h2⟩
      · exact Or.inl h
      · exact Or.inr ⟨b, by omega, h2⟩
theorem pz_ls_ne {p : pz_P} {c r : Nat} : ∀ n : Nat, (∀ b, b < n → p 11 c b ≠ 0 → p 13 c b = r → p 12 c b ≠ 0) → (∃ b, b < n ∧ p 11 c b ≠ 0 ∧ p 13 c b = r) → pz_ls p c r n ≠ 0
  | 0, _, ⟨b, h, _⟩ => absurd h (Nat.not_lt_zero b)
  | k + 1, H, ⟨b, h1, h2, h3⟩ => by
    simp only [pz_ls]
    by_cases e : p 11 c k ≠ 0 ∧ p 13 c k = r ∧ (pz_ls p c r k = 0 ∨ p 12 c k < pz_ls p c r k)
    · rw [if_pos e]; exact H k (by omega) e.1 e.2.1
    · rw [if_neg e]
      by_cases eb : b = k
      · subst eb
        intro z
        exact e ⟨h2, h3, Or.inl z⟩
      · exact pz_ls_ne k (fun b hb => H b (by omega)) ⟨b, by omega, h2, h3⟩
theorem pz_hl_ex (n f : Nat) (p : pz_P) (c K : Nat) : ∀ m : Nat, pz_hl n f p c K m = 0 ∨ ∃ b, b < m ∧ p 11 c b ≠ 0 ∧ p 13 c b = K ∧ (K % 2 = 0 ∨ pz_te n p c - pz_tf n p c K (p 12 c b) ≤ n - f) ∧ p 12 c b = pz_hl n f p c K m
  | 0 => Or.inl rfl
  | k + 1 => by
    simp only [pz_hl]
    by_cases e : p 11 c k ≠ 0 ∧ p 13 c k = K ∧ (K % 2 = 0 ∨ pz_te n p c - pz_tf n p c K (p 12 c k) ≤ n - f)
    · rw [if_pos e]; exact Or.inr ⟨k, by omega, e.1, e.2.1, e.2.2, rfl⟩
    · rw [if_neg e]
      rcases pz_hl_ex n f p c K k with h | ⟨b, h1, h2⟩
      · exact Or.inl h
      · exact Or.inr ⟨b, by omega, h2⟩
theorem pz_hl_no {n f : Nat} {p : pz_P} {c K : Nat} : ∀ m : Nat, (∀ b, b < m → p 11 c b ≠ 0 → p 13 c b = K → p 12 c b ≠ 0) → pz_hl n f p c K m = 0 → ∀ b, b < m → p 11 c b ≠ 0 → p 13 c b = K → ¬ (K % 2 = 0 ∨ pz_te n p c - pz_tf n p c K (p 12 c b) ≤ n - f)
  | 0, _, _, b, h, _, _ => absurd h (Nat.not_lt_zero b)
  | k + 1, H, hz, b, h1, h2, h3 => by
    simp only [pz_hl] at hz
    by_cases e : p 11 c k ≠ 0 ∧ p 13 c k = K ∧ (K % 2 = 0 ∨ pz_te n p c - pz_tf n p c K (p 12 c k) ≤ n - f)
    · rw [if_pos e] at hz
      exact absurd hz (H k (by omega) e.1 e.2.1)
    · rw [if_neg e] at hz
      by_cases eb : b = k
      · subst eb
        intro z
        exact e ⟨h2, h3, z⟩
      · exact pz_hl_no k (fun b hb => H b (by omega)) hz b (by omega) h2 h3
theorem pz_sm_upd {g h : Nat → Nat} {b : Nat} (hb : h b ≤ 1) (ho : ∀ a, a ≠ b → h a = g a) : ∀ n : Nat, pz_sm n h ≤ pz_sm n g + 1
  | 0 => Nat.zero_le _
  | k + 1 => by
    simp only [pz_sm]
    by_cases e : k = b
    · subst e
      have h1 : pz_sm k h = pz_sm k g := pz_sm_eq k (fun a ha => ho a (by omega))
      omega
    · have h1 := pz_sm_upd hb ho (g := g) (h := h) k
      rw [ho k e]
      omega
theorem pz_vf_eq (n : Nat) (S : pz_T) (s : Nat) (p : pz_P) (c x : Nat) : pz_vf n (pz_pw S s p) s c x = pz_sa 4 s (p 8 c 0) x n (pz_pw S s (pz_u (pz_u p 9 c 0 3) 17 (p 8 c 0) 0 (x + 1))) := by
  unfold pz_vf
  rw [pz_pw_s, pz_pw_pw]
/-- the coordinator c, where it stood as p, goes by p2 to ask for x -/
theorem pz_vf_Inv {n q f s c x R : Nat} {S : pz_T} {p2 : pz_P} (I : pz_Inv n q f S) (hs : s < 3) (hc : c < 2) (hk : ∀ k x y, k ≤ 7 ∨ 14 ≤ k → p2 k x y = S.2 s k x y) (ho : ∀ k d y, 8 ≤ k → k ≤ 13 → d ≠ c → p2 k d y = S.2 s k d y)
    (hR : p2 8 c 0 = R) (h17 : S.2 s 17 R 0 = 0) (hx : x ≤ 1000) (hx0 : x = 0 → R % 2 = 1) (hR1 : 1 ≤ R) (hR2 : R ≤ 12) (hRc : pz_ci R = c) (h8p : S.2 s 8 c 0 ≤ R) (h10 : p2 10 c 0 ≤ 1000) (h11 : ∀ a, p2 11 c a = 0)
    (hND : ∀ y w, 1 ≤ y → y < R → w ≠ 0 → w ≠ x → pz_ND n q f (S.2 s) y w) : pz_Inv n q f (pz_vf n (pz_pw S s p2) s c x) := by
  have IVs := I.2.1 s hs
  rw [pz_vf_eq, hR]
  have e3 : ∀ k d y, k ≠ 9 → k ≠ 17 → pz_u (pz_u p2 9 c 0 3) 17 R 0 (x + 1) k d y = p2 k d y := fun k d y h1 h2 => by rw [pz_u_k h2, pz_u_k h1]
  have e17 : pz_u (pz_u p2 9 c 0 3) 17 R 0 (x + 1) 17 R 0 = x + 1 := pz_u_s _ _ _ _ _
  have e9 : pz_u (pz_u p2 9 c 0 3) 17 R 0 (x + 1) 9 c 0 = 3 := by rw [pz_u_k (by omega), pz_u_s]
  refine pz_sa_Inv (pz_pw_Inv I hs (pz_cor1 (c := c) (R := R) (x := x) IVs (fun k d y h => ?_) (fun k d y h8 h13 hd => ?_) (fun r hr => ?_) h17 e17 hx hx0 hR1 hR2 hRc (by rw [e3 8 c 0 (by omega) (by omega)]; exact hR) e9 h8p hND (fun _ => ?_))) hs n (fun a ha => ?_)
  · rw [e3 k d y (by omega) (by omega)]; exact hk k d y (by omega)
  · rw [pz_u_k (by omega), pz_u_x hd]; exact ho k d y h8 h13 hd
  · rw [pz_u_x hr, pz_u_k (by omega)]; exact hk 17 r 0 (by omega)
  · unfold pz_Cc
    rw [e9, e3 8 c 0 (by omega) (by omega), e3 10 c 0 (by omega) (by omega), hR, e17]
    refine ⟨hR2, by omega, h10, fun _ => ⟨hR1, hRc⟩, fun a => by rw [e3 11 c a (by omega) (by omega), h11]; omega, fun z => by omega, fun z => by omega, fun _ => ⟨by omega, fun a _ z => ?_⟩⟩
    rw [e3 11 c a (by omega) (by omega), h11] at z
    exact absurd rfl z
  · refine Or.inr (Or.inr (Or.inr (Or.inl ⟨rfl, hR1, hR2, ha, hx, ?_⟩)))
    rw [pz_pw_s]
    exact e17
theorem pz_gv0 {n q f : Nat} {p : pz_P} {c : Nat} (I : pz_IV n q f p) (h : pz_ci (p 8 c 0) = c) (h3 : p 9 c 0 ≠ 3) : p 17 (p 8 c 0) 0 = 0 := by
  by_cases z : p 17 (p 8 c 0) 0 = 0
  · exact z
  · have g := (I.2.2.1 _ z).2.2.2.1
    rw [h] at g
    exact absurd (g rfl) h3
theorem pz_tll_k {p : pz_P} {c a v r k x y : Nat} (h : k ≠ 11 ∧ k ≠ 12 ∧ k ≠ 13) : pz_tll p c a v r k x y = p k x y := by
  unfold pz_tll; rw [pz_u_k h.2.2, pz_u_k h.2.1, pz_u_k h.1]
theorem pz_tll_x {p : pz_P} {c a v r k x y : Nat} (h : x ≠ c) : pz_tll p c a v r k x y = p k x y := by
  unfold pz_tll; rw [pz_u_x h, pz_u_x h, pz_u_x h]
theorem pz_tll_y {p : pz_P} {c a v r k x y : Nat} (h : y ≠ a) : pz_tll p c a v r k x y = p k x y := by
  unfold pz_tll; rw [pz_u_y h, pz_u_y h, pz_u_y h]
theorem pz_tll_11 {p : pz_P} {c a v r : Nat} : pz_tll p c a v r 11 c a = 1 := by
  unfold pz_tll; rw [pz_u_k (by omega), pz_u_k (by omega), pz_u_s]
theorem pz_tll_12 {p : pz_P} {c a v r : Nat} : pz_tll p c a v r 12 c a = v := by
  unfold pz_tll; rw [pz_u_k (by omega), pz_u_s]
theorem pz_tll_13 {p : pz_P} {c a v r : Nat} : pz_tll p c a v r 13 c a = r := by
  unfold pz_tll; rw [pz_u_s]
theorem pz_tll_le {p : pz_P} {c b v r : Nat} (h : ∀ a, p 11 c a ≤ 1) (a : Nat) : pz_tll p c b v r 11 c a ≤ 1 := by
  by_cases e : a = b
  · subst e; rw [pz_tll_11]; exact Nat.le_refl _
  · rw [pz_tll_y e]; exact h a
/-- what pick gives, where p1 has the q promises for r -/
theorem pz_pk_ND {n q f : Nat} {p p1 : pz_P} {c r : Nat} (Q : pz_Q n q f) (I : pz_IV n q f p) (h11 : ∀ a, p1 11 c a ≤ 1) (hT : pz_te n p1 c = q) (hF : ∀ a, a < n → p1 11 c a ≠ 0 → pz_PF p r a (p1 12 c a) (p1 13 c a)) :
    ∀ y w, 1 ≤ y → y < r → w ≠ 0 → (w ≠ pz_pk n f p1 c ∨ pz_kk n p1 c = 0) → pz_ND n q f p y w := by
  have hK : ∀ a, a < n → p1 11 c a ≠ 0 → p1 13 c a ≤ pz_kk n p1 c := fun a ha t => by
    have := pz_mx_ge (g := fun a => if p1 11 c a ≠ 0 then p1 13 c a else 0) n a ha
    rw [if_pos t] at this
    exact this
  have nz : ∀ K, K ≠ 0 → ∀ b, b < n → p1 11 c b ≠ 0 → p1 13 c b = K → p1 12 c b ≠ 0 := fun K hK0 b hb t e => by
    rcases (hF b hb t).2.2.2 with ⟨z, -⟩ | ⟨-, -, z⟩
    · omega
    · exact z
  intro y w hy1 hy hw hwx
  by_cases k0 : pz_kk n p1 c = 0
  · refine pz_pick Q I (t := fun a => p1 11 c a) (v := fun a => p1 12 c a) (k := fun a => p1 13 c a) (x := w + 1) (fun a _ => h11 a) hT hF hK (Or.inl k0) y w hy1 hy hw (by omega)
  · have hwx : w ≠ pz_pk n f p1 c := by
      rcases hwx with h | h
      · exact h
      · exact absurd h k0
    obtain ⟨b, hb, eb⟩ := pz_mx_ex n k0
    have tb : p1 11 c b ≠ 0 := fun z => k0 (by rw [if_neg (fun y => y z)] at eb; exact eb.symm)
    rw [if_pos tb] at eb
    have eb : p1 13 c b = pz_kk n p1 c := eb
    refine pz_pick Q I (t := fun a => p1 11 c a) (v := fun a => p1 12 c a) (k := fun a => p1 13 c a) (x := pz_pk n f p1 c) (fun a _ => h11 a) hT hF hK (Or.inr ⟨Nat.pos_of_ne_zero k0, ?_, fun odd => ?_⟩) y w hy1 hy hw hwx
    · unfold pz_pk
      rw [if_neg k0]
      by_cases hz : pz_hl n f p1 c (pz_kk n p1 c) n = 0
      · rw [if_neg (fun y => y hz)]
        rcases pz_ls_ex p1 c (pz_kk n p1 c) n with z | ⟨d, d1, d2, d3, d4⟩
        · exact absurd z (pz_ls_ne n (nz _ k0) ⟨b, hb, tb, eb⟩)
        · exact ⟨d, d1, d2, d3, d4⟩
      · rw [if_pos hz]
        rcases pz_hl_ex n f p1 c (pz_kk n p1 c) n with z | ⟨d, d1, d2, d3, d4, d5⟩
        · exact absurd z hz
        · exact ⟨d, d1, d2, d3, d5⟩
    · have q6 : f ≤ n := Q.2.2.2.2.2.1
      by_cases hz : pz_hl n f p1 c (pz_kk n p1 c) n = 0
      · refine Or.inr (fun d hd t e => ?_)
        have := pz_hl_no n (nz _ k0) hz d hd t e
        rw [hT] at this
        show pz_tf n p1 c (pz_kk n p1 c) (p1 12 c d) + n < q + f
        omega
      · refine Or.inl ?_
        have e : pz_pk n f p1 c = pz_hl n f p1 c (pz_kk n p1 c) n := by unfold pz_pk; rw [if_neg k0, if_pos hz]
        rw [e]
        rcases pz_hl_ex n f p1 c (pz_kk n p1 c) n with z | ⟨d, d1, d2, d3, d4, d5⟩
        · exact absurd z hz
        · rw [d5, hT] at d4
          show q + f ≤ pz_tf n p1 c (pz_kk n p1 c) (pz_hl n f p1 c (pz_kk n p1 c) n) + n
          omega
theorem pz_pk_le {n q f : Nat} {p p1 : pz_P} {c r : Nat} (I : pz_IV n q f p) (hF : ∀ a, a < n → p1 11 c a ≠ 0 → pz_PF p r a (p1 12 c a) (p1 13 c a)) : pz_pk n f p1 c ≤ 1000 := by
  have le : ∀ b, b < n → p1 11 c b ≠ 0 → p1 12 c b ≤ 1000 := fun b hb t => by
    rcases (hF b hb t).2.2.2 with ⟨-, z⟩ | ⟨-, z1, z2⟩
    · omega
    · have := ((I.1 b hb).2.2.1 _ (by rw [z1]; exact z2)).2.2
      omega
  unfold pz_pk
  split
  · omega
  · split
    · rcases pz_hl_ex n f p1 c (pz_kk n p1 c) n with z | ⟨d, d1, d2, d3, d4, d5⟩
      · omega
      · rw [← d5]; exact le d d1 d2
    · rcases pz_ls_ex p1 c (pz_kk n p1 c) n with z | ⟨d, d1, d2, d3, d4⟩
      · omega
      · rw [← d4]; exact le d d1 d2
theorem pz_coord_Inv {n q f s c : Nat} {S : pz_T} {g : pz_M} (Q : pz_Q n q f) (I : pz_Inv n q f S) (hs : s < 3) (hc : c < 2) (hg : pz_MS n (S.2 s) g) (h4 : g 4 = 8 + c) : pz_Inv n q f (pz_coord n q f S s c (g 0) (g 2) (g 3) (g 5) (g 6)) := by
  have IVs := I.2.1 s hs
  obtain ⟨c1, c2, c3, c4, c5, c6, c7, c8⟩ := IVs.2.2.2.2.2.1 c hc
  unfold pz_coord
  by_cases k1 : g 0 = 1
  · rw [if_pos k1]
    have hv : 1 ≤ g 5 ∧ g 5 ≤ 1000 := by
      rcases hg with ⟨_, _, _, a, b⟩ | ⟨a, _⟩ | ⟨a, _⟩ | ⟨a, _⟩ | ⟨a, _⟩
      · exact ⟨a, b⟩
      all_goals omega
    by_cases w0 : S.2 s 10 c 0 = 0
    · rw [if_pos w0]
      by_cases p2 : S.2 s 9 c 0 = 2
      · rw [if_pos p2]
        obtain ⟨d1, d2, d3, d4⟩ := c7 p2
        obtain ⟨e1, e2⟩ := c4 (by omega)
        exact pz_vf_Inv I hs hc (fun k x y h => pz_u_k (by omega)) (fun k d y _ _ hd => pz_u_x hd) (pz_u_k (by omega)) (pz_gv0 IVs e2 (by omega)) hv.2 (fun z => by omega) e1 c1 e2 (Nat.le_refl _) (by rw [pz_u_s]; exact hv.2) (fun a => by rw [pz_u_k (by omega)]; exact d3 a) (fun y w h1 h2 h3 _ => d4 y w h1 h2 h3)
      · rw [if_neg p2]
        refine pz_pw_Inv I hs (pz_cor0 (c := c) IVs (fun k x y h => pz_u_k (by omega)) (fun k d y _ _ hd => pz_u_x hd) (fun r hr e => ?_) (fun st => ?_))
        · rw [pz_u_k (by omega), pz_u_k (by omega)]
          have g1 := (IVs.2.2.1 r hr).2.2
          rw [e] at g1
          exact ⟨g1.1, g1.2.1⟩
        · have ek : ∀ k y, k ≠ 10 → pz_u (S.2 s) 10 c 0 (g 5) k c y = S.2 s k c y := fun k y h => pz_u_k h
          have e17 : ∀ r, pz_u (S.2 s) 10 c 0 (g 5) 17 r 0 = S.2 s 17 r 0 := fun r => pz_u_k (by omega)
          have e5 : ∀ r a, pz_u (S.2 s) 10 c 0 (g 5) 5 r a = S.2 s 5 r a := fun r a => pz_u_k (by omega)
          unfold pz_Cc
          rw [ek 8 0 (by omega), ek 9 0 (by omega), pz_u_s, e17]
          simp only [ek 11 _ (by omega), ek 12 _ (by omega), ek 13 _ (by omega), e5]
          exact ⟨c1, c2, hv.2, c4, c5, fun z => ⟨(c6 z).1, fun a ha t => pz_PF_st st ha ((c6 z).2 a ha t)⟩, fun z => absurd z p2, c8⟩
    · rw [if_neg w0]; exact I
  · rw [if_neg k1]
    by_cases k3 : g 0 = 3
    · rw [if_pos k3]
      have hm : 1 ≤ g 2 ∧ g 2 ≤ 12 ∧ g 3 < n ∧ pz_PF (S.2 s) (g 2) (g 3) (g 5) (g 6) := by
        rcases hg with ⟨a, _⟩ | ⟨a, _⟩ | ⟨_, a, b, d, _, _, e⟩ | ⟨a, _⟩ | ⟨a, _⟩
        · omega
        · omega
        · exact ⟨a, b, d, e⟩
        all_goals omega
      obtain ⟨m1, m2, m3, m4⟩ := hm
      by_cases hp : S.2 s 8 c 0 = g 2 ∧ S.2 s 9 c 0 = 1
      · rw [if_pos hp]
        obtain ⟨e1, e2⟩ := c4 (by omega)
        obtain ⟨d1, d2⟩ := c6 hp.2
        have hF : ∀ a, a < n → pz_tll (S.2 s) c (g 3) (g 5) (g 6) 11 c a ≠ 0 → pz_PF (S.2 s) (S.2 s 8 c 0) a (pz_tll (S.2 s) c (g 3) (g 5) (g 6) 12 c a) (pz_tll (S.2 s) c (g 3) (g 5) (g 6) 13 c a) := fun a ha t => by
          by_cases e : a = g 3
          · rw [e, pz_tll_12, pz_tll_13, hp.1]; exact m4
          · rw [pz_tll_y e] at t
            rw [pz_tll_y e, pz_tll_y e]; exact d2 a ha t
        have h11 : ∀ a, pz_tll (S.2 s) c (g 3) (g 5) (g 6) 11 c a ≤ 1 := pz_tll_le c5
        by_cases ht : pz_te n (pz_tll (S.2 s) c (g 3) (g 5) (g 6)) c = q
        · rw [if_pos ht]
          have hkk := pz_pk_ND Q IVs h11 ht hF
          have hle := pz_pk_le (f := f) IVs hF
          unfold pz_go
          rw [pz_pw_s, pz_pw_pw]
          have e8 : pz_tll (S.2 s) c (g 3) (g 5) (g 6) 8 c 0 = S.2 s 8 c 0 := pz_tll_k (by omega)
          have e10 : pz_tll (S.2 s) c (g 3) (g 5) (g 6) 10 c 0 = S.2 s 10 c 0 := pz_tll_k (by omega)
          rw [e8, e10]
          have V : ∀ x, x ≤ 1000 → (x = 0 → S.2 s 8 c 0 % 2 = 1) → (∀ y w, 1 ≤ y → y < S.2 s 8 c 0 → w ≠ 0 → w ≠ x → pz_ND n q f (S.2 s) y w) → pz_Inv n q f (pz_vf n (pz_pw S s (pz_ld (pz_tll (S.2 s) c (g 3) (g 5) (g 6)) c (S.2 s 8 c 0) 2)) s c x) := fun x hx hx0 hND =>
            pz_vf_Inv I hs hc (fun k x y h => by rw [pz_ld_0 (by omega), pz_tll_k (by omega)]) (fun k d y _ _ hd => by rw [pz_ld_x hd, pz_tll_x hd]) pz_ld_8 (pz_gv0 IVs e2 (by omega)) hx hx0 e1 c1 e2 (Nat.le_refl _) (by rw [pz_ld_0 (by omega), e10]; exact c3) (fun a => pz_ld_11) hND
          by_cases x0 : pz_pk n f (pz_tll (S.2 s) c (g 3) (g 5) (g 6)) c = 0
          · have k0 : pz_kk n (pz_tll (S.2 s) c (g 3) (g 5) (g 6)) c = 0 := by
              by_cases k0 : pz_kk n (pz_tll (S.2 s) c (g 3) (g 5) (g 6)) c = 0
              · exact k0
              · exfalso
                have nz : ∀ b, b < n → pz_tll (S.2 s) c (g 3) (g 5) (g 6) 11 c b ≠ 0 → pz_tll (S.2 s) c (g 3) (g 5) (g 6) 13 c b = pz_kk n (pz_tll (S.2 s) c (g 3) (g 5) (g 6)) c → pz_tll (S.2 s) c (g 3) (g 5) (g 6) 12 c b ≠ 0 := fun b hb t e => by
                  rcases (hF b hb t).2.2.2 with ⟨z, -⟩ | ⟨-, -, z⟩
                  · omega
                  · exact z
                obtain ⟨b, hb, eb⟩ := pz_mx_ex n k0
                have tb : pz_tll (S.2 s) c (g 3) (g 5) (g 6) 11 c b ≠ 0 := fun z => k0 (by rw [if_neg (fun y => y z)] at eb; exact eb.symm)
                rw [if_pos tb] at eb
                unfold pz_pk at x0
                rw [if_neg k0] at x0
                split at x0
                · omega
                · exact pz_ls_ne n nz ⟨b, hb, tb, eb⟩ x0
            rw [if_neg (fun y => y x0)]
            have none : ∀ y w, 1 ≤ y → y < S.2 s 8 c 0 → w ≠ 0 → pz_ND n q f (S.2 s) y w := fun y w h1 h2 h3 => hkk y w h1 h2 h3 (Or.inr k0)
            by_cases odd : S.2 s 8 c 0 % 2 = 1
            · rw [if_pos odd]
              exact V 0 (by omega) (fun _ => odd) (fun y w h1 h2 h3 _ => none y w h1 h2 h3)
            · rw [if_neg odd]
              by_cases w0 : S.2 s 10 c 0 = 0
              · rw [if_neg (fun y => y w0)]
                refine pz_pw_Inv I hs (pz_cor0 (c := c) IVs (fun k x y h => by rw [pz_ld_0 (by omega), pz_tll_k (by omega)]) (fun k d y _ _ hd => by rw [pz_ld_x hd, pz_tll_x hd]) (fun r hr e => ?_) (fun st => ?_))
                · rw [pz_ld_8, pz_ld_9]
                  have g1 := (IVs.2.2.1 r hr).2.2
                  rw [e] at g1
                  exact ⟨g1.1, fun z => by have := g1.2.1 z; omega⟩
                · unfold pz_Cc
                  rw [pz_ld_8, pz_ld_9, pz_ld_0 (k := 10) (by omega), e10]
                  simp only [pz_ld_11]
                  exact ⟨c1, by omega, c3, fun _ => ⟨e1, e2⟩, fun _ => by omega, fun z => by omega, fun _ => ⟨w0, by omega, fun _ => trivial, fun y w h1 h2 h3 => pz_ND_st st (none y w h1 h2 h3)⟩, fun z => by omega⟩
              · rw [if_pos w0]
                exact V _ c3 (fun z => absurd z w0) (fun y w h1 h2 h3 _ => none y w h1 h2 h3)
          · rw [if_pos x0]
            exact V _ hle (fun z => absurd z x0) (fun y w h1 h2 h3 h4 => hkk y w h1 h2 h3 (Or.inl h4))
        · rw [if_neg ht]
          refine pz_pw_Inv I hs (pz_cor0 (c := c) IVs (fun k x y h => pz_tll_k (by omega)) (fun k d y _ _ hd => pz_tll_x hd) (fun r hr e => ?_) (fun st => ?_))
          · rw [pz_tll_k (by omega), pz_tll_k (by omega)]
            have g1 := (IVs.2.2.1 r hr).2.2
            rw [e] at g1
            exact ⟨g1.1, g1.2.1⟩
          · unfold pz_Cc
            rw [pz_tll_k (k := 8) (by omega), pz_tll_k (k := 9) (by omega), pz_tll_k (k := 10) (by omega)]
            have up := pz_sm_upd (g := fun a => S.2 s 11 c a) (h := fun a => pz_tll (S.2 s) c (g 3) (g 5) (g 6) 11 c a) (b := g 3) (h11 _) (fun a e => pz_tll_y e) n
            refine ⟨c1, c2, c3, c4, h11, fun _ => ⟨?_, fun a ha t => pz_PF_st st ha (hF a ha t)⟩, fun z => by omega, fun z => by omega⟩
            unfold pz_te at ht
            omega
      · rw [if_neg hp]; exact I
    · rw [if_neg k3]
      by_cases hp : g 0 = 5 ∧ S.2 s 8 c 0 = g 2 ∧ g 2 % 2 = 1 ∧ S.2 s 9 c 0 = 3
      · rw [if_pos hp]
        obtain ⟨k5, p1, odd, p3⟩ := hp
        have hm : 1 ≤ g 2 ∧ g 2 ≤ 12 ∧ g 3 < n ∧ S.2 s 5 (g 2) (g 3) = g 5 ∧ g 5 ≠ 0 := by
          rcases hg with ⟨a, _⟩ | ⟨a, _⟩ | ⟨a, _⟩ | ⟨a, _⟩ | ⟨_, a, b, d, _, _, e, e'⟩
          · omega
          · omega
          · omega
          · omega
          · exact ⟨a, b, d, e, e'⟩
        obtain ⟨m1, m2, m3, m4, m5⟩ := hm
        obtain ⟨e1, e2⟩ := c4 (by omega)
        obtain ⟨d1, d2⟩ := c8 p3
        have hF : ∀ a, a < n → pz_tll (S.2 s) c (g 3) (g 5) (g 2) 11 c a ≠ 0 → pz_tll (S.2 s) c (g 3) (g 5) (g 2) 13 c a = S.2 s 8 c 0 ∧ S.2 s 5 (S.2 s 8 c 0) a = pz_tll (S.2 s) c (g 3) (g 5) (g 2) 12 c a ∧ pz_tll (S.2 s) c (g 3) (g 5) (g 2) 12 c a ≠ 0 := fun a ha t => by
          by_cases e : a = g 3
          · rw [e, pz_tll_12, pz_tll_13, p1]; exact ⟨rfl, m4, m5⟩
          · rw [pz_tll_y e] at t
            rw [pz_tll_y e, pz_tll_y e]; exact d2 a ha t
        have h11 : ∀ a, pz_tll (S.2 s) c (g 3) (g 5) (g 2) 11 c a ≤ 1 := pz_tll_le c5
        have I1 : pz_Inv n q f (pz_pw S s (pz_tll (S.2 s) c (g 3) (g 5) (g 2))) := by
          refine pz_pw_Inv I hs (pz_cor0 (c := c) IVs (fun k x y h => pz_tll_k (by omega)) (fun k d y _ _ hd => pz_tll_x hd) (fun r hr e => ?_) (fun st => ?_))
          · rw [pz_tll_k (by omega), pz_tll_k (by omega)]
            have g1 := (IVs.2.2.1 r hr).2.2
            rw [e] at g1
            exact ⟨g1.1, g1.2.1⟩
          · unfold pz_Cc
            rw [pz_tll_k (k := 8) (by omega), pz_tll_k (k := 9) (by omega), pz_tll_k (k := 10) (by omega), pz_tll_k (k := 17) (by omega)]
            refine ⟨c1, c2, c3, c4, h11, fun z => by omega, fun z => by omega, fun _ => ⟨d1, fun a ha t => ?_⟩⟩
            rw [pz_tll_k (k := 5) (by omega)]
            exact hF a ha t
        unfold pz_rec
        rw [pz_pw_s]
        by_cases cond : pz_te n (pz_tll (S.2 s) c (g 3) (g 5) (g 2)) c < q ∨ f + pz_te n (pz_tll (S.2 s) c (g 3) (g 5) (g 2)) c ≤ pz_be n (pz_tll (S.2 s) c (g 3) (g 5) (g 2)) c (g 2) + n
        · rw [if_pos cond]; exact I1
        · rw [if_neg cond, pz_pw_pw]
          have q3 := Q.2.2.1
          obtain ⟨b, hb, tb⟩ := pz_sm_pos n (show 0 < pz_te n (pz_tll (S.2 s) c (g 3) (g 5) (g 2)) c by omega)
          have lsx := pz_ls_ne (p := pz_tll (S.2 s) c (g 3) (g 5) (g 2)) (c := c) (r := g 2) n (fun b hb t _ => (hF b hb t).2.2) ⟨b, hb, by omega, by rw [(hF b hb (by omega)).1]; exact p1⟩
          rcases pz_ls_ex (pz_tll (S.2 s) c (g 3) (g 5) (g 2)) c (g 2) n with z | ⟨d, hd1, hd2, hd3, hd4⟩
          · exact absurd z lsx
          · have xle : pz_ls (pz_tll (S.2 s) c (g 3) (g 5) (g 2)) c (g 2) n ≤ 1000 := by
              rw [← hd4]
              obtain ⟨_, f2, f3⟩ := hF d hd1 hd2
              rw [← f2]
              exact ((IVs.1 d hd1).2.2.1 _ (by rw [f2]; exact f3)).2.2
            refine pz_vf_Inv (R := g 2 + 1) I hs hc (fun k x y h => by rw [pz_ld_0 (by omega), pz_tll_k (by omega)]) (fun k d y _ _ hd => by rw [pz_ld_x hd, pz_tll_x hd]) pz_ld_8 ?_ xle (fun z => absurd z lsx) (by omega) (by omega) (by rw [pz_ci_succ odd, ← p1]; exact e2) (by omega) (by rw [pz_ld_0 (by omega), pz_tll_k (by omega)]; exact c3) (fun a => pz_ld_11) ?_
            · by_cases z : S.2 s 17 (g 2 + 1) 0 = 0
              · exact z
              · have g1 := (IVs.2.2.1 _ z).2.2.1
                rw [pz_ci_succ odd, ← p1, e2] at g1
                omega
            · refine pz_recover (B := pz_be n (pz_tll (S.2 s) c (g 3) (g 5) (g 2)) c (g 2)) (t := fun a => pz_tll (S.2 s) c (g 3) (g 5) (g 2) 11 c a) (v := fun a => pz_tll (S.2 s) c (g 3) (g 5) (g 2) 12 c a) IVs (fun a _ => h11 a) odd (fun a ha t => ?_) (by rw [← p1]; exact d1) (fun b hb t => ?_) ?_ ⟨d, hd1, hd2, hd4⟩
              · obtain ⟨_, f2, f3⟩ := hF a ha t
                rw [p1] at f2
                exact ⟨f2, f3⟩
              · have mg := pz_mx_ge (g := fun a => if pz_tll (S.2 s) c (g 3) (g 5) (g 2) 11 c a ≠ 0 then pz_tf n (pz_tll (S.2 s) c (g 3) (g 5) (g 2)) c (g 2) (pz_tll (S.2 s) c (g 3) (g 5) (g 2) 12 c a) else 0) n b hb
                rw [if_pos t] at mg
                refine Nat.le_trans ?_ mg
                unfold pz_tf
                refine pz_sm_le n (fun a ha => ?_)
                by_cases y : pz_tll (S.2 s) c (g 3) (g 5) (g 2) 11 c a ≠ 0 ∧ pz_tll (S.2 s) c (g 3) (g 5) (g 2) 12 c a = pz_tll (S.2 s) c (g 3) (g 5) (g 2) 12 c b
                · rw [if_pos y, if_pos ⟨y.1, by rw [(hF a ha y.1).1]; exact p1, y.2⟩]; exact Nat.le_refl _
                · rw [if_neg y]; exact Nat.zero_le _
              · have := cond
                show pz_be n _ c (g 2) + n < f + pz_te n _ c
                omega
      · rw [if_neg hp]; exact I
theorem pz_cast_Inv {n q f s a r v : Nat} {S : pz_T} {p1 : pz_P} (Q : pz_Q n q f) (I : pz_Inv n q f S) (hs : s < 3) (ha : a < n)
    (hk : ∀ k x y, 5 ≤ k → p1 k x y = S.2 s k x y) (ho : ∀ k b, k ≤ 4 → b ≠ a → p1 k b 0 = S.2 s k b 0) (h0 : p1 0 a 0 = r) (hr0 : S.2 s 0 a 0 ≤ r) (hr12 : r ≤ 12) (hr2 : S.2 s 2 a 0 < r) (hv : v ≠ 0) (hv2 : v ≤ 1000)
    (hg : S.2 s 17 r 0 = 1 ∨ S.2 s 17 r 0 = v + 1) (hO4 : p1 4 a 0 ≤ r) (hO3 : p1 3 a 0 ≤ 1000) (hO : p1 4 a 0 = r → S.2 s 17 r 0 = 1) : pz_Inv n q f (pz_cast n q f (pz_pw S s p1) s a r v) := by
  have IVs := I.2.1 s hs
  unfold pz_cast
  rw [pz_pw_s, pz_pw_pw]
  have e1 : ∀ k x y, k ≠ 1 → k ≠ 2 → k ≠ 5 → k ≠ 16 → pz_v2 n q f p1 a r v k x y = p1 k x y := fun k x y h1 h2 h5 h16 => by
    unfold pz_v2 pz_v1; rw [pz_u_k h16, pz_u_k h5, pz_u_k h2, pz_u_k h1]
  have e5 : ∀ x b, pz_v2 n q f p1 a r v 5 x b = pz_v1 p1 a r v 5 x b := fun x b => by unfold pz_v2; rw [pz_u_k (by omega)]
  have V : pz_v2 n q f p1 a r v 5 r a = v := by rw [e5]; unfold pz_v1; rw [pz_u_s]
  have J : pz_IV n q f (pz_v2 n q f p1 a r v) ∧ pz_St n (S.2 s) (pz_v2 n q f p1 a r v) := by
    refine pz_acc1 (b := a) (r := r) (v := v) Q ha IVs (fun k x y h6 h16 => ?_) (fun k b hk4 hb => ?_) (fun x b h => ?_) V ?_ ?_ ?_ hr0 hr12 hr2 hv hv2 hg ?_ ?_ (fun z => ?_) ?_
    · rw [e1 k x y (by omega) (by omega) (by omega) h16]; exact hk k x y (by omega)
    · unfold pz_v2 pz_v1
      rw [pz_u_k (by omega), pz_u_k (by omega), pz_u_x hb, pz_u_x hb]; exact ho k b hk4 hb
    · rw [e5]
      unfold pz_v1
      have : pz_u (pz_u (pz_u p1 1 a 0 v) 2 a 0 r) 5 r a v 5 x b = pz_u (pz_u p1 1 a 0 v) 2 a 0 r 5 x b := by
        simp only [pz_u]
        rw [if_neg (fun z => h ⟨z.2.1, z.2.2⟩)]
      rw [this, pz_u_k (by omega), pz_u_k (by omega)]
      exact hk 5 x b (by omega)
    · unfold pz_v2 pz_v1; rw [pz_u_k (by omega), pz_u_k (by omega), pz_u_k (by omega), pz_u_s]
    · unfold pz_v2 pz_v1; rw [pz_u_k (by omega), pz_u_k (by omega), pz_u_s]
    · rw [e1 0 a 0 (by omega) (by omega) (by omega) (by omega)]; exact h0
    · rw [e1 4 a 0 (by omega) (by omega) (by omega) (by omega)]; exact hO4
    · rw [e1 3 a 0 (by omega) (by omega) (by omega) (by omega)]; exact hO3
    · rw [e1 4 a 0 (by omega) (by omega) (by omega) (by omega)] at z; exact hO z
    · have ec : pz_cv (pz_v2 n q f p1 a r v) n r v = pz_cv (pz_v1 p1 a r v) n r v := by unfold pz_cv; simp only [e5]
      rw [ec]
      unfold pz_v2
      rw [pz_u_s, hk 16 0 0 (by omega)]
  have I2 := pz_pw_Inv I hs J
  have M : ∀ t, t = 8 + pz_ci r ∨ t = 10 → pz_MS n (pz_v2 n q f p1 a r v) (pz_mg 5 s r a t v 0) := fun t ht => Or.inr (Or.inr (Or.inr (Or.inr ⟨rfl, show 1 ≤ r by omega, hr12, ha, ht, hv2, V, hv⟩)))
  refine pz_sd_Inv (pz_sd_Inv I2 hs ?_) hs ?_
  · show pz_MS n ((pz_pw S s _).2 s) _
    rw [pz_pw_s]
    exact M _ (Or.inl rfl)
  · show pz_MS n ((pz_sd (pz_pw S s _) _).2 s) _
    rw [pz_sd_2 _ _ hs, pz_pw_s]
    exact M _ (Or.inr rfl)
theorem pz_accept_Inv {n q f s a : Nat} {S : pz_T} {g : pz_M} (Q : pz_Q n q f) (I : pz_Inv n q f S) (hs : s < 3) (ha : a < n) (hg : pz_MS n (S.2 s) g) : pz_Inv n q f (pz_accept n q f S s a (g 0) (g 2) (g 5)) := by
  have IVs := I.2.1 s hs
  obtain ⟨a1, a2, a3, a4⟩ := IVs.1 a ha
  obtain ⟨o1, o2, o3⟩ := IVs.2.1 a ha
  unfold pz_accept
  by_cases k2 : g 0 = 2
  · rw [if_pos k2]
    have hm : 1 ≤ g 2 ∧ g 2 ≤ 12 := by
      rcases hg with ⟨z, _⟩ | ⟨_, x, y, _⟩ | ⟨z, _⟩ | ⟨z, _⟩ | ⟨z, _⟩
      · omega
      · exact ⟨x, y⟩
      all_goals omega
    by_cases hr : S.2 s 0 a 0 < g 2
    · rw [if_pos hr]
      have J : pz_IV n q f (pz_u (S.2 s) 0 a 0 (g 2)) ∧ pz_St n (S.2 s) (pz_u (S.2 s) 0 a 0 (g 2)) := by
        refine pz_acc0 (b := a) IVs (fun k x y h => pz_u_k (by omega)) (fun k b _ hb => pz_u_x hb) (pz_u_k (by omega)) (pz_u_k (by omega)) (by rw [pz_u_s]; omega) (by rw [pz_u_s]; exact hm.2) ?_
        rw [pz_u_s, pz_u_k (by omega), pz_u_k (by omega)]
        exact ⟨by omega, o2, fun _ z => by omega⟩
      refine pz_sd_Inv (pz_pw_Inv I hs J) hs ?_
      show pz_MS n ((pz_pw S s _).2 s) _
      rw [pz_pw_s]
      refine Or.inr (Or.inr (Or.inl ⟨rfl, hm.1, hm.2, ha, rfl, ?_, ?_⟩))
      · show S.2 s 1 a 0 ≤ 1000
        rcases a4 with ⟨_, z⟩ | ⟨_, z1, z2⟩
        · omega
        · have := (a3 _ (by rw [z1]; exact z2)).2.2
          omega
      · show pz_PF _ (g 2) a (S.2 s 1 a 0) (S.2 s 2 a 0)
        refine ⟨by rw [pz_u_s]; exact Nat.le_refl _, by omega, fun x hx hne => ?_, ?_⟩
        · rw [pz_u_k (by omega)] at hne
          exact (a3 x hne).2.1
        · rw [pz_u_k (by omega)]
          exact a4
    · rw [if_neg hr]; exact I
  · rw [if_neg k2]
    by_cases k4 : g 0 = 4
    · rw [if_pos k4]
      have hm : 1 ≤ g 2 ∧ g 2 ≤ 12 ∧ g 5 ≤ 1000 ∧ S.2 s 17 (g 2) 0 = g 5 + 1 := by
        rcases hg with ⟨z, _⟩ | ⟨z, _⟩ | ⟨z, _⟩ | ⟨_, x, y, _, w, z⟩ | ⟨z, _⟩
        · omega
        · omega
        · omega
        · exact ⟨x, y, w, z⟩
        · omega
      obtain ⟨m1, m2, m3, m4⟩ := hm
      by_cases hr : S.2 s 0 a 0 ≤ g 2 ∧ S.2 s 2 a 0 < g 2
      · rw [if_pos hr]
        by_cases hv : g 5 = 0
        · rw [if_neg (fun z => z hv)]
          have g1 : S.2 s 17 (g 2) 0 = 1 := by omega
          have E0 : pz_u (pz_u (S.2 s) 0 a 0 (g 2)) 4 a 0 (g 2) 0 a 0 = g 2 := by rw [pz_u_k (by omega), pz_u_s]
          have E3 : pz_u (pz_u (S.2 s) 0 a 0 (g 2)) 4 a 0 (g 2) 3 a 0 = S.2 s 3 a 0 := by rw [pz_u_k (by omega), pz_u_k (by omega)]
          have E4 : pz_u (pz_u (S.2 s) 0 a 0 (g 2)) 4 a 0 (g 2) 4 a 0 = g 2 := pz_u_s _ _ _ _ _
          by_cases hp : S.2 s 3 a 0 = 0
          · rw [if_neg (fun z => z hp)]
            refine pz_pw_Inv I hs (pz_acc0 (b := a) IVs (fun k x y h => by rw [pz_u_k (by omega), pz_u_k (by omega)]) (fun k b _ hb => by rw [pz_u_x hb, pz_u_x hb]) (by rw [pz_u_k (by omega), pz_u_k (by omega)]) (by rw [pz_u_k (by omega), pz_u_k (by omega)]) (by rw [E0]; exact hr.1) (by rw [E0]; exact m2) ?_)
            rw [E0, E3, E4]
            exact ⟨Nat.le_refl _, o2, fun _ _ => ⟨g1, fun z => absurd hp z⟩⟩
          · rw [if_pos hp]
            exact pz_cast_Inv Q I hs ha (fun k x y h => by rw [pz_u_k (by omega), pz_u_k (by omega)]) (fun k b _ hb => by rw [pz_u_x hb, pz_u_x hb]) E0 hr.1 m2 hr.2 hp o2 (Or.inl g1) (by rw [E4]; exact Nat.le_refl _) (by rw [E3]; exact o2) (fun _ => g1)
        · rw [if_pos hv]
          refine pz_cast_Inv Q I hs ha (fun k x y h => pz_u_k (by omega)) (fun k b _ hb => pz_u_x hb) (pz_u_s _ _ _ _ _) hr.1 m2 hr.2 hv m3 (Or.inr m4) (by rw [pz_u_k (by omega)]; omega) (by rw [pz_u_k (by omega)]; exact o2) (fun z => ?_)
          rw [pz_u_k (by omega)] at z
          have e : S.2 s 0 a 0 = g 2 := by omega
          have := (o3 (by omega) (by omega)).1
          rw [e] at this
          exact this
      · rw [if_neg hr]; exact I
    · rw [if_neg k4]
      by_cases k1 : g 0 = 1
      · rw [if_pos k1]
        have hm : 1 ≤ g 5 ∧ g 5 ≤ 1000 := by
          rcases hg with ⟨_, _, _, x, y⟩ | ⟨z, _⟩ | ⟨z, _⟩ | ⟨z, _⟩ | ⟨z, _⟩
          · exact ⟨x, y⟩
          all_goals omega
        by_cases hp : S.2 s 3 a 0 = 0
        · rw [if_pos hp]
          by_cases ho : 0 < S.2 s 0 a 0 ∧ S.2 s 4 a 0 = S.2 s 0 a 0 ∧ S.2 s 2 a 0 < S.2 s 0 a 0
          · rw [if_pos ho]
            have g1 := (o3 ho.1 ho.2.1).1
            exact pz_cast_Inv Q I hs ha (fun k x y h => pz_u_k (by omega)) (fun k b _ hb => pz_u_x hb) (pz_u_k (by omega)) (Nat.le_refl _) a2 ho.2.2 (by omega) hm.2 (Or.inl g1) (by rw [pz_u_k (by omega)]; exact o1) (by rw [pz_u_s]; exact hm.2) (fun _ => g1)
          · rw [if_neg ho]
            refine pz_pw_Inv I hs (pz_acc0 (b := a) IVs (fun k x y h => pz_u_k (by omega)) (fun k b _ hb => pz_u_x hb) (pz_u_k (by omega)) (pz_u_k (by omega)) (by rw [pz_u_k (by omega)]; exact Nat.le_refl _) (by rw [pz_u_k (by omega)]; exact a2) ?_)
            rw [pz_u_s, pz_u_k (k' := 4) (by omega), pz_u_k (k' := 0) (by omega)]
            exact ⟨o1, hm.2, fun z1 z2 => ⟨(o3 z1 z2).1, fun _ => by omega⟩⟩
        · rw [if_neg hp]; exact I
      · rw [if_neg k1]; exact I
theorem pz_l2_Inv {n q f s r a v : Nat} {S : pz_T} (I : pz_Inv n q f S) (hs : s < 3) (ha : a < n) (hv : v ≤ 1000) : pz_Inv n q f (pz_pw S s (pz_l2 n q f (S.2 s) r a v)) := by
  have IVs := I.2.1 s hs
  have e : ∀ k x y, k ≠ 6 → k ≠ 7 → pz_l2 n q f (S.2 s) r a v k x y = S.2 s k x y := fun k x y h6 h7 => by unfold pz_l2; rw [pz_u_k h7, pz_u_k h6]
  have e5 : ∀ x y, pz_l2 n q f (S.2 s) r a v 5 x y = S.2 s 5 x y := fun x y => e 5 x y (by omega) (by omega)
  have st : pz_St n (S.2 s) (pz_l2 n q f (S.2 s) r a v) := pz_St_same (fun b => e 0 b 0 (by omega) (by omega)) e5 (fun x _ => e 17 x 0 (by omega) (by omega))
  obtain ⟨A, O, G1, G2, G3, C, Z, Sg⟩ := IVs
  refine pz_pw_Inv I hs ⟨⟨?_, ?_, ?_, ?_, pz_G3_st st (fun x => e 17 x 0 (by omega) (by omega)) G3, fun c hc => pz_Cc_st st (fun k y _ _ => e k c y (by omega) (by omega)) (C c hc), ?_, ?_⟩, st⟩
  · intro b hb
    rw [e 0 b 0 (by omega) (by omega), e 1 b 0 (by omega) (by omega), e 2 b 0 (by omega) (by omega)]
    simp only [e5]
    exact A b hb
  · intro b hb
    rw [e 0 b 0 (by omega) (by omega), e 2 b 0 (by omega) (by omega), e 3 b 0 (by omega) (by omega), e 4 b 0 (by omega) (by omega), e 17 _ 0 (by omega) (by omega)]
    exact O b hb
  · intro x hx
    rw [e 17 x 0 (by omega) (by omega)] at hx
    rw [e 17 x 0 (by omega) (by omega), e 8 _ 0 (by omega) (by omega), e 9 _ 0 (by omega) (by omega)]
    exact G1 x hx
  · intro x b hb hx
    rw [e5] at hx
    rw [e5, e 17 x 0 (by omega) (by omega)]
    exact G2 x b hb hx
  · have e6 : ∀ x b, pz_l2 n q f (S.2 s) r a v 6 x b = pz_u (S.2 s) 6 r a v 6 x b := fun x b => by unfold pz_l2; rw [pz_u_k (by omega)]
    refine ⟨fun x b hb => ⟨by rw [e5]; exact (Z.1 x b hb).1, ?_⟩, fun x b => ?_, ?_, ?_⟩
    · rw [e6, pz_u_y (by omega)]; exact (Z.1 x b hb).2
    · rw [e6]; unfold pz_u; split
      · exact hv
      · exact Z.2.1 x b
    · unfold pz_l2; rw [pz_u_s]
      have := Z.2.2.1
      split <;> omega
    · rw [e 16 0 0 (by omega) (by omega)]; exact Z.2.2.2
  · have ec : ∀ x w, pz_cv (pz_l2 n q f (S.2 s) r a v) n x w = pz_cv (S.2 s) n x w := fun x w => by unfold pz_cv; simp only [e5]
    unfold pz_S
    rw [e 16 0 0 (by omega) (by omega)]
    simp only [ec]
    exact Sg
theorem pz_hear_Inv {n q f : Nat} {S : pz_T} {g : pz_M} (Q : pz_Q n q f) (I : pz_Inv n q f S) (hs : g 1 < 3) (hg : pz_MS n (S.2 (g 1)) g) : pz_Inv n q f (pz_hear n q f S g) := by
  unfold pz_hear
  split
  · exact I
  · have q2 := Q.2.1
    have cl := pz_ci_lt (g 2)
    split
    · refine pz_accept_Inv Q I hs ?_ hg
      rcases hg with ⟨_, _, z | z | z, _⟩ | ⟨_, _, _, z, _⟩ | ⟨_, _, _, _, z, _⟩ | ⟨_, _, _, z, _⟩ | ⟨_, _, _, _, z | z, _⟩ <;> omega
    · split
      · exact pz_coord_Inv Q I hs (by omega) hg (by omega)
      · refine pz_l2_Inv I hs ?_ ?_
        · rcases hg with ⟨_, _, z | z | z, _⟩ | ⟨_, _, _, z, _⟩ | ⟨_, _, _, _, z, _⟩ | ⟨_, _, _, z, _⟩ | ⟨_, _, _, z1, z, _⟩ <;> omega
        · rcases hg with ⟨_, _, _, _, z⟩ | ⟨_, _, _, _, z⟩ | ⟨_, _, _, _, _, z, _⟩ | ⟨_, _, _, _, z, _⟩ | ⟨_, _, _, _, _, z, _⟩ <;> omega
theorem pz_deliver_Inv {n q f i : Nat} {S : pz_T} {g : pz_M} (Q : pz_Q n q f) (I : pz_Inv n q f S) (h : S.1[i]? = some g) : pz_Inv n q f (pz_hear n q f (pz_rm S i) g) := by
  obtain ⟨h1, h2⟩ := I.2.2.1 g (List.mem_of_getElem? h)
  exact pz_hear_Inv Q (pz_rm_Inv I) h1 h2
end
section
/-! Rows of my own over the kit's: a world whose cells have numbers of two parts; a memory of ints (cell, place); contracts of methods that make no cell. -/
def xw_ws (ids : List (Nat × Nat)) (ad : Nat × Nat → Nat) (cf : Nat × Nat → va_E) : va_W := ids.map (fun k => (ad k, cf k))
def xw_up (cf : Nat × Nat → va_E) (k : Nat × Nat) (e : va_E) : Nat × Nat → va_E := fun j => if j = k then e else cf j
def xw_A (ids : List (Nat × Nat)) (ad : Nat × Nat → Nat) : Nat → Prop := fun q => ∃ k, k ∈ ids ∧ ad k = q
theorem xw_at {ids : List (Nat × Nat)} {ad : Nat × Nat → Nat} {cf : Nat × Nat → va_E} {q0 : Nat} {k : Nat × Nat} (h : ids[q0]? = some k) : (xw_ws ids ad cf)[q0]? = some (ad k, cf k) := by
  simp [xw_ws, h]
theorem xw_of {ids : List (Nat × Nat)} {ad : Nat × Nat → Nat} {cf : Nat × Nat → va_E} {q0 : Nat} {x : Nat × va_E} (h : (xw_ws ids ad cf)[q0]? = some x) : ∃ k, ids[q0]? = some k ∧ x = (ad k, cf k) := by
  simp only [xw_ws, List.getElem?_map] at h
  cases hk : ids[q0]? with
  | none => rw [hk] at h; cases h
  | some k => rw [hk] at h; exact ⟨k, rfl, (Option.some.inj h).symm⟩
theorem xw_set {ids : List (Nat × Nat)} {ad : Nat × Nat → Nat} {cf : Nat × Nat → va_E} {A : Nat → Prop} (hD : va_D A (xw_ws ids ad cf)) {q0 : Nat} {k : Nat × Nat} (h : ids[q0]? = some k) (e : va_E) : (xw_ws ids ad cf).set q0 (ad k, e) = xw_ws ids ad (xw_up cf k e) := by
  have hl : q0 < ids.length := (List.getElem?_eq_some_iff.mp h).1
  refine List.ext_getElem? (fun i => ?_)
  by_cases hi : i = q0
  · subst hi
    rw [List.getElem?_set_self (by simp [xw_ws]; exact hl), xw_at h]
    simp [xw_up]
  · rw [List.getElem?_set_ne (Ne.symm hi)]
    cases hk : ids[i]? with
    | none => simp [xw_ws, hk]
    | some j =>
      rw [xw_at hk, xw_at hk]
      have hne : j ≠ k := fun z => by
        subst z
        exact hi (hD.1 i q0 _ _ (xw_at hk) (xw_at h) rfl)
      simp [xw_up, hne]
theorem xw_D {ids : List (Nat × Nat)} {ad : Nat × Nat → Nat} {cf cf' : Nat × Nat → va_E} {A : Nat → Prop} (hD : va_D A (xw_ws ids ad cf)) : va_D A (xw_ws ids ad cf') := by
  refine ⟨fun i j x y hi hj hxy => ?_, fun i x hi => ?_⟩
  · obtain ⟨a, ha, rfl⟩ := xw_of hi
    obtain ⟨b, hb, rfl⟩ := xw_of hj
    exact hD.1 i j _ _ (xw_at ha) (xw_at hb) hxy
  · obtain ⟨a, ha, rfl⟩ := xw_of hi
    exact hD.2 i (ad a, cf a) (xw_at ha)
theorem xw_DA {ids : List (Nat × Nat)} {ad : Nat × Nat → Nat} {cf : Nat × Nat → va_E} {A : Nat → Prop} (hD : va_D A (xw_ws ids ad cf)) : va_D (xw_A ids ad) (xw_ws ids ad cf) := by
  refine ⟨hD.1, fun i x hi => ?_⟩
  obtain ⟨a, ha, rfl⟩ := xw_of hi
  exact ⟨a, List.mem_of_getElem? ha, rfl⟩
/-- the fixed part of a walk: machine, bytes, words of the tables, own name, what is known of the names -/
def xw_Z (p : Program) (c : Code) (cc : ByteArray) (s : State) (args : Array Value) (m : MethodId) (own : String) (Ts : List Cond) (D : va_G) (cl : List vw_C) (tys : List (ClassId × FieldType)) : Prop :=
  p.tables.exec = Jvm.exec ∧ c.code = cc ∧ (∀ w ∈ Ts, w.before args s = true) ∧ s.vm.findClass own = some m.cls ∧ va_K D cl tys s
/-- the world now -/
def xw_H (D : va_G) (cl : List vw_C) (A : Nat → Prop) (H0 : Heap) (ids : List (Nat × Nat)) (ad : Nat × Nat → Nat) (cf : Nat × Nat → va_E) (H : Heap) (locs : List Loc) : Prop :=
  va_P D cl (xw_ws ids ad cf) H ∧ va_D A (xw_ws ids ad cf) ∧ va_S A H0 H locs
def xw_M (xk : Nat × Nat → (Nat → Int32) → va_E) (M : Nat × Nat → Nat → Int32) : Nat × Nat → va_E := fun k => xk k (M k)
def xw_mw (M : Nat × Nat → Nat → Int32) (k : Nat × Nat) (g : Nat → Int32) : Nat × Nat → Nat → Int32 := fun j => if j = k then g else M j
theorem xw_mw_s (M : Nat × Nat → Nat → Int32) (k : Nat × Nat) (g : Nat → Int32) : xw_mw M k g k = g := by simp [xw_mw]
theorem xw_mw_n {M : Nat × Nat → Nat → Int32} {k j : Nat × Nat} {g : Nat → Int32} (h : j ≠ k) : xw_mw M k g j = M j := by simp [xw_mw, h]
theorem xw_up_M (xk : Nat × Nat → (Nat → Int32) → va_E) (M : Nat × Nat → Nat → Int32) (k : Nat × Nat) (g : Nat → Int32) : xw_up (xw_M xk M) k (xk k g) = xw_M xk (xw_mw M k g) := by
  funext j
  by_cases h : j = k
  · subst h; simp [xw_up, xw_M, xw_mw]
  · simp [xw_up, xw_M, xw_mw, h]
section XW
variable {p : Program} {l : Launch} {e : Env} {R : Room} {s : State} {m : MethodId} {args : Array Value} {below : List Frame} {meth : Method} {c : Code} {H : Heap} {locs : List Loc} {cells slots : Nat} {Q : State → Prop}
variable {cc : ByteArray} {pc : Nat} {ls : Array Slot} {rest : List Value} {D : va_G} {cl : List vw_C} {A : Nat → Prop} {tys : List (ClassId × FieldType)} {H0 : Heap} {Ts : List Cond} {own : String}
variable {ids : List (Nat × Nat)} {ad : Nat × Nat → Nat} {cf : Nat × Nat → va_E} {xk : Nat × Nat → (Nat → Int32) → va_E} {M : Nat × Nat → Nat → Int32}
theorem xw_get (Z : xw_Z p c cc s args m own Ts D cl tys) (hw : xw_H D cl A H0 ids ad cf H locs) {k : Nat × Nat} (hk : k ∈ ids) {ci : Nat} {fs : List Value} (he : cf k = .inr (ci, fs)) {C : String} {T : u_T} {N : Nat} (hc : cl[ci]? = some (C, T, N)) (hin : ∀ w ∈ u_ws C T N, w ∈ Ts) (j : Nat) (hj : j < N) {index : Nat} (hl : Cond.fieldLink own index C (T j).2.1 (T j).2.2.1 ∈ Ts) (hT : (T j).1 = C) {v : Value} (hv : fs[j]? = some v) (hdg : decode cc pc = .ok (.getfield index, 3))
    (kk : W p l e R s m args below meth c H locs cells slots Q (F0 m (pc + 3) ls (v :: rest))) : W p l e R s m args below meth c H locs cells slots Q (F0 m pc ls (.ref (ad k) :: rest)) := by
  obtain ⟨hx, hb, hts, hown, hK⟩ := Z
  obtain ⟨q0, hq⟩ := List.getElem?_of_mem hk
  exact va_get hx hb hts hin hown hK hw.1 q0 (by rw [xw_at hq, he]) hc j hj (hts _ hl) (fun x h => by rw [hT] at h; exact h) hv hdg kk
theorem xw_put (Z : xw_Z p c cc s args m own Ts D cl tys) (hw : xw_H D cl A H0 ids ad cf H locs) {k : Nat × Nat} (hk : k ∈ ids) {ci : Nat} {fs : List Value} (he : cf k = .inr (ci, fs)) {C : String} {T : u_T} {N : Nat} (hc : cl[ci]? = some (C, T, N)) (hin : ∀ w ∈ u_ws C T N, w ∈ Ts) (ty0 : Nat → FieldType) (hty : ∀ k, k < N → parseFieldDescriptor (T k).2.2.1 = some (ty0 k)) (hnm : ∀ a, a < N → ∀ b, b < N → a ≠ b → (T a).2.1 ≠ (T b).2.1) (j : Nat) (hj : j < N) {index : Nat} (hl : Cond.fieldLink own index C (T j).2.1 (T j).2.2.1 ∈ Ts) (hT : (T j).1 = C) (hfin : (T j).2.2.2 = false) {v : Value} (hn : narrow (ty0 j) v = v) (hfit : fits (ty0 j) v = true) (hlen : j < fs.length) (hdg : decode cc pc = .ok (.putfield index, 3))
    (kk : ∀ (H1 : Heap) (locs1 : List Loc), xw_H D cl A H0 ids ad (xw_up cf k (.inr (ci, fs.set j v))) H1 locs1 → W p l e R s m args below meth c H1 locs1 cells slots Q (F0 m (pc + 3) ls rest)) : W p l e R s m args below meth c H locs cells slots Q (F0 m pc ls (v :: .ref (ad k) :: rest)) := by
  obtain ⟨hx, hb, hts, hown, hK⟩ := Z
  obtain ⟨q0, hq⟩ := List.getElem?_of_mem hk
  refine va_put (A := A) (H0 := H0) hx hb hts hin ty0 hty hnm hown hK hw.1 hw.2.1 hw.2.2 q0 (by rw [xw_at hq, he]) hc j hj (hts _ hl) (fun x h => by rw [hT] at h; exact h) hfin (hty j hj) hn hfit hlen hdg (fun H1 locs1 hP hD hS => ?_)
  rw [xw_set hw.2.1 hq] at hP hD
  exact kk H1 locs1 ⟨hP, hD, hS⟩
/-- an int field of the memory -/
theorem xw_puti (Z : xw_Z p c cc s args m own Ts D cl tys) (hw : xw_H D cl A H0 ids ad (xw_M xk M) H locs) {k : Nat × Nat} (hk : k ∈ ids) {ci : Nat} {fs : (Nat → Int32) → List Value} (he : ∀ g, xk k g = .inr (ci, fs g)) {C : String} {T : u_T} {N : Nat} (hc : cl[ci]? = some (C, T, N)) (hin : ∀ w ∈ u_ws C T N, w ∈ Ts) (ty0 : Nat → FieldType) (hty : ∀ k, k < N → parseFieldDescriptor (T k).2.2.1 = some (ty0 k)) (hnm : ∀ a, a < N → ∀ b, b < N → a ≠ b → (T a).2.1 ≠ (T b).2.1) (j : Nat) (hj : j < N) {index : Nat} (hl : Cond.fieldLink own index C (T j).2.1 (T j).2.2.1 ∈ Ts) (hT : (T j).1 = C) (hfin : (T j).2.2.2 = false) {v : Int32} (hi : ty0 j = .int) (hset : ∀ g : Nat → Int32, j < (fs g).length ∧ (fs g).set j (.int v) = fs (upd g j v)) (hdg : decode cc pc = .ok (.putfield index, 3))
    (kk : ∀ (H1 : Heap) (locs1 : List Loc), xw_H D cl A H0 ids ad (xw_M xk (xw_mw M k (upd (M k) j v))) H1 locs1 → W p l e R s m args below meth c H1 locs1 cells slots Q (F0 m (pc + 3) ls rest)) : W p l e R s m args below meth c H locs cells slots Q (F0 m pc ls (.int v :: .ref (ad k) :: rest)) := by
  refine xw_put Z hw hk (he (M k)) hc hin ty0 hty hnm j hj hl hT hfin (by rw [hi]; rfl) (by rw [hi]; rfl) (hset _).1 hdg (fun H1 locs1 h => ?_)
  rw [(hset _).2, ← he, xw_up_M] at h
  exact kk H1 locs1 h
theorem xw_iald (Z : xw_Z p c cc s args m own Ts D cl tys) (hw : xw_H D cl A H0 ids ad (xw_M xk M) H locs) {k : Nat × Nat} (hk : k ∈ ids) {cA : ClassId} {N : Nat} (he : ∀ g, xk k g = .inl (cA, N, .inl g)) (t0 : Nat) (ht : tys[t0]? = some (cA, .int)) {i : Int32} (j : Nat) (hi : i = nI j) (hj : j < N) (hN : N < 2 ^ 31) (hdg : decode cc pc = .ok (.iaload, 1))
    (kk : W p l e R s m args below meth c H locs cells slots Q (F0 m (pc + 1) ls (.int (M k j) :: rest))) : W p l e R s m args below meth c H locs cells slots Q (F0 m pc ls (.int i :: .ref (ad k) :: rest)) := by
  obtain ⟨hx, hb, hts, hown, hK⟩ := Z
  obtain ⟨q0, hq⟩ := List.getElem?_of_mem hk
  subst hi
  refine va_iald hx hb hK hw.1 q0 t0 (f := M k) (n := N) (by rw [xw_at hq]; exact congrArg (fun z => some (ad k, z)) (he (M k))) ht (vp_in_nI hj hN) hdg ?_
  rw [nI_clamp (by omega)]
  exact kk
theorem xw_iast (Z : xw_Z p c cc s args m own Ts D cl tys) (hw : xw_H D cl A H0 ids ad (xw_M xk M) H locs) {k : Nat × Nat} (hk : k ∈ ids) {cA : ClassId} {N : Nat} (he : ∀ g, xk k g = .inl (cA, N, .inl g)) (t0 : Nat) (ht : tys[t0]? = some (cA, .int)) {i x : Int32} (j : Nat) (hi : i = nI j) (hj : j < N) (hN : N < 2 ^ 31) (hdg : decode cc pc = .ok (.iastore, 1))
    (kk : ∀ (H1 : Heap) (locs1 : List Loc), xw_H D cl A H0 ids ad (xw_M xk (xw_mw M k (upd (M k) j x))) H1 locs1 → W p l e R s m args below meth c H1 locs1 cells slots Q (F0 m (pc + 1) ls rest)) : W p l e R s m args below meth c H locs cells slots Q (F0 m pc ls (.int x :: .int i :: .ref (ad k) :: rest)) := by
  obtain ⟨hx, hb, hts, hown, hK⟩ := Z
  obtain ⟨q0, hq⟩ := List.getElem?_of_mem hk
  subst hi
  refine va_iast (A := A) (H0 := H0) hx hb hK hw.1 hw.2.1 hw.2.2 q0 t0 (f := M k) (n := N) (by rw [xw_at hq]; exact congrArg (fun z => some (ad k, z)) (he (M k))) ht (vp_in_nI hj hN) hdg (fun H1 locs1 hP hD hS => ?_)
  rw [nI_clamp (by omega), xw_set hw.2.1 hq, ← he, xw_up_M] at hP hD
  exact kk H1 locs1 ⟨hP, hD, hS⟩
theorem xw_zald (Z : xw_Z p c cc s args m own Ts D cl tys) (hw : xw_H D cl A H0 ids ad (xw_M xk M) H locs) {k : Nat × Nat} (hk : k ∈ ids) {cA : ClassId} {N : Nat} (he : ∀ g, xk k g = .inl (cA, N, .inl g)) (t0 : Nat) (ht : tys[t0]? = some (cA, .boolean)) {i : Int32} (j : Nat) (hi : i = nI j) (hj : j < N) (hN : N < 2 ^ 31) (hdg : decode cc pc = .ok (.baload, 1))
    (kk : W p l e R s m args below meth c H locs cells slots Q (F0 m (pc + 1) ls (.int (M k j) :: rest))) : W p l e R s m args below meth c H locs cells slots Q (F0 m pc ls (.int i :: .ref (ad k) :: rest)) := by
  obtain ⟨hx, hb, hts, hown, hK⟩ := Z
  obtain ⟨q0, hq⟩ := List.getElem?_of_mem hk
  subst hi
  refine va_zald hx hb hK hw.1 q0 t0 (f := M k) (n := N) (by rw [xw_at hq]; exact congrArg (fun z => some (ad k, z)) (he (M k))) ht (vp_in_nI hj hN) hdg ?_
  rw [nI_clamp (by omega)]
  exact kk
theorem xw_zast (Z : xw_Z p c cc s args m own Ts D cl tys) (hw : xw_H D cl A H0 ids ad (xw_M xk M) H locs) {k : Nat × Nat} (hk : k ∈ ids) {cA : ClassId} {N : Nat} (he : ∀ g, xk k g = .inl (cA, N, .inl g)) (t0 : Nat) (ht : tys[t0]? = some (cA, .boolean)) {i x : Int32} (hx01 : vp_nar .boolean x = x) (j : Nat) (hi : i = nI j) (hj : j < N) (hN : N < 2 ^ 31) (hdg : decode cc pc = .ok (.bastore, 1))
    (kk : ∀ (H1 : Heap) (locs1 : List Loc), xw_H D cl A H0 ids ad (xw_M xk (xw_mw M k (upd (M k) j x))) H1 locs1 → W p l e R s m args below meth c H1 locs1 cells slots Q (F0 m (pc + 1) ls rest)) : W p l e R s m args below meth c H locs cells slots Q (F0 m pc ls (.int x :: .int i :: .ref (ad k) :: rest)) := by
  obtain ⟨hx, hb, hts, hown, hK⟩ := Z
  obtain ⟨q0, hq⟩ := List.getElem?_of_mem hk
  subst hi
  refine va_zast (A := A) (H0 := H0) hx hb hK hw.1 hw.2.1 hw.2.2 q0 t0 (f := M k) (n := N) (by rw [xw_at hq]; exact congrArg (fun z => some (ad k, z)) (he (M k))) ht (vp_in_nI hj hN) hdg (fun H1 locs1 hP hD hS => ?_)
  rw [nI_clamp (by omega), xw_set hw.2.1 hq, hx01, ← he, xw_up_M] at hP hD
  exact kk H1 locs1 ⟨hP, hD, hS⟩
/-- an array of references that stays as it is -/
theorem xw_aald (Z : xw_Z p c cc s args m own Ts D cl tys) (hw : xw_H D cl A H0 ids ad cf H locs) {k : Nat × Nat} (hk : k ∈ ids) {cA : ClassId} {N : Nat} {f : Nat → Option Nat} (he : cf k = .inl (cA, N, .inr (.inr (.inr (.inr f))))) {C : String} (t0 : Nat) (ht : tys[t0]? = some (cA, .object C)) {i : Int32} (j : Nat) (hi : i = nI j) (hj : j < N) (hN : N < 2 ^ 31) {a : Nat} (hf : f j = some a) (hdg : decode cc pc = .ok (.aaload, 1))
    (kk : W p l e R s m args below meth c H locs cells slots Q (F0 m (pc + 1) ls (.ref a :: rest))) : W p l e R s m args below meth c H locs cells slots Q (F0 m pc ls (.int i :: .ref (ad k) :: rest)) := by
  obtain ⟨hx, hb, hts, hown, hK⟩ := Z
  obtain ⟨q0, hq⟩ := List.getElem?_of_mem hk
  subst hi
  refine va_aldq hx hb hK hw.1 q0 t0 (f := f) (n := N) (by rw [xw_at hq, he]) ht (vp_in_nI hj hN) hdg ?_
  rw [nI_clamp (by omega), hf]
  exact kk
end XW
def xw_N (nl : List (String × Nat × MethodName × String)) (U : State) : Prop := ∀ x ∈ nl, va_Nw (.methodLinkNest x.1 x.2.1 x.2.2.1 x.2.2.2) U
theorem xw_N.warm {nl : List (String × Nat × MethodName × String)} {s U : State} (hW : s.WarmedH U.vm) (h : xw_N nl s) : xw_N nl U := fun x hx => va_Nw.warmM hW (h x hx)
/-- a contract's start and end: the world at memory M; the answer, and a memory with Pm -/
def xw_Pc (D : va_G) (cl : List vw_C) (tys : List (ClassId × FieldType)) (ids : List (Nat × Nat)) (ad : Nat × Nat → Nat) (xk : Nat × Nat → (Nat → Int32) → va_E) (nl : List (String × Nat × MethodName × String)) (M : Nat × Nat → Nat → Int32) (av : List Value) : Array Value → State → Prop := fun v U =>
  v = av.toArray ∧ va_P D cl (xw_ws ids ad (xw_M xk M)) U.heap ∧ va_K D cl tys U ∧ va_D (xw_A ids ad) (xw_ws ids ad (xw_M xk M)) ∧ xw_N nl U
def xw_Qc (D : va_G) (cl : List vw_C) (ids : List (Nat × Nat)) (ad : Nat × Nat → Nat) (xk : Nat × Nat → (Nat → Int32) → va_E) (r : Option Value) (Pm : (Nat × Nat → Nat → Int32) → Prop) : Array Value → State → Outcome → State → Prop := fun _ st o t =>
  (o = .returned r ∧ ∃ M', Pm M' ∧ va_P D cl (xw_ws ids ad (xw_M xk M')) t.heap) ∧ va_F (xw_A ids ad) st t
section XC
variable {p : Program} {l : Launch} {e : Env} {R : Room} {s : State} {m : MethodId} {args : Array Value} {below : List Frame} {meth : Method} {c : Code} {H : Heap} {locs : List Loc} {cells slots : Nat} {Q : State → Prop}
variable {pc : Nat} {ls : Array Slot} {rest st0 : List Value} {D : va_G} {cl : List vw_C} {H0 : Heap} {a : Array Value}
variable {ids : List (Nat × Nat)} {ad : Nat × Nat → Nat} {xk : Nat × Nat → (Nat → Int32) → va_E} {M : Nat × Nat → Nat → Int32} {r : Option Value} {Pm : (Nat × Nat → Nat → Int32) → Prop}
theorem xw_call (hr : va_Run p l e R s m args below meth c H locs cells slots 0 0 (F0 m pc ls st0) rest (xw_Qc D cl ids ad xk r Pm a) (xw_A ids ad)) (hw : xw_H D cl (xw_A ids ad) H0 ids ad (xw_M xk M) H locs)
    (kk : ∀ (M1 : Nat × Nat → Nat → Int32) (H1 : Heap) (locs1 : List Loc), Pm M1 → xw_H D cl (xw_A ids ad) H0 ids ad (xw_M xk M1) H1 locs1 → W p l e R s m args below meth c H1 locs1 cells slots Q (F0 m (pc + 3) ls (r.toList ++ rest))) : W p l e R s m args below meth c H locs cells slots Q (F0 m pc ls st0) := by
  intro T hT X
  obtain ⟨v, st₀, t, T', L, h0, X', hL, e1, e2, ⟨⟨hv, M1, hp, hP⟩, hz, hk⟩, st⟩ := hr T hT X
  obtain rfl : v = r := by injection hv
  rw [h0] at hz hk
  have hS := hw.2.2
  obtain ⟨t2, a1, b1⟩ := kk M1 T'.heap (locs ++ L) hp ⟨by rw [e1]; exact hP, xw_D hw.2.1, ⟨Nat.le_trans hS.1 (by rw [e1]; exact hz), fun q h1 h2 => by rw [e1, hk q (Nat.lt_of_lt_of_le h1 hS.1) h2]; exact hS.2.1 q h1 h2, fun q hq => by
      rcases List.mem_append.mp hq with h | h
      · exact hS.2.2 q h
      · exact hL q h⟩⟩ T' rfl X'
  exact ⟨t2, st t2 a1, b1⟩
end XC
end
section
/-! Rows for ints that are numbers (nI). -/
section XI
variable {p : Program} {l : Launch} {e : Env} {R : Room} {s : State} {m : MethodId} {args : Array Value} {below : List Frame} {meth : Method} {c : Code} {H : Heap} {locs : List Loc} {cells slots : Nat} {Q : State → Prop}
variable {cc : ByteArray} {pc : Nat} {ls : Array Slot} {rest : List Value} {D : va_G} {cl : List vw_C} {tys : List (ClassId × FieldType)} {Ts : List Cond} {own : String}

theorem xi_icmp_eq (Z : xw_Z p c cc s args m own Ts D cl tys) {a b : Nat} {off : Int} {tgt : Nat} (hdg : decode cc pc = .ok (.if_icmp .eq off, 3)) (ht : (pc : Int) + off = (tgt : Int)) (ha : a < 2 ^ 31) (hb : b < 2 ^ 31)
    (kt : a = b → W p l e R s m args below meth c H locs cells slots Q (F0 m tgt ls rest)) (kf : a ≠ b → W p l e R s m args below meth c H locs cells slots Q (F0 m (pc + 3) ls rest)) : W p l e R s m args below meth c H locs cells slots Q (F0 m pc ls (.int (nI b) :: .int (nI a) :: rest)) :=
  lv_icmp_eq Z.1 Z.2.1 hdg ht (fun h => kt ((nI_eq ha hb).mp h)) (fun h => kf (fun z => h ((nI_eq ha hb).mpr z)))
theorem xi_icmp_ne (Z : xw_Z p c cc s args m own Ts D cl tys) {a b : Nat} {off : Int} {tgt : Nat} (hdg : decode cc pc = .ok (.if_icmp .ne off, 3)) (ht : (pc : Int) + off = (tgt : Int)) (ha : a < 2 ^ 31) (hb : b < 2 ^ 31)
    (kt : a ≠ b → W p l e R s m args below meth c H locs cells slots Q (F0 m tgt ls rest)) (kf : a = b → W p l e R s m args below meth c H locs cells slots Q (F0 m (pc + 3) ls rest)) : W p l e R s m args below meth c H locs cells slots Q (F0 m pc ls (.int (nI b) :: .int (nI a) :: rest)) :=
  lv_icmp_ne Z.1 Z.2.1 hdg ht (fun h => kt (fun z => h ((nI_eq ha hb).mpr z))) (fun h => kf ((nI_eq ha hb).mp h))
theorem xi_icmp_lt (Z : xw_Z p c cc s args m own Ts D cl tys) {a b : Nat} {off : Int} {tgt : Nat} (hdg : decode cc pc = .ok (.if_icmp .lt off, 3)) (ht : (pc : Int) + off = (tgt : Int)) (ha : a < 2 ^ 31) (hb : b < 2 ^ 31)
    (kt : a < b → W p l e R s m args below meth c H locs cells slots Q (F0 m tgt ls rest)) (kf : b ≤ a → W p l e R s m args below meth c H locs cells slots Q (F0 m (pc + 3) ls rest)) : W p l e R s m args below meth c H locs cells slots Q (F0 m pc ls (.int (nI b) :: .int (nI a) :: rest)) :=
  lv_icmp_lt Z.1 Z.2.1 hdg ht (fun h => kt ((nI_ltI ha hb).mp h)) (fun h => kf (Nat.le_of_not_lt (fun z => h ((nI_ltI ha hb).mpr z))))
theorem xi_icmp_ge (Z : xw_Z p c cc s args m own Ts D cl tys) {a b : Nat} {off : Int} {tgt : Nat} (hdg : decode cc pc = .ok (.if_icmp .ge off, 3)) (ht : (pc : Int) + off = (tgt : Int)) (ha : a < 2 ^ 31) (hb : b < 2 ^ 31)
    (kt : b ≤ a → W p l e R s m args below meth c H locs cells slots Q (F0 m tgt ls rest)) (kf : a < b → W p l e R s m args below meth c H locs cells slots Q (F0 m (pc + 3) ls rest)) : W p l e R s m args below meth c H locs cells slots Q (F0 m pc ls (.int (nI b) :: .int (nI a) :: rest)) :=
  lv_icmp_ge Z.1 Z.2.1 hdg ht (fun h => kt ((nI_leI hb ha).mp h)) (fun h => kf (Nat.lt_of_not_le (fun z => h ((nI_leI hb ha).mpr z))))
theorem xi_icmp_gt (Z : xw_Z p c cc s args m own Ts D cl tys) {a b : Nat} {off : Int} {tgt : Nat} (hdg : decode cc pc = .ok (.if_icmp .gt off, 3)) (ht : (pc : Int) + off = (tgt : Int)) (ha : a < 2 ^ 31) (hb : b < 2 ^ 31)
    (kt : b < a → W p l e R s m args below meth c H locs cells slots Q (F0 m tgt ls rest)) (kf : a ≤ b → W p l e R s m args below meth c H locs cells slots Q (F0 m (pc + 3) ls rest)) : W p l e R s m args below meth c H locs cells slots Q (F0 m pc ls (.int (nI b) :: .int (nI a) :: rest)) :=
  lv_icmp_gt Z.1 Z.2.1 hdg ht (fun h => kt ((nI_ltI hb ha).mp h)) (fun h => kf (Nat.le_of_not_lt (fun z => h ((nI_ltI hb ha).mpr z))))
theorem xi_icmp_le (Z : xw_Z p c cc s args m own Ts D cl tys) {a b : Nat} {off : Int} {tgt : Nat} (hdg : decode cc pc = .ok (.if_icmp .le off, 3)) (ht : (pc : Int) + off = (tgt : Int)) (ha : a < 2 ^ 31) (hb : b < 2 ^ 31)
    (kt : a ≤ b → W p l e R s m args below meth c H locs cells slots Q (F0 m tgt ls rest)) (kf : b < a → W p l e R s m args below meth c H locs cells slots Q (F0 m (pc + 3) ls rest)) : W p l e R s m args below meth c H locs cells slots Q (F0 m pc ls (.int (nI b) :: .int (nI a) :: rest)) :=
  lv_icmp_le Z.1 Z.2.1 hdg ht (fun h => kt ((nI_leI ha hb).mp h)) (fun h => kf (Nat.lt_of_not_le (fun z => h ((nI_leI ha hb).mpr z))))
theorem xi_if_eq (Z : xw_Z p c cc s args m own Ts D cl tys) {a : Nat} {off : Int} {tgt : Nat} (hdg : decode cc pc = .ok (.ifCond .eq off, 3)) (ht : (pc : Int) + off = (tgt : Int)) (ha : a < 2 ^ 31)
    (kt : a = 0 → W p l e R s m args below meth c H locs cells slots Q (F0 m tgt ls rest)) (kf : a ≠ 0 → W p l e R s m args below meth c H locs cells slots Q (F0 m (pc + 3) ls rest)) : W p l e R s m args below meth c H locs cells slots Q (F0 m pc ls (.int (nI a) :: rest)) :=
  lv_if_eq Z.1 Z.2.1 hdg ht (fun h => kt ((nI_eq ha (by decide : (0 : Nat) < 2 ^ 31)).mp (h.trans nI_0.symm))) (fun h => kf (fun z => h (((nI_eq ha (by decide : (0 : Nat) < 2 ^ 31)).mpr z).trans nI_0)))
theorem xi_if_ne (Z : xw_Z p c cc s args m own Ts D cl tys) {a : Nat} {off : Int} {tgt : Nat} (hdg : decode cc pc = .ok (.ifCond .ne off, 3)) (ht : (pc : Int) + off = (tgt : Int)) (ha : a < 2 ^ 31)
    (kt : a ≠ 0 → W p l e R s m args below meth c H locs cells slots Q (F0 m tgt ls rest)) (kf : a = 0 → W p l e R s m args below meth c H locs cells slots Q (F0 m (pc + 3) ls rest)) : W p l e R s m args below meth c H locs cells slots Q (F0 m pc ls (.int (nI a) :: rest)) :=
  lv_if_ne Z.1 Z.2.1 hdg ht (fun h => kt (fun z => h (((nI_eq ha (by decide : (0 : Nat) < 2 ^ 31)).mpr z).trans nI_0))) (fun h => kf ((nI_eq ha (by decide : (0 : Nat) < 2 ^ 31)).mp (h.trans nI_0.symm)))
theorem xi_if_le (Z : xw_Z p c cc s args m own Ts D cl tys) {a : Nat} {off : Int} {tgt : Nat} (hdg : decode cc pc = .ok (.ifCond .le off, 3)) (ht : (pc : Int) + off = (tgt : Int)) (ha : a < 2 ^ 31)
    (kt : a = 0 → W p l e R s m args below meth c H locs cells slots Q (F0 m tgt ls rest)) (kf : a ≠ 0 → W p l e R s m args below meth c H locs cells slots Q (F0 m (pc + 3) ls rest)) : W p l e R s m args below meth c H locs cells slots Q (F0 m pc ls (.int (nI a) :: rest)) :=
  lv_if_le Z.1 Z.2.1 hdg ht (fun h => kt (Nat.le_zero.mp ((nI_leI ha (by decide : (0 : Nat) < 2 ^ 31)).mp (by rw [nI_0]; exact h)))) (fun h => kf (fun z => h (by rw [z, nI_0]; exact Int32.le_refl 0)))
theorem xi_if_gt (Z : xw_Z p c cc s args m own Ts D cl tys) {a : Nat} {off : Int} {tgt : Nat} (hdg : decode cc pc = .ok (.ifCond .gt off, 3)) (ht : (pc : Int) + off = (tgt : Int)) (ha : a < 2 ^ 31)
    (kt : a ≠ 0 → W p l e R s m args below meth c H locs cells slots Q (F0 m tgt ls rest)) (kf : a = 0 → W p l e R s m args below meth c H locs cells slots Q (F0 m (pc + 3) ls rest)) : W p l e R s m args below meth c H locs cells slots Q (F0 m pc ls (.int (nI a) :: rest)) :=
  lv_if_gt Z.1 Z.2.1 hdg ht (fun h => kt (Nat.pos_iff_ne_zero.mp ((nI_ltI (by decide : (0 : Nat) < 2 ^ 31) ha).mp (by rw [nI_0]; exact h)))) (fun h => kf (Nat.le_zero.mp (Nat.le_of_not_lt (fun z => h (by have := (nI_ltI (by decide : (0 : Nat) < 2 ^ 31) ha).mpr z; rw [nI_0] at this; exact this)))))
theorem xi_add (Z : xw_Z p c cc s args m own Ts D cl tys) {a b : Nat} (hdg : decode cc pc = .ok (.iadd, 1))
    (k : W p l e R s m args below meth c H locs cells slots Q (F0 m (pc + 1) ls (.int (nI (a + b)) :: rest))) : W p l e R s m args below meth c H locs cells slots Q (F0 m pc ls (.int (nI b) :: .int (nI a) :: rest)) :=
  lv_iadd Z.1 Z.2.1 hdg (by rw [nI_add]; exact k)
theorem xi_sub (Z : xw_Z p c cc s args m own Ts D cl tys) {a b : Nat} (hdg : decode cc pc = .ok (.isub, 1)) (hle : b ≤ a)
    (k : W p l e R s m args below meth c H locs cells slots Q (F0 m (pc + 1) ls (.int (nI (a - b)) :: rest))) : W p l e R s m args below meth c H locs cells slots Q (F0 m pc ls (.int (nI b) :: .int (nI a) :: rest)) :=
  lv_isub Z.1 Z.2.1 hdg (by rw [pk_sub hle]; exact k)
theorem xi_mul (Z : xw_Z p c cc s args m own Ts D cl tys) {a b : Nat} (hdg : decode cc pc = .ok (.imul, 1))
    (k : W p l e R s m args below meth c H locs cells slots Q (F0 m (pc + 1) ls (.int (nI (a * b)) :: rest))) : W p l e R s m args below meth c H locs cells slots Q (F0 m pc ls (.int (nI b) :: .int (nI a) :: rest)) :=
  lv_imul Z.1 Z.2.1 hdg (by rw [pk_mul]; exact k)
theorem xi_div (Z : xw_Z p c cc s args m own Ts D cl tys) {a b : Nat} (hdg : decode cc pc = .ok (.idiv, 1)) (ha : a < 2 ^ 31) (h0 : 0 < b) (hb : b < 2 ^ 31)
    (k : W p l e R s m args below meth c H locs cells slots Q (F0 m (pc + 1) ls (.int (nI (a / b)) :: rest))) : W p l e R s m args below meth c H locs cells slots Q (F0 m pc ls (.int (nI b) :: .int (nI a) :: rest)) :=
  lv_idiv Z.1 Z.2.1 hdg (nI_ne0 h0 hb) (by rw [pk_div ha h0 hb]; exact k)
theorem xi_rem (Z : xw_Z p c cc s args m own Ts D cl tys) {a b : Nat} (hdg : decode cc pc = .ok (.irem, 1)) (ha : a < 2 ^ 31) (h0 : 0 < b) (hb : b < 2 ^ 31)
    (k : W p l e R s m args below meth c H locs cells slots Q (F0 m (pc + 1) ls (.int (nI (a % b)) :: rest))) : W p l e R s m args below meth c H locs cells slots Q (F0 m pc ls (.int (nI b) :: .int (nI a) :: rest)) :=
  lv_irem Z.1 Z.2.1 hdg (nI_ne0 h0 hb) (by rw [pk_rem ha h0 hb]; exact k)
theorem xi_re {x y : Int32} (h : x = y) (k : W p l e R s m args below meth c H locs cells slots Q (F0 m pc ls (.int y :: rest))) : W p l e R s m args below meth c H locs cells slots Q (F0 m pc ls (.int x :: rest)) := by rw [h]; exact k
end XI
end
section
/-! How the memory of the program stands for the state. Cells: (1,0) sizes, (2,0) mail, (4,0) halted, (5,0) the rows of the mail, (6,0) the message under way, (9,2s+c) a coordinator with (10..12,2s+c) its three rows, (13,2s+w) a tally with (14,2s+w) its row, (15,5s+a) an acceptor. -/
abbrev fr_M : Type := Nat × Nat → Nat → Int32
def fr_1 (n q f : Nat) (M : fr_M) : Prop := M (1, 0) 0 = nI n ∧ M (1, 0) 1 = nI q ∧ M (1, 0) 2 = nI f
def fr_2 (S : pz_T) (M : fr_M) : Prop := M (2, 0) 2 = nI S.1.length ∧ M (2, 0) 3 = nI (S.2 3 15 0 0)
def fr_4 (S : pz_T) (M : fr_M) : Prop := ∀ w, w < 11 → M (4, 0) w = nI (S.2 3 14 w 0)
def fr_row (g : pz_M) (h : Nat → Int32) : Prop := h 0 = nI (g 0) ∧ h 1 = nI (g 1) ∧ h 2 = nI (g 2) ∧ (g 0 = 3 ∨ g 0 = 5 → h 3 = nI (g 3)) ∧ h 4 = nI (g 4) ∧ h 5 = nI (g 5) ∧ h 6 = nI (g 6)
def fr_5 (S : pz_T) (M : fr_M) : Prop := ∀ i g, S.1[i]? = some g → fr_row g (fun j => M (5, 0) (i * 7 + j))
def fr_9 (S : pz_T) (M : fr_M) : Prop := ∀ s c, s < 3 → c < 2 → M (9, 2 * s + c) 0 = nI s ∧ M (9, 2 * s + c) 3 = nI (S.2 s 8 c 0) ∧ M (9, 2 * s + c) 4 = nI (S.2 s 9 c 0) ∧ M (9, 2 * s + c) 5 = nI (S.2 s 10 c 0)
def fr_10 (n : Nat) (S : pz_T) (M : fr_M) (ex : Nat → Nat → Prop) : Prop := ∀ s c, s < 3 → c < 2 → ¬ ex s c → M (9, 2 * s + c) 9 = nI (pz_te n (S.2 s) c) ∧ ∀ a, a < n → M (10, 2 * s + c) a = nI (S.2 s 11 c a) ∧ (S.2 s 11 c a ≠ 0 → M (11, 2 * s + c) a = nI (S.2 s 12 c a) ∧ M (12, 2 * s + c) a = nI (S.2 s 13 c a))
def fr_13 (S : pz_T) (M : fr_M) : Prop := ∀ s, s < 3 → M (13, 2 * s) 2 = nI (S.2 s 16 0 0) ∧ M (13, 2 * s + 1) 2 = nI (S.2 s 7 0 0)
def fr_14 (n : Nat) (S : pz_T) (M : fr_M) : Prop := ∀ s r a, s < 3 → r ≤ 12 → a < n → M (14, 2 * s) (r * n + a) = nI (S.2 s 5 r a) ∧ M (14, 2 * s + 1) (r * n + a) = nI (S.2 s 6 r a)
def fr_15 (n : Nat) (S : pz_T) (M : fr_M) : Prop := ∀ s a, s < 3 → a < n → M (15, 5 * s + a) 0 = nI a ∧ M (15, 5 * s + a) 1 = nI s ∧ M (15, 5 * s + a) 4 = nI (S.2 s 0 a 0) ∧ M (15, 5 * s + a) 5 = nI (S.2 s 1 a 0) ∧ M (15, 5 * s + a) 6 = nI (S.2 s 2 a 0) ∧ M (15, 5 * s + a) 7 = nI (S.2 s 3 a 0) ∧ M (15, 5 * s + a) 8 = nI (S.2 s 4 a 0)
def fr_R (n q f : Nat) (S : pz_T) (ex : Nat → Nat → Prop) (M : fr_M) : Prop := fr_1 n q f M ∧ fr_2 S M ∧ fr_4 S M ∧ fr_5 S M ∧ fr_9 S M ∧ fr_10 n S M ex ∧ fr_13 S M ∧ fr_14 n S M ∧ fr_15 n S M
/-- a message is sent, and there is a place for it -/
theorem fr_send1 {n q f : Nat} {S : pz_T} {ex : Nat → Nat → Prop} {M M' : fr_M} {g : pz_M} (h : fr_R n q f S ex M) (hl : S.1.length < 60) (hk : ∀ k, k ≠ (5, 0) → k ≠ (2, 0) → M' k = M k) (h5 : ∀ i, i < S.1.length * 7 → M' (5, 0) i = M (5, 0) i) (hrow : fr_row g (fun j => M' (5, 0) (S.1.length * 7 + j))) (h2 : M' (2, 0) 2 = nI (S.1.length + 1)) (h3 : M' (2, 0) 3 = M (2, 0) 3) : fr_R n q f (pz_sd S g) ex M' := by
  obtain ⟨a1, a2, a4, a5, a9, a10, a13, a14, a15⟩ := h
  have e : pz_sd S g = (S.1 ++ [g], S.2) := by unfold pz_sd; rw [if_pos hl]
  have kk : ∀ (x y : Nat), x ≠ 5 → x ≠ 2 → M' (x, y) = M (x, y) := fun x y h1 h2 => hk (x, y) (fun z => h1 (Prod.mk.inj z).1) (fun z => h2 (Prod.mk.inj z).1)
  rw [e]
  refine ⟨?_, ⟨?_, ?_⟩, ?_, ?_, ?_, ?_, ?_, ?_, ?_⟩
  · unfold fr_1; rw [kk 1 0 (by omega) (by omega)]; exact a1
  · rw [h2]; simp
  · rw [h3]; exact a2.2
  · intro w hw; rw [kk 4 0 (by omega) (by omega)]; exact a4 w hw
  · intro i x hx
    by_cases hi : i < S.1.length
    · rw [List.getElem?_append_left hi] at hx
      have r := a5 i x hx
      unfold fr_row at r ⊢
      simp only [h5 (i * 7 + 0) (by omega), h5 (i * 7 + 1) (by omega), h5 (i * 7 + 2) (by omega), h5 (i * 7 + 3) (by omega), h5 (i * 7 + 4) (by omega), h5 (i * 7 + 5) (by omega), h5 (i * 7 + 6) (by omega)]
      exact r
    · rw [List.getElem?_append_right (by omega)] at hx
      have hz : i - S.1.length < 1 := (List.getElem?_eq_some_iff.mp hx).1
      have hi0 : i = S.1.length := by omega
      subst hi0
      rw [Nat.sub_self] at hx
      cases hx
      exact hrow
  · intro s c hs hc; simp only [kk 9 _ (by omega) (by omega)]; exact a9 s c hs hc
  · intro s c hs hc hx
    simp only [kk 9 _ (by omega) (by omega), kk 10 _ (by omega) (by omega), kk 11 _ (by omega) (by omega), kk 12 _ (by omega) (by omega)]
    exact a10 s c hs hc hx
  · intro s hs; simp only [kk 13 _ (by omega) (by omega)]; exact a13 s hs
  · intro s r a hs hr ha; simp only [kk 14 _ (by omega) (by omega)]; exact a14 s r a hs hr ha
  · intro s a hs ha; simp only [kk 15 _ (by omega) (by omega)]; exact a15 s a hs ha
/-- a message is sent, and is lost -/
theorem fr_send2 {n q f : Nat} {S : pz_T} {ex : Nat → Nat → Prop} {M M' : fr_M} {g : pz_M} (h : fr_R n q f S ex M) (hl : ¬ S.1.length < 60) (hk : ∀ k, k ≠ (2, 0) → M' k = M k) (h2 : M' (2, 0) 2 = M (2, 0) 2) (h3 : M' (2, 0) 3 = nI (S.2 3 15 0 0 + 1)) : fr_R n q f (pz_sd S g) ex M' := by
  obtain ⟨a1, a2, a4, a5, a9, a10, a13, a14, a15⟩ := h
  have e : pz_sd S g = (S.1, pz_w S.2 3 (pz_u (S.2 3) 15 0 0 (S.2 3 15 0 0 + 1))) := by unfold pz_sd; rw [if_neg hl]
  have kk : ∀ (x y : Nat), x ≠ 2 → M' (x, y) = M (x, y) := fun x y h2 => hk (x, y) (fun z => h2 (Prod.mk.inj z).1)
  have ss : ∀ s, s < 3 → pz_w S.2 3 (pz_u (S.2 3) 15 0 0 (S.2 3 15 0 0 + 1)) s = S.2 s := fun s hs => pz_w_n (by omega)
  rw [e]
  refine ⟨?_, ⟨?_, ?_⟩, ?_, ?_, ?_, ?_, ?_, ?_, ?_⟩
  · unfold fr_1; rw [kk 1 0 (by omega)]; exact a1
  · rw [h2]; exact a2.1
  · rw [h3]
    show _ = nI (pz_w S.2 3 (pz_u (S.2 3) 15 0 0 (S.2 3 15 0 0 + 1)) 3 15 0 0)
    rw [pz_w_s, pz_u_s]
  · intro w hw
    rw [kk 4 0 (by omega)]
    show _ = nI (pz_w S.2 3 (pz_u (S.2 3) 15 0 0 (S.2 3 15 0 0 + 1)) 3 14 w 0)
    rw [pz_w_s, pz_u_k (show 14 ≠ 15 by omega)]
    exact a4 w hw
  · intro i x hx
    rw [kk 5 0 (by omega)]
    exact a5 i x hx
  · intro s c hs hc
    simp only [kk 9 _ (by omega), ss s hs]; exact a9 s c hs hc
  · intro s c hs hc hx
    simp only [kk 9 _ (by omega), kk 10 _ (by omega), kk 11 _ (by omega), kk 12 _ (by omega), ss s hs]
    exact a10 s c hs hc hx
  · intro s hs; simp only [kk 13 _ (by omega), ss s hs]; exact a13 s hs
  · intro s r a hs hr ha; simp only [kk 14 _ (by omega), ss s hs]; exact a14 s r a hs hr ha
  · intro s a hs ha; simp only [kk 15 _ (by omega), ss s hs]; exact a15 s a hs ha
end
section
/-! The memory and the state, step by step. -/
theorem fr_pair {x y x' y' : Nat} (h : x ≠ x') : ((x, y) : Nat × Nat) ≠ (x', y') := fun z => h (Prod.mk.inj z).1
theorem fr_pair2 {x y x' y' : Nat} (h : y ≠ y') : ((x, y) : Nat × Nat) ≠ (x', y') := fun z => h (Prod.mk.inj z).2
/-- only the slot z changes -/
theorem fr_pw {n q f z : Nat} {S : pz_T} {ex ex' : Nat → Nat → Prop} {M M' : fr_M} {p' : pz_P} (h : fr_R n q f S ex M) (hz : z < 3) (h0 : ∀ x, x ≤ 5 → M' (x, 0) = M (x, 0))
    (ho : ∀ k s c, s < 3 → s ≠ z → c < 2 → 9 ≤ k → k ≤ 14 → M' (k, 2 * s + c) = M (k, 2 * s + c)) (ho15 : ∀ s a, s < 3 → s ≠ z → a < n → M' (15, 5 * s + a) = M (15, 5 * s + a)) (hex : ∀ s c, s ≠ z → ¬ ex' s c → ¬ ex s c)
    (k9 : ∀ c, c < 2 → M' (9, 2 * z + c) 0 = nI z ∧ M' (9, 2 * z + c) 3 = nI (p' 8 c 0) ∧ M' (9, 2 * z + c) 4 = nI (p' 9 c 0) ∧ M' (9, 2 * z + c) 5 = nI (p' 10 c 0))
    (k10 : ∀ c, c < 2 → ¬ ex' z c → M' (9, 2 * z + c) 9 = nI (pz_te n p' c) ∧ ∀ a, a < n → M' (10, 2 * z + c) a = nI (p' 11 c a) ∧ (p' 11 c a ≠ 0 → M' (11, 2 * z + c) a = nI (p' 12 c a) ∧ M' (12, 2 * z + c) a = nI (p' 13 c a)))
    (k13 : M' (13, 2 * z) 2 = nI (p' 16 0 0) ∧ M' (13, 2 * z + 1) 2 = nI (p' 7 0 0))
    (k14 : ∀ r a, r ≤ 12 → a < n → M' (14, 2 * z) (r * n + a) = nI (p' 5 r a) ∧ M' (14, 2 * z + 1) (r * n + a) = nI (p' 6 r a))
    (k15 : ∀ a, a < n → M' (15, 5 * z + a) 0 = nI a ∧ M' (15, 5 * z + a) 1 = nI z ∧ M' (15, 5 * z + a) 4 = nI (p' 0 a 0) ∧ M' (15, 5 * z + a) 5 = nI (p' 1 a 0) ∧ M' (15, 5 * z + a) 6 = nI (p' 2 a 0) ∧ M' (15, 5 * z + a) 7 = nI (p' 3 a 0) ∧ M' (15, 5 * z + a) 8 = nI (p' 4 a 0)) :
    fr_R n q f (pz_pw S z p') ex' M' := by
  obtain ⟨a1, a2, a4, a5, a9, a10, a13, a14, a15⟩ := h
  have ss : ∀ s, s ≠ z → (pz_pw S z p').2 s = S.2 s := fun s hs => pz_w_n hs
  have sz : (pz_pw S z p').2 z = p' := pz_w_s _ _ _
  refine ⟨?_, ⟨?_, ?_⟩, ?_, ?_, ?_, ?_, ?_, ?_, ?_⟩
  · unfold fr_1; rw [h0 1 (by omega)]; exact a1
  · rw [h0 2 (by omega)]; exact a2.1
  · rw [h0 2 (by omega), ss 3 (by omega)]; exact a2.2
  · intro w hw; rw [h0 4 (by omega), ss 3 (by omega)]; exact a4 w hw
  · intro i x hx; rw [h0 5 (by omega)]; exact a5 i x hx
  · intro s c hs hc
    by_cases e : s = z
    · subst e; rw [sz]; exact k9 c hc
    · rw [ho 9 s c hs e hc (by omega) (by omega), ss s e]; exact a9 s c hs hc
  · intro s c hs hc hx
    by_cases e : s = z
    · subst e; rw [sz]; exact k10 c hc hx
    · rw [ho 9 s c hs e hc (by omega) (by omega), ho 10 s c hs e hc (by omega) (by omega), ho 11 s c hs e hc (by omega) (by omega), ho 12 s c hs e hc (by omega) (by omega), ss s e]
      exact a10 s c hs hc (hex s c e hx)
  · intro s hs
    by_cases e : s = z
    · subst e; rw [sz]; exact k13
    · have e0 := ho 13 s 0 hs e (by omega) (by omega) (by omega)
      rw [Nat.add_zero] at e0
      rw [e0, ho 13 s 1 hs e (by omega) (by omega) (by omega), ss s e]; exact a13 s hs
  · intro s r a hs hr ha
    by_cases e : s = z
    · subst e; rw [sz]; exact k14 r a hr ha
    · have e0 := ho 14 s 0 hs e (by omega) (by omega) (by omega)
      rw [Nat.add_zero] at e0
      rw [e0, ho 14 s 1 hs e (by omega) (by omega) (by omega), ss s e]; exact a14 s r a hs hr ha
  · intro s a hs ha
    by_cases e : s = z
    · subst e; rw [sz]; exact k15 a ha
    · rw [ho15 s a hs e ha, ss s e]; exact a15 s a hs ha
/-- an acceptor's fields change -/
theorem fr_acc {n q f z b : Nat} {S : pz_T} {ex : Nat → Nat → Prop} {M M' : fr_M} {p' : pz_P} (hn : n ≤ 5) (h : fr_R n q f S ex M) (hz : z < 3) (hb : b < n) (hM : ∀ k, k ≠ (15, 5 * z + b) → M' k = M k)
    (hp : ∀ k x y, 5 ≤ k → p' k x y = S.2 z k x y) (hp2 : ∀ k a, k ≤ 4 → a ≠ b → p' k a 0 = S.2 z k a 0)
    (k15 : M' (15, 5 * z + b) 0 = nI b ∧ M' (15, 5 * z + b) 1 = nI z ∧ M' (15, 5 * z + b) 4 = nI (p' 0 b 0) ∧ M' (15, 5 * z + b) 5 = nI (p' 1 b 0) ∧ M' (15, 5 * z + b) 6 = nI (p' 2 b 0) ∧ M' (15, 5 * z + b) 7 = nI (p' 3 b 0) ∧ M' (15, 5 * z + b) 8 = nI (p' 4 b 0)) : fr_R n q f (pz_pw S z p') ex M' := by
  have H := h
  obtain ⟨a1, a2, a4, a5, a9, a10, a13, a14, a15⟩ := h
  have m : ∀ x y, x ≠ 15 → M' (x, y) = M (x, y) := fun x y hx => hM _ (fr_pair hx)
  refine fr_pw H hz (fun x hx => m x 0 (by omega)) (fun k s c _ _ _ _ _ => m k _ (by omega)) (fun s a hs hsz ha => hM _ (fr_pair2 (by omega))) (fun _ _ _ hx => hx) (fun c hc => ?_) (fun c hc hx => ?_) ?_ (fun r a hr ha => ?_) (fun a ha => ?_)
  · rw [m 9 _ (by omega), hp 8 c 0 (by omega), hp 9 c 0 (by omega), hp 10 c 0 (by omega)]; exact a9 z c hz hc
  · rw [m 9 _ (by omega), m 10 _ (by omega), m 11 _ (by omega), m 12 _ (by omega)]
    unfold pz_te
    simp only [hp 11 c _ (by omega), hp 12 c _ (by omega), hp 13 c _ (by omega)]
    exact a10 z c hz hc hx
  · rw [m 13 _ (by omega), m 13 _ (by omega), hp 16 0 0 (by omega), hp 7 0 0 (by omega)]; exact a13 z hz
  · rw [m 14 _ (by omega), m 14 _ (by omega), hp 5 r a (by omega), hp 6 r a (by omega)]; exact a14 z r a hz hr ha
  · by_cases e : a = b
    · subst e; exact k15
    · rw [hM (15, 5 * z + a) (fr_pair2 (by omega)), hp2 0 a (by omega) e, hp2 1 a (by omega) e, hp2 2 a (by omega) e, hp2 3 a (by omega) e, hp2 4 a (by omega) e]; exact a15 z a hz ha
/-- a coordinator's fields change, but not what it was told -/
theorem fr_cor {n q f z d : Nat} {S : pz_T} {ex ex' : Nat → Nat → Prop} {M M' : fr_M} {p' : pz_P} (h : fr_R n q f S ex M) (hz : z < 3) (hd : d < 2) (hM : ∀ k, k ≠ (9, 2 * z + d) → M' k = M k) (hex : ∀ s c, ¬ ex' s c → ¬ ex s c)
    (hp : ∀ k x y, (k ≠ 8 ∧ k ≠ 9 ∧ k ≠ 10 ∧ k ≠ 17) → p' k x y = S.2 z k x y) (hp2 : ∀ k c, c ≠ d → 8 ≤ k → k ≤ 10 → p' k c 0 = S.2 z k c 0)
    (k9 : M' (9, 2 * z + d) 0 = nI z ∧ M' (9, 2 * z + d) 3 = nI (p' 8 d 0) ∧ M' (9, 2 * z + d) 4 = nI (p' 9 d 0) ∧ M' (9, 2 * z + d) 5 = nI (p' 10 d 0)) (kh : M' (9, 2 * z + d) 9 = M (9, 2 * z + d) 9) : fr_R n q f (pz_pw S z p') ex' M' := by
  have H := h
  obtain ⟨a1, a2, a4, a5, a9, a10, a13, a14, a15⟩ := h
  have m : ∀ x y, x ≠ 9 → M' (x, y) = M (x, y) := fun x y hx => hM _ (fr_pair hx)
  refine fr_pw H hz (fun x hx => m x 0 (by omega)) (fun k s c hs hsz hc _ _ => hM _ (fr_pair2 (by omega))) (fun s a hs hsz ha => m 15 _ (by omega)) (fun s c _ hx => hex s c hx) (fun c hc => ?_) (fun c hc hx => ?_) ?_ (fun r a hr ha => ?_) (fun a ha => ?_)
  · by_cases e : c = d
    · subst e; exact k9
    · rw [hM _ (fr_pair2 (by omega)), hp2 8 c e (by omega) (by omega), hp2 9 c e (by omega) (by omega), hp2 10 c e (by omega) (by omega)]; exact a9 z c hz hc
  · have e9 : M' (9, 2 * z + c) 9 = M (9, 2 * z + c) 9 := by
      by_cases e : c = d
      · subst e; exact kh
      · rw [hM _ (fr_pair2 (by omega))]
    rw [e9, m 10 _ (by omega), m 11 _ (by omega), m 12 _ (by omega)]
    unfold pz_te
    simp only [hp 11 c _ (by omega), hp 12 c _ (by omega), hp 13 c _ (by omega)]
    exact a10 z c hz hc (hex z c hx)
  · rw [m 13 _ (by omega), m 13 _ (by omega), hp 16 0 0 (by omega), hp 7 0 0 (by omega)]; exact a13 z hz
  · rw [m 14 _ (by omega), m 14 _ (by omega), hp 5 r a (by omega), hp 6 r a (by omega)]; exact a14 z r a hz hr ha
  · rw [m 15 _ (by omega), hp 0 a 0 (by omega), hp 1 a 0 (by omega), hp 2 a 0 (by omega), hp 3 a 0 (by omega), hp 4 a 0 (by omega)]; exact a15 z a hz ha
/-- what a coordinator was told changes -/
theorem fr_tol {n q f z d : Nat} {S : pz_T} {ex ex' : Nat → Nat → Prop} {M M' : fr_M} {p' : pz_P} (h : fr_R n q f S ex M) (hz : z < 3) (hd : d < 2) (hM : ∀ k, k ≠ (9, 2 * z + d) → k ≠ (10, 2 * z + d) → k ≠ (11, 2 * z + d) → k ≠ (12, 2 * z + d) → M' k = M k) (h9 : ∀ j, j ≠ 9 → M' (9, 2 * z + d) j = M (9, 2 * z + d) j) (hex : ∀ s c, ¬ (s = z ∧ c = d) → ¬ ex' s c → ¬ ex s c)
    (hp : ∀ k x y, (k ≠ 11 ∧ k ≠ 12 ∧ k ≠ 13) → p' k x y = S.2 z k x y) (hp2 : ∀ k c a, c ≠ d → p' k c a = S.2 z k c a)
    (k10 : ¬ ex' z d → M' (9, 2 * z + d) 9 = nI (pz_te n p' d) ∧ ∀ a, a < n → M' (10, 2 * z + d) a = nI (p' 11 d a) ∧ (p' 11 d a ≠ 0 → M' (11, 2 * z + d) a = nI (p' 12 d a) ∧ M' (12, 2 * z + d) a = nI (p' 13 d a))) : fr_R n q f (pz_pw S z p') ex' M' := by
  have H := h
  obtain ⟨a1, a2, a4, a5, a9, a10, a13, a14, a15⟩ := h
  have m : ∀ x y, (x ≤ 8 ∨ 13 ≤ x) → M' (x, y) = M (x, y) := fun x y hx => hM _ (fr_pair (by omega)) (fr_pair (by omega)) (fr_pair (by omega)) (fr_pair (by omega))
  have mo : ∀ x y, y ≠ 2 * z + d → M' (x, y) = M (x, y) := fun x y hy => hM _ (fr_pair2 hy) (fr_pair2 hy) (fr_pair2 hy) (fr_pair2 hy)
  refine fr_pw H hz (fun x hx => m x 0 (by omega)) (fun k s c hs hsz hc _ _ => mo k _ (by omega)) (fun s a hs hsz ha => m 15 _ (by omega)) (fun s c hsz hx => hex s c (fun y => hsz y.1) hx) (fun c hc => ?_) (fun c hc hx => ?_) ?_ (fun r a hr ha => ?_) (fun a ha => ?_)
  · rw [hp 8 c 0 (by omega), hp 9 c 0 (by omega), hp 10 c 0 (by omega)]
    by_cases e : c = d
    · subst e
      rw [h9 0 (by omega), h9 3 (by omega), h9 4 (by omega), h9 5 (by omega)]; exact a9 z c hz hc
    · rw [mo 9 _ (by omega)]; exact a9 z c hz hc
  · by_cases e : c = d
    · subst e; exact k10 hx
    · rw [mo 9 _ (by omega), mo 10 _ (by omega), mo 11 _ (by omega), mo 12 _ (by omega)]
      unfold pz_te
      simp only [hp2 11 c _ e, hp2 12 c _ e, hp2 13 c _ e]
      exact a10 z c hz hc (hex z c (fun y => e y.2) hx)
  · rw [m 13 _ (by omega), m 13 _ (by omega), hp 16 0 0 (by omega), hp 7 0 0 (by omega)]; exact a13 z hz
  · rw [m 14 _ (by omega), m 14 _ (by omega), hp 5 r a (by omega), hp 6 r a (by omega)]; exact a14 z r a hz hr ha
  · rw [m 15 _ (by omega), hp 0 a 0 (by omega), hp 1 a 0 (by omega), hp 2 a 0 (by omega), hp 3 a 0 (by omega), hp 4 a 0 (by omega)]; exact a15 z a hz ha
/-- a tally changes: w = 0 the votes made, w = 1 those told to the learner -/
theorem fr_tal {n q f z w : Nat} {S : pz_T} {ex : Nat → Nat → Prop} {M M' : fr_M} {p' : pz_P} (h : fr_R n q f S ex M) (hz : z < 3) (hw : w < 2) (hM : ∀ k, k ≠ (13, 2 * z + w) → k ≠ (14, 2 * z + w) → M' k = M k)
    (hp : ∀ k x y, (k ≠ 5 ∧ k ≠ 6 ∧ k ≠ 7 ∧ k ≠ 16) → p' k x y = S.2 z k x y) (k13 : M' (13, 2 * z) 2 = nI (p' 16 0 0) ∧ M' (13, 2 * z + 1) 2 = nI (p' 7 0 0))
    (k14 : ∀ r a, r ≤ 12 → a < n → M' (14, 2 * z) (r * n + a) = nI (p' 5 r a) ∧ M' (14, 2 * z + 1) (r * n + a) = nI (p' 6 r a)) : fr_R n q f (pz_pw S z p') ex M' := by
  have H := h
  obtain ⟨a1, a2, a4, a5, a9, a10, a13, a14, a15⟩ := h
  have m : ∀ x y, (x ≠ 13 ∧ x ≠ 14) → M' (x, y) = M (x, y) := fun x y hx => hM _ (fr_pair hx.1) (fr_pair hx.2)
  refine fr_pw H hz (fun x hx => m x 0 (by omega)) (fun k s c hs hsz hc _ _ => hM _ (fr_pair2 (by omega)) (fr_pair2 (by omega))) (fun s a hs hsz ha => m 15 _ (by omega)) (fun _ _ _ hx => hx) (fun c hc => ?_) (fun c hc hx => ?_) k13 k14 (fun a ha => ?_)
  · rw [m 9 _ (by omega), hp 8 c 0 (by omega), hp 9 c 0 (by omega), hp 10 c 0 (by omega)]; exact a9 z c hz hc
  · rw [m 9 _ (by omega), m 10 _ (by omega), m 11 _ (by omega), m 12 _ (by omega)]
    unfold pz_te
    simp only [hp 11 c _ (by omega), hp 12 c _ (by omega), hp 13 c _ (by omega)]
    exact a10 z c hz hc hx
  · rw [m 15 _ (by omega), hp 0 a 0 (by omega), hp 1 a 0 (by omega), hp 2 a 0 (by omega), hp 3 a 0 (by omega), hp 4 a 0 (by omega)]; exact a15 z a hz ha
theorem fr_halt {n q f w b : Nat} {S : pz_T} {ex : Nat → Nat → Prop} {M M' : fr_M} (h : fr_R n q f S ex M) (hM : ∀ k, k ≠ (4, 0) → M' k = M k) (h4 : ∀ x, x < 11 → M' (4, 0) x = if x = w then nI b else M (4, 0) x) : fr_R n q f (pz_halt S w b) ex M' := by
  obtain ⟨a1, a2, a4, a5, a9, a10, a13, a14, a15⟩ := h
  have m : ∀ x y, x ≠ 4 → M' (x, y) = M (x, y) := fun x y hx => hM _ (fr_pair hx)
  have ss : ∀ s, s < 3 → (pz_halt S w b).2 s = S.2 s := fun s hs => pz_w_n (by omega)
  have s3 : (pz_halt S w b).2 3 = pz_u (S.2 3) 14 w 0 b := pz_w_s S.2 3 (pz_u (S.2 3) 14 w 0 b)
  refine ⟨?_, ⟨?_, ?_⟩, ?_, ?_, ?_, ?_, ?_, ?_, ?_⟩
  · unfold fr_1; rw [m 1 0 (by omega)]; exact a1
  · rw [m 2 0 (by omega)]; exact a2.1
  · rw [m 2 0 (by omega), s3, pz_u_k (by omega)]; exact a2.2
  · intro x hx
    rw [h4 x hx, s3]
    by_cases e : x = w
    · subst e; rw [if_pos rfl, pz_u_s]
    · rw [if_neg e, pz_u_x e]; exact a4 x hx
  · intro i x hx; rw [m 5 0 (by omega)]; exact a5 i x hx
  · intro s c hs hc; rw [m 9 _ (by omega), ss s hs]; exact a9 s c hs hc
  · intro s c hs hc hx; rw [m 9 _ (by omega), m 10 _ (by omega), m 11 _ (by omega), m 12 _ (by omega), ss s hs]; exact a10 s c hs hc hx
  · intro s hs; rw [m 13 _ (by omega), m 13 _ (by omega), ss s hs]; exact a13 s hs
  · intro s r a hs hr ha; rw [m 14 _ (by omega), m 14 _ (by omega), ss s hs]; exact a14 s r a hs hr ha
  · intro s a hs ha; rw [m 15 _ (by omega), ss s hs]; exact a15 s a hs ha
/-- a message is taken away -/
theorem fr_rm {n q f i : Nat} {S : pz_T} {ex : Nat → Nat → Prop} {M M' : fr_M} (h : fr_R n q f S ex M) (hi : i < S.1.length) (hM : ∀ k, k ≠ (2, 0) → k ≠ (5, 0) → k ≠ (6, 0) → M' k = M k) (h2 : M' (2, 0) 2 = nI (S.1.length - 1)) (h3 : M' (2, 0) 3 = M (2, 0) 3) (hlo : ∀ j, j < i * 7 → M' (5, 0) j = M (5, 0) j) (hhi : ∀ j, i * 7 ≤ j → j + 7 < S.1.length * 7 → M' (5, 0) j = M (5, 0) (j + 7)) : fr_R n q f (pz_rm S i) ex M' := by
  obtain ⟨a1, a2, a4, a5, a9, a10, a13, a14, a15⟩ := h
  have m : ∀ x y, (x ≠ 2 ∧ x ≠ 5 ∧ x ≠ 6) → M' (x, y) = M (x, y) := fun x y hx => hM _ (fr_pair hx.1) (fr_pair hx.2.1) (fr_pair hx.2.2)
  have hlen : (S.1.eraseIdx i).length = S.1.length - 1 := by rw [List.length_eraseIdx]; simp [hi]
  refine ⟨?_, ⟨?_, ?_⟩, ?_, ?_, ?_, ?_, ?_, ?_, ?_⟩
  · unfold fr_1; rw [m 1 0 (by omega)]; exact a1
  · rw [h2]; show _ = nI (S.1.eraseIdx i).length; rw [hlen]
  · rw [h3]; exact a2.2
  · intro x hx; rw [m 4 0 (by omega)]; exact a4 x hx
  · intro j g hg
    have hg : (S.1.eraseIdx i)[j]? = some g := hg
    have hj : j < S.1.length - 1 := by rw [← hlen]; exact (List.getElem?_eq_some_iff.mp hg).1
    by_cases hji : j < i
    · rw [List.getElem?_eraseIdx_of_lt hji] at hg
      have r := a5 j g hg
      unfold fr_row at r ⊢
      simp only [hlo (j * 7 + 0) (by omega), hlo (j * 7 + 1) (by omega), hlo (j * 7 + 2) (by omega), hlo (j * 7 + 3) (by omega), hlo (j * 7 + 4) (by omega), hlo (j * 7 + 5) (by omega), hlo (j * 7 + 6) (by omega)]
      exact r
    · rw [List.getElem?_eraseIdx_of_ge (by omega)] at hg
      have r := a5 (j + 1) g hg
      have e : ∀ t, (j + 1) * 7 + t = j * 7 + t + 7 := fun t => by omega
      unfold fr_row at r ⊢
      simp only [e] at r
      simp only [hhi (j * 7 + 0) (by omega) (by omega), hhi (j * 7 + 1) (by omega) (by omega), hhi (j * 7 + 2) (by omega) (by omega), hhi (j * 7 + 3) (by omega) (by omega), hhi (j * 7 + 4) (by omega) (by omega), hhi (j * 7 + 5) (by omega) (by omega), hhi (j * 7 + 6) (by omega) (by omega)]
      exact r
  · intro s c hs hc; rw [m 9 _ (by omega)]; exact a9 s c hs hc
  · intro s c hs hc hx; rw [m 9 _ (by omega), m 10 _ (by omega), m 11 _ (by omega), m 12 _ (by omega)]; exact a10 s c hs hc hx
  · intro s hs; rw [m 13 _ (by omega), m 13 _ (by omega)]; exact a13 s hs
  · intro s r a hs hr ha; rw [m 14 _ (by omega), m 14 _ (by omega)]; exact a14 s r a hs hr ha
  · intro s a hs ha; rw [m 15 _ (by omega)]; exact a15 s a hs ha
/-- what no memory shows may differ -/
theorem fr_eq {n q f : Nat} {S S' : pz_T} {ex ex' : Nat → Nat → Prop} {M : fr_M} (h : fr_R n q f S ex M) (h1 : S'.1 = S.1) (h2 : ∀ s k x y, k ≠ 17 → S'.2 s k x y = S.2 s k x y) (hex : ∀ s c, ¬ ex' s c → ¬ ex s c) : fr_R n q f S' ex' M := by
  obtain ⟨a1, a2, a4, a5, a9, a10, a13, a14, a15⟩ := h
  refine ⟨a1, ⟨by rw [h1]; exact a2.1, by rw [h2 3 15 0 0 (by omega)]; exact a2.2⟩, ?_, ?_, ?_, ?_, ?_, ?_, ?_⟩
  · intro w hw; rw [h2 3 14 w 0 (by omega)]; exact a4 w hw
  · intro i x hx; rw [h1] at hx; exact a5 i x hx
  · intro s c hs hc; rw [h2 s 8 c 0 (by omega), h2 s 9 c 0 (by omega), h2 s 10 c 0 (by omega)]; exact a9 s c hs hc
  · intro s c hs hc hx
    unfold pz_te
    simp only [h2 s 11 c _ (by omega), h2 s 12 c _ (by omega), h2 s 13 c _ (by omega)]
    exact a10 s c hs hc (hex s c hx)
  · intro s hs; rw [h2 s 16 0 0 (by omega), h2 s 7 0 0 (by omega)]; exact a13 s hs
  · intro s r a hs hr ha; rw [h2 s 5 r a (by omega), h2 s 6 r a (by omega)]; exact a14 s r a hs hr ha
  · intro s a hs ha; rw [h2 s 0 a 0 (by omega), h2 s 1 a 0 (by omega), h2 s 2 a 0 (by omega), h2 s 3 a 0 (by omega), h2 s 4 a 0 (by omega)]; exact a15 s a hs ha
end
section
/-! Start, end and calls of methods that make no cell. -/
theorem xw_Pc_blind {D : va_G} {cl : List vw_C} {tys : List (ClassId × FieldType)} {ids : List (Nat × Nat)} {ad : Nat × Nat → Nat} {xk : Nat × Nat → (Nat → Int32) → va_E} {nl : List (String × Nat × MethodName × String)} {M : Nat × Nat → Nat → Int32} {av : List Value} : FrameBlind (xw_Pc D cl tys ids ad xk nl M av) := fun a U g mk q => by
  obtain ⟨q0, qP, qK, qD, qN⟩ := q
  exact ⟨q0, qP, va_K.moved (u := U) (U := U.calling g mk a) (Vm.Alike.refl U.vm) qK, qD, fun x hx => va_Nw.same rfl (u := U) (U := U.calling g mk a) rfl (qN x hx)⟩
theorem xw_good {tb : List Cond} (hg : ∀ w ∈ tb, goodWord w = true) {c1 c2 : Cond} (h2 : c2 ∈ tb) : GoodIn (c1 :: tb) (c2 :: tb) := fun w hw => by
  rcases List.mem_cons.mp hw with rfl | hw
  · exact ⟨List.mem_cons_of_mem _ h2, good_of_word (hg _ h2)⟩
  · exact ⟨List.mem_cons_of_mem _ hw, good_of_word (hg _ hw)⟩
section XS
variable {D : va_G} {cl : List vw_C} {tys : List (ClassId × FieldType)} {ids : List (Nat × Nat)} {ad : Nat × Nat → Nat} {xk : Nat × Nat → (Nat → Int32) → va_E} {nl : List (String × Nat × MethodName × String)} {M : Nat × Nat → Nat → Int32} {tb : List Cond} {r : Option Value} {Pm : (Nat × Nat → Nat → Int32) → Prop}
theorem xw_start {l : Launch} {y : MethodName} {b : ByteArray} {mL : Nat} {ret : Option FieldType} {rm : Room} (av : List Value) (hy : plainName y.cls = true) (hlen : (lg_sl av).length ≤ mL)
    (body : ∀ (p : Program) (e : Env) (s : State) (m : MethodId) (below : List Frame) (meth : Method) (c : Code) (ls : Array Slot), xw_Z p c b s av.toArray m y.cls (Cond.code y b mL ret :: tb) D cl tys → c.maxLocals = mL → meth.sig.returnType = ret → meth.locks = false → xw_N nl s → lv_has ls mL (lv_args 0 av) → xw_H D cl (xw_A ids ad) s.heap ids ad (xw_M xk M) s.heap [] →
      W p l e rm s m av.toArray below meth c s.heap [] 0 0 (MQ below (xw_Qc D cl ids ad xk r Pm) av.toArray s 0 0 (xw_A ids ad)) (F0 m 0 ls [])) :
    Met l y (Cond.code y b mL ret :: tb) rm (xw_Pc D cl tys ids ad xk nl M av) (xw_Qc D cl ids ad xk r Pm) 0 0 (xw_A ids ad) := by
  refine Met.ofW (cc := b) (maxL := mL) (ret := ret) hy rfl ?_
  intro p e s m args below meth c s₁ B hml hv
  obtain ⟨rfl, hP, hK, hD, hN⟩ := hv
  have hl := lv_entry av (n := mL) hlen
  rw [lg_entry_eq]
  generalize (lg_sl av ++ List.replicate (mL - (lg_sl av).length) Slot.unset).toArray = ls at hl ⊢
  exact body p e s m below meth c ls ⟨B.exec, B.bytes, atoms_spec (ws := Cond.code y b mL ret :: tb) B.pre, findClass_of_methodNamed B.named, hK⟩ hml B.returns B.notSynchronized hN hl ⟨hP, hD, va_S.rf⟩
variable {p : Program} {l : Launch} {e : Env} {R : Room} {s : State} {m : MethodId} {args : Array Value} {below : List Frame} {meth : Method} {c : Code} {H : Heap} {locs : List Loc} {cells slots : Nat} {Q : State → Prop}
variable {cc : ByteArray} {pc : Nat} {ls : Array Slot} {rest : List Value} {H0 : Heap} {own : String} {cd : Cond}
theorem xw_vret (Z : xw_Z p c cc s args m own (cd :: tb) D cl tys) (hr : meth.sig.returnType = none) (hlk : meth.locks = false) (hw : xw_H D cl (xw_A ids ad) s.heap ids ad (xw_M xk M) H locs) (hdg : decode cc pc = .ok (.return_, 1)) (hp : Pm M) : W p l e R s m args below meth c H locs 0 0 (MQ below (xw_Qc D cl ids ad xk none Pm) args s 0 0 (xw_A ids ad)) (F0 m pc ls []) :=
  W.vret Z.1 Z.2.1 hr (fun t ht _ => ⟨⟨rfl, M, hp, by rw [ht]; exact hw.1⟩, hw.2.2.F ht⟩) hw.2.2.2.2 hdg hlk
theorem xw_iret (Z : xw_Z p c cc s args m own (cd :: tb) D cl tys) (hr : meth.sig.returnType = some .int) (hlk : meth.locks = false) (hw : xw_H D cl (xw_A ids ad) s.heap ids ad (xw_M xk M) H locs) (hdg : decode cc pc = .ok (.ireturn, 1)) {v w : Int32} (hv : v = w) (hp : Pm M) : W p l e R s m args below meth c H locs 0 0 (MQ below (xw_Qc D cl ids ad xk (some (.int w)) Pm) args s 0 0 (xw_A ids ad)) (F0 m pc ls [.int v]) := by
  subst hv
  exact W.iret Z.1 Z.2.1 hr (fun t ht _ => ⟨⟨rfl, M, hp, by rw [ht]; exact hw.1⟩, hw.2.2.F ht⟩) hw.2.2.2.2 hdg hlk
theorem xw_zret (Z : xw_Z p c cc s args m own (cd :: tb) D cl tys) (hr : meth.sig.returnType = some .boolean) (hlk : meth.locks = false) (hw : xw_H D cl (xw_A ids ad) s.heap ids ad (xw_M xk M) H locs) (hdg : decode cc pc = .ok (.ireturn, 1)) {v w : Int32} (hv : v = w) (hn : narrow .boolean (.int v) = .int v) (hp : Pm M) : W p l e R s m args below meth c H locs 0 0 (MQ below (xw_Qc D cl ids ad xk (some (.int w)) Pm) args s 0 0 (xw_A ids ad)) (F0 m pc ls [.int v]) := by
  subst hv
  exact W.zret Z.1 Z.2.1 hr hn (fun t ht _ => ⟨⟨rfl, M, hp, by rw [ht]; exact hw.1⟩, hw.2.2.F ht⟩) hw.2.2.2.2 hdg hlk
theorem xw_aret (Z : xw_Z p c cc s args m own (cd :: tb) D cl tys) {C : String} (hr : meth.sig.returnType = some (.object C)) (hlk : meth.locks = false) (hw : xw_H D cl (xw_A ids ad) s.heap ids ad (xw_M xk M) H locs) (hdg : decode cc pc = .ok (.areturn, 1)) {a : Nat} (hp : Pm M) : W p l e R s m args below meth c H locs 0 0 (MQ below (xw_Qc D cl ids ad xk (some (.ref a)) Pm) args s 0 0 (xw_A ids ad)) (F0 m pc ls [.ref a]) :=
  W.aret Z.1 Z.2.1 hr (Or.inl ⟨C, rfl⟩) (Or.inr ⟨a, rfl⟩) (fun t ht _ => ⟨⟨rfl, M, hp, by rw [ht]; exact hw.1⟩, hw.2.2.F ht⟩) hw.2.2.2.2 hdg hlk
variable {y : MethodName} {b : ByteArray} {mL nL fr lo n : Nat} {ret : Option FieldType} {st0 : List Value} {index : Nat}
theorem xw_cV (Z : xw_Z p c cc s args m own (cd :: tb) D cl tys) (hml : c.maxLocals = nL) (hls : ls.size = nL) (hN : xw_N nl s) (hw : xw_H D cl (xw_A ids ad) H0 ids ad (xw_M xk M) H locs) {k : Nat × Nat} {As : List Value}
    (hM : Met l y (Cond.code y b mL ret :: tb) { frames := fr, cells := 0, slots := 0, locals := lo } (xw_Pc D cl tys ids ad xk nl M (.ref (ad k) :: As)) (xw_Qc D cl ids ad xk r Pm) 0 0 (xw_A ids ad))
    (hg : ∀ w ∈ tb, goodWord w = true) (hcode : Cond.code y b mL ret ∈ tb) (hlink : Cond.methodLink own index y ∈ tb) (hin : Cond.instanceMethod y ∈ tb) (hsel : Cond.selects y.cls y y ∈ tb) (hini : Cond.initialized y.cls ∈ tb)
    (hd : y.cls ≠ "java/lang/invoke/MethodHandle" ∧ y.cls ≠ "java/lang/invoke/VarHandle" ∧ (parseMethodDescriptor y.desc).map (fun d => d.parameters.length) = some n) (hR : fr + 1 ≤ R.frames ∧ 8 + (mL + 11) + lo ≤ R.locals)
    (hk : k ∈ ids) {ci : Nat} {fs : List Value} (he : xk k (M k) = .inr (ci, fs)) {q : vw_C} (hc : cl[ci]? = some q) (hq : q.1 = y.cls) (hn : As.length = n) (hst : st0 = As.reverse ++ .ref (ad k) :: rest) (hW : (rest.map fun v => v.category).sum ≤ 8) (hcs : cells ≤ R.cells ∧ slots ≤ R.slots) (hdg : decode cc pc = .ok (.invokevirtual index, 3))
    (kk : ∀ (M1 : Nat × Nat → Nat → Int32) (H1 : Heap) (locs1 : List Loc), Pm M1 → xw_H D cl (xw_A ids ad) H0 ids ad (xw_M xk M1) H1 locs1 → W p l e R s m args below meth c H1 locs1 cells slots Q (F0 m (pc + 3) ls (r.toList ++ rest))) : W p l e R s m args below meth c H locs cells slots Q (F0 m pc ls st0) := by
  obtain ⟨hx, hb, hts, hown, hK⟩ := Z
  have T : ∀ w ∈ tb, w.before args s = true := fun w h => hts w (List.mem_cons_of_mem _ h)
  obtain ⟨q0, hq0⟩ := List.getElem?_of_mem hk
  refine xw_call (va_runV (C := y.cls) (As := As) (rest := rest) (n := n) (mc := 0) (ms := 0) (bytes := b) (maxL := mL) (ret := ret) ⟨hx, hb, hml, hown, hts⟩ hM ⟨callB_of n hts (xw_good hg hcode) rfl rfl rfl (T _ hini) (T _ hlink) hd hR, T _ hin, T _ hsel⟩ ⟨xw_Pc_blind, ?_, fun U hU hW => ⟨rfl, by rw [hU]; exact hw.1, va_K.moved hW.alike hK, hw.2.1, hN.warm hW⟩⟩ rfl hn hls hst ?_ hdg hcs) hw kk
  · obtain ⟨cell, c1, c2, c3⟩ := va_recv hK hw.1 hc (q0 := q0) (a := ad k) (fs := fs) (by rw [xw_at hq0]; exact congrArg (fun z => some (ad k, z)) he)
    exact ⟨cell, c1, c2, by rw [← hq]; exact c3⟩
  · exact lv_room hW
theorem xw_cS (Z : xw_Z p c cc s args m own (cd :: tb) D cl tys) (hml : c.maxLocals = nL) (hls : ls.size = nL) (hN : xw_N nl s) (hw : xw_H D cl (xw_A ids ad) H0 ids ad (xw_M xk M) H locs) {As : List Value}
    (hM : Met l y (Cond.code y b mL ret :: tb) { frames := fr, cells := 0, slots := 0, locals := lo } (xw_Pc D cl tys ids ad xk nl M As) (xw_Qc D cl ids ad xk r Pm) 0 0 (xw_A ids ad))
    (hg : ∀ w ∈ tb, goodWord w = true) (hcode : Cond.code y b mL ret ∈ tb) (hlink : Cond.methodLink own index y ∈ tb) (hin : Cond.static y ∈ tb) (hini : Cond.initialized y.cls ∈ tb)
    (hd : y.cls ≠ "java/lang/invoke/MethodHandle" ∧ y.cls ≠ "java/lang/invoke/VarHandle" ∧ (parseMethodDescriptor y.desc).map (fun d => d.parameters.length) = some n) (hR : fr + 1 ≤ R.frames ∧ 8 + (mL + 11) + lo ≤ R.locals)
    (hn : As.length = n) (hst : st0 = As.reverse ++ rest) (hW : (rest.map fun v => v.category).sum ≤ 8) (hcs : cells ≤ R.cells ∧ slots ≤ R.slots) (hdg : decode cc pc = .ok (.invokestatic index, 3))
    (kk : ∀ (M1 : Nat × Nat → Nat → Int32) (H1 : Heap) (locs1 : List Loc), Pm M1 → xw_H D cl (xw_A ids ad) H0 ids ad (xw_M xk M1) H1 locs1 → W p l e R s m args below meth c H1 locs1 cells slots Q (F0 m (pc + 3) ls (r.toList ++ rest))) : W p l e R s m args below meth c H locs cells slots Q (F0 m pc ls st0) := by
  obtain ⟨hx, hb, hts, hown, hK⟩ := Z
  have T : ∀ w ∈ tb, w.before args s = true := fun w h => hts w (List.mem_cons_of_mem _ h)
  exact xw_call (va_runS (As := As) (rest := rest) (n := n) (mc := 0) (ms := 0) (bytes := b) (maxL := mL) (ret := ret) ⟨hx, hb, hml, hown, hts⟩ hM ⟨callB_of n hts (xw_good hg hcode) rfl rfl rfl (T _ hini) (T _ hlink) hd hR, T _ hin⟩ ⟨xw_Pc_blind, fun U hU hW => ⟨rfl, by rw [hU]; exact hw.1, va_K.moved hW.alike hK, hw.2.1, hN.warm hW⟩⟩ rfl hn hls hst (lv_room hW) hdg hcs) hw kk
/-- a static method of a nest mate -/
theorem xw_cN (Z : xw_Z p c cc s args m own (cd :: tb) D cl tys) (hml : c.maxLocals = nL) (hls : ls.size = nL) (hN : xw_N nl s) (hw : xw_H D cl (xw_A ids ad) H0 ids ad (xw_M xk M) H locs) {As : List Value}
    (hM : Met l y (Cond.code y b mL ret :: tb) { frames := fr, cells := 0, slots := 0, locals := lo } (xw_Pc D cl tys ids ad xk nl M As) (xw_Qc D cl ids ad xk r Pm) 0 0 (xw_A ids ad))
    (hg : ∀ w ∈ tb, goodWord w = true) (hcode : Cond.code y b mL ret ∈ tb) {host : String} (hlink : (own, index, y, host) ∈ nl) (hin : Cond.static y ∈ tb) (hini : Cond.initialized y.cls ∈ tb)
    (hd : y.cls ≠ "java/lang/invoke/MethodHandle" ∧ y.cls ≠ "java/lang/invoke/VarHandle" ∧ (parseMethodDescriptor y.desc).map (fun d => d.parameters.length) = some n) (hR : fr + 1 ≤ R.frames ∧ 8 + (mL + 11) + lo ≤ R.locals)
    (hn : As.length = n) (hst : st0 = As.reverse ++ rest) (hW : (rest.map fun v => v.category).sum ≤ 8) (hcs : cells ≤ R.cells ∧ slots ≤ R.slots) (hdg : decode cc pc = .ok (.invokestatic index, 3))
    (kk : ∀ (M1 : Nat × Nat → Nat → Int32) (H1 : Heap) (locs1 : List Loc), Pm M1 → xw_H D cl (xw_A ids ad) H0 ids ad (xw_M xk M1) H1 locs1 → W p l e R s m args below meth c H1 locs1 cells slots Q (F0 m (pc + 3) ls (r.toList ++ rest))) : W p l e R s m args below meth c H locs cells slots Q (F0 m pc ls st0) := by
  obtain ⟨hx, hb, hts, hown, hK⟩ := Z
  have T : ∀ w ∈ tb, w.before args s = true := fun w h => hts w (List.mem_cons_of_mem _ h)
  exact xw_call (va_runSN (As := As) (rest := rest) (n := n) (mc := 0) (ms := 0) (bytes := b) (maxL := mL) (ret := ret) ⟨hx, hb, hml, hown, hts⟩ hM ⟨va_cnB n hts (xw_good hg hcode) rfl rfl rfl (hN _ hlink) (T _ hini) hd hR, T _ hin, trivial⟩ ⟨xw_Pc_blind, fun U hU hW => ⟨rfl, by rw [hU]; exact hw.1, va_K.moved hW.alike hK, hw.2.1, hN.warm hW⟩⟩ rfl hn hls hst (lv_room hW) hdg hcs) hw kk
end XS
end
section
-- ===== PART A: goes FIRST, ahead of the names: the tables' words, and 'selects' of the private methods out of them =====
/-- a private method of a class that the tables say can be made, by its rows of tables_1 -/
def lw_okq (q : MethodName × Nat) : Prop := (q.1.cls ≠ "java/lang/invoke/MethodHandle" ∧ q.1.cls ≠ "java/lang/invoke/VarHandle") ∧ Cond.instantiable q.1.cls q.2 ∈ tables_1 ∧ Cond.privateMethod q.1 ∈ tables_1 ∧ Cond.instanceMethod q.1 ∈ tables_1
theorem lw_p0 : lw_okq (⟨"FastBallots$Coordinator", "forget", "()V"⟩, 10) := ⟨⟨by decide +kernel, by decide +kernel⟩, List.mem_of_getElem? (i := 143) (by decide +kernel), List.mem_of_getElem? (i := 284) (by decide +kernel), List.mem_of_getElem? (i := 285) (by decide +kernel)⟩
theorem lw_p1 : lw_okq (⟨"FastBallots$Coordinator", "sendToAll", "(II)V"⟩, 10) := ⟨⟨by decide +kernel, by decide +kernel⟩, List.mem_of_getElem? (i := 143) (by decide +kernel), List.mem_of_getElem? (i := 288) (by decide +kernel), List.mem_of_getElem? (i := 289) (by decide +kernel)⟩
theorem lw_p2 : lw_okq (⟨"FastBallots$Coordinator", "hearProposal", "(I)V"⟩, 10) := ⟨⟨by decide +kernel, by decide +kernel⟩, List.mem_of_getElem? (i := 143) (by decide +kernel), List.mem_of_getElem? (i := 334) (by decide +kernel), List.mem_of_getElem? (i := 335) (by decide +kernel)⟩
theorem lw_p3 : lw_okq (⟨"FastBallots$Coordinator", "startVoting", "(I)V"⟩, 10) := ⟨⟨by decide +kernel, by decide +kernel⟩, List.mem_of_getElem? (i := 143) (by decide +kernel), List.mem_of_getElem? (i := 338) (by decide +kernel), List.mem_of_getElem? (i := 339) (by decide +kernel)⟩
theorem lw_p4 : lw_okq (⟨"FastBallots$Coordinator", "hearPromise", "(LFastBallots$Message;)V"⟩, 10) := ⟨⟨by decide +kernel, by decide +kernel⟩, List.mem_of_getElem? (i := 143) (by decide +kernel), List.mem_of_getElem? (i := 342) (by decide +kernel), List.mem_of_getElem? (i := 343) (by decide +kernel)⟩
theorem lw_p5 : lw_okq (⟨"FastBallots$Coordinator", "keep", "(III)V"⟩, 10) := ⟨⟨by decide +kernel, by decide +kernel⟩, List.mem_of_getElem? (i := 143) (by decide +kernel), List.mem_of_getElem? (i := 346) (by decide +kernel), List.mem_of_getElem? (i := 347) (by decide +kernel)⟩
theorem lw_p6 : lw_okq (⟨"FastBallots$Coordinator", "pick", "()I"⟩, 10) := ⟨⟨by decide +kernel, by decide +kernel⟩, List.mem_of_getElem? (i := 143) (by decide +kernel), List.mem_of_getElem? (i := 350) (by decide +kernel), List.mem_of_getElem? (i := 351) (by decide +kernel)⟩
theorem lw_p7 : lw_okq (⟨"FastBallots$Coordinator", "latestRound", "()I"⟩, 10) := ⟨⟨by decide +kernel, by decide +kernel⟩, List.mem_of_getElem? (i := 143) (by decide +kernel), List.mem_of_getElem? (i := 354) (by decide +kernel), List.mem_of_getElem? (i := 355) (by decide +kernel)⟩
theorem lw_p8 : lw_okq (⟨"FastBallots$Coordinator", "maybeChosenIn", "(I)I"⟩, 10) := ⟨⟨by decide +kernel, by decide +kernel⟩, List.mem_of_getElem? (i := 143) (by decide +kernel), List.mem_of_getElem? (i := 360) (by decide +kernel), List.mem_of_getElem? (i := 361) (by decide +kernel)⟩
theorem lw_p9 : lw_okq (⟨"FastBallots$Coordinator", "votedIn", "(II)Z"⟩, 10) := ⟨⟨by decide +kernel, by decide +kernel⟩, List.mem_of_getElem? (i := 143) (by decide +kernel), List.mem_of_getElem? (i := 364) (by decide +kernel), List.mem_of_getElem? (i := 365) (by decide +kernel)⟩
theorem lw_p10 : lw_okq (⟨"FastBallots$Coordinator", "tallyIn", "(II)I"⟩, 10) := ⟨⟨by decide +kernel, by decide +kernel⟩, List.mem_of_getElem? (i := 143) (by decide +kernel), List.mem_of_getElem? (i := 368) (by decide +kernel), List.mem_of_getElem? (i := 369) (by decide +kernel)⟩
theorem lw_p11 : lw_okq (⟨"FastBallots$Coordinator", "leastIn", "(I)I"⟩, 10) := ⟨⟨by decide +kernel, by decide +kernel⟩, List.mem_of_getElem? (i := 143) (by decide +kernel), List.mem_of_getElem? (i := 372) (by decide +kernel), List.mem_of_getElem? (i := 373) (by decide +kernel)⟩
theorem lw_p12 : lw_okq (⟨"FastBallots$Coordinator", "goOnWith", "(I)V"⟩, 10) := ⟨⟨by decide +kernel, by decide +kernel⟩, List.mem_of_getElem? (i := 143) (by decide +kernel), List.mem_of_getElem? (i := 376) (by decide +kernel), List.mem_of_getElem? (i := 377) (by decide +kernel)⟩
theorem lw_p13 : lw_okq (⟨"FastBallots$Coordinator", "hearVoted", "(LFastBallots$Message;)V"⟩, 10) := ⟨⟨by decide +kernel, by decide +kernel⟩, List.mem_of_getElem? (i := 143) (by decide +kernel), List.mem_of_getElem? (i := 380) (by decide +kernel), List.mem_of_getElem? (i := 381) (by decide +kernel)⟩
theorem lw_p14 : lw_okq (⟨"FastBallots$Coordinator", "canStillBeChosen", "()Z"⟩, 10) := ⟨⟨by decide +kernel, by decide +kernel⟩, List.mem_of_getElem? (i := 143) (by decide +kernel), List.mem_of_getElem? (i := 384) (by decide +kernel), List.mem_of_getElem? (i := 385) (by decide +kernel)⟩
theorem lw_p15 : lw_okq (⟨"FastBallots$Coordinator", "mostIn", "(I)I"⟩, 10) := ⟨⟨by decide +kernel, by decide +kernel⟩, List.mem_of_getElem? (i := 143) (by decide +kernel), List.mem_of_getElem? (i := 388) (by decide +kernel), List.mem_of_getElem? (i := 389) (by decide +kernel)⟩
def lw_privs_1 : List (MethodName × Nat) := [(⟨"FastBallots$Coordinator", "forget", "()V"⟩, 10), (⟨"FastBallots$Coordinator", "sendToAll", "(II)V"⟩, 10), (⟨"FastBallots$Coordinator", "hearProposal", "(I)V"⟩, 10), (⟨"FastBallots$Coordinator", "startVoting", "(I)V"⟩, 10), (⟨"FastBallots$Coordinator", "hearPromise", "(LFastBallots$Message;)V"⟩, 10), (⟨"FastBallots$Coordinator", "keep", "(III)V"⟩, 10), (⟨"FastBallots$Coordinator", "pick", "()I"⟩, 10), (⟨"FastBallots$Coordinator", "latestRound", "()I"⟩, 10), (⟨"FastBallots$Coordinator", "maybeChosenIn", "(I)I"⟩, 10), (⟨"FastBallots$Coordinator", "votedIn", "(II)Z"⟩, 10), (⟨"FastBallots$Coordinator", "tallyIn", "(II)I"⟩, 10), (⟨"FastBallots$Coordinator", "leastIn", "(I)I"⟩, 10), (⟨"FastBallots$Coordinator", "goOnWith", "(I)V"⟩, 10), (⟨"FastBallots$Coordinator", "hearVoted", "(LFastBallots$Message;)V"⟩, 10), (⟨"FastBallots$Coordinator", "canStillBeChosen", "()Z"⟩, 10), (⟨"FastBallots$Coordinator", "mostIn", "(I)I"⟩, 10)]
theorem lw_r1 : ∀ q ∈ lw_privs_1, lw_okq q := List.forall_mem_cons.mpr ⟨lw_p0, List.forall_mem_cons.mpr ⟨lw_p1, List.forall_mem_cons.mpr ⟨lw_p2, List.forall_mem_cons.mpr ⟨lw_p3, List.forall_mem_cons.mpr ⟨lw_p4, List.forall_mem_cons.mpr ⟨lw_p5, List.forall_mem_cons.mpr ⟨lw_p6, List.forall_mem_cons.mpr ⟨lw_p7, List.forall_mem_cons.mpr ⟨lw_p8, List.forall_mem_cons.mpr ⟨lw_p9, List.forall_mem_cons.mpr ⟨lw_p10, List.forall_mem_cons.mpr ⟨lw_p11, List.forall_mem_cons.mpr ⟨lw_p12, List.forall_mem_cons.mpr ⟨lw_p13, List.forall_mem_cons.mpr ⟨lw_p14, List.forall_mem_cons.mpr ⟨lw_p15, fun _ h => absurd h List.not_mem_nil⟩⟩⟩⟩⟩⟩⟩⟩⟩⟩⟩⟩⟩⟩⟩⟩
theorem lw_p16 : lw_okq (⟨"FastBallots$Acceptor", "hearProposal", "(I)V"⟩, 9) := ⟨⟨by decide +kernel, by decide +kernel⟩, List.mem_of_getElem? (i := 183) (by decide +kernel), List.mem_of_getElem? (i := 396) (by decide +kernel), List.mem_of_getElem? (i := 397) (by decide +kernel)⟩
theorem lw_p17 : lw_okq (⟨"FastBallots$Acceptor", "isOpenNow", "()Z"⟩, 9) := ⟨⟨by decide +kernel, by decide +kernel⟩, List.mem_of_getElem? (i := 183) (by decide +kernel), List.mem_of_getElem? (i := 400) (by decide +kernel), List.mem_of_getElem? (i := 401) (by decide +kernel)⟩
theorem lw_p18 : lw_okq (⟨"FastBallots$Acceptor", "castVote", "(II)V"⟩, 9) := ⟨⟨by decide +kernel, by decide +kernel⟩, List.mem_of_getElem? (i := 183) (by decide +kernel), List.mem_of_getElem? (i := 404) (by decide +kernel), List.mem_of_getElem? (i := 405) (by decide +kernel)⟩
theorem lw_p19 : lw_okq (⟨"FastBallots$Acceptor", "hearAsk", "(I)V"⟩, 9) := ⟨⟨by decide +kernel, by decide +kernel⟩, List.mem_of_getElem? (i := 183) (by decide +kernel), List.mem_of_getElem? (i := 411) (by decide +kernel), List.mem_of_getElem? (i := 412) (by decide +kernel)⟩
theorem lw_p20 : lw_okq (⟨"FastBallots$Acceptor", "hearVoteFor", "(II)V"⟩, 9) := ⟨⟨by decide +kernel, by decide +kernel⟩, List.mem_of_getElem? (i := 183) (by decide +kernel), List.mem_of_getElem? (i := 415) (by decide +kernel), List.mem_of_getElem? (i := 416) (by decide +kernel)⟩
theorem lw_p21 : lw_okq (⟨"FastBallots", "isAcceptor", "(I)Z"⟩, 4) := ⟨⟨by decide +kernel, by decide +kernel⟩, List.mem_of_getElem? (i := 13) (by decide +kernel), List.mem_of_getElem? (i := 428) (by decide +kernel), List.mem_of_getElem? (i := 429) (by decide +kernel)⟩
theorem lw_p22 : lw_okq (⟨"FastBallotsModel", "sendAll", "(IIII)V"⟩, 27) := ⟨⟨by decide +kernel, by decide +kernel⟩, List.mem_of_getElem? (i := 497) (by decide +kernel), List.mem_of_getElem? (i := 595) (by decide +kernel), List.mem_of_getElem? (i := 596) (by decide +kernel)⟩
theorem lw_p23 : lw_okq (⟨"FastBallotsModel", "send", "(IIIIIII)V"⟩, 27) := ⟨⟨by decide +kernel, by decide +kernel⟩, List.mem_of_getElem? (i := 497) (by decide +kernel), List.mem_of_getElem? (i := 599) (by decide +kernel), List.mem_of_getElem? (i := 600) (by decide +kernel)⟩
theorem lw_p24 : lw_okq (⟨"FastBallotsModel", "lead", "(III)V"⟩, 27) := ⟨⟨by decide +kernel, by decide +kernel⟩, List.mem_of_getElem? (i := 497) (by decide +kernel), List.mem_of_getElem? (i := 613) (by decide +kernel), List.mem_of_getElem? (i := 614) (by decide +kernel)⟩
theorem lw_p25 : lw_okq (⟨"FastBallotsModel", "isMessage", "(I)Z"⟩, 27) := ⟨⟨by decide +kernel, by decide +kernel⟩, List.mem_of_getElem? (i := 497) (by decide +kernel), List.mem_of_getElem? (i := 621) (by decide +kernel), List.mem_of_getElem? (i := 622) (by decide +kernel)⟩
theorem lw_p26 : lw_okq (⟨"FastBallotsModel", "takeOut", "(I)V"⟩, 27) := ⟨⟨by decide +kernel, by decide +kernel⟩, List.mem_of_getElem? (i := 497) (by decide +kernel), List.mem_of_getElem? (i := 625) (by decide +kernel), List.mem_of_getElem? (i := 626) (by decide +kernel)⟩
theorem lw_p27 : lw_okq (⟨"FastBallotsModel", "accept", "(IIIII)V"⟩, 27) := ⟨⟨by decide +kernel, by decide +kernel⟩, List.mem_of_getElem? (i := 497) (by decide +kernel), List.mem_of_getElem? (i := 629) (by decide +kernel), List.mem_of_getElem? (i := 630) (by decide +kernel)⟩
theorem lw_p28 : lw_okq (⟨"FastBallotsModel", "casts", "(IIII)V"⟩, 27) := ⟨⟨by decide +kernel, by decide +kernel⟩, List.mem_of_getElem? (i := 497) (by decide +kernel), List.mem_of_getElem? (i := 633) (by decide +kernel), List.mem_of_getElem? (i := 634) (by decide +kernel)⟩
theorem lw_p29 : lw_okq (⟨"FastBallotsModel", "coordinate", "(IIIIIII)V"⟩, 27) := ⟨⟨by decide +kernel, by decide +kernel⟩, List.mem_of_getElem? (i := 497) (by decide +kernel), List.mem_of_getElem? (i := 637) (by decide +kernel), List.mem_of_getElem? (i := 638) (by decide +kernel)⟩
theorem lw_p30 : lw_okq (⟨"FastBallotsModel", "voteFor", "(III)V"⟩, 27) := ⟨⟨by decide +kernel, by decide +kernel⟩, List.mem_of_getElem? (i := 497) (by decide +kernel), List.mem_of_getElem? (i := 641) (by decide +kernel), List.mem_of_getElem? (i := 642) (by decide +kernel)⟩
theorem lw_p31 : lw_okq (⟨"FastBallotsModel", "tell", "(IIII)V"⟩, 27) := ⟨⟨by decide +kernel, by decide +kernel⟩, List.mem_of_getElem? (i := 497) (by decide +kernel), List.mem_of_getElem? (i := 645) (by decide +kernel), List.mem_of_getElem? (i := 646) (by decide +kernel)⟩
def lw_privs_2 : List (MethodName × Nat) := [(⟨"FastBallots$Acceptor", "hearProposal", "(I)V"⟩, 9), (⟨"FastBallots$Acceptor", "isOpenNow", "()Z"⟩, 9), (⟨"FastBallots$Acceptor", "castVote", "(II)V"⟩, 9), (⟨"FastBallots$Acceptor", "hearAsk", "(I)V"⟩, 9), (⟨"FastBallots$Acceptor", "hearVoteFor", "(II)V"⟩, 9), (⟨"FastBallots", "isAcceptor", "(I)Z"⟩, 4), (⟨"FastBallotsModel", "sendAll", "(IIII)V"⟩, 27), (⟨"FastBallotsModel", "send", "(IIIIIII)V"⟩, 27), (⟨"FastBallotsModel", "lead", "(III)V"⟩, 27), (⟨"FastBallotsModel", "isMessage", "(I)Z"⟩, 27), (⟨"FastBallotsModel", "takeOut", "(I)V"⟩, 27), (⟨"FastBallotsModel", "accept", "(IIIII)V"⟩, 27), (⟨"FastBallotsModel", "casts", "(IIII)V"⟩, 27), (⟨"FastBallotsModel", "coordinate", "(IIIIIII)V"⟩, 27), (⟨"FastBallotsModel", "voteFor", "(III)V"⟩, 27), (⟨"FastBallotsModel", "tell", "(IIII)V"⟩, 27)]
theorem lw_r2 : ∀ q ∈ lw_privs_2, lw_okq q := List.forall_mem_cons.mpr ⟨lw_p16, List.forall_mem_cons.mpr ⟨lw_p17, List.forall_mem_cons.mpr ⟨lw_p18, List.forall_mem_cons.mpr ⟨lw_p19, List.forall_mem_cons.mpr ⟨lw_p20, List.forall_mem_cons.mpr ⟨lw_p21, List.forall_mem_cons.mpr ⟨lw_p22, List.forall_mem_cons.mpr ⟨lw_p23, List.forall_mem_cons.mpr ⟨lw_p24, List.forall_mem_cons.mpr ⟨lw_p25, List.forall_mem_cons.mpr ⟨lw_p26, List.forall_mem_cons.mpr ⟨lw_p27, List.forall_mem_cons.mpr ⟨lw_p28, List.forall_mem_cons.mpr ⟨lw_p29, List.forall_mem_cons.mpr ⟨lw_p30, List.forall_mem_cons.mpr ⟨lw_p31, fun _ h => absurd h List.not_mem_nil⟩⟩⟩⟩⟩⟩⟩⟩⟩⟩⟩⟩⟩⟩⟩⟩
theorem lw_p32 : lw_okq (⟨"FastBallotsModel", "tellers", "(I)I"⟩, 27) := ⟨⟨by decide +kernel, by decide +kernel⟩, List.mem_of_getElem? (i := 497) (by decide +kernel), List.mem_of_getElem? (i := 649) (by decide +kernel), List.mem_of_getElem? (i := 650) (by decide +kernel)⟩
theorem lw_p33 : lw_okq (⟨"FastBallotsModel", "go", "(II)V"⟩, 27) := ⟨⟨by decide +kernel, by decide +kernel⟩, List.mem_of_getElem? (i := 497) (by decide +kernel), List.mem_of_getElem? (i := 653) (by decide +kernel), List.mem_of_getElem? (i := 654) (by decide +kernel)⟩
theorem lw_p34 : lw_okq (⟨"FastBallotsModel", "pick", "(I)I"⟩, 27) := ⟨⟨by decide +kernel, by decide +kernel⟩, List.mem_of_getElem? (i := 497) (by decide +kernel), List.mem_of_getElem? (i := 657) (by decide +kernel), List.mem_of_getElem? (i := 658) (by decide +kernel)⟩
theorem lw_p35 : lw_okq (⟨"FastBallotsModel", "toldFor", "(III)I"⟩, 27) := ⟨⟨by decide +kernel, by decide +kernel⟩, List.mem_of_getElem? (i := 497) (by decide +kernel), List.mem_of_getElem? (i := 664) (by decide +kernel), List.mem_of_getElem? (i := 665) (by decide +kernel)⟩
theorem lw_p36 : lw_okq (⟨"FastBallotsModel", "leastTold", "(II)I"⟩, 27) := ⟨⟨by decide +kernel, by decide +kernel⟩, List.mem_of_getElem? (i := 497) (by decide +kernel), List.mem_of_getElem? (i := 668) (by decide +kernel), List.mem_of_getElem? (i := 669) (by decide +kernel)⟩
theorem lw_p37 : lw_okq (⟨"FastBallotsModel", "recover", "(III)V"⟩, 27) := ⟨⟨by decide +kernel, by decide +kernel⟩, List.mem_of_getElem? (i := 497) (by decide +kernel), List.mem_of_getElem? (i := 672) (by decide +kernel), List.mem_of_getElem? (i := 673) (by decide +kernel)⟩
theorem lw_p38 : lw_okq (⟨"FastBallotsModel", "learn", "(IIII)V"⟩, 27) := ⟨⟨by decide +kernel, by decide +kernel⟩, List.mem_of_getElem? (i := 497) (by decide +kernel), List.mem_of_getElem? (i := 676) (by decide +kernel), List.mem_of_getElem? (i := 677) (by decide +kernel)⟩
theorem lw_p39 : lw_okq (⟨"FastBallotsModel", "enough", "(I)I"⟩, 27) := ⟨⟨by decide +kernel, by decide +kernel⟩, List.mem_of_getElem? (i := 497) (by decide +kernel), List.mem_of_getElem? (i := 683) (by decide +kernel), List.mem_of_getElem? (i := 684) (by decide +kernel)⟩
theorem lw_p40 : lw_okq (⟨"FastBallotsModel", "isAcceptor", "(I)Z"⟩, 27) := ⟨⟨by decide +kernel, by decide +kernel⟩, List.mem_of_getElem? (i := 497) (by decide +kernel), List.mem_of_getElem? (i := 695) (by decide +kernel), List.mem_of_getElem? (i := 696) (by decide +kernel)⟩
def lw_privs_3 : List (MethodName × Nat) := [(⟨"FastBallotsModel", "tellers", "(I)I"⟩, 27), (⟨"FastBallotsModel", "go", "(II)V"⟩, 27), (⟨"FastBallotsModel", "pick", "(I)I"⟩, 27), (⟨"FastBallotsModel", "toldFor", "(III)I"⟩, 27), (⟨"FastBallotsModel", "leastTold", "(II)I"⟩, 27), (⟨"FastBallotsModel", "recover", "(III)V"⟩, 27), (⟨"FastBallotsModel", "learn", "(IIII)V"⟩, 27), (⟨"FastBallotsModel", "enough", "(I)I"⟩, 27), (⟨"FastBallotsModel", "isAcceptor", "(I)Z"⟩, 27)]
theorem lw_r3 : ∀ q ∈ lw_privs_3, lw_okq q := List.forall_mem_cons.mpr ⟨lw_p32, List.forall_mem_cons.mpr ⟨lw_p33, List.forall_mem_cons.mpr ⟨lw_p34, List.forall_mem_cons.mpr ⟨lw_p35, List.forall_mem_cons.mpr ⟨lw_p36, List.forall_mem_cons.mpr ⟨lw_p37, List.forall_mem_cons.mpr ⟨lw_p38, List.forall_mem_cons.mpr ⟨lw_p39, List.forall_mem_cons.mpr ⟨lw_p40, fun _ h => absurd h List.not_mem_nil⟩⟩⟩⟩⟩⟩⟩⟩⟩
def lw_privs : List (MethodName × Nat) := lw_privs_1 ++ (lw_privs_2 ++ (lw_privs_3))
def lw_tbl : List Cond := k2_sels lw_privs ++ tables_1
theorem lw_privs_ok : ∀ q ∈ lw_privs, lw_okq q := by
  show ∀ q ∈ lw_privs_1 ++ (lw_privs_2 ++ (lw_privs_3)), lw_okq q
  exact List.forall_mem_append.mpr ⟨lw_r1, List.forall_mem_append.mpr ⟨lw_r2, lw_r3⟩⟩
end
section
/-! Names, by program out of the claim's tables: fields, methods, words by their places. -/
def tb_W : List Cond := lw_tbl.filter goodWord
theorem tb_g : ∀ w ∈ tb_W, goodWord w = true := fun w h => (List.mem_filter.mp h).2
theorem tb_m0 {w : Cond} (i : Nat) (h : (k2_sels lw_privs)[i]? = some w) (g : goodWord w = true) : w ∈ tb_W := List.mem_filter.mpr ⟨List.mem_append_left _ (List.mem_of_getElem? h), g⟩
theorem tb_m1 {w : Cond} (i : Nat) (h : tables_1_1[i]? = some w) (g : goodWord w = true) : w ∈ tb_W := List.mem_filter.mpr ⟨List.mem_append_right _ (List.mem_append_left _ (List.mem_of_getElem? h)), g⟩
theorem tb_m2 {w : Cond} (i : Nat) (h : tables_1_2[i]? = some w) (g : goodWord w = true) : w ∈ tb_W := List.mem_filter.mpr ⟨List.mem_append_right _ (List.mem_append_right _ (List.mem_append_left _ (List.mem_of_getElem? h))), g⟩
theorem tb_m3 {w : Cond} (i : Nat) (h : tables_1_3[i]? = some w) (g : goodWord w = true) : w ∈ tb_W := List.mem_filter.mpr ⟨List.mem_append_right _ (List.mem_append_right _ (List.mem_append_right _ (List.mem_append_left _ (List.mem_of_getElem? h)))), g⟩
theorem tb_m4 {w : Cond} (i : Nat) (h : tables_1_4[i]? = some w) (g : goodWord w = true) : w ∈ tb_W := List.mem_filter.mpr ⟨List.mem_append_right _ (List.mem_append_right _ (List.mem_append_right _ (List.mem_append_right _ (List.mem_of_getElem? h)))), g⟩
abbrev tb_RFB : String := "FastBallots"
def tb_TFB : u_T := fun k => match k with
  | 0 => ("FastBallots", "sizes", "LFastBallots$Sizes;", true)
  | 1 => ("FastBallots", "mail", "LFastBallots$Mail;", true)
  | 2 => ("FastBallots", "slots", "[LFastBallots$Slot;", true)
  | _ => ("FastBallots", "halted", "[Z", true)
def tb_tFB : Nat → FieldType := fun k => match k with
  | 0 => .object "FastBallots$Sizes"
  | 1 => .object "FastBallots$Mail"
  | 2 => .array (.object "FastBallots$Slot")
  | _ => .array .boolean
theorem tb_nFB : ∀ a, a < 4 → ∀ b, b < 4 → a ≠ b → (tb_TFB a).2.1 ≠ (tb_TFB b).2.1 := by decide +kernel
theorem tb_yFB : ∀ k, k < 4 → parseFieldDescriptor (tb_TFB k).2.2.1 = some (tb_tFB k) := by decide +kernel
theorem tb_iFB : ∀ w ∈ u_ws tb_RFB tb_TFB 4, w ∈ tb_W := fun w h => List.mem_filter.mpr ⟨(goodIn_p (big := lw_tbl) (u_ws tb_RFB tb_TFB 4) [] (by decide +kernel) (by decide +kernel) w h).1, List.all_eq_true.mp (by decide +kernel : (u_ws tb_RFB tb_TFB 4).all goodWord = true) w h⟩
abbrev tb_RSiz : String := "FastBallots$Sizes"
def tb_TSiz : u_T := fun k => match k with
  | 0 => ("FastBallots$Sizes", "acceptors", "I", true)
  | 1 => ("FastBallots$Sizes", "classicQuorum", "I", true)
  | _ => ("FastBallots$Sizes", "fastQuorum", "I", true)
def tb_tSiz : Nat → FieldType := fun k => match k with
  | 0 => .int
  | 1 => .int
  | _ => .int
theorem tb_nSiz : ∀ a, a < 3 → ∀ b, b < 3 → a ≠ b → (tb_TSiz a).2.1 ≠ (tb_TSiz b).2.1 := by decide +kernel
theorem tb_ySiz : ∀ k, k < 3 → parseFieldDescriptor (tb_TSiz k).2.2.1 = some (tb_tSiz k) := by decide +kernel
theorem tb_iSiz : ∀ w ∈ u_ws tb_RSiz tb_TSiz 3, w ∈ tb_W := fun w h => List.mem_filter.mpr ⟨(goodIn_p (big := lw_tbl) (u_ws tb_RSiz tb_TSiz 3) [] (by decide +kernel) (by decide +kernel) w h).1, List.all_eq_true.mp (by decide +kernel : (u_ws tb_RSiz tb_TSiz 3).all goodWord = true) w h⟩
abbrev tb_RMail : String := "FastBallots$Mail"
def tb_TMail : u_T := fun k => match k with
  | 0 => ("FastBallots$Mail", "cells", "[I", true)
  | 1 => ("FastBallots$Mail", "taken", "LFastBallots$Message;", true)
  | 2 => ("FastBallots$Mail", "count", "I", false)
  | _ => ("FastBallots$Mail", "lostCount", "I", false)
def tb_tMail : Nat → FieldType := fun k => match k with
  | 0 => .array .int
  | 1 => .object "FastBallots$Message"
  | 2 => .int
  | _ => .int
theorem tb_nMail : ∀ a, a < 4 → ∀ b, b < 4 → a ≠ b → (tb_TMail a).2.1 ≠ (tb_TMail b).2.1 := by decide +kernel
theorem tb_yMail : ∀ k, k < 4 → parseFieldDescriptor (tb_TMail k).2.2.1 = some (tb_tMail k) := by decide +kernel
theorem tb_iMail : ∀ w ∈ u_ws tb_RMail tb_TMail 4, w ∈ tb_W := fun w h => List.mem_filter.mpr ⟨(goodIn_p (big := lw_tbl) (u_ws tb_RMail tb_TMail 4) [] (by decide +kernel) (by decide +kernel) w h).1, List.all_eq_true.mp (by decide +kernel : (u_ws tb_RMail tb_TMail 4).all goodWord = true) w h⟩
abbrev tb_RMsg : String := "FastBallots$Message"
def tb_TMsg : u_T := fun k => match k with
  | 0 => ("FastBallots$Message", "kind", "I", false)
  | 1 => ("FastBallots$Message", "slot", "I", false)
  | 2 => ("FastBallots$Message", "round", "I", false)
  | 3 => ("FastBallots$Message", "from", "I", false)
  | 4 => ("FastBallots$Message", "to", "I", false)
  | 5 => ("FastBallots$Message", "value", "I", false)
  | _ => ("FastBallots$Message", "ballotRound", "I", false)
def tb_tMsg : Nat → FieldType := fun k => match k with
  | 0 => .int
  | 1 => .int
  | 2 => .int
  | 3 => .int
  | 4 => .int
  | 5 => .int
  | _ => .int
theorem tb_nMsg : ∀ a, a < 7 → ∀ b, b < 7 → a ≠ b → (tb_TMsg a).2.1 ≠ (tb_TMsg b).2.1 := by decide +kernel
theorem tb_yMsg : ∀ k, k < 7 → parseFieldDescriptor (tb_TMsg k).2.2.1 = some (tb_tMsg k) := by decide +kernel
theorem tb_iMsg : ∀ w ∈ u_ws tb_RMsg tb_TMsg 7, w ∈ tb_W := fun w h => List.mem_filter.mpr ⟨(goodIn_p (big := lw_tbl) (u_ws tb_RMsg tb_TMsg 7) [] (by decide +kernel) (by decide +kernel) w h).1, List.all_eq_true.mp (by decide +kernel : (u_ws tb_RMsg tb_TMsg 7).all goodWord = true) w h⟩
abbrev tb_RSlt : String := "FastBallots$Slot"
def tb_TSlt : u_T := fun k => match k with
  | 0 => ("FastBallots$Slot", "acceptors", "[LFastBallots$Acceptor;", true)
  | 1 => ("FastBallots$Slot", "first", "LFastBallots$Coordinator;", true)
  | 2 => ("FastBallots$Slot", "second", "LFastBallots$Coordinator;", true)
  | 3 => ("FastBallots$Slot", "cast", "LFastBallots$Tally;", true)
  | _ => ("FastBallots$Slot", "told", "LFastBallots$Tally;", true)
def tb_tSlt : Nat → FieldType := fun k => match k with
  | 0 => .array (.object "FastBallots$Acceptor")
  | 1 => .object "FastBallots$Coordinator"
  | 2 => .object "FastBallots$Coordinator"
  | 3 => .object "FastBallots$Tally"
  | _ => .object "FastBallots$Tally"
theorem tb_nSlt : ∀ a, a < 5 → ∀ b, b < 5 → a ≠ b → (tb_TSlt a).2.1 ≠ (tb_TSlt b).2.1 := by decide +kernel
theorem tb_ySlt : ∀ k, k < 5 → parseFieldDescriptor (tb_TSlt k).2.2.1 = some (tb_tSlt k) := by decide +kernel
theorem tb_iSlt : ∀ w ∈ u_ws tb_RSlt tb_TSlt 5, w ∈ tb_W := fun w h => List.mem_filter.mpr ⟨(goodIn_p (big := lw_tbl) (u_ws tb_RSlt tb_TSlt 5) [] (by decide +kernel) (by decide +kernel) w h).1, List.all_eq_true.mp (by decide +kernel : (u_ws tb_RSlt tb_TSlt 5).all goodWord = true) w h⟩
abbrev tb_RCor : String := "FastBallots$Coordinator"
def tb_TCor : u_T := fun k => match k with
  | 0 => ("FastBallots$Coordinator", "slot", "I", true)
  | 1 => ("FastBallots$Coordinator", "sizes", "LFastBallots$Sizes;", true)
  | 2 => ("FastBallots$Coordinator", "mail", "LFastBallots$Mail;", true)
  | 3 => ("FastBallots$Coordinator", "leading", "I", false)
  | 4 => ("FastBallots$Coordinator", "stage", "I", false)
  | 5 => ("FastBallots$Coordinator", "firstProposed", "I", false)
  | 6 => ("FastBallots$Coordinator", "heard", "[Z", true)
  | 7 => ("FastBallots$Coordinator", "ballots", "[I", true)
  | 8 => ("FastBallots$Coordinator", "ballotRounds", "[I", true)
  | _ => ("FastBallots$Coordinator", "heardCount", "I", false)
def tb_tCor : Nat → FieldType := fun k => match k with
  | 0 => .int
  | 1 => .object "FastBallots$Sizes"
  | 2 => .object "FastBallots$Mail"
  | 3 => .int
  | 4 => .int
  | 5 => .int
  | 6 => .array .boolean
  | 7 => .array .int
  | 8 => .array .int
  | _ => .int
theorem tb_nCor : ∀ a, a < 10 → ∀ b, b < 10 → a ≠ b → (tb_TCor a).2.1 ≠ (tb_TCor b).2.1 := by decide +kernel
theorem tb_yCor : ∀ k, k < 10 → parseFieldDescriptor (tb_TCor k).2.2.1 = some (tb_tCor k) := by decide +kernel
theorem tb_iCor : ∀ w ∈ u_ws tb_RCor tb_TCor 10, w ∈ tb_W := fun w h => List.mem_filter.mpr ⟨(goodIn_p (big := lw_tbl) (u_ws tb_RCor tb_TCor 10) [] (by decide +kernel) (by decide +kernel) w h).1, List.all_eq_true.mp (by decide +kernel : (u_ws tb_RCor tb_TCor 10).all goodWord = true) w h⟩
abbrev tb_RTal : String := "FastBallots$Tally"
def tb_TTal : u_T := fun k => match k with
  | 0 => ("FastBallots$Tally", "sizes", "LFastBallots$Sizes;", true)
  | 1 => ("FastBallots$Tally", "ballots", "[I", true)
  | _ => ("FastBallots$Tally", "settled", "I", false)
def tb_tTal : Nat → FieldType := fun k => match k with
  | 0 => .object "FastBallots$Sizes"
  | 1 => .array .int
  | _ => .int
theorem tb_nTal : ∀ a, a < 3 → ∀ b, b < 3 → a ≠ b → (tb_TTal a).2.1 ≠ (tb_TTal b).2.1 := by decide +kernel
theorem tb_yTal : ∀ k, k < 3 → parseFieldDescriptor (tb_TTal k).2.2.1 = some (tb_tTal k) := by decide +kernel
theorem tb_iTal : ∀ w ∈ u_ws tb_RTal tb_TTal 3, w ∈ tb_W := fun w h => List.mem_filter.mpr ⟨(goodIn_p (big := lw_tbl) (u_ws tb_RTal tb_TTal 3) [] (by decide +kernel) (by decide +kernel) w h).1, List.all_eq_true.mp (by decide +kernel : (u_ws tb_RTal tb_TTal 3).all goodWord = true) w h⟩
abbrev tb_RAcc : String := "FastBallots$Acceptor"
def tb_TAcc : u_T := fun k => match k with
  | 0 => ("FastBallots$Acceptor", "number", "I", true)
  | 1 => ("FastBallots$Acceptor", "slot", "I", true)
  | 2 => ("FastBallots$Acceptor", "mail", "LFastBallots$Mail;", true)
  | 3 => ("FastBallots$Acceptor", "cast", "LFastBallots$Tally;", true)
  | 4 => ("FastBallots$Acceptor", "current", "I", false)
  | 5 => ("FastBallots$Acceptor", "ballot", "I", false)
  | 6 => ("FastBallots$Acceptor", "ballotRound", "I", false)
  | 7 => ("FastBallots$Acceptor", "firstProposed", "I", false)
  | _ => ("FastBallots$Acceptor", "openRound", "I", false)
def tb_tAcc : Nat → FieldType := fun k => match k with
  | 0 => .int
  | 1 => .int
  | 2 => .object "FastBallots$Mail"
  | 3 => .object "FastBallots$Tally"
  | 4 => .int
  | 5 => .int
  | 6 => .int
  | 7 => .int
  | _ => .int
theorem tb_nAcc : ∀ a, a < 9 → ∀ b, b < 9 → a ≠ b → (tb_TAcc a).2.1 ≠ (tb_TAcc b).2.1 := by decide +kernel
theorem tb_yAcc : ∀ k, k < 9 → parseFieldDescriptor (tb_TAcc k).2.2.1 = some (tb_tAcc k) := by decide +kernel
theorem tb_iAcc : ∀ w ∈ u_ws tb_RAcc tb_TAcc 9, w ∈ tb_W := fun w h => List.mem_filter.mpr ⟨(goodIn_p (big := lw_tbl) (u_ws tb_RAcc tb_TAcc 9) [] (by decide +kernel) (by decide +kernel) w h).1, List.all_eq_true.mp (by decide +kernel : (u_ws tb_RAcc tb_TAcc 9).all goodWord = true) w h⟩
abbrev tb_RMod : String := "FastBallotsModel"
def tb_TMod : u_T := fun k => match k with
  | 0 => ("FastBallotsModel", "n", "I", true)
  | 1 => ("FastBallotsModel", "classic", "I", true)
  | 2 => ("FastBallotsModel", "fast", "I", true)
  | 3 => ("FastBallotsModel", "halted", "[Z", true)
  | 4 => ("FastBallotsModel", "waiting", "I", false)
  | 5 => ("FastBallotsModel", "lost", "I", false)
  | 6 => ("FastBallotsModel", "kinds", "[I", true)
  | 7 => ("FastBallotsModel", "slots", "[I", true)
  | 8 => ("FastBallotsModel", "rounds", "[I", true)
  | 9 => ("FastBallotsModel", "tos", "[I", true)
  | 10 => ("FastBallotsModel", "froms", "[I", true)
  | 11 => ("FastBallotsModel", "values", "[I", true)
  | 12 => ("FastBallotsModel", "olds", "[I", true)
  | 13 => ("FastBallotsModel", "round", "[I", true)
  | 14 => ("FastBallotsModel", "vote", "[I", true)
  | 15 => ("FastBallotsModel", "voteRound", "[I", true)
  | 16 => ("FastBallotsModel", "proposed", "[I", true)
  | 17 => ("FastBallotsModel", "open", "[I", true)
  | 18 => ("FastBallotsModel", "voted", "[I", true)
  | 19 => ("FastBallotsModel", "heard", "[I", true)
  | 20 => ("FastBallotsModel", "learned", "[I", true)
  | 21 => ("FastBallotsModel", "leads", "[I", true)
  | 22 => ("FastBallotsModel", "phase", "[I", true)
  | 23 => ("FastBallotsModel", "wanted", "[I", true)
  | 24 => ("FastBallotsModel", "told", "[Z", true)
  | 25 => ("FastBallotsModel", "toldValue", "[I", true)
  | _ => ("FastBallotsModel", "toldRound", "[I", true)
def tb_tMod : Nat → FieldType := fun k => match k with
  | 0 => .int
  | 1 => .int
  | 2 => .int
  | 3 => .array .boolean
  | 4 => .int
  | 5 => .int
  | 6 => .array .int
  | 7 => .array .int
  | 8 => .array .int
  | 9 => .array .int
  | 10 => .array .int
  | 11 => .array .int
  | 12 => .array .int
  | 13 => .array .int
  | 14 => .array .int
  | 15 => .array .int
  | 16 => .array .int
  | 17 => .array .int
  | 18 => .array .int
  | 19 => .array .int
  | 20 => .array .int
  | 21 => .array .int
  | 22 => .array .int
  | 23 => .array .int
  | 24 => .array .boolean
  | 25 => .array .int
  | _ => .array .int
theorem tb_nMod : ∀ a, a < 27 → ∀ b, b < 27 → a ≠ b → (tb_TMod a).2.1 ≠ (tb_TMod b).2.1 := by decide +kernel
theorem tb_yMod : ∀ k, k < 27 → parseFieldDescriptor (tb_TMod k).2.2.1 = some (tb_tMod k) := by decide +kernel
theorem tb_iMod : ∀ w ∈ u_ws tb_RMod tb_TMod 27, w ∈ tb_W := fun w h => List.mem_filter.mpr ⟨(goodIn_p (big := lw_tbl) (u_ws tb_RMod tb_TMod 27) [] (by decide +kernel) (by decide +kernel) w h).1, List.all_eq_true.mp (by decide +kernel : (u_ws tb_RMod tb_TMod 27).all goodWord = true) w h⟩
abbrev tb_cl : List vw_C := [(tb_RFB, tb_TFB, 4), (tb_RSiz, tb_TSiz, 3), (tb_RMail, tb_TMail, 4), (tb_RMsg, tb_TMsg, 7), (tb_RSlt, tb_TSlt, 5), (tb_RCor, tb_TCor, 10), (tb_RTal, tb_TTal, 3), (tb_RAcc, tb_TAcc, 9), (tb_RMod, tb_TMod, 27)]
abbrev mb_FB_init : ByteArray := prog_1_method_1_code
def my_FB_init : MethodName := ⟨"FastBallots", "<init>", "(III)V"⟩
theorem mc_FB_init : Cond.code my_FB_init mb_FB_init 5 none ∈ tb_W := tb_m1 16 rfl rfl
theorem mi_FB_init : Cond.instanceMethod my_FB_init ∈ tb_W := tb_m1 15 rfl rfl
abbrev mb_Siz_init : ByteArray := prog_6_method_1_code
def my_Siz_init : MethodName := ⟨"FastBallots$Sizes", "<init>", "(III)V"⟩
theorem mc_Siz_init : Cond.code my_Siz_init mb_Siz_init 6 none ∈ tb_W := tb_m1 24 rfl rfl
theorem mi_Siz_init : Cond.instanceMethod my_Siz_init ∈ tb_W := tb_m1 23 rfl rfl
abbrev mb_Siz_areQuorums : ByteArray := prog_6_method_2_code
def my_Siz_areQuorums : MethodName := ⟨"FastBallots$Sizes", "areQuorums", "(III)Z"⟩
theorem mc_Siz_areQuorums : Cond.code my_Siz_areQuorums mb_Siz_areQuorums 3 (some .boolean) ∈ tb_W := tb_m1 34 rfl rfl
theorem mt_Siz_areQuorums : Cond.static my_Siz_areQuorums ∈ tb_W := tb_m1 33 rfl rfl
abbrev mb_Mail_init : ByteArray := prog_4_method_1_code
def my_Mail_init : MethodName := ⟨"FastBallots$Mail", "<init>", "()V"⟩
theorem mc_Mail_init : Cond.code my_Mail_init mb_Mail_init 1 none ∈ tb_W := tb_m1 57 rfl rfl
theorem mi_Mail_init : Cond.instanceMethod my_Mail_init ∈ tb_W := tb_m1 56 rfl rfl
abbrev mb_Msg_init : ByteArray := prog_5_method_1_code
def my_Msg_init : MethodName := ⟨"FastBallots$Message", "<init>", "()V"⟩
theorem mc_Msg_init : Cond.code my_Msg_init mb_Msg_init 1 none ∈ tb_W := tb_m1 63 rfl rfl
theorem mi_Msg_init : Cond.instanceMethod my_Msg_init ∈ tb_W := tb_m1 62 rfl rfl
abbrev mb_Slt_init : ByteArray := prog_7_method_1_code
def my_Slt_init : MethodName := ⟨"FastBallots$Slot", "<init>", "(ILFastBallots$Sizes;LFastBallots$Mail;)V"⟩
theorem mc_Slt_init : Cond.code my_Slt_init mb_Slt_init 5 none ∈ tb_W := tb_m1 122 rfl rfl
theorem mi_Slt_init : Cond.instanceMethod my_Slt_init ∈ tb_W := tb_m1 121 rfl rfl
abbrev mb_Tal_init : ByteArray := prog_8_method_1_code
def my_Tal_init : MethodName := ⟨"FastBallots$Tally", "<init>", "(LFastBallots$Sizes;)V"⟩
theorem mc_Tal_init : Cond.code my_Tal_init mb_Tal_init 2 none ∈ tb_W := tb_m1 128 rfl rfl
theorem mi_Tal_init : Cond.instanceMethod my_Tal_init ∈ tb_W := tb_m1 127 rfl rfl
abbrev mb_Cor_init : ByteArray := prog_3_method_1_code
def my_Cor_init : MethodName := ⟨"FastBallots$Coordinator", "<init>", "(ILFastBallots$Sizes;LFastBallots$Mail;)V"⟩
theorem mc_Cor_init : Cond.code my_Cor_init mb_Cor_init 4 none ∈ tb_W := tb_m1 146 rfl rfl
theorem mi_Cor_init : Cond.instanceMethod my_Cor_init ∈ tb_W := tb_m1 145 rfl rfl
abbrev mb_Acc_init : ByteArray := prog_2_method_1_code
def my_Acc_init : MethodName := ⟨"FastBallots$Acceptor", "<init>", "(IILFastBallots$Mail;LFastBallots$Tally;)V"⟩
theorem mc_Acc_init : Cond.code my_Acc_init mb_Acc_init 5 none ∈ tb_W := tb_m1 186 rfl rfl
theorem mi_Acc_init : Cond.instanceMethod my_Acc_init ∈ tb_W := tb_m1 185 rfl rfl
abbrev mb_FB_propose : ByteArray := prog_1_method_2_code
def my_FB_propose : MethodName := ⟨"FastBallots", "propose", "(II)I"⟩
theorem mc_FB_propose : Cond.code my_FB_propose mb_FB_propose 4 (some .int) ∈ tb_W := tb_m2 14 rfl rfl
theorem mi_FB_propose : Cond.instanceMethod my_FB_propose ∈ tb_W := tb_m2 12 rfl rfl
theorem ms_FB_propose : Cond.selects my_FB_propose.cls my_FB_propose my_FB_propose ∈ tb_W := tb_m2 13 rfl rfl
abbrev mb_FB_isSlot : ByteArray := prog_1_method_22_code
def my_FB_isSlot : MethodName := ⟨"FastBallots", "isSlot", "(I)Z"⟩
theorem mc_FB_isSlot : Cond.code my_FB_isSlot mb_FB_isSlot 1 (some .boolean) ∈ tb_W := tb_m2 17 rfl rfl
theorem mt_FB_isSlot : Cond.static my_FB_isSlot ∈ tb_W := tb_m2 16 rfl rfl
abbrev mb_FB_isValue : ByteArray := prog_1_method_24_code
def my_FB_isValue : MethodName := ⟨"FastBallots", "isValue", "(I)Z"⟩
theorem mc_FB_isValue : Cond.code my_FB_isValue mb_FB_isValue 1 (some .boolean) ∈ tb_W := tb_m2 20 rfl rfl
theorem mt_FB_isValue : Cond.static my_FB_isValue ∈ tb_W := tb_m2 19 rfl rfl
abbrev mb_Mail_send : ByteArray := prog_4_method_3_code
def my_Mail_send : MethodName := ⟨"FastBallots$Mail", "send", "(IIIIIII)V"⟩
theorem mc_Mail_send : Cond.code my_Mail_send mb_Mail_send 9 none ∈ tb_W := tb_m2 24 rfl rfl
theorem mi_Mail_send : Cond.instanceMethod my_Mail_send ∈ tb_W := tb_m2 22 rfl rfl
theorem ms_Mail_send : Cond.selects my_Mail_send.cls my_Mail_send my_Mail_send ∈ tb_W := tb_m2 23 rfl rfl
abbrev mb_FB_begin : ByteArray := prog_1_method_3_code
def my_FB_begin : MethodName := ⟨"FastBallots", "begin", "(II)I"⟩
theorem mc_FB_begin : Cond.code my_FB_begin mb_FB_begin 5 (some .int) ∈ tb_W := tb_m2 28 rfl rfl
theorem mi_FB_begin : Cond.instanceMethod my_FB_begin ∈ tb_W := tb_m2 26 rfl rfl
theorem ms_FB_begin : Cond.selects my_FB_begin.cls my_FB_begin my_FB_begin ∈ tb_W := tb_m2 27 rfl rfl
abbrev mb_FB_isRound : ByteArray := prog_1_method_23_code
def my_FB_isRound : MethodName := ⟨"FastBallots", "isRound", "(I)Z"⟩
theorem mc_FB_isRound : Cond.code my_FB_isRound mb_FB_isRound 1 (some .boolean) ∈ tb_W := tb_m2 31 rfl rfl
theorem mt_FB_isRound : Cond.static my_FB_isRound ∈ tb_W := tb_m2 30 rfl rfl
abbrev mb_FB_coordinatorOf : ByteArray := prog_1_method_26_code
def my_FB_coordinatorOf : MethodName := ⟨"FastBallots", "coordinatorOf", "(I)I"⟩
theorem mc_FB_coordinatorOf : Cond.code my_FB_coordinatorOf mb_FB_coordinatorOf 1 (some .int) ∈ tb_W := tb_m2 34 rfl rfl
theorem mt_FB_coordinatorOf : Cond.static my_FB_coordinatorOf ∈ tb_W := tb_m2 33 rfl rfl
abbrev mb_Slt_coordinator : ByteArray := prog_7_method_2_code
def my_Slt_coordinator : MethodName := ⟨"FastBallots$Slot", "coordinator", "(I)LFastBallots$Coordinator;"⟩
theorem mc_Slt_coordinator : Cond.code my_Slt_coordinator mb_Slt_coordinator 2 (some (.object "FastBallots$Coordinator")) ∈ tb_W := tb_m2 38 rfl rfl
theorem mi_Slt_coordinator : Cond.instanceMethod my_Slt_coordinator ∈ tb_W := tb_m2 36 rfl rfl
theorem ms_Slt_coordinator : Cond.selects my_Slt_coordinator.cls my_Slt_coordinator my_Slt_coordinator ∈ tb_W := tb_m2 37 rfl rfl
abbrev mb_Cor_startAsking : ByteArray := prog_3_method_2_code
def my_Cor_startAsking : MethodName := ⟨"FastBallots$Coordinator", "startAsking", "(I)V"⟩
theorem mc_Cor_startAsking : Cond.code my_Cor_startAsking mb_Cor_startAsking 2 none ∈ tb_W := tb_m2 42 rfl rfl
theorem mi_Cor_startAsking : Cond.instanceMethod my_Cor_startAsking ∈ tb_W := tb_m2 40 rfl rfl
theorem ms_Cor_startAsking : Cond.selects my_Cor_startAsking.cls my_Cor_startAsking my_Cor_startAsking ∈ tb_W := tb_m2 41 rfl rfl
abbrev mb_Cor_forget : ByteArray := prog_3_method_18_code
def my_Cor_forget : MethodName := ⟨"FastBallots$Coordinator", "forget", "()V"⟩
theorem mc_Cor_forget : Cond.code my_Cor_forget mb_Cor_forget 2 none ∈ tb_W := tb_m2 46 rfl rfl
theorem mi_Cor_forget : Cond.instanceMethod my_Cor_forget ∈ tb_W := tb_m2 45 rfl rfl
theorem ms_Cor_forget : Cond.selects my_Cor_forget.cls my_Cor_forget my_Cor_forget ∈ tb_W := tb_m0 0 rfl rfl
abbrev mb_Cor_sendToAll : ByteArray := prog_3_method_19_code
def my_Cor_sendToAll : MethodName := ⟨"FastBallots$Coordinator", "sendToAll", "(II)V"⟩
theorem mc_Cor_sendToAll : Cond.code my_Cor_sendToAll mb_Cor_sendToAll 4 none ∈ tb_W := tb_m2 50 rfl rfl
theorem mi_Cor_sendToAll : Cond.instanceMethod my_Cor_sendToAll ∈ tb_W := tb_m2 49 rfl rfl
theorem ms_Cor_sendToAll : Cond.selects my_Cor_sendToAll.cls my_Cor_sendToAll my_Cor_sendToAll ∈ tb_W := tb_m0 1 rfl rfl
abbrev mb_FB_deliver : ByteArray := prog_1_method_4_code
def my_FB_deliver : MethodName := ⟨"FastBallots", "deliver", "(I)I"⟩
theorem mc_FB_deliver : Cond.code my_FB_deliver mb_FB_deliver 4 (some .int) ∈ tb_W := tb_m2 55 rfl rfl
theorem mi_FB_deliver : Cond.instanceMethod my_FB_deliver ∈ tb_W := tb_m2 53 rfl rfl
theorem ms_FB_deliver : Cond.selects my_FB_deliver.cls my_FB_deliver my_FB_deliver ∈ tb_W := tb_m2 54 rfl rfl
abbrev mb_Mail_has : ByteArray := prog_4_method_2_code
def my_Mail_has : MethodName := ⟨"FastBallots$Mail", "has", "(I)Z"⟩
theorem mc_Mail_has : Cond.code my_Mail_has mb_Mail_has 2 (some .boolean) ∈ tb_W := tb_m2 59 rfl rfl
theorem mi_Mail_has : Cond.instanceMethod my_Mail_has ∈ tb_W := tb_m2 57 rfl rfl
theorem ms_Mail_has : Cond.selects my_Mail_has.cls my_Mail_has my_Mail_has ∈ tb_W := tb_m2 58 rfl rfl
abbrev mb_Mail_take : ByteArray := prog_4_method_4_code
def my_Mail_take : MethodName := ⟨"FastBallots$Mail", "take", "(I)LFastBallots$Message;"⟩
theorem mc_Mail_take : Cond.code my_Mail_take mb_Mail_take 3 (some (.object "FastBallots$Message")) ∈ tb_W := tb_m2 63 rfl rfl
theorem mi_Mail_take : Cond.instanceMethod my_Mail_take ∈ tb_W := tb_m2 61 rfl rfl
theorem ms_Mail_take : Cond.selects my_Mail_take.cls my_Mail_take my_Mail_take ∈ tb_W := tb_m2 62 rfl rfl
abbrev mb_Mail_remove : ByteArray := prog_4_method_5_code
def my_Mail_remove : MethodName := ⟨"FastBallots$Mail", "remove", "(I)V"⟩
theorem mc_Mail_remove : Cond.code my_Mail_remove mb_Mail_remove 3 none ∈ tb_W := tb_m2 67 rfl rfl
theorem mi_Mail_remove : Cond.instanceMethod my_Mail_remove ∈ tb_W := tb_m2 65 rfl rfl
theorem ms_Mail_remove : Cond.selects my_Mail_remove.cls my_Mail_remove my_Mail_remove ∈ tb_W := tb_m2 66 rfl rfl
abbrev mb_Tal_record : ByteArray := prog_8_method_2_code
def my_Tal_record : MethodName := ⟨"FastBallots$Tally", "record", "(III)V"⟩
theorem mc_Tal_record : Cond.code my_Tal_record mb_Tal_record 4 none ∈ tb_W := tb_m2 74 rfl rfl
theorem mi_Tal_record : Cond.instanceMethod my_Tal_record ∈ tb_W := tb_m2 72 rfl rfl
theorem ms_Tal_record : Cond.selects my_Tal_record.cls my_Tal_record my_Tal_record ∈ tb_W := tb_m2 73 rfl rfl
abbrev mb_Tal_tally : ByteArray := prog_8_method_3_code
def my_Tal_tally : MethodName := ⟨"FastBallots$Tally", "tally", "(II)I"⟩
theorem mc_Tal_tally : Cond.code my_Tal_tally mb_Tal_tally 6 (some .int) ∈ tb_W := tb_m2 78 rfl rfl
theorem mi_Tal_tally : Cond.instanceMethod my_Tal_tally ∈ tb_W := tb_m2 76 rfl rfl
theorem ms_Tal_tally : Cond.selects my_Tal_tally.cls my_Tal_tally my_Tal_tally ∈ tb_W := tb_m2 77 rfl rfl
abbrev mb_Siz_quorumOf : ByteArray := prog_6_method_3_code
def my_Siz_quorumOf : MethodName := ⟨"FastBallots$Sizes", "quorumOf", "(I)I"⟩
theorem mc_Siz_quorumOf : Cond.code my_Siz_quorumOf mb_Siz_quorumOf 2 (some .int) ∈ tb_W := tb_m2 82 rfl rfl
theorem mi_Siz_quorumOf : Cond.instanceMethod my_Siz_quorumOf ∈ tb_W := tb_m2 80 rfl rfl
theorem ms_Siz_quorumOf : Cond.selects my_Siz_quorumOf.cls my_Siz_quorumOf my_Siz_quorumOf ∈ tb_W := tb_m2 81 rfl rfl
abbrev mb_FB_isFast : ByteArray := prog_1_method_25_code
def my_FB_isFast : MethodName := ⟨"FastBallots", "isFast", "(I)Z"⟩
theorem mc_FB_isFast : Cond.code my_FB_isFast mb_FB_isFast 1 (some .boolean) ∈ tb_W := tb_m2 85 rfl rfl
theorem mt_FB_isFast : Cond.static my_FB_isFast ∈ tb_W := tb_m2 84 rfl rfl
abbrev mb_FB_isCoordinator : ByteArray := prog_1_method_21_code
def my_FB_isCoordinator : MethodName := ⟨"FastBallots", "isCoordinator", "(I)Z"⟩
theorem mc_FB_isCoordinator : Cond.code my_FB_isCoordinator mb_FB_isCoordinator 1 (some .boolean) ∈ tb_W := tb_m2 88 rfl rfl
theorem mt_FB_isCoordinator : Cond.static my_FB_isCoordinator ∈ tb_W := tb_m2 87 rfl rfl
abbrev mb_Cor_hear : ByteArray := prog_3_method_3_code
def my_Cor_hear : MethodName := ⟨"FastBallots$Coordinator", "hear", "(LFastBallots$Message;)V"⟩
theorem mc_Cor_hear : Cond.code my_Cor_hear mb_Cor_hear 2 none ∈ tb_W := tb_m2 92 rfl rfl
theorem mi_Cor_hear : Cond.instanceMethod my_Cor_hear ∈ tb_W := tb_m2 90 rfl rfl
theorem ms_Cor_hear : Cond.selects my_Cor_hear.cls my_Cor_hear my_Cor_hear ∈ tb_W := tb_m2 91 rfl rfl
abbrev mb_Cor_hearProposal : ByteArray := prog_3_method_4_code
def my_Cor_hearProposal : MethodName := ⟨"FastBallots$Coordinator", "hearProposal", "(I)V"⟩
theorem mc_Cor_hearProposal : Cond.code my_Cor_hearProposal mb_Cor_hearProposal 2 none ∈ tb_W := tb_m2 96 rfl rfl
theorem mi_Cor_hearProposal : Cond.instanceMethod my_Cor_hearProposal ∈ tb_W := tb_m2 95 rfl rfl
theorem ms_Cor_hearProposal : Cond.selects my_Cor_hearProposal.cls my_Cor_hearProposal my_Cor_hearProposal ∈ tb_W := tb_m0 2 rfl rfl
abbrev mb_Cor_startVoting : ByteArray := prog_3_method_7_code
def my_Cor_startVoting : MethodName := ⟨"FastBallots$Coordinator", "startVoting", "(I)V"⟩
theorem mc_Cor_startVoting : Cond.code my_Cor_startVoting mb_Cor_startVoting 2 none ∈ tb_W := tb_m2 100 rfl rfl
theorem mi_Cor_startVoting : Cond.instanceMethod my_Cor_startVoting ∈ tb_W := tb_m2 99 rfl rfl
theorem ms_Cor_startVoting : Cond.selects my_Cor_startVoting.cls my_Cor_startVoting my_Cor_startVoting ∈ tb_W := tb_m0 3 rfl rfl
abbrev mb_Cor_hearPromise : ByteArray := prog_3_method_5_code
def my_Cor_hearPromise : MethodName := ⟨"FastBallots$Coordinator", "hearPromise", "(LFastBallots$Message;)V"⟩
theorem mc_Cor_hearPromise : Cond.code my_Cor_hearPromise mb_Cor_hearPromise 2 none ∈ tb_W := tb_m2 104 rfl rfl
theorem mi_Cor_hearPromise : Cond.instanceMethod my_Cor_hearPromise ∈ tb_W := tb_m2 103 rfl rfl
theorem ms_Cor_hearPromise : Cond.selects my_Cor_hearPromise.cls my_Cor_hearPromise my_Cor_hearPromise ∈ tb_W := tb_m0 4 rfl rfl
abbrev mb_Cor_keep : ByteArray := prog_3_method_17_code
def my_Cor_keep : MethodName := ⟨"FastBallots$Coordinator", "keep", "(III)V"⟩
theorem mc_Cor_keep : Cond.code my_Cor_keep mb_Cor_keep 4 none ∈ tb_W := tb_m2 108 rfl rfl
theorem mi_Cor_keep : Cond.instanceMethod my_Cor_keep ∈ tb_W := tb_m2 107 rfl rfl
theorem ms_Cor_keep : Cond.selects my_Cor_keep.cls my_Cor_keep my_Cor_keep ∈ tb_W := tb_m0 5 rfl rfl
abbrev mb_Cor_pick : ByteArray := prog_3_method_10_code
def my_Cor_pick : MethodName := ⟨"FastBallots$Coordinator", "pick", "()I"⟩
theorem mc_Cor_pick : Cond.code my_Cor_pick mb_Cor_pick 3 (some .int) ∈ tb_W := tb_m2 112 rfl rfl
theorem mi_Cor_pick : Cond.instanceMethod my_Cor_pick ∈ tb_W := tb_m2 111 rfl rfl
theorem ms_Cor_pick : Cond.selects my_Cor_pick.cls my_Cor_pick my_Cor_pick ∈ tb_W := tb_m0 6 rfl rfl
abbrev mb_Cor_latestRound : ByteArray := prog_3_method_12_code
def my_Cor_latestRound : MethodName := ⟨"FastBallots$Coordinator", "latestRound", "()I"⟩
theorem mc_Cor_latestRound : Cond.code my_Cor_latestRound mb_Cor_latestRound 3 (some .int) ∈ tb_W := tb_m2 116 rfl rfl
theorem mi_Cor_latestRound : Cond.instanceMethod my_Cor_latestRound ∈ tb_W := tb_m2 115 rfl rfl
theorem ms_Cor_latestRound : Cond.selects my_Cor_latestRound.cls my_Cor_latestRound my_Cor_latestRound ∈ tb_W := tb_m0 7 rfl rfl
abbrev mb_Cor_maybeChosenIn : ByteArray := prog_3_method_11_code
def my_Cor_maybeChosenIn : MethodName := ⟨"FastBallots$Coordinator", "maybeChosenIn", "(I)I"⟩
theorem mc_Cor_maybeChosenIn : Cond.code my_Cor_maybeChosenIn mb_Cor_maybeChosenIn 4 (some .int) ∈ tb_W := tb_m2 122 rfl rfl
theorem mi_Cor_maybeChosenIn : Cond.instanceMethod my_Cor_maybeChosenIn ∈ tb_W := tb_m2 121 rfl rfl
theorem ms_Cor_maybeChosenIn : Cond.selects my_Cor_maybeChosenIn.cls my_Cor_maybeChosenIn my_Cor_maybeChosenIn ∈ tb_W := tb_m0 8 rfl rfl
abbrev mb_Cor_votedIn : ByteArray := prog_3_method_16_code
def my_Cor_votedIn : MethodName := ⟨"FastBallots$Coordinator", "votedIn", "(II)Z"⟩
theorem mc_Cor_votedIn : Cond.code my_Cor_votedIn mb_Cor_votedIn 3 (some .boolean) ∈ tb_W := tb_m2 126 rfl rfl
theorem mi_Cor_votedIn : Cond.instanceMethod my_Cor_votedIn ∈ tb_W := tb_m2 125 rfl rfl
theorem ms_Cor_votedIn : Cond.selects my_Cor_votedIn.cls my_Cor_votedIn my_Cor_votedIn ∈ tb_W := tb_m0 9 rfl rfl
abbrev mb_Cor_tallyIn : ByteArray := prog_3_method_15_code
def my_Cor_tallyIn : MethodName := ⟨"FastBallots$Coordinator", "tallyIn", "(II)I"⟩
theorem mc_Cor_tallyIn : Cond.code my_Cor_tallyIn mb_Cor_tallyIn 5 (some .int) ∈ tb_W := tb_m2 130 rfl rfl
theorem mi_Cor_tallyIn : Cond.instanceMethod my_Cor_tallyIn ∈ tb_W := tb_m2 129 rfl rfl
theorem ms_Cor_tallyIn : Cond.selects my_Cor_tallyIn.cls my_Cor_tallyIn my_Cor_tallyIn ∈ tb_W := tb_m0 10 rfl rfl
abbrev mb_Cor_leastIn : ByteArray := prog_3_method_13_code
def my_Cor_leastIn : MethodName := ⟨"FastBallots$Coordinator", "leastIn", "(I)I"⟩
theorem mc_Cor_leastIn : Cond.code my_Cor_leastIn mb_Cor_leastIn 4 (some .int) ∈ tb_W := tb_m2 134 rfl rfl
theorem mi_Cor_leastIn : Cond.instanceMethod my_Cor_leastIn ∈ tb_W := tb_m2 133 rfl rfl
theorem ms_Cor_leastIn : Cond.selects my_Cor_leastIn.cls my_Cor_leastIn my_Cor_leastIn ∈ tb_W := tb_m0 11 rfl rfl
abbrev mb_Cor_goOnWith : ByteArray := prog_3_method_6_code
def my_Cor_goOnWith : MethodName := ⟨"FastBallots$Coordinator", "goOnWith", "(I)V"⟩
theorem mc_Cor_goOnWith : Cond.code my_Cor_goOnWith mb_Cor_goOnWith 2 none ∈ tb_W := tb_m2 138 rfl rfl
theorem mi_Cor_goOnWith : Cond.instanceMethod my_Cor_goOnWith ∈ tb_W := tb_m2 137 rfl rfl
theorem ms_Cor_goOnWith : Cond.selects my_Cor_goOnWith.cls my_Cor_goOnWith my_Cor_goOnWith ∈ tb_W := tb_m0 12 rfl rfl
abbrev mb_Cor_hearVoted : ByteArray := prog_3_method_8_code
def my_Cor_hearVoted : MethodName := ⟨"FastBallots$Coordinator", "hearVoted", "(LFastBallots$Message;)V"⟩
theorem mc_Cor_hearVoted : Cond.code my_Cor_hearVoted mb_Cor_hearVoted 3 none ∈ tb_W := tb_m2 142 rfl rfl
theorem mi_Cor_hearVoted : Cond.instanceMethod my_Cor_hearVoted ∈ tb_W := tb_m2 141 rfl rfl
theorem ms_Cor_hearVoted : Cond.selects my_Cor_hearVoted.cls my_Cor_hearVoted my_Cor_hearVoted ∈ tb_W := tb_m0 13 rfl rfl
abbrev mb_Cor_canStillBeChosen : ByteArray := prog_3_method_9_code
def my_Cor_canStillBeChosen : MethodName := ⟨"FastBallots$Coordinator", "canStillBeChosen", "()Z"⟩
theorem mc_Cor_canStillBeChosen : Cond.code my_Cor_canStillBeChosen mb_Cor_canStillBeChosen 2 (some .boolean) ∈ tb_W := tb_m2 146 rfl rfl
theorem mi_Cor_canStillBeChosen : Cond.instanceMethod my_Cor_canStillBeChosen ∈ tb_W := tb_m2 145 rfl rfl
theorem ms_Cor_canStillBeChosen : Cond.selects my_Cor_canStillBeChosen.cls my_Cor_canStillBeChosen my_Cor_canStillBeChosen ∈ tb_W := tb_m0 14 rfl rfl
abbrev mb_Cor_mostIn : ByteArray := prog_3_method_14_code
def my_Cor_mostIn : MethodName := ⟨"FastBallots$Coordinator", "mostIn", "(I)I"⟩
theorem mc_Cor_mostIn : Cond.code my_Cor_mostIn mb_Cor_mostIn 4 (some .int) ∈ tb_W := tb_m2 150 rfl rfl
theorem mi_Cor_mostIn : Cond.instanceMethod my_Cor_mostIn ∈ tb_W := tb_m2 149 rfl rfl
theorem ms_Cor_mostIn : Cond.selects my_Cor_mostIn.cls my_Cor_mostIn my_Cor_mostIn ∈ tb_W := tb_m0 15 rfl rfl
abbrev mb_Acc_hear : ByteArray := prog_2_method_2_code
def my_Acc_hear : MethodName := ⟨"FastBallots$Acceptor", "hear", "(LFastBallots$Message;)V"⟩
theorem mc_Acc_hear : Cond.code my_Acc_hear mb_Acc_hear 2 none ∈ tb_W := tb_m2 154 rfl rfl
theorem mi_Acc_hear : Cond.instanceMethod my_Acc_hear ∈ tb_W := tb_m2 152 rfl rfl
theorem ms_Acc_hear : Cond.selects my_Acc_hear.cls my_Acc_hear my_Acc_hear ∈ tb_W := tb_m2 153 rfl rfl
abbrev mb_Acc_hearProposal : ByteArray := prog_2_method_3_code
def my_Acc_hearProposal : MethodName := ⟨"FastBallots$Acceptor", "hearProposal", "(I)V"⟩
theorem mc_Acc_hearProposal : Cond.code my_Acc_hearProposal mb_Acc_hearProposal 2 none ∈ tb_W := tb_m2 158 rfl rfl
theorem mi_Acc_hearProposal : Cond.instanceMethod my_Acc_hearProposal ∈ tb_W := tb_m2 157 rfl rfl
theorem ms_Acc_hearProposal : Cond.selects my_Acc_hearProposal.cls my_Acc_hearProposal my_Acc_hearProposal ∈ tb_W := tb_m0 16 rfl rfl
abbrev mb_Acc_isOpenNow : ByteArray := prog_2_method_4_code
def my_Acc_isOpenNow : MethodName := ⟨"FastBallots$Acceptor", "isOpenNow", "()Z"⟩
theorem mc_Acc_isOpenNow : Cond.code my_Acc_isOpenNow mb_Acc_isOpenNow 1 (some .boolean) ∈ tb_W := tb_m2 162 rfl rfl
theorem mi_Acc_isOpenNow : Cond.instanceMethod my_Acc_isOpenNow ∈ tb_W := tb_m2 161 rfl rfl
theorem ms_Acc_isOpenNow : Cond.selects my_Acc_isOpenNow.cls my_Acc_isOpenNow my_Acc_isOpenNow ∈ tb_W := tb_m0 17 rfl rfl
abbrev mb_Acc_castVote : ByteArray := prog_2_method_7_code
def my_Acc_castVote : MethodName := ⟨"FastBallots$Acceptor", "castVote", "(II)V"⟩
theorem mc_Acc_castVote : Cond.code my_Acc_castVote mb_Acc_castVote 3 none ∈ tb_W := tb_m2 166 rfl rfl
theorem mi_Acc_castVote : Cond.instanceMethod my_Acc_castVote ∈ tb_W := tb_m2 165 rfl rfl
theorem ms_Acc_castVote : Cond.selects my_Acc_castVote.cls my_Acc_castVote my_Acc_castVote ∈ tb_W := tb_m0 18 rfl rfl
abbrev mb_Acc_hearAsk : ByteArray := prog_2_method_5_code
def my_Acc_hearAsk : MethodName := ⟨"FastBallots$Acceptor", "hearAsk", "(I)V"⟩
theorem mc_Acc_hearAsk : Cond.code my_Acc_hearAsk mb_Acc_hearAsk 2 none ∈ tb_W := tb_m2 173 rfl rfl
theorem mi_Acc_hearAsk : Cond.instanceMethod my_Acc_hearAsk ∈ tb_W := tb_m2 172 rfl rfl
theorem ms_Acc_hearAsk : Cond.selects my_Acc_hearAsk.cls my_Acc_hearAsk my_Acc_hearAsk ∈ tb_W := tb_m0 19 rfl rfl
abbrev mb_Acc_hearVoteFor : ByteArray := prog_2_method_6_code
def my_Acc_hearVoteFor : MethodName := ⟨"FastBallots$Acceptor", "hearVoteFor", "(II)V"⟩
theorem mc_Acc_hearVoteFor : Cond.code my_Acc_hearVoteFor mb_Acc_hearVoteFor 3 none ∈ tb_W := tb_m2 177 rfl rfl
theorem mi_Acc_hearVoteFor : Cond.instanceMethod my_Acc_hearVoteFor ∈ tb_W := tb_m2 176 rfl rfl
theorem ms_Acc_hearVoteFor : Cond.selects my_Acc_hearVoteFor.cls my_Acc_hearVoteFor my_Acc_hearVoteFor ∈ tb_W := tb_m0 20 rfl rfl
abbrev mb_FB_drop : ByteArray := prog_1_method_5_code
def my_FB_drop : MethodName := ⟨"FastBallots", "drop", "(I)Z"⟩
theorem mc_FB_drop : Cond.code my_FB_drop mb_FB_drop 2 (some .boolean) ∈ tb_W := tb_m2 181 rfl rfl
theorem mi_FB_drop : Cond.instanceMethod my_FB_drop ∈ tb_W := tb_m2 179 rfl rfl
theorem ms_FB_drop : Cond.selects my_FB_drop.cls my_FB_drop my_FB_drop ∈ tb_W := tb_m2 180 rfl rfl
abbrev mb_FB_halt : ByteArray := prog_1_method_6_code
def my_FB_halt : MethodName := ⟨"FastBallots", "halt", "(IZ)Z"⟩
theorem mc_FB_halt : Cond.code my_FB_halt mb_FB_halt 3 (some .boolean) ∈ tb_W := tb_m2 186 rfl rfl
theorem mi_FB_halt : Cond.instanceMethod my_FB_halt ∈ tb_W := tb_m2 184 rfl rfl
theorem ms_FB_halt : Cond.selects my_FB_halt.cls my_FB_halt my_FB_halt ∈ tb_W := tb_m2 185 rfl rfl
abbrev mb_FB_isAcceptor : ByteArray := prog_1_method_20_code
def my_FB_isAcceptor : MethodName := ⟨"FastBallots", "isAcceptor", "(I)Z"⟩
theorem mc_FB_isAcceptor : Cond.code my_FB_isAcceptor mb_FB_isAcceptor 2 (some .boolean) ∈ tb_W := tb_m2 190 rfl rfl
theorem mi_FB_isAcceptor : Cond.instanceMethod my_FB_isAcceptor ∈ tb_W := tb_m2 189 rfl rfl
theorem ms_FB_isAcceptor : Cond.selects my_FB_isAcceptor.cls my_FB_isAcceptor my_FB_isAcceptor ∈ tb_W := tb_m0 21 rfl rfl
abbrev mb_FB_waiting : ByteArray := prog_1_method_7_code
def my_FB_waiting : MethodName := ⟨"FastBallots", "waiting", "()I"⟩
theorem mc_FB_waiting : Cond.code my_FB_waiting mb_FB_waiting 1 (some .int) ∈ tb_W := tb_m2 194 rfl rfl
theorem mi_FB_waiting : Cond.instanceMethod my_FB_waiting ∈ tb_W := tb_m2 192 rfl rfl
theorem ms_FB_waiting : Cond.selects my_FB_waiting.cls my_FB_waiting my_FB_waiting ∈ tb_W := tb_m2 193 rfl rfl
abbrev mb_FB_lost : ByteArray := prog_1_method_8_code
def my_FB_lost : MethodName := ⟨"FastBallots", "lost", "()I"⟩
theorem mc_FB_lost : Cond.code my_FB_lost mb_FB_lost 1 (some .int) ∈ tb_W := tb_m2 198 rfl rfl
theorem mi_FB_lost : Cond.instanceMethod my_FB_lost ∈ tb_W := tb_m2 196 rfl rfl
theorem ms_FB_lost : Cond.selects my_FB_lost.cls my_FB_lost my_FB_lost ∈ tb_W := tb_m2 197 rfl rfl
abbrev mb_FB_message : ByteArray := prog_1_method_9_code
def my_FB_message : MethodName := ⟨"FastBallots", "message", "(I)I"⟩
theorem mc_FB_message : Cond.code my_FB_message mb_FB_message 2 (some .int) ∈ tb_W := tb_m2 202 rfl rfl
theorem mi_FB_message : Cond.instanceMethod my_FB_message ∈ tb_W := tb_m2 200 rfl rfl
theorem ms_FB_message : Cond.selects my_FB_message.cls my_FB_message my_FB_message ∈ tb_W := tb_m2 201 rfl rfl
abbrev mb_Mail_label : ByteArray := prog_4_method_6_code
def my_Mail_label : MethodName := ⟨"FastBallots$Mail", "label", "(I)I"⟩
theorem mc_Mail_label : Cond.code my_Mail_label mb_Mail_label 4 (some .int) ∈ tb_W := tb_m2 206 rfl rfl
theorem mi_Mail_label : Cond.instanceMethod my_Mail_label ∈ tb_W := tb_m2 204 rfl rfl
theorem ms_Mail_label : Cond.selects my_Mail_label.cls my_Mail_label my_Mail_label ∈ tb_W := tb_m2 205 rfl rfl
abbrev mb_FB_value : ByteArray := prog_1_method_10_code
def my_FB_value : MethodName := ⟨"FastBallots", "value", "(I)I"⟩
theorem mc_FB_value : Cond.code my_FB_value mb_FB_value 2 (some .int) ∈ tb_W := tb_m2 211 rfl rfl
theorem mi_FB_value : Cond.instanceMethod my_FB_value ∈ tb_W := tb_m2 209 rfl rfl
theorem ms_FB_value : Cond.selects my_FB_value.cls my_FB_value my_FB_value ∈ tb_W := tb_m2 210 rfl rfl
abbrev mb_Mail_valueIn : ByteArray := prog_4_method_7_code
def my_Mail_valueIn : MethodName := ⟨"FastBallots$Mail", "valueIn", "(I)I"⟩
theorem mc_Mail_valueIn : Cond.code my_Mail_valueIn mb_Mail_valueIn 2 (some .int) ∈ tb_W := tb_m2 215 rfl rfl
theorem mi_Mail_valueIn : Cond.instanceMethod my_Mail_valueIn ∈ tb_W := tb_m2 213 rfl rfl
theorem ms_Mail_valueIn : Cond.selects my_Mail_valueIn.cls my_Mail_valueIn my_Mail_valueIn ∈ tb_W := tb_m2 214 rfl rfl
abbrev mb_FB_round : ByteArray := prog_1_method_11_code
def my_FB_round : MethodName := ⟨"FastBallots", "round", "(II)I"⟩
theorem mc_FB_round : Cond.code my_FB_round mb_FB_round 3 (some .int) ∈ tb_W := tb_m2 219 rfl rfl
theorem mi_FB_round : Cond.instanceMethod my_FB_round ∈ tb_W := tb_m2 217 rfl rfl
theorem ms_FB_round : Cond.selects my_FB_round.cls my_FB_round my_FB_round ∈ tb_W := tb_m2 218 rfl rfl
abbrev mb_FB_vote : ByteArray := prog_1_method_12_code
def my_FB_vote : MethodName := ⟨"FastBallots", "vote", "(II)I"⟩
theorem mc_FB_vote : Cond.code my_FB_vote mb_FB_vote 3 (some .int) ∈ tb_W := tb_m2 223 rfl rfl
theorem mi_FB_vote : Cond.instanceMethod my_FB_vote ∈ tb_W := tb_m2 221 rfl rfl
theorem ms_FB_vote : Cond.selects my_FB_vote.cls my_FB_vote my_FB_vote ∈ tb_W := tb_m2 222 rfl rfl
abbrev mb_FB_voteRound : ByteArray := prog_1_method_13_code
def my_FB_voteRound : MethodName := ⟨"FastBallots", "voteRound", "(II)I"⟩
theorem mc_FB_voteRound : Cond.code my_FB_voteRound mb_FB_voteRound 3 (some .int) ∈ tb_W := tb_m2 227 rfl rfl
theorem mi_FB_voteRound : Cond.instanceMethod my_FB_voteRound ∈ tb_W := tb_m2 225 rfl rfl
theorem ms_FB_voteRound : Cond.selects my_FB_voteRound.cls my_FB_voteRound my_FB_voteRound ∈ tb_W := tb_m2 226 rfl rfl
abbrev mb_FB_leads : ByteArray := prog_1_method_14_code
def my_FB_leads : MethodName := ⟨"FastBallots", "leads", "(II)I"⟩
theorem mc_FB_leads : Cond.code my_FB_leads mb_FB_leads 3 (some .int) ∈ tb_W := tb_m2 231 rfl rfl
theorem mi_FB_leads : Cond.instanceMethod my_FB_leads ∈ tb_W := tb_m2 229 rfl rfl
theorem ms_FB_leads : Cond.selects my_FB_leads.cls my_FB_leads my_FB_leads ∈ tb_W := tb_m2 230 rfl rfl
abbrev mb_FB_phase : ByteArray := prog_1_method_15_code
def my_FB_phase : MethodName := ⟨"FastBallots", "phase", "(II)I"⟩
theorem mc_FB_phase : Cond.code my_FB_phase mb_FB_phase 3 (some .int) ∈ tb_W := tb_m2 235 rfl rfl
theorem mi_FB_phase : Cond.instanceMethod my_FB_phase ∈ tb_W := tb_m2 233 rfl rfl
theorem ms_FB_phase : Cond.selects my_FB_phase.cls my_FB_phase my_FB_phase ∈ tb_W := tb_m2 234 rfl rfl
abbrev mb_FB_learned : ByteArray := prog_1_method_16_code
def my_FB_learned : MethodName := ⟨"FastBallots", "learned", "(I)I"⟩
theorem mc_FB_learned : Cond.code my_FB_learned mb_FB_learned 2 (some .int) ∈ tb_W := tb_m2 239 rfl rfl
theorem mi_FB_learned : Cond.instanceMethod my_FB_learned ∈ tb_W := tb_m2 237 rfl rfl
theorem ms_FB_learned : Cond.selects my_FB_learned.cls my_FB_learned my_FB_learned ∈ tb_W := tb_m2 238 rfl rfl
abbrev mb_FB_chosen : ByteArray := prog_1_method_17_code
def my_FB_chosen : MethodName := ⟨"FastBallots", "chosen", "(I)I"⟩
theorem mc_FB_chosen : Cond.code my_FB_chosen mb_FB_chosen 2 (some .int) ∈ tb_W := tb_m3 3 rfl rfl
theorem mi_FB_chosen : Cond.instanceMethod my_FB_chosen ∈ tb_W := tb_m3 1 rfl rfl
theorem ms_FB_chosen : Cond.selects my_FB_chosen.cls my_FB_chosen my_FB_chosen ∈ tb_W := tb_m3 2 rfl rfl
abbrev mb_FB_votes : ByteArray := prog_1_method_18_code
def my_FB_votes : MethodName := ⟨"FastBallots", "votes", "(III)I"⟩
theorem mc_FB_votes : Cond.code my_FB_votes mb_FB_votes 4 (some .int) ∈ tb_W := tb_m3 7 rfl rfl
theorem mi_FB_votes : Cond.instanceMethod my_FB_votes ∈ tb_W := tb_m3 5 rfl rfl
theorem ms_FB_votes : Cond.selects my_FB_votes.cls my_FB_votes my_FB_votes ∈ tb_W := tb_m3 6 rfl rfl
abbrev mb_FB_size : ByteArray := prog_1_method_19_code
def my_FB_size : MethodName := ⟨"FastBallots", "size", "(I)I"⟩
theorem mc_FB_size : Cond.code my_FB_size mb_FB_size 2 (some .int) ∈ tb_W := tb_m3 12 rfl rfl
theorem mi_FB_size : Cond.instanceMethod my_FB_size ∈ tb_W := tb_m3 10 rfl rfl
theorem ms_FB_size : Cond.selects my_FB_size.cls my_FB_size my_FB_size ∈ tb_W := tb_m3 11 rfl rfl
abbrev mb_Law_cell : ByteArray := method_2_code
def my_Law_cell : MethodName := ⟨"FastBallotsLaw", "cell", "([II)I"⟩
theorem mc_Law_cell : Cond.code my_Law_cell mb_Law_cell 2 (some .int) ∈ tb_W := tb_m3 15 rfl rfl
theorem mt_Law_cell : Cond.static my_Law_cell ∈ tb_W := tb_m3 14 rfl rfl
abbrev mb_Mod_init : ByteArray := prog_10_method_1_code
def my_Mod_init : MethodName := ⟨"FastBallotsModel", "<init>", "(III)V"⟩
theorem mc_Mod_init : Cond.code my_Mod_init mb_Mod_init 5 none ∈ tb_W := tb_m3 20 rfl rfl
theorem mi_Mod_init : Cond.instanceMethod my_Mod_init ∈ tb_W := tb_m3 19 rfl rfl
abbrev mb_Mod_propose : ByteArray := prog_10_method_13_code
def my_Mod_propose : MethodName := ⟨"FastBallotsModel", "propose", "(II)I"⟩
theorem mc_Mod_propose : Cond.code my_Mod_propose mb_Mod_propose 3 (some .int) ∈ tb_W := tb_m3 107 rfl rfl
theorem mi_Mod_propose : Cond.instanceMethod my_Mod_propose ∈ tb_W := tb_m3 105 rfl rfl
theorem ms_Mod_propose : Cond.selects my_Mod_propose.cls my_Mod_propose my_Mod_propose ∈ tb_W := tb_m3 106 rfl rfl
abbrev mb_Mod_isSlot : ByteArray := prog_10_method_2_code
def my_Mod_isSlot : MethodName := ⟨"FastBallotsModel", "isSlot", "(I)Z"⟩
theorem mc_Mod_isSlot : Cond.code my_Mod_isSlot mb_Mod_isSlot 1 (some .boolean) ∈ tb_W := tb_m3 110 rfl rfl
theorem mt_Mod_isSlot : Cond.static my_Mod_isSlot ∈ tb_W := tb_m3 109 rfl rfl
abbrev mb_Mod_isValue : ByteArray := prog_10_method_4_code
def my_Mod_isValue : MethodName := ⟨"FastBallotsModel", "isValue", "(I)Z"⟩
theorem mc_Mod_isValue : Cond.code my_Mod_isValue mb_Mod_isValue 1 (some .boolean) ∈ tb_W := tb_m3 113 rfl rfl
theorem mt_Mod_isValue : Cond.static my_Mod_isValue ∈ tb_W := tb_m3 112 rfl rfl
abbrev mb_Mod_sendAll : ByteArray := prog_10_method_10_code
def my_Mod_sendAll : MethodName := ⟨"FastBallotsModel", "sendAll", "(IIII)V"⟩
theorem mc_Mod_sendAll : Cond.code my_Mod_sendAll mb_Mod_sendAll 6 none ∈ tb_W := tb_m3 117 rfl rfl
theorem mi_Mod_sendAll : Cond.instanceMethod my_Mod_sendAll ∈ tb_W := tb_m3 116 rfl rfl
theorem ms_Mod_sendAll : Cond.selects my_Mod_sendAll.cls my_Mod_sendAll my_Mod_sendAll ∈ tb_W := tb_m0 22 rfl rfl
abbrev mb_Mod_send : ByteArray := prog_10_method_9_code
def my_Mod_send : MethodName := ⟨"FastBallotsModel", "send", "(IIIIIII)V"⟩
theorem mc_Mod_send : Cond.code my_Mod_send mb_Mod_send 8 none ∈ tb_W := tb_m3 121 rfl rfl
theorem mi_Mod_send : Cond.instanceMethod my_Mod_send ∈ tb_W := tb_m3 120 rfl rfl
theorem ms_Mod_send : Cond.selects my_Mod_send.cls my_Mod_send my_Mod_send ∈ tb_W := tb_m0 23 rfl rfl
abbrev mb_Mod_begin : ByteArray := prog_10_method_14_code
def my_Mod_begin : MethodName := ⟨"FastBallotsModel", "begin", "(II)I"⟩
theorem mc_Mod_begin : Cond.code my_Mod_begin mb_Mod_begin 5 (some .int) ∈ tb_W := tb_m3 125 rfl rfl
theorem mi_Mod_begin : Cond.instanceMethod my_Mod_begin ∈ tb_W := tb_m3 123 rfl rfl
theorem ms_Mod_begin : Cond.selects my_Mod_begin.cls my_Mod_begin my_Mod_begin ∈ tb_W := tb_m3 124 rfl rfl
abbrev mb_Mod_isRound : ByteArray := prog_10_method_3_code
def my_Mod_isRound : MethodName := ⟨"FastBallotsModel", "isRound", "(I)Z"⟩
theorem mc_Mod_isRound : Cond.code my_Mod_isRound mb_Mod_isRound 1 (some .boolean) ∈ tb_W := tb_m3 128 rfl rfl
theorem mt_Mod_isRound : Cond.static my_Mod_isRound ∈ tb_W := tb_m3 127 rfl rfl
abbrev mb_Mod_coordinatorOf : ByteArray := prog_10_method_7_code
def my_Mod_coordinatorOf : MethodName := ⟨"FastBallotsModel", "coordinatorOf", "(I)I"⟩
theorem mc_Mod_coordinatorOf : Cond.code my_Mod_coordinatorOf mb_Mod_coordinatorOf 1 (some .int) ∈ tb_W := tb_m3 131 rfl rfl
theorem mt_Mod_coordinatorOf : Cond.static my_Mod_coordinatorOf ∈ tb_W := tb_m3 130 rfl rfl
abbrev mb_Mod_lead : ByteArray := prog_10_method_20_code
def my_Mod_lead : MethodName := ⟨"FastBallotsModel", "lead", "(III)V"⟩
theorem mc_Mod_lead : Cond.code my_Mod_lead mb_Mod_lead 5 none ∈ tb_W := tb_m3 135 rfl rfl
theorem mi_Mod_lead : Cond.instanceMethod my_Mod_lead ∈ tb_W := tb_m3 134 rfl rfl
theorem ms_Mod_lead : Cond.selects my_Mod_lead.cls my_Mod_lead my_Mod_lead ∈ tb_W := tb_m0 24 rfl rfl
abbrev mb_Mod_deliver : ByteArray := prog_10_method_15_code
def my_Mod_deliver : MethodName := ⟨"FastBallotsModel", "deliver", "(I)I"⟩
theorem mc_Mod_deliver : Cond.code my_Mod_deliver mb_Mod_deliver 9 (some .int) ∈ tb_W := tb_m3 139 rfl rfl
theorem mi_Mod_deliver : Cond.instanceMethod my_Mod_deliver ∈ tb_W := tb_m3 137 rfl rfl
theorem ms_Mod_deliver : Cond.selects my_Mod_deliver.cls my_Mod_deliver my_Mod_deliver ∈ tb_W := tb_m3 138 rfl rfl
abbrev mb_Mod_isMessage : ByteArray := prog_10_method_12_code
def my_Mod_isMessage : MethodName := ⟨"FastBallotsModel", "isMessage", "(I)Z"⟩
theorem mc_Mod_isMessage : Cond.code my_Mod_isMessage mb_Mod_isMessage 2 (some .boolean) ∈ tb_W := tb_m3 143 rfl rfl
theorem mi_Mod_isMessage : Cond.instanceMethod my_Mod_isMessage ∈ tb_W := tb_m3 142 rfl rfl
theorem ms_Mod_isMessage : Cond.selects my_Mod_isMessage.cls my_Mod_isMessage my_Mod_isMessage ∈ tb_W := tb_m0 25 rfl rfl
abbrev mb_Mod_takeOut : ByteArray := prog_10_method_11_code
def my_Mod_takeOut : MethodName := ⟨"FastBallotsModel", "takeOut", "(I)V"⟩
theorem mc_Mod_takeOut : Cond.code my_Mod_takeOut mb_Mod_takeOut 3 none ∈ tb_W := tb_m3 147 rfl rfl
theorem mi_Mod_takeOut : Cond.instanceMethod my_Mod_takeOut ∈ tb_W := tb_m3 146 rfl rfl
theorem ms_Mod_takeOut : Cond.selects my_Mod_takeOut.cls my_Mod_takeOut my_Mod_takeOut ∈ tb_W := tb_m0 26 rfl rfl
abbrev mb_Mod_accept : ByteArray := prog_10_method_19_code
def my_Mod_accept : MethodName := ⟨"FastBallotsModel", "accept", "(IIIII)V"⟩
theorem mc_Mod_accept : Cond.code my_Mod_accept mb_Mod_accept 8 none ∈ tb_W := tb_m3 151 rfl rfl
theorem mi_Mod_accept : Cond.instanceMethod my_Mod_accept ∈ tb_W := tb_m3 150 rfl rfl
theorem ms_Mod_accept : Cond.selects my_Mod_accept.cls my_Mod_accept my_Mod_accept ∈ tb_W := tb_m0 27 rfl rfl
abbrev mb_Mod_casts : ByteArray := prog_10_method_18_code
def my_Mod_casts : MethodName := ⟨"FastBallotsModel", "casts", "(IIII)V"⟩
theorem mc_Mod_casts : Cond.code my_Mod_casts mb_Mod_casts 6 none ∈ tb_W := tb_m3 155 rfl rfl
theorem mi_Mod_casts : Cond.instanceMethod my_Mod_casts ∈ tb_W := tb_m3 154 rfl rfl
theorem ms_Mod_casts : Cond.selects my_Mod_casts.cls my_Mod_casts my_Mod_casts ∈ tb_W := tb_m0 28 rfl rfl
abbrev mb_Mod_coordinate : ByteArray := prog_10_method_26_code
def my_Mod_coordinate : MethodName := ⟨"FastBallotsModel", "coordinate", "(IIIIIII)V"⟩
theorem mc_Mod_coordinate : Cond.code my_Mod_coordinate mb_Mod_coordinate 9 none ∈ tb_W := tb_m3 159 rfl rfl
theorem mi_Mod_coordinate : Cond.instanceMethod my_Mod_coordinate ∈ tb_W := tb_m3 158 rfl rfl
theorem ms_Mod_coordinate : Cond.selects my_Mod_coordinate.cls my_Mod_coordinate my_Mod_coordinate ∈ tb_W := tb_m0 29 rfl rfl
abbrev mb_Mod_voteFor : ByteArray := prog_10_method_27_code
def my_Mod_voteFor : MethodName := ⟨"FastBallotsModel", "voteFor", "(III)V"⟩
theorem mc_Mod_voteFor : Cond.code my_Mod_voteFor mb_Mod_voteFor 4 none ∈ tb_W := tb_m3 163 rfl rfl
theorem mi_Mod_voteFor : Cond.instanceMethod my_Mod_voteFor ∈ tb_W := tb_m3 162 rfl rfl
theorem ms_Mod_voteFor : Cond.selects my_Mod_voteFor.cls my_Mod_voteFor my_Mod_voteFor ∈ tb_W := tb_m0 30 rfl rfl
abbrev mb_Mod_tell : ByteArray := prog_10_method_23_code
def my_Mod_tell : MethodName := ⟨"FastBallotsModel", "tell", "(IIII)V"⟩
theorem mc_Mod_tell : Cond.code my_Mod_tell mb_Mod_tell 5 none ∈ tb_W := tb_m3 167 rfl rfl
theorem mi_Mod_tell : Cond.instanceMethod my_Mod_tell ∈ tb_W := tb_m3 166 rfl rfl
theorem ms_Mod_tell : Cond.selects my_Mod_tell.cls my_Mod_tell my_Mod_tell ∈ tb_W := tb_m0 31 rfl rfl
abbrev mb_Mod_tellers : ByteArray := prog_10_method_21_code
def my_Mod_tellers : MethodName := ⟨"FastBallotsModel", "tellers", "(I)I"⟩
theorem mc_Mod_tellers : Cond.code my_Mod_tellers mb_Mod_tellers 4 (some .int) ∈ tb_W := tb_m3 171 rfl rfl
theorem mi_Mod_tellers : Cond.instanceMethod my_Mod_tellers ∈ tb_W := tb_m3 170 rfl rfl
theorem ms_Mod_tellers : Cond.selects my_Mod_tellers.cls my_Mod_tellers my_Mod_tellers ∈ tb_W := tb_m0 32 rfl rfl
abbrev mb_Mod_go : ByteArray := prog_10_method_28_code
def my_Mod_go : MethodName := ⟨"FastBallotsModel", "go", "(II)V"⟩
theorem mc_Mod_go : Cond.code my_Mod_go mb_Mod_go 5 none ∈ tb_W := tb_m3 175 rfl rfl
theorem mi_Mod_go : Cond.instanceMethod my_Mod_go ∈ tb_W := tb_m3 174 rfl rfl
theorem ms_Mod_go : Cond.selects my_Mod_go.cls my_Mod_go my_Mod_go ∈ tb_W := tb_m0 33 rfl rfl
abbrev mb_Mod_pick : ByteArray := prog_10_method_25_code
def my_Mod_pick : MethodName := ⟨"FastBallotsModel", "pick", "(I)I"⟩
theorem mc_Mod_pick : Cond.code my_Mod_pick mb_Mod_pick 8 (some .int) ∈ tb_W := tb_m3 179 rfl rfl
theorem mi_Mod_pick : Cond.instanceMethod my_Mod_pick ∈ tb_W := tb_m3 178 rfl rfl
theorem ms_Mod_pick : Cond.selects my_Mod_pick.cls my_Mod_pick my_Mod_pick ∈ tb_W := tb_m0 34 rfl rfl
abbrev mb_Mod_isFast : ByteArray := prog_10_method_6_code
def my_Mod_isFast : MethodName := ⟨"FastBallotsModel", "isFast", "(I)Z"⟩
theorem mc_Mod_isFast : Cond.code my_Mod_isFast mb_Mod_isFast 1 (some .boolean) ∈ tb_W := tb_m3 182 rfl rfl
theorem mt_Mod_isFast : Cond.static my_Mod_isFast ∈ tb_W := tb_m3 181 rfl rfl
abbrev mb_Mod_toldFor : ByteArray := prog_10_method_22_code
def my_Mod_toldFor : MethodName := ⟨"FastBallotsModel", "toldFor", "(III)I"⟩
theorem mc_Mod_toldFor : Cond.code my_Mod_toldFor mb_Mod_toldFor 6 (some .int) ∈ tb_W := tb_m3 186 rfl rfl
theorem mi_Mod_toldFor : Cond.instanceMethod my_Mod_toldFor ∈ tb_W := tb_m3 185 rfl rfl
theorem ms_Mod_toldFor : Cond.selects my_Mod_toldFor.cls my_Mod_toldFor my_Mod_toldFor ∈ tb_W := tb_m0 35 rfl rfl
abbrev mb_Mod_leastTold : ByteArray := prog_10_method_24_code
def my_Mod_leastTold : MethodName := ⟨"FastBallotsModel", "leastTold", "(II)I"⟩
theorem mc_Mod_leastTold : Cond.code my_Mod_leastTold mb_Mod_leastTold 5 (some .int) ∈ tb_W := tb_m3 190 rfl rfl
theorem mi_Mod_leastTold : Cond.instanceMethod my_Mod_leastTold ∈ tb_W := tb_m3 189 rfl rfl
theorem ms_Mod_leastTold : Cond.selects my_Mod_leastTold.cls my_Mod_leastTold my_Mod_leastTold ∈ tb_W := tb_m0 36 rfl rfl
abbrev mb_Mod_recover : ByteArray := prog_10_method_29_code
def my_Mod_recover : MethodName := ⟨"FastBallotsModel", "recover", "(III)V"⟩
theorem mc_Mod_recover : Cond.code my_Mod_recover mb_Mod_recover 8 none ∈ tb_W := tb_m3 194 rfl rfl
theorem mi_Mod_recover : Cond.instanceMethod my_Mod_recover ∈ tb_W := tb_m3 193 rfl rfl
theorem ms_Mod_recover : Cond.selects my_Mod_recover.cls my_Mod_recover my_Mod_recover ∈ tb_W := tb_m0 37 rfl rfl
abbrev mb_Mod_learn : ByteArray := prog_10_method_31_code
def my_Mod_learn : MethodName := ⟨"FastBallotsModel", "learn", "(IIII)V"⟩
theorem mc_Mod_learn : Cond.code my_Mod_learn mb_Mod_learn 5 none ∈ tb_W := tb_m3 198 rfl rfl
theorem mi_Mod_learn : Cond.instanceMethod my_Mod_learn ∈ tb_W := tb_m3 197 rfl rfl
theorem ms_Mod_learn : Cond.selects my_Mod_learn.cls my_Mod_learn my_Mod_learn ∈ tb_W := tb_m0 38 rfl rfl
abbrev mb_Mod_inRow : ByteArray := prog_10_method_30_code
def my_Mod_inRow : MethodName := ⟨"FastBallotsModel", "inRow", "([IIII)I"⟩
theorem mc_Mod_inRow : Cond.code my_Mod_inRow mb_Mod_inRow 6 (some .int) ∈ tb_W := tb_m3 201 rfl rfl
theorem mt_Mod_inRow : Cond.static my_Mod_inRow ∈ tb_W := tb_m3 200 rfl rfl
abbrev mb_Mod_enough : ByteArray := prog_10_method_8_code
def my_Mod_enough : MethodName := ⟨"FastBallotsModel", "enough", "(I)I"⟩
theorem mc_Mod_enough : Cond.code my_Mod_enough mb_Mod_enough 2 (some .int) ∈ tb_W := tb_m3 205 rfl rfl
theorem mi_Mod_enough : Cond.instanceMethod my_Mod_enough ∈ tb_W := tb_m3 204 rfl rfl
theorem ms_Mod_enough : Cond.selects my_Mod_enough.cls my_Mod_enough my_Mod_enough ∈ tb_W := tb_m0 39 rfl rfl
abbrev mb_Mod_drop : ByteArray := prog_10_method_16_code
def my_Mod_drop : MethodName := ⟨"FastBallotsModel", "drop", "(I)Z"⟩
theorem mc_Mod_drop : Cond.code my_Mod_drop mb_Mod_drop 2 (some .boolean) ∈ tb_W := tb_m3 209 rfl rfl
theorem mi_Mod_drop : Cond.instanceMethod my_Mod_drop ∈ tb_W := tb_m3 207 rfl rfl
theorem ms_Mod_drop : Cond.selects my_Mod_drop.cls my_Mod_drop my_Mod_drop ∈ tb_W := tb_m3 208 rfl rfl
abbrev mb_Mod_halt : ByteArray := prog_10_method_17_code
def my_Mod_halt : MethodName := ⟨"FastBallotsModel", "halt", "(IZ)Z"⟩
theorem mc_Mod_halt : Cond.code my_Mod_halt mb_Mod_halt 3 (some .boolean) ∈ tb_W := tb_m3 213 rfl rfl
theorem mi_Mod_halt : Cond.instanceMethod my_Mod_halt ∈ tb_W := tb_m3 211 rfl rfl
theorem ms_Mod_halt : Cond.selects my_Mod_halt.cls my_Mod_halt my_Mod_halt ∈ tb_W := tb_m3 212 rfl rfl
abbrev mb_Mod_isAcceptor : ByteArray := prog_10_method_5_code
def my_Mod_isAcceptor : MethodName := ⟨"FastBallotsModel", "isAcceptor", "(I)Z"⟩
theorem mc_Mod_isAcceptor : Cond.code my_Mod_isAcceptor mb_Mod_isAcceptor 2 (some .boolean) ∈ tb_W := tb_m3 217 rfl rfl
theorem mi_Mod_isAcceptor : Cond.instanceMethod my_Mod_isAcceptor ∈ tb_W := tb_m3 216 rfl rfl
theorem ms_Mod_isAcceptor : Cond.selects my_Mod_isAcceptor.cls my_Mod_isAcceptor my_Mod_isAcceptor ∈ tb_W := tb_m0 40 rfl rfl
abbrev mb_Mod_learned : ByteArray := prog_10_method_32_code
def my_Mod_learned : MethodName := ⟨"FastBallotsModel", "learned", "(I)I"⟩
theorem mc_Mod_learned : Cond.code my_Mod_learned mb_Mod_learned 2 (some .int) ∈ tb_W := tb_m3 221 rfl rfl
theorem mi_Mod_learned : Cond.instanceMethod my_Mod_learned ∈ tb_W := tb_m3 219 rfl rfl
theorem ms_Mod_learned : Cond.selects my_Mod_learned.cls my_Mod_learned my_Mod_learned ∈ tb_W := tb_m3 220 rfl rfl
abbrev mb_Mod_chosen : ByteArray := prog_10_method_33_code
def my_Mod_chosen : MethodName := ⟨"FastBallotsModel", "chosen", "(I)I"⟩
theorem mc_Mod_chosen : Cond.code my_Mod_chosen mb_Mod_chosen 5 (some .int) ∈ tb_W := tb_m3 225 rfl rfl
theorem mi_Mod_chosen : Cond.instanceMethod my_Mod_chosen ∈ tb_W := tb_m3 223 rfl rfl
theorem ms_Mod_chosen : Cond.selects my_Mod_chosen.cls my_Mod_chosen my_Mod_chosen ∈ tb_W := tb_m3 224 rfl rfl
abbrev mb_Mod_votes : ByteArray := prog_10_method_34_code
def my_Mod_votes : MethodName := ⟨"FastBallotsModel", "votes", "(III)I"⟩
theorem mc_Mod_votes : Cond.code my_Mod_votes mb_Mod_votes 4 (some .int) ∈ tb_W := tb_m3 229 rfl rfl
theorem mi_Mod_votes : Cond.instanceMethod my_Mod_votes ∈ tb_W := tb_m3 227 rfl rfl
theorem ms_Mod_votes : Cond.selects my_Mod_votes.cls my_Mod_votes my_Mod_votes ∈ tb_W := tb_m3 228 rfl rfl
abbrev mb_Mod_waiting : ByteArray := prog_10_method_35_code
def my_Mod_waiting : MethodName := ⟨"FastBallotsModel", "waiting", "()I"⟩
theorem mc_Mod_waiting : Cond.code my_Mod_waiting mb_Mod_waiting 1 (some .int) ∈ tb_W := tb_m3 233 rfl rfl
theorem mi_Mod_waiting : Cond.instanceMethod my_Mod_waiting ∈ tb_W := tb_m3 231 rfl rfl
theorem ms_Mod_waiting : Cond.selects my_Mod_waiting.cls my_Mod_waiting my_Mod_waiting ∈ tb_W := tb_m3 232 rfl rfl
abbrev mb_Mod_lost : ByteArray := prog_10_method_36_code
def my_Mod_lost : MethodName := ⟨"FastBallotsModel", "lost", "()I"⟩
theorem mc_Mod_lost : Cond.code my_Mod_lost mb_Mod_lost 1 (some .int) ∈ tb_W := tb_m3 237 rfl rfl
theorem mi_Mod_lost : Cond.instanceMethod my_Mod_lost ∈ tb_W := tb_m3 235 rfl rfl
theorem ms_Mod_lost : Cond.selects my_Mod_lost.cls my_Mod_lost my_Mod_lost ∈ tb_W := tb_m3 236 rfl rfl
abbrev mb_Mod_message : ByteArray := prog_10_method_37_code
def my_Mod_message : MethodName := ⟨"FastBallotsModel", "message", "(I)I"⟩
theorem mc_Mod_message : Cond.code my_Mod_message mb_Mod_message 2 (some .int) ∈ tb_W := tb_m4 1 rfl rfl
theorem mi_Mod_message : Cond.instanceMethod my_Mod_message ∈ tb_W := tb_m3 239 rfl rfl
theorem ms_Mod_message : Cond.selects my_Mod_message.cls my_Mod_message my_Mod_message ∈ tb_W := tb_m4 0 rfl rfl
abbrev mb_Mod_value : ByteArray := prog_10_method_38_code
def my_Mod_value : MethodName := ⟨"FastBallotsModel", "value", "(I)I"⟩
theorem mc_Mod_value : Cond.code my_Mod_value mb_Mod_value 2 (some .int) ∈ tb_W := tb_m4 6 rfl rfl
theorem mi_Mod_value : Cond.instanceMethod my_Mod_value ∈ tb_W := tb_m4 4 rfl rfl
theorem ms_Mod_value : Cond.selects my_Mod_value.cls my_Mod_value my_Mod_value ∈ tb_W := tb_m4 5 rfl rfl
abbrev mb_Mod_round : ByteArray := prog_10_method_39_code
def my_Mod_round : MethodName := ⟨"FastBallotsModel", "round", "(II)I"⟩
theorem mc_Mod_round : Cond.code my_Mod_round mb_Mod_round 3 (some .int) ∈ tb_W := tb_m4 10 rfl rfl
theorem mi_Mod_round : Cond.instanceMethod my_Mod_round ∈ tb_W := tb_m4 8 rfl rfl
theorem ms_Mod_round : Cond.selects my_Mod_round.cls my_Mod_round my_Mod_round ∈ tb_W := tb_m4 9 rfl rfl
abbrev mb_Mod_vote : ByteArray := prog_10_method_40_code
def my_Mod_vote : MethodName := ⟨"FastBallotsModel", "vote", "(II)I"⟩
theorem mc_Mod_vote : Cond.code my_Mod_vote mb_Mod_vote 3 (some .int) ∈ tb_W := tb_m4 14 rfl rfl
theorem mi_Mod_vote : Cond.instanceMethod my_Mod_vote ∈ tb_W := tb_m4 12 rfl rfl
theorem ms_Mod_vote : Cond.selects my_Mod_vote.cls my_Mod_vote my_Mod_vote ∈ tb_W := tb_m4 13 rfl rfl
abbrev mb_Mod_voteRound : ByteArray := prog_10_method_41_code
def my_Mod_voteRound : MethodName := ⟨"FastBallotsModel", "voteRound", "(II)I"⟩
theorem mc_Mod_voteRound : Cond.code my_Mod_voteRound mb_Mod_voteRound 3 (some .int) ∈ tb_W := tb_m4 18 rfl rfl
theorem mi_Mod_voteRound : Cond.instanceMethod my_Mod_voteRound ∈ tb_W := tb_m4 16 rfl rfl
theorem ms_Mod_voteRound : Cond.selects my_Mod_voteRound.cls my_Mod_voteRound my_Mod_voteRound ∈ tb_W := tb_m4 17 rfl rfl
abbrev mb_Mod_leads : ByteArray := prog_10_method_43_code
def my_Mod_leads : MethodName := ⟨"FastBallotsModel", "leads", "(II)I"⟩
theorem mc_Mod_leads : Cond.code my_Mod_leads mb_Mod_leads 3 (some .int) ∈ tb_W := tb_m4 22 rfl rfl
theorem mi_Mod_leads : Cond.instanceMethod my_Mod_leads ∈ tb_W := tb_m4 20 rfl rfl
theorem ms_Mod_leads : Cond.selects my_Mod_leads.cls my_Mod_leads my_Mod_leads ∈ tb_W := tb_m4 21 rfl rfl
abbrev mb_Mod_isCoordinator : ByteArray := prog_10_method_42_code
def my_Mod_isCoordinator : MethodName := ⟨"FastBallotsModel", "isCoordinator", "(I)Z"⟩
theorem mc_Mod_isCoordinator : Cond.code my_Mod_isCoordinator mb_Mod_isCoordinator 1 (some .boolean) ∈ tb_W := tb_m4 25 rfl rfl
theorem mt_Mod_isCoordinator : Cond.static my_Mod_isCoordinator ∈ tb_W := tb_m4 24 rfl rfl
abbrev mb_Mod_phase : ByteArray := prog_10_method_44_code
def my_Mod_phase : MethodName := ⟨"FastBallotsModel", "phase", "(II)I"⟩
theorem mc_Mod_phase : Cond.code my_Mod_phase mb_Mod_phase 3 (some .int) ∈ tb_W := tb_m4 29 rfl rfl
theorem mi_Mod_phase : Cond.instanceMethod my_Mod_phase ∈ tb_W := tb_m4 27 rfl rfl
theorem ms_Mod_phase : Cond.selects my_Mod_phase.cls my_Mod_phase my_Mod_phase ∈ tb_W := tb_m4 28 rfl rfl
abbrev mb_Mod_size : ByteArray := prog_10_method_45_code
def my_Mod_size : MethodName := ⟨"FastBallotsModel", "size", "(I)I"⟩
theorem mc_Mod_size : Cond.code my_Mod_size mb_Mod_size 2 (some .int) ∈ tb_W := tb_m4 33 rfl rfl
theorem mi_Mod_size : Cond.instanceMethod my_Mod_size ∈ tb_W := tb_m4 31 rfl rfl
theorem ms_Mod_size : Cond.selects my_Mod_size.cls my_Mod_size my_Mod_size ∈ tb_W := tb_m4 32 rfl rfl
theorem mz_Law : Cond.initialized "FastBallotsLaw" ∈ tb_W := tb_m1 0 rfl rfl
theorem mz_FB : Cond.initialized "FastBallots" ∈ tb_W := tb_m1 1 rfl rfl
theorem mz_Siz : Cond.initialized "FastBallots$Sizes" ∈ tb_W := tb_m1 2 rfl rfl
theorem mz_Mail : Cond.initialized "FastBallots$Mail" ∈ tb_W := tb_m1 4 rfl rfl
theorem mz_Msg : Cond.initialized "FastBallots$Message" ∈ tb_W := tb_m1 5 rfl rfl
theorem mz_Slt : Cond.initialized "FastBallots$Slot" ∈ tb_W := tb_m1 6 rfl rfl
theorem mz_Tal : Cond.initialized "FastBallots$Tally" ∈ tb_W := tb_m1 7 rfl rfl
theorem mz_Cor : Cond.initialized "FastBallots$Coordinator" ∈ tb_W := tb_m1 8 rfl rfl
theorem mz_Acc : Cond.initialized "FastBallots$Acceptor" ∈ tb_W := tb_m1 9 rfl rfl
theorem mz_Mod : Cond.initialized "FastBallotsModel" ∈ tb_W := tb_m1 10 rfl rfl
theorem mk_Law_7 : Cond.classLink "FastBallotsLaw" 7 "FastBallots" ∈ tb_W := tb_m1 12 rfl rfl
theorem mk_Law_15 : Cond.methodLink "FastBallotsLaw" 15 my_FB_init ∈ tb_W := tb_m1 14 rfl rfl
theorem mk_FB_7 : Cond.classLink "FastBallots" 7 "FastBallots$Sizes" ∈ tb_W := tb_m1 20 rfl rfl
theorem mk_FB_9 : Cond.methodLink "FastBallots" 9 my_Siz_init ∈ tb_W := tb_m1 22 rfl rfl
theorem mk_Siz_18 : Cond.methodLink "FastBallots$Sizes" 18 my_Siz_areQuorums ∈ tb_W := tb_m1 32 rfl rfl
theorem mk_Tal_15 : Cond.fieldLink "FastBallots$Tally" 15 "FastBallots$Sizes" "acceptors" "I" ∈ tb_W := tb_m1 35 rfl rfl
theorem mk_Cor_23 : Cond.fieldLink "FastBallots$Coordinator" 23 "FastBallots$Sizes" "acceptors" "I" ∈ tb_W := tb_m1 36 rfl rfl
theorem mk_Siz_24 : Cond.fieldLink "FastBallots$Sizes" 24 "FastBallots$Sizes" "acceptors" "I" ∈ tb_W := tb_m1 37 rfl rfl
theorem mk_Slt_35 : Cond.fieldLink "FastBallots$Slot" 35 "FastBallots$Sizes" "acceptors" "I" ∈ tb_W := tb_m1 38 rfl rfl
theorem mk_FB_45 : Cond.fieldLink "FastBallots" 45 "FastBallots$Sizes" "acceptors" "I" ∈ tb_W := tb_m1 39 rfl rfl
theorem mk_Siz_28 : Cond.fieldLink "FastBallots$Sizes" 28 "FastBallots$Sizes" "classicQuorum" "I" ∈ tb_W := tb_m1 40 rfl rfl
theorem mk_Cor_93 : Cond.fieldLink "FastBallots$Coordinator" 93 "FastBallots$Sizes" "classicQuorum" "I" ∈ tb_W := tb_m1 41 rfl rfl
theorem mk_FB_162 : Cond.fieldLink "FastBallots" 162 "FastBallots$Sizes" "classicQuorum" "I" ∈ tb_W := tb_m1 42 rfl rfl
theorem mk_Siz_31 : Cond.fieldLink "FastBallots$Sizes" 31 "FastBallots$Sizes" "fastQuorum" "I" ∈ tb_W := tb_m1 43 rfl rfl
theorem mk_Cor_118 : Cond.fieldLink "FastBallots$Coordinator" 118 "FastBallots$Sizes" "fastQuorum" "I" ∈ tb_W := tb_m1 44 rfl rfl
theorem mk_FB_165 : Cond.fieldLink "FastBallots" 165 "FastBallots$Sizes" "fastQuorum" "I" ∈ tb_W := tb_m1 45 rfl rfl
theorem mk_FB_18 : Cond.classLink "FastBallots" 18 "FastBallots$Mail" ∈ tb_W := tb_m1 53 rfl rfl
theorem mk_Mail_13 : Cond.classLink "FastBallots$Mail" 13 "FastBallots$Message" ∈ tb_W := tb_m1 59 rfl rfl
theorem mk_Acc_26 : Cond.fieldLink "FastBallots$Acceptor" 26 "FastBallots$Message" "kind" "I" ∈ tb_W := tb_m1 65 rfl rfl
theorem mk_Cor_52 : Cond.fieldLink "FastBallots$Coordinator" 52 "FastBallots$Message" "kind" "I" ∈ tb_W := tb_m1 66 rfl rfl
theorem mk_Mail_27 : Cond.fieldLink "FastBallots$Mail" 27 "FastBallots$Message" "kind" "I" ∈ tb_W := tb_m1 67 rfl rfl
theorem mk_FB_91 : Cond.fieldLink "FastBallots" 91 "FastBallots$Message" "kind" "I" ∈ tb_W := tb_m1 68 rfl rfl
theorem mk_FB_83 : Cond.fieldLink "FastBallots" 83 "FastBallots$Message" "slot" "I" ∈ tb_W := tb_m1 69 rfl rfl
theorem mk_Mail_30 : Cond.fieldLink "FastBallots$Mail" 30 "FastBallots$Message" "slot" "I" ∈ tb_W := tb_m1 70 rfl rfl
theorem mk_Acc_38 : Cond.fieldLink "FastBallots$Acceptor" 38 "FastBallots$Message" "round" "I" ∈ tb_W := tb_m1 71 rfl rfl
theorem mk_Mail_33 : Cond.fieldLink "FastBallots$Mail" 33 "FastBallots$Message" "round" "I" ∈ tb_W := tb_m1 72 rfl rfl
theorem mk_FB_98 : Cond.fieldLink "FastBallots" 98 "FastBallots$Message" "round" "I" ∈ tb_W := tb_m1 73 rfl rfl
theorem mk_Cor_77 : Cond.fieldLink "FastBallots$Coordinator" 77 "FastBallots$Message" "round" "I" ∈ tb_W := tb_m1 74 rfl rfl
theorem mk_Mail_36 : Cond.fieldLink "FastBallots$Mail" 36 "FastBallots$Message" "from" "I" ∈ tb_W := tb_m1 75 rfl rfl
theorem mk_FB_101 : Cond.fieldLink "FastBallots" 101 "FastBallots$Message" "from" "I" ∈ tb_W := tb_m1 76 rfl rfl
theorem mk_Cor_80 : Cond.fieldLink "FastBallots$Coordinator" 80 "FastBallots$Message" "from" "I" ∈ tb_W := tb_m1 77 rfl rfl
theorem mk_FB_88 : Cond.fieldLink "FastBallots" 88 "FastBallots$Message" "to" "I" ∈ tb_W := tb_m1 78 rfl rfl
theorem mk_Mail_39 : Cond.fieldLink "FastBallots$Mail" 39 "FastBallots$Message" "to" "I" ∈ tb_W := tb_m1 79 rfl rfl
theorem mk_Acc_31 : Cond.fieldLink "FastBallots$Acceptor" 31 "FastBallots$Message" "value" "I" ∈ tb_W := tb_m1 80 rfl rfl
theorem mk_Cor_57 : Cond.fieldLink "FastBallots$Coordinator" 57 "FastBallots$Message" "value" "I" ∈ tb_W := tb_m1 81 rfl rfl
theorem mk_FB_104 : Cond.fieldLink "FastBallots" 104 "FastBallots$Message" "value" "I" ∈ tb_W := tb_m1 82 rfl rfl
theorem mk_Mail_42 : Cond.fieldLink "FastBallots$Mail" 42 "FastBallots$Message" "value" "I" ∈ tb_W := tb_m1 83 rfl rfl
theorem mk_Mail_45 : Cond.fieldLink "FastBallots$Mail" 45 "FastBallots$Message" "ballotRound" "I" ∈ tb_W := tb_m1 84 rfl rfl
theorem mk_Cor_83 : Cond.fieldLink "FastBallots$Coordinator" 83 "FastBallots$Message" "ballotRound" "I" ∈ tb_W := tb_m1 85 rfl rfl
theorem mk_Mail_9 : Cond.fieldLink "FastBallots$Mail" 9 "FastBallots$Mail" "cells" "[I" ∈ tb_W := tb_m1 102 rfl rfl
theorem mk_Mail_16 : Cond.fieldLink "FastBallots$Mail" 16 "FastBallots$Mail" "taken" "LFastBallots$Message;" ∈ tb_W := tb_m1 103 rfl rfl
theorem mk_Mail_20 : Cond.fieldLink "FastBallots$Mail" 20 "FastBallots$Mail" "count" "I" ∈ tb_W := tb_m1 104 rfl rfl
theorem mk_FB_53 : Cond.fieldLink "FastBallots" 53 "FastBallots$Mail" "count" "I" ∈ tb_W := tb_m1 105 rfl rfl
theorem mk_Mail_24 : Cond.fieldLink "FastBallots$Mail" 24 "FastBallots$Mail" "lostCount" "I" ∈ tb_W := tb_m1 106 rfl rfl
theorem mk_FB_131 : Cond.fieldLink "FastBallots" 131 "FastBallots$Mail" "lostCount" "I" ∈ tb_W := tb_m1 107 rfl rfl
theorem mk_FB_29 : Cond.classLink "FastBallots" 29 "FastBallots$Slot" ∈ tb_W := tb_m1 117 rfl rfl
theorem mk_FB_35 : Cond.methodLink "FastBallots" 35 my_Slt_init ∈ tb_W := tb_m1 120 rfl rfl
theorem mk_Slt_9 : Cond.classLink "FastBallots$Slot" 9 "FastBallots$Tally" ∈ tb_W := tb_m1 124 rfl rfl
theorem mk_Slt_11 : Cond.methodLink "FastBallots$Slot" 11 my_Tal_init ∈ tb_W := tb_m1 126 rfl rfl
theorem mk_Tal_9 : Cond.fieldLink "FastBallots$Tally" 9 "FastBallots$Tally" "sizes" "LFastBallots$Sizes;" ∈ tb_W := tb_m1 130 rfl rfl
theorem mk_Tal_21 : Cond.fieldLink "FastBallots$Tally" 21 "FastBallots$Tally" "ballots" "[I" ∈ tb_W := tb_m1 131 rfl rfl
theorem mk_Tal_25 : Cond.fieldLink "FastBallots$Tally" 25 "FastBallots$Tally" "settled" "I" ∈ tb_W := tb_m1 132 rfl rfl
theorem mk_FB_152 : Cond.fieldLink "FastBallots" 152 "FastBallots$Tally" "settled" "I" ∈ tb_W := tb_m1 133 rfl rfl
theorem mk_Slt_23 : Cond.classLink "FastBallots$Slot" 23 "FastBallots$Coordinator" ∈ tb_W := tb_m1 142 rfl rfl
theorem mk_Slt_25 : Cond.methodLink "FastBallots$Slot" 25 my_Cor_init ∈ tb_W := tb_m1 144 rfl rfl
theorem mk_Cor_9 : Cond.fieldLink "FastBallots$Coordinator" 9 "FastBallots$Coordinator" "slot" "I" ∈ tb_W := tb_m1 148 rfl rfl
theorem mk_Cor_15 : Cond.fieldLink "FastBallots$Coordinator" 15 "FastBallots$Coordinator" "sizes" "LFastBallots$Sizes;" ∈ tb_W := tb_m1 149 rfl rfl
theorem mk_Cor_19 : Cond.fieldLink "FastBallots$Coordinator" 19 "FastBallots$Coordinator" "mail" "LFastBallots$Mail;" ∈ tb_W := tb_m1 150 rfl rfl
theorem mk_Cor_39 : Cond.fieldLink "FastBallots$Coordinator" 39 "FastBallots$Coordinator" "leading" "I" ∈ tb_W := tb_m1 151 rfl rfl
theorem mk_FB_67 : Cond.fieldLink "FastBallots" 67 "FastBallots$Coordinator" "leading" "I" ∈ tb_W := tb_m1 152 rfl rfl
theorem mk_Cor_42 : Cond.fieldLink "FastBallots$Coordinator" 42 "FastBallots$Coordinator" "stage" "I" ∈ tb_W := tb_m1 153 rfl rfl
theorem mk_FB_149 : Cond.fieldLink "FastBallots" 149 "FastBallots$Coordinator" "stage" "I" ∈ tb_W := tb_m1 154 rfl rfl
theorem mk_Cor_71 : Cond.fieldLink "FastBallots$Coordinator" 71 "FastBallots$Coordinator" "firstProposed" "I" ∈ tb_W := tb_m1 155 rfl rfl
theorem mk_Cor_28 : Cond.fieldLink "FastBallots$Coordinator" 28 "FastBallots$Coordinator" "heard" "[Z" ∈ tb_W := tb_m1 156 rfl rfl
theorem mk_Cor_32 : Cond.fieldLink "FastBallots$Coordinator" 32 "FastBallots$Coordinator" "ballots" "[I" ∈ tb_W := tb_m1 157 rfl rfl
theorem mk_Cor_36 : Cond.fieldLink "FastBallots$Coordinator" 36 "FastBallots$Coordinator" "ballotRounds" "[I" ∈ tb_W := tb_m1 158 rfl rfl
theorem mk_Cor_90 : Cond.fieldLink "FastBallots$Coordinator" 90 "FastBallots$Coordinator" "heardCount" "I" ∈ tb_W := tb_m1 159 rfl rfl
theorem mk_Slt_41 : Cond.classLink "FastBallots$Slot" 41 "FastBallots$Acceptor" ∈ tb_W := tb_m1 181 rfl rfl
theorem mk_Slt_46 : Cond.methodLink "FastBallots$Slot" 46 my_Acc_init ∈ tb_W := tb_m1 184 rfl rfl
theorem mk_Acc_9 : Cond.fieldLink "FastBallots$Acceptor" 9 "FastBallots$Acceptor" "number" "I" ∈ tb_W := tb_m1 188 rfl rfl
theorem mk_Acc_15 : Cond.fieldLink "FastBallots$Acceptor" 15 "FastBallots$Acceptor" "slot" "I" ∈ tb_W := tb_m1 189 rfl rfl
theorem mk_Acc_18 : Cond.fieldLink "FastBallots$Acceptor" 18 "FastBallots$Acceptor" "mail" "LFastBallots$Mail;" ∈ tb_W := tb_m1 190 rfl rfl
theorem mk_Acc_22 : Cond.fieldLink "FastBallots$Acceptor" 22 "FastBallots$Acceptor" "cast" "LFastBallots$Tally;" ∈ tb_W := tb_m1 191 rfl rfl
theorem mk_Acc_58 : Cond.fieldLink "FastBallots$Acceptor" 58 "FastBallots$Acceptor" "current" "I" ∈ tb_W := tb_m1 192 rfl rfl
theorem mk_FB_140 : Cond.fieldLink "FastBallots" 140 "FastBallots$Acceptor" "current" "I" ∈ tb_W := tb_m1 193 rfl rfl
theorem mk_Acc_71 : Cond.fieldLink "FastBallots$Acceptor" 71 "FastBallots$Acceptor" "ballot" "I" ∈ tb_W := tb_m1 194 rfl rfl
theorem mk_FB_143 : Cond.fieldLink "FastBallots" 143 "FastBallots$Acceptor" "ballot" "I" ∈ tb_W := tb_m1 195 rfl rfl
theorem mk_Acc_55 : Cond.fieldLink "FastBallots$Acceptor" 55 "FastBallots$Acceptor" "ballotRound" "I" ∈ tb_W := tb_m1 196 rfl rfl
theorem mk_FB_146 : Cond.fieldLink "FastBallots" 146 "FastBallots$Acceptor" "ballotRound" "I" ∈ tb_W := tb_m1 197 rfl rfl
theorem mk_Acc_48 : Cond.fieldLink "FastBallots$Acceptor" 48 "FastBallots$Acceptor" "firstProposed" "I" ∈ tb_W := tb_m1 198 rfl rfl
theorem mk_Acc_64 : Cond.fieldLink "FastBallots$Acceptor" 64 "FastBallots$Acceptor" "openRound" "I" ∈ tb_W := tb_m1 199 rfl rfl
theorem mk_Slt_43 : Cond.fieldLink "FastBallots$Slot" 43 "FastBallots$Slot" "acceptors" "[LFastBallots$Acceptor;" ∈ tb_W := tb_m1 219 rfl rfl
theorem mk_FB_119 : Cond.fieldLink "FastBallots" 119 "FastBallots$Slot" "acceptors" "[LFastBallots$Acceptor;" ∈ tb_W := tb_m1 220 rfl rfl
theorem mk_Slt_28 : Cond.fieldLink "FastBallots$Slot" 28 "FastBallots$Slot" "first" "LFastBallots$Coordinator;" ∈ tb_W := tb_m1 221 rfl rfl
theorem mk_Slt_32 : Cond.fieldLink "FastBallots$Slot" 32 "FastBallots$Slot" "second" "LFastBallots$Coordinator;" ∈ tb_W := tb_m1 222 rfl rfl
theorem mk_Slt_14 : Cond.fieldLink "FastBallots$Slot" 14 "FastBallots$Slot" "cast" "LFastBallots$Tally;" ∈ tb_W := tb_m1 223 rfl rfl
theorem mk_FB_155 : Cond.fieldLink "FastBallots" 155 "FastBallots$Slot" "cast" "LFastBallots$Tally;" ∈ tb_W := tb_m1 224 rfl rfl
theorem mk_Slt_20 : Cond.fieldLink "FastBallots$Slot" 20 "FastBallots$Slot" "told" "LFastBallots$Tally;" ∈ tb_W := tb_m1 225 rfl rfl
theorem mk_FB_94 : Cond.fieldLink "FastBallots" 94 "FastBallots$Slot" "told" "LFastBallots$Tally;" ∈ tb_W := tb_m1 226 rfl rfl
theorem mk_FB_12 : Cond.fieldLink "FastBallots" 12 "FastBallots" "sizes" "LFastBallots$Sizes;" ∈ tb_W := tb_m1 238 rfl rfl
theorem mk_FB_21 : Cond.fieldLink "FastBallots" 21 "FastBallots" "mail" "LFastBallots$Mail;" ∈ tb_W := tb_m1 239 rfl rfl
theorem mk_FB_31 : Cond.fieldLink "FastBallots" 31 "FastBallots" "slots" "[LFastBallots$Slot;" ∈ tb_W := tb_m2 0 rfl rfl
theorem mk_FB_25 : Cond.fieldLink "FastBallots" 25 "FastBallots" "halted" "[Z" ∈ tb_W := tb_m2 1 rfl rfl
theorem mk_Law_21 : Cond.methodLink "FastBallotsLaw" 21 my_FB_propose ∈ tb_W := tb_m2 11 rfl rfl
theorem mk_FB_38 : Cond.methodLink "FastBallots" 38 my_FB_isSlot ∈ tb_W := tb_m2 15 rfl rfl
theorem mk_FB_42 : Cond.methodLink "FastBallots" 42 my_FB_isValue ∈ tb_W := tb_m2 18 rfl rfl
theorem mk_FB_49 : Cond.methodLink "FastBallots" 49 my_Mail_send ∈ tb_W := tb_m2 21 rfl rfl
theorem mk_Law_26 : Cond.methodLink "FastBallotsLaw" 26 my_FB_begin ∈ tb_W := tb_m2 25 rfl rfl
theorem mk_FB_56 : Cond.methodLink "FastBallots" 56 my_FB_isRound ∈ tb_W := tb_m2 29 rfl rfl
theorem mk_FB_59 : Cond.methodLink "FastBallots" 59 my_FB_coordinatorOf ∈ tb_W := tb_m2 32 rfl rfl
theorem mk_FB_63 : Cond.methodLink "FastBallots" 63 my_Slt_coordinator ∈ tb_W := tb_m2 35 rfl rfl
theorem mk_FB_72 : Cond.methodLink "FastBallots" 72 my_Cor_startAsking ∈ tb_W := tb_m2 39 rfl rfl
theorem mk_Cor_45 : Cond.methodLink "FastBallots$Coordinator" 45 my_Cor_forget ∈ tb_W := tb_m2 43 rfl rfl
theorem mk_Cor_48 : Cond.methodLink "FastBallots$Coordinator" 48 my_Cor_sendToAll ∈ tb_W := tb_m2 47 rfl rfl
theorem mk_Cor_140 : Cond.methodLink "FastBallots$Coordinator" 140 my_Mail_send ∈ tb_W := tb_m2 51 rfl rfl
theorem mk_Law_30 : Cond.methodLink "FastBallotsLaw" 30 my_FB_deliver ∈ tb_W := tb_m2 52 rfl rfl
theorem mk_FB_76 : Cond.methodLink "FastBallots" 76 my_Mail_has ∈ tb_W := tb_m2 56 rfl rfl
theorem mk_FB_79 : Cond.methodLink "FastBallots" 79 my_Mail_take ∈ tb_W := tb_m2 60 rfl rfl
theorem mk_Mail_48 : Cond.methodLink "FastBallots$Mail" 48 my_Mail_remove ∈ tb_W := tb_m2 64 rfl rfl
theorem mk_FB_107 : Cond.methodLink "FastBallots" 107 my_Tal_record ∈ tb_W := tb_m2 71 rfl rfl
theorem mk_Tal_28 : Cond.methodLink "FastBallots$Tally" 28 my_Tal_tally ∈ tb_W := tb_m2 75 rfl rfl
theorem mk_Tal_32 : Cond.methodLink "FastBallots$Tally" 32 my_Siz_quorumOf ∈ tb_W := tb_m2 79 rfl rfl
theorem mk_FB_112 : Cond.methodLink "FastBallots" 112 my_FB_isCoordinator ∈ tb_W := tb_m2 86 rfl rfl
theorem mk_FB_115 : Cond.methodLink "FastBallots" 115 my_Cor_hear ∈ tb_W := tb_m2 89 rfl rfl
theorem mk_Cor_60 : Cond.methodLink "FastBallots$Coordinator" 60 my_Cor_hearProposal ∈ tb_W := tb_m2 93 rfl rfl
theorem mk_Cor_74 : Cond.methodLink "FastBallots$Coordinator" 74 my_Cor_startVoting ∈ tb_W := tb_m2 97 rfl rfl
theorem mk_Cor_64 : Cond.methodLink "FastBallots$Coordinator" 64 my_Cor_hearPromise ∈ tb_W := tb_m2 101 rfl rfl
theorem mk_Cor_86 : Cond.methodLink "FastBallots$Coordinator" 86 my_Cor_keep ∈ tb_W := tb_m2 105 rfl rfl
theorem mk_Cor_96 : Cond.methodLink "FastBallots$Coordinator" 96 my_Cor_pick ∈ tb_W := tb_m2 109 rfl rfl
theorem mk_Cor_121 : Cond.methodLink "FastBallots$Coordinator" 121 my_Cor_latestRound ∈ tb_W := tb_m2 113 rfl rfl
theorem mk_Cor_124 : Cond.methodLink "FastBallots$Coordinator" 124 my_Cor_maybeChosenIn ∈ tb_W := tb_m2 119 rfl rfl
theorem mk_Cor_127 : Cond.methodLink "FastBallots$Coordinator" 127 my_Cor_votedIn ∈ tb_W := tb_m2 123 rfl rfl
theorem mk_Cor_131 : Cond.methodLink "FastBallots$Coordinator" 131 my_Cor_tallyIn ∈ tb_W := tb_m2 127 rfl rfl
theorem mk_Cor_111 : Cond.methodLink "FastBallots$Coordinator" 111 my_Cor_leastIn ∈ tb_W := tb_m2 131 rfl rfl
theorem mk_Cor_100 : Cond.methodLink "FastBallots$Coordinator" 100 my_Cor_goOnWith ∈ tb_W := tb_m2 135 rfl rfl
theorem mk_Cor_68 : Cond.methodLink "FastBallots$Coordinator" 68 my_Cor_hearVoted ∈ tb_W := tb_m2 139 rfl rfl
theorem mk_Cor_107 : Cond.methodLink "FastBallots$Coordinator" 107 my_Cor_canStillBeChosen ∈ tb_W := tb_m2 143 rfl rfl
theorem mk_Cor_115 : Cond.methodLink "FastBallots$Coordinator" 115 my_Cor_mostIn ∈ tb_W := tb_m2 147 rfl rfl
theorem mk_FB_122 : Cond.methodLink "FastBallots" 122 my_Acc_hear ∈ tb_W := tb_m2 151 rfl rfl
theorem mk_Acc_34 : Cond.methodLink "FastBallots$Acceptor" 34 my_Acc_hearProposal ∈ tb_W := tb_m2 155 rfl rfl
theorem mk_Acc_51 : Cond.methodLink "FastBallots$Acceptor" 51 my_Acc_isOpenNow ∈ tb_W := tb_m2 159 rfl rfl
theorem mk_Acc_61 : Cond.methodLink "FastBallots$Acceptor" 61 my_Acc_castVote ∈ tb_W := tb_m2 163 rfl rfl
theorem mk_Acc_80 : Cond.methodLink "FastBallots$Acceptor" 80 my_Tal_record ∈ tb_W := tb_m2 167 rfl rfl
theorem mk_Acc_74 : Cond.methodLink "FastBallots$Acceptor" 74 my_Mail_send ∈ tb_W := tb_m2 169 rfl rfl
theorem mk_Acc_41 : Cond.methodLink "FastBallots$Acceptor" 41 my_Acc_hearAsk ∈ tb_W := tb_m2 170 rfl rfl
theorem mk_Acc_44 : Cond.methodLink "FastBallots$Acceptor" 44 my_Acc_hearVoteFor ∈ tb_W := tb_m2 174 rfl rfl
theorem mk_Law_35 : Cond.methodLink "FastBallotsLaw" 35 my_FB_drop ∈ tb_W := tb_m2 178 rfl rfl
theorem mk_FB_125 : Cond.methodLink "FastBallots" 125 my_Mail_remove ∈ tb_W := tb_m2 182 rfl rfl
theorem mk_Law_40 : Cond.methodLink "FastBallotsLaw" 40 my_FB_halt ∈ tb_W := tb_m2 183 rfl rfl
theorem mk_FB_128 : Cond.methodLink "FastBallots" 128 my_FB_isAcceptor ∈ tb_W := tb_m2 187 rfl rfl
theorem mk_Law_45 : Cond.methodLink "FastBallotsLaw" 45 my_FB_waiting ∈ tb_W := tb_m2 191 rfl rfl
theorem mk_Law_50 : Cond.methodLink "FastBallotsLaw" 50 my_FB_lost ∈ tb_W := tb_m2 195 rfl rfl
theorem mk_Law_54 : Cond.methodLink "FastBallotsLaw" 54 my_FB_message ∈ tb_W := tb_m2 199 rfl rfl
theorem mk_FB_134 : Cond.methodLink "FastBallots" 134 my_Mail_label ∈ tb_W := tb_m2 203 rfl rfl
theorem mk_Law_58 : Cond.methodLink "FastBallotsLaw" 58 my_FB_value ∈ tb_W := tb_m2 208 rfl rfl
theorem mk_FB_137 : Cond.methodLink "FastBallots" 137 my_Mail_valueIn ∈ tb_W := tb_m2 212 rfl rfl
theorem mk_Law_62 : Cond.methodLink "FastBallotsLaw" 62 my_FB_round ∈ tb_W := tb_m2 216 rfl rfl
theorem mk_Law_66 : Cond.methodLink "FastBallotsLaw" 66 my_FB_vote ∈ tb_W := tb_m2 220 rfl rfl
theorem mk_Law_70 : Cond.methodLink "FastBallotsLaw" 70 my_FB_voteRound ∈ tb_W := tb_m2 224 rfl rfl
theorem mk_Law_74 : Cond.methodLink "FastBallotsLaw" 74 my_FB_leads ∈ tb_W := tb_m2 228 rfl rfl
theorem mk_Law_78 : Cond.methodLink "FastBallotsLaw" 78 my_FB_phase ∈ tb_W := tb_m2 232 rfl rfl
theorem mk_Law_82 : Cond.methodLink "FastBallotsLaw" 82 my_FB_learned ∈ tb_W := tb_m2 236 rfl rfl
theorem mk_Law_86 : Cond.methodLink "FastBallotsLaw" 86 my_FB_chosen ∈ tb_W := tb_m3 0 rfl rfl
theorem mk_Law_90 : Cond.methodLink "FastBallotsLaw" 90 my_FB_votes ∈ tb_W := tb_m3 4 rfl rfl
theorem mk_FB_158 : Cond.methodLink "FastBallots" 158 my_Tal_tally ∈ tb_W := tb_m3 8 rfl rfl
theorem mk_Law_95 : Cond.methodLink "FastBallotsLaw" 95 my_FB_size ∈ tb_W := tb_m3 9 rfl rfl
theorem mk_Law_9 : Cond.methodLink "FastBallotsLaw" 9 my_Law_cell ∈ tb_W := tb_m3 13 rfl rfl
theorem mk_Law_18 : Cond.classLink "FastBallotsLaw" 18 "FastBallotsModel" ∈ tb_W := tb_m3 16 rfl rfl
theorem mk_Law_20 : Cond.methodLink "FastBallotsLaw" 20 my_Mod_init ∈ tb_W := tb_m3 18 rfl rfl
theorem mk_Mod_77 : Cond.fieldLink "FastBallotsModel" 77 "FastBallotsModel" "n" "I" ∈ tb_W := tb_m3 22 rfl rfl
theorem mk_Mod_81 : Cond.fieldLink "FastBallotsModel" 81 "FastBallotsModel" "classic" "I" ∈ tb_W := tb_m3 23 rfl rfl
theorem mk_Mod_84 : Cond.fieldLink "FastBallotsModel" 84 "FastBallotsModel" "fast" "I" ∈ tb_W := tb_m3 24 rfl rfl
theorem mk_Mod_7 : Cond.fieldLink "FastBallotsModel" 7 "FastBallotsModel" "halted" "[Z" ∈ tb_W := tb_m3 25 rfl rfl
theorem mk_Mod_91 : Cond.fieldLink "FastBallotsModel" 91 "FastBallotsModel" "waiting" "I" ∈ tb_W := tb_m3 26 rfl rfl
theorem mk_Mod_94 : Cond.fieldLink "FastBallotsModel" 94 "FastBallotsModel" "lost" "I" ∈ tb_W := tb_m3 27 rfl rfl
theorem mk_Mod_13 : Cond.fieldLink "FastBallotsModel" 13 "FastBallotsModel" "kinds" "[I" ∈ tb_W := tb_m3 28 rfl rfl
theorem mk_Mod_17 : Cond.fieldLink "FastBallotsModel" 17 "FastBallotsModel" "slots" "[I" ∈ tb_W := tb_m3 29 rfl rfl
theorem mk_Mod_20 : Cond.fieldLink "FastBallotsModel" 20 "FastBallotsModel" "rounds" "[I" ∈ tb_W := tb_m3 30 rfl rfl
theorem mk_Mod_23 : Cond.fieldLink "FastBallotsModel" 23 "FastBallotsModel" "tos" "[I" ∈ tb_W := tb_m3 31 rfl rfl
theorem mk_Mod_26 : Cond.fieldLink "FastBallotsModel" 26 "FastBallotsModel" "froms" "[I" ∈ tb_W := tb_m3 32 rfl rfl
theorem mk_Mod_29 : Cond.fieldLink "FastBallotsModel" 29 "FastBallotsModel" "values" "[I" ∈ tb_W := tb_m3 33 rfl rfl
theorem mk_Mod_32 : Cond.fieldLink "FastBallotsModel" 32 "FastBallotsModel" "olds" "[I" ∈ tb_W := tb_m3 34 rfl rfl
theorem mk_Mod_35 : Cond.fieldLink "FastBallotsModel" 35 "FastBallotsModel" "round" "[I" ∈ tb_W := tb_m3 35 rfl rfl
theorem mk_Mod_38 : Cond.fieldLink "FastBallotsModel" 38 "FastBallotsModel" "vote" "[I" ∈ tb_W := tb_m3 36 rfl rfl
theorem mk_Mod_41 : Cond.fieldLink "FastBallotsModel" 41 "FastBallotsModel" "voteRound" "[I" ∈ tb_W := tb_m3 37 rfl rfl
theorem mk_Mod_44 : Cond.fieldLink "FastBallotsModel" 44 "FastBallotsModel" "proposed" "[I" ∈ tb_W := tb_m3 38 rfl rfl
theorem mk_Mod_47 : Cond.fieldLink "FastBallotsModel" 47 "FastBallotsModel" "open" "[I" ∈ tb_W := tb_m3 39 rfl rfl
theorem mk_Mod_50 : Cond.fieldLink "FastBallotsModel" 50 "FastBallotsModel" "voted" "[I" ∈ tb_W := tb_m3 40 rfl rfl
theorem mk_Mod_53 : Cond.fieldLink "FastBallotsModel" 53 "FastBallotsModel" "heard" "[I" ∈ tb_W := tb_m3 41 rfl rfl
theorem mk_Mod_56 : Cond.fieldLink "FastBallotsModel" 56 "FastBallotsModel" "learned" "[I" ∈ tb_W := tb_m3 42 rfl rfl
theorem mk_Mod_59 : Cond.fieldLink "FastBallotsModel" 59 "FastBallotsModel" "leads" "[I" ∈ tb_W := tb_m3 43 rfl rfl
theorem mk_Mod_62 : Cond.fieldLink "FastBallotsModel" 62 "FastBallotsModel" "phase" "[I" ∈ tb_W := tb_m3 44 rfl rfl
theorem mk_Mod_65 : Cond.fieldLink "FastBallotsModel" 65 "FastBallotsModel" "wanted" "[I" ∈ tb_W := tb_m3 45 rfl rfl
theorem mk_Mod_68 : Cond.fieldLink "FastBallotsModel" 68 "FastBallotsModel" "told" "[Z" ∈ tb_W := tb_m3 46 rfl rfl
theorem mk_Mod_71 : Cond.fieldLink "FastBallotsModel" 71 "FastBallotsModel" "toldValue" "[I" ∈ tb_W := tb_m3 47 rfl rfl
theorem mk_Mod_74 : Cond.fieldLink "FastBallotsModel" 74 "FastBallotsModel" "toldRound" "[I" ∈ tb_W := tb_m3 48 rfl rfl
theorem mk_Law_25 : Cond.methodLink "FastBallotsLaw" 25 my_Mod_propose ∈ tb_W := tb_m3 104 rfl rfl
theorem mk_Mod_101 : Cond.methodLink "FastBallotsModel" 101 my_Mod_isSlot ∈ tb_W := tb_m3 108 rfl rfl
theorem mk_Mod_104 : Cond.methodLink "FastBallotsModel" 104 my_Mod_isValue ∈ tb_W := tb_m3 111 rfl rfl
theorem mk_Mod_107 : Cond.methodLink "FastBallotsModel" 107 my_Mod_sendAll ∈ tb_W := tb_m3 114 rfl rfl
theorem mk_Mod_97 : Cond.methodLink "FastBallotsModel" 97 my_Mod_send ∈ tb_W := tb_m3 118 rfl rfl
theorem mk_Law_29 : Cond.methodLink "FastBallotsLaw" 29 my_Mod_begin ∈ tb_W := tb_m3 122 rfl rfl
theorem mk_Mod_111 : Cond.methodLink "FastBallotsModel" 111 my_Mod_isRound ∈ tb_W := tb_m3 126 rfl rfl
theorem mk_Mod_114 : Cond.methodLink "FastBallotsModel" 114 my_Mod_coordinatorOf ∈ tb_W := tb_m3 129 rfl rfl
theorem mk_Mod_118 : Cond.methodLink "FastBallotsModel" 118 my_Mod_lead ∈ tb_W := tb_m3 132 rfl rfl
theorem mk_Law_34 : Cond.methodLink "FastBallotsLaw" 34 my_Mod_deliver ∈ tb_W := tb_m3 136 rfl rfl
theorem mk_Mod_122 : Cond.methodLink "FastBallotsModel" 122 my_Mod_isMessage ∈ tb_W := tb_m3 140 rfl rfl
theorem mk_Mod_125 : Cond.methodLink "FastBallotsModel" 125 my_Mod_takeOut ∈ tb_W := tb_m3 144 rfl rfl
theorem mk_Mod_129 : Cond.methodLink "FastBallotsModel" 129 my_Mod_accept ∈ tb_W := tb_m3 148 rfl rfl
theorem mk_Mod_142 : Cond.methodLink "FastBallotsModel" 142 my_Mod_casts ∈ tb_W := tb_m3 152 rfl rfl
theorem mk_Mod_133 : Cond.methodLink "FastBallotsModel" 133 my_Mod_coordinate ∈ tb_W := tb_m3 156 rfl rfl
theorem mk_Mod_156 : Cond.methodLink "FastBallotsModel" 156 my_Mod_voteFor ∈ tb_W := tb_m3 160 rfl rfl
theorem mk_Mod_159 : Cond.methodLink "FastBallotsModel" 159 my_Mod_tell ∈ tb_W := tb_m3 164 rfl rfl
theorem mk_Mod_149 : Cond.methodLink "FastBallotsModel" 149 my_Mod_tellers ∈ tb_W := tb_m3 168 rfl rfl
theorem mk_Mod_162 : Cond.methodLink "FastBallotsModel" 162 my_Mod_go ∈ tb_W := tb_m3 172 rfl rfl
theorem mk_Mod_169 : Cond.methodLink "FastBallotsModel" 169 my_Mod_pick ∈ tb_W := tb_m3 176 rfl rfl
theorem mk_Mod_87 : Cond.methodLink "FastBallotsModel" 87 my_Mod_isFast ∈ tb_W := tb_m3 180 rfl rfl
theorem mk_Mod_145 : Cond.methodLink "FastBallotsModel" 145 my_Mod_toldFor ∈ tb_W := tb_m3 183 rfl rfl
theorem mk_Mod_152 : Cond.methodLink "FastBallotsModel" 152 my_Mod_leastTold ∈ tb_W := tb_m3 187 rfl rfl
theorem mk_Mod_166 : Cond.methodLink "FastBallotsModel" 166 my_Mod_recover ∈ tb_W := tb_m3 191 rfl rfl
theorem mk_Mod_136 : Cond.methodLink "FastBallotsModel" 136 my_Mod_learn ∈ tb_W := tb_m3 195 rfl rfl
theorem mk_Mod_172 : Cond.methodLink "FastBallotsModel" 172 my_Mod_inRow ∈ tb_W := tb_m3 199 rfl rfl
theorem mk_Mod_176 : Cond.methodLink "FastBallotsModel" 176 my_Mod_enough ∈ tb_W := tb_m3 202 rfl rfl
theorem mk_Law_39 : Cond.methodLink "FastBallotsLaw" 39 my_Mod_drop ∈ tb_W := tb_m3 206 rfl rfl
theorem mk_Law_44 : Cond.methodLink "FastBallotsLaw" 44 my_Mod_halt ∈ tb_W := tb_m3 210 rfl rfl
theorem mk_Mod_139 : Cond.methodLink "FastBallotsModel" 139 my_Mod_isAcceptor ∈ tb_W := tb_m3 214 rfl rfl
theorem mk_Law_85 : Cond.methodLink "FastBallotsLaw" 85 my_Mod_learned ∈ tb_W := tb_m3 218 rfl rfl
theorem mk_Law_89 : Cond.methodLink "FastBallotsLaw" 89 my_Mod_chosen ∈ tb_W := tb_m3 222 rfl rfl
theorem mk_Law_94 : Cond.methodLink "FastBallotsLaw" 94 my_Mod_votes ∈ tb_W := tb_m3 226 rfl rfl
theorem mk_Law_49 : Cond.methodLink "FastBallotsLaw" 49 my_Mod_waiting ∈ tb_W := tb_m3 230 rfl rfl
theorem mk_Law_53 : Cond.methodLink "FastBallotsLaw" 53 my_Mod_lost ∈ tb_W := tb_m3 234 rfl rfl
theorem mk_Law_57 : Cond.methodLink "FastBallotsLaw" 57 my_Mod_message ∈ tb_W := tb_m3 238 rfl rfl
theorem mk_Law_61 : Cond.methodLink "FastBallotsLaw" 61 my_Mod_value ∈ tb_W := tb_m4 3 rfl rfl
theorem mk_Law_65 : Cond.methodLink "FastBallotsLaw" 65 my_Mod_round ∈ tb_W := tb_m4 7 rfl rfl
theorem mk_Law_69 : Cond.methodLink "FastBallotsLaw" 69 my_Mod_vote ∈ tb_W := tb_m4 11 rfl rfl
theorem mk_Law_73 : Cond.methodLink "FastBallotsLaw" 73 my_Mod_voteRound ∈ tb_W := tb_m4 15 rfl rfl
theorem mk_Law_77 : Cond.methodLink "FastBallotsLaw" 77 my_Mod_leads ∈ tb_W := tb_m4 19 rfl rfl
theorem mk_Mod_180 : Cond.methodLink "FastBallotsModel" 180 my_Mod_isCoordinator ∈ tb_W := tb_m4 23 rfl rfl
theorem mk_Law_81 : Cond.methodLink "FastBallotsLaw" 81 my_Mod_phase ∈ tb_W := tb_m4 26 rfl rfl
theorem mk_Law_98 : Cond.methodLink "FastBallotsLaw" 98 my_Mod_size ∈ tb_W := tb_m4 30 rfl rfl
def tb_nl : List (String × Nat × MethodName × String) := [("FastBallots", 20, my_Mail_init, "FastBallots"), ("FastBallots$Mail", 15, my_Msg_init, "FastBallots"), ("FastBallots$Sizes", 34, my_FB_isFast, "FastBallots"), ("FastBallots$Coordinator", 103, my_FB_isFast, "FastBallots"), ("FastBallots$Acceptor", 67, my_FB_coordinatorOf, "FastBallots")]
theorem mk_Mail_58 : Cond.constant "FastBallots$Mail" 58 (100000 : Int32) ∈ tb_W := tb_m2 207 rfl rfl
theorem mk_Mod_179 : Cond.constant "FastBallotsModel" 179 (100000 : Int32) ∈ tb_W := tb_m4 2 rfl rfl
end
section
/-! The world of the program: what its cells hold, by number; words as every walk wants them. -/
def fb_ids (n : Nat) : List (Nat × Nat) := [(0, 0), (1, 0), (2, 0), (3, 0), (4, 0), (5, 0), (6, 0)] ++ ((List.range 3).flatMap (fun s => [(7, s), (8, s)]) ++ ((List.range 6).flatMap (fun i => [(9, i), (10, i), (11, i), (12, i), (13, i), (14, i)]) ++ ((List.range 15).filter (fun i => decide (i % 5 < n))).map (fun i => (15, i))))
theorem fb_in0 (n : Nat) : (0, 0) ∈ fb_ids n := List.mem_append_left _ (by decide)
theorem fb_in1 (n : Nat) : (1, 0) ∈ fb_ids n := List.mem_append_left _ (by decide)
theorem fb_in2 (n : Nat) : (2, 0) ∈ fb_ids n := List.mem_append_left _ (by decide)
theorem fb_in3 (n : Nat) : (3, 0) ∈ fb_ids n := List.mem_append_left _ (by decide)
theorem fb_in4 (n : Nat) : (4, 0) ∈ fb_ids n := List.mem_append_left _ (by decide)
theorem fb_in5 (n : Nat) : (5, 0) ∈ fb_ids n := List.mem_append_left _ (by decide)
theorem fb_in6 (n : Nat) : (6, 0) ∈ fb_ids n := List.mem_append_left _ (by decide)
theorem fb_in7 (n : Nat) {s : Nat} (hs : s < 3) : (7, s) ∈ fb_ids n := List.mem_append_right _ (List.mem_append_left _ (List.mem_flatMap.mpr ⟨s, List.mem_range.mpr hs, by simp⟩))
theorem fb_in8 (n : Nat) {s : Nat} (hs : s < 3) : (8, s) ∈ fb_ids n := List.mem_append_right _ (List.mem_append_left _ (List.mem_flatMap.mpr ⟨s, List.mem_range.mpr hs, by simp⟩))
theorem fb_in9 (n : Nat) {s c : Nat} (hs : s < 3) (hc : c < 2) : (9, 2 * s + c) ∈ fb_ids n := List.mem_append_right _ (List.mem_append_right _ (List.mem_append_left _ (List.mem_flatMap.mpr ⟨2 * s + c, List.mem_range.mpr (by omega), by simp⟩)))
theorem fb_in10 (n : Nat) {s c : Nat} (hs : s < 3) (hc : c < 2) : (10, 2 * s + c) ∈ fb_ids n := List.mem_append_right _ (List.mem_append_right _ (List.mem_append_left _ (List.mem_flatMap.mpr ⟨2 * s + c, List.mem_range.mpr (by omega), by simp⟩)))
theorem fb_in11 (n : Nat) {s c : Nat} (hs : s < 3) (hc : c < 2) : (11, 2 * s + c) ∈ fb_ids n := List.mem_append_right _ (List.mem_append_right _ (List.mem_append_left _ (List.mem_flatMap.mpr ⟨2 * s + c, List.mem_range.mpr (by omega), by simp⟩)))
theorem fb_in12 (n : Nat) {s c : Nat} (hs : s < 3) (hc : c < 2) : (12, 2 * s + c) ∈ fb_ids n := List.mem_append_right _ (List.mem_append_right _ (List.mem_append_left _ (List.mem_flatMap.mpr ⟨2 * s + c, List.mem_range.mpr (by omega), by simp⟩)))
theorem fb_in13 (n : Nat) {s c : Nat} (hs : s < 3) (hc : c < 2) : (13, 2 * s + c) ∈ fb_ids n := List.mem_append_right _ (List.mem_append_right _ (List.mem_append_left _ (List.mem_flatMap.mpr ⟨2 * s + c, List.mem_range.mpr (by omega), by simp⟩)))
theorem fb_in14 (n : Nat) {s c : Nat} (hs : s < 3) (hc : c < 2) : (14, 2 * s + c) ∈ fb_ids n := List.mem_append_right _ (List.mem_append_right _ (List.mem_append_left _ (List.mem_flatMap.mpr ⟨2 * s + c, List.mem_range.mpr (by omega), by simp⟩)))
theorem fb_in15 {n : Nat} (hn : n ≤ 5) {s a : Nat} (hs : s < 3) (ha : a < n) : (15, 5 * s + a) ∈ fb_ids n := List.mem_append_right _ (List.mem_append_right _ (List.mem_append_right _ (List.mem_map.mpr ⟨5 * s + a, List.mem_filter.mpr ⟨List.mem_range.mpr (by omega), decide_eq_true (by omega)⟩, rfl⟩)))
def fb_k (n : Nat) (ad : Nat × Nat → Nat) (cI cZ cS cA : ClassId) : Nat × Nat → (Nat → Int32) → va_E := fun k g => match k with
  | (0, _) => .inr (0, [.ref (ad (1, 0)), .ref (ad (2, 0)), .ref (ad (3, 0)), .ref (ad (4, 0))])
  | (1, _) => .inr (1, [.int (g 0), .int (g 1), .int (g 2)])
  | (2, _) => .inr (2, [.ref (ad (5, 0)), .ref (ad (6, 0)), .int (g 2), .int (g 3)])
  | (3, _) => .inl (cS, 3, .inr (.inr (.inr (.inr (fun j => some (ad (7, j)))))))
  | (4, _) => .inl (cZ, 11, .inl g)
  | (5, _) => .inl (cI, 420, .inl g)
  | (6, _) => .inr (3, [.int (g 0), .int (g 1), .int (g 2), .int (g 3), .int (g 4), .int (g 5), .int (g 6)])
  | (7, i) => .inr (4, [.ref (ad (8, i)), .ref (ad (9, 2 * i + 0)), .ref (ad (9, 2 * i + 1)), .ref (ad (13, 2 * i + 0)), .ref (ad (13, 2 * i + 1))])
  | (8, i) => .inl (cA, n, .inr (.inr (.inr (.inr (fun j => some (ad (15, 5 * i + j)))))))
  | (9, i) => .inr (5, [.int (g 0), .ref (ad (1, 0)), .ref (ad (2, 0)), .int (g 3), .int (g 4), .int (g 5), .ref (ad (10, i)), .ref (ad (11, i)), .ref (ad (12, i)), .int (g 9)])
  | (10, _) => .inl (cZ, n, .inl g)
  | (11, _) => .inl (cI, n, .inl g)
  | (12, _) => .inl (cI, n, .inl g)
  | (13, i) => .inr (6, [.ref (ad (1, 0)), .ref (ad (14, i)), .int (g 2)])
  | (14, _) => .inl (cI, 13 * n, .inl g)
  | (15, i) => .inr (7, [.int (g 0), .int (g 1), .ref (ad (2, 0)), .ref (ad (13, 2 * (i / 5) + 0)), .int (g 4), .int (g 5), .int (g 6), .int (g 7), .int (g 8)])
  | _ => .inr (0, [])
def fb_f0 (ad : Nat × Nat → Nat) (g : Nat → Int32) : List Value := [.ref (ad (1, 0)), .ref (ad (2, 0)), .ref (ad (3, 0)), .ref (ad (4, 0))]
theorem fb_e0 (n : Nat) (ad : Nat × Nat → Nat) (cI cZ cS cA : ClassId) (g : Nat → Int32) : fb_k n ad cI cZ cS cA (0, 0) g = .inr (0, fb_f0 ad g) := rfl
def fb_f1 (ad : Nat × Nat → Nat) (g : Nat → Int32) : List Value := [.int (g 0), .int (g 1), .int (g 2)]
theorem fb_e1 (n : Nat) (ad : Nat × Nat → Nat) (cI cZ cS cA : ClassId) (g : Nat → Int32) : fb_k n ad cI cZ cS cA (1, 0) g = .inr (1, fb_f1 ad g) := rfl
theorem fb_s1_0 (ad : Nat × Nat → Nat) (v : Int32) (g : Nat → Int32) : 0 < (fb_f1 ad g).length ∧ (fb_f1 ad g).set 0 (.int v) = fb_f1 ad (upd g 0 v) := ⟨by simp [fb_f1], by simp [fb_f1, upd]⟩
theorem fb_s1_1 (ad : Nat × Nat → Nat) (v : Int32) (g : Nat → Int32) : 1 < (fb_f1 ad g).length ∧ (fb_f1 ad g).set 1 (.int v) = fb_f1 ad (upd g 1 v) := ⟨by simp [fb_f1], by simp [fb_f1, upd]⟩
theorem fb_s1_2 (ad : Nat × Nat → Nat) (v : Int32) (g : Nat → Int32) : 2 < (fb_f1 ad g).length ∧ (fb_f1 ad g).set 2 (.int v) = fb_f1 ad (upd g 2 v) := ⟨by simp [fb_f1], by simp [fb_f1, upd]⟩
def fb_f2 (ad : Nat × Nat → Nat) (g : Nat → Int32) : List Value := [.ref (ad (5, 0)), .ref (ad (6, 0)), .int (g 2), .int (g 3)]
theorem fb_e2 (n : Nat) (ad : Nat × Nat → Nat) (cI cZ cS cA : ClassId) (g : Nat → Int32) : fb_k n ad cI cZ cS cA (2, 0) g = .inr (2, fb_f2 ad g) := rfl
theorem fb_s2_2 (ad : Nat × Nat → Nat) (v : Int32) (g : Nat → Int32) : 2 < (fb_f2 ad g).length ∧ (fb_f2 ad g).set 2 (.int v) = fb_f2 ad (upd g 2 v) := ⟨by simp [fb_f2], by simp [fb_f2, upd]⟩
theorem fb_s2_3 (ad : Nat × Nat → Nat) (v : Int32) (g : Nat → Int32) : 3 < (fb_f2 ad g).length ∧ (fb_f2 ad g).set 3 (.int v) = fb_f2 ad (upd g 3 v) := ⟨by simp [fb_f2], by simp [fb_f2, upd]⟩
theorem fb_e3 (n : Nat) (ad : Nat × Nat → Nat) (cI cZ cS cA : ClassId) (g : Nat → Int32) : fb_k n ad cI cZ cS cA (3, 0) g = .inl (cS, 3, .inr (.inr (.inr (.inr (fun j => some (ad (7, j))))))) := rfl
theorem fb_e4 (n : Nat) (ad : Nat × Nat → Nat) (cI cZ cS cA : ClassId) (g : Nat → Int32) : fb_k n ad cI cZ cS cA (4, 0) g = .inl (cZ, 11, .inl g) := rfl
theorem fb_e5 (n : Nat) (ad : Nat × Nat → Nat) (cI cZ cS cA : ClassId) (g : Nat → Int32) : fb_k n ad cI cZ cS cA (5, 0) g = .inl (cI, 420, .inl g) := rfl
def fb_f6 (ad : Nat × Nat → Nat) (g : Nat → Int32) : List Value := [.int (g 0), .int (g 1), .int (g 2), .int (g 3), .int (g 4), .int (g 5), .int (g 6)]
theorem fb_e6 (n : Nat) (ad : Nat × Nat → Nat) (cI cZ cS cA : ClassId) (g : Nat → Int32) : fb_k n ad cI cZ cS cA (6, 0) g = .inr (3, fb_f6 ad g) := rfl
theorem fb_s6_0 (ad : Nat × Nat → Nat) (v : Int32) (g : Nat → Int32) : 0 < (fb_f6 ad g).length ∧ (fb_f6 ad g).set 0 (.int v) = fb_f6 ad (upd g 0 v) := ⟨by simp [fb_f6], by simp [fb_f6, upd]⟩
theorem fb_s6_1 (ad : Nat × Nat → Nat) (v : Int32) (g : Nat → Int32) : 1 < (fb_f6 ad g).length ∧ (fb_f6 ad g).set 1 (.int v) = fb_f6 ad (upd g 1 v) := ⟨by simp [fb_f6], by simp [fb_f6, upd]⟩
theorem fb_s6_2 (ad : Nat × Nat → Nat) (v : Int32) (g : Nat → Int32) : 2 < (fb_f6 ad g).length ∧ (fb_f6 ad g).set 2 (.int v) = fb_f6 ad (upd g 2 v) := ⟨by simp [fb_f6], by simp [fb_f6, upd]⟩
theorem fb_s6_3 (ad : Nat × Nat → Nat) (v : Int32) (g : Nat → Int32) : 3 < (fb_f6 ad g).length ∧ (fb_f6 ad g).set 3 (.int v) = fb_f6 ad (upd g 3 v) := ⟨by simp [fb_f6], by simp [fb_f6, upd]⟩
theorem fb_s6_4 (ad : Nat × Nat → Nat) (v : Int32) (g : Nat → Int32) : 4 < (fb_f6 ad g).length ∧ (fb_f6 ad g).set 4 (.int v) = fb_f6 ad (upd g 4 v) := ⟨by simp [fb_f6], by simp [fb_f6, upd]⟩
theorem fb_s6_5 (ad : Nat × Nat → Nat) (v : Int32) (g : Nat → Int32) : 5 < (fb_f6 ad g).length ∧ (fb_f6 ad g).set 5 (.int v) = fb_f6 ad (upd g 5 v) := ⟨by simp [fb_f6], by simp [fb_f6, upd]⟩
theorem fb_s6_6 (ad : Nat × Nat → Nat) (v : Int32) (g : Nat → Int32) : 6 < (fb_f6 ad g).length ∧ (fb_f6 ad g).set 6 (.int v) = fb_f6 ad (upd g 6 v) := ⟨by simp [fb_f6], by simp [fb_f6, upd]⟩
def fb_f7 (ad : Nat × Nat → Nat) (i : Nat) (g : Nat → Int32) : List Value := [.ref (ad (8, i)), .ref (ad (9, 2 * i + 0)), .ref (ad (9, 2 * i + 1)), .ref (ad (13, 2 * i + 0)), .ref (ad (13, 2 * i + 1))]
theorem fb_e7 (n : Nat) (ad : Nat × Nat → Nat) (cI cZ cS cA : ClassId) (i : Nat) (g : Nat → Int32) : fb_k n ad cI cZ cS cA (7, i) g = .inr (4, fb_f7 ad i g) := rfl
theorem fb_e8 (n : Nat) (ad : Nat × Nat → Nat) (cI cZ cS cA : ClassId) (i : Nat) (g : Nat → Int32) : fb_k n ad cI cZ cS cA (8, i) g = .inl (cA, n, .inr (.inr (.inr (.inr (fun j => some (ad (15, 5 * i + j))))))) := rfl
def fb_f9 (ad : Nat × Nat → Nat) (i : Nat) (g : Nat → Int32) : List Value := [.int (g 0), .ref (ad (1, 0)), .ref (ad (2, 0)), .int (g 3), .int (g 4), .int (g 5), .ref (ad (10, i)), .ref (ad (11, i)), .ref (ad (12, i)), .int (g 9)]
theorem fb_e9 (n : Nat) (ad : Nat × Nat → Nat) (cI cZ cS cA : ClassId) (i : Nat) (g : Nat → Int32) : fb_k n ad cI cZ cS cA (9, i) g = .inr (5, fb_f9 ad i g) := rfl
theorem fb_s9_0 (ad : Nat × Nat → Nat) (i : Nat) (v : Int32) (g : Nat → Int32) : 0 < (fb_f9 ad i g).length ∧ (fb_f9 ad i g).set 0 (.int v) = fb_f9 ad i (upd g 0 v) := ⟨by simp [fb_f9], by simp [fb_f9, upd]⟩
theorem fb_s9_3 (ad : Nat × Nat → Nat) (i : Nat) (v : Int32) (g : Nat → Int32) : 3 < (fb_f9 ad i g).length ∧ (fb_f9 ad i g).set 3 (.int v) = fb_f9 ad i (upd g 3 v) := ⟨by simp [fb_f9], by simp [fb_f9, upd]⟩
theorem fb_s9_4 (ad : Nat × Nat → Nat) (i : Nat) (v : Int32) (g : Nat → Int32) : 4 < (fb_f9 ad i g).length ∧ (fb_f9 ad i g).set 4 (.int v) = fb_f9 ad i (upd g 4 v) := ⟨by simp [fb_f9], by simp [fb_f9, upd]⟩
theorem fb_s9_5 (ad : Nat × Nat → Nat) (i : Nat) (v : Int32) (g : Nat → Int32) : 5 < (fb_f9 ad i g).length ∧ (fb_f9 ad i g).set 5 (.int v) = fb_f9 ad i (upd g 5 v) := ⟨by simp [fb_f9], by simp [fb_f9, upd]⟩
theorem fb_s9_9 (ad : Nat × Nat → Nat) (i : Nat) (v : Int32) (g : Nat → Int32) : 9 < (fb_f9 ad i g).length ∧ (fb_f9 ad i g).set 9 (.int v) = fb_f9 ad i (upd g 9 v) := ⟨by simp [fb_f9], by simp [fb_f9, upd]⟩
theorem fb_e10 (n : Nat) (ad : Nat × Nat → Nat) (cI cZ cS cA : ClassId) (i : Nat) (g : Nat → Int32) : fb_k n ad cI cZ cS cA (10, i) g = .inl (cZ, n, .inl g) := rfl
theorem fb_e11 (n : Nat) (ad : Nat × Nat → Nat) (cI cZ cS cA : ClassId) (i : Nat) (g : Nat → Int32) : fb_k n ad cI cZ cS cA (11, i) g = .inl (cI, n, .inl g) := rfl
theorem fb_e12 (n : Nat) (ad : Nat × Nat → Nat) (cI cZ cS cA : ClassId) (i : Nat) (g : Nat → Int32) : fb_k n ad cI cZ cS cA (12, i) g = .inl (cI, n, .inl g) := rfl
def fb_f13 (ad : Nat × Nat → Nat) (i : Nat) (g : Nat → Int32) : List Value := [.ref (ad (1, 0)), .ref (ad (14, i)), .int (g 2)]
theorem fb_e13 (n : Nat) (ad : Nat × Nat → Nat) (cI cZ cS cA : ClassId) (i : Nat) (g : Nat → Int32) : fb_k n ad cI cZ cS cA (13, i) g = .inr (6, fb_f13 ad i g) := rfl
theorem fb_s13_2 (ad : Nat × Nat → Nat) (i : Nat) (v : Int32) (g : Nat → Int32) : 2 < (fb_f13 ad i g).length ∧ (fb_f13 ad i g).set 2 (.int v) = fb_f13 ad i (upd g 2 v) := ⟨by simp [fb_f13], by simp [fb_f13, upd]⟩
theorem fb_e14 (n : Nat) (ad : Nat × Nat → Nat) (cI cZ cS cA : ClassId) (i : Nat) (g : Nat → Int32) : fb_k n ad cI cZ cS cA (14, i) g = .inl (cI, 13 * n, .inl g) := rfl
def fb_f15 (ad : Nat × Nat → Nat) (i : Nat) (g : Nat → Int32) : List Value := [.int (g 0), .int (g 1), .ref (ad (2, 0)), .ref (ad (13, 2 * (i / 5) + 0)), .int (g 4), .int (g 5), .int (g 6), .int (g 7), .int (g 8)]
theorem fb_e15 (n : Nat) (ad : Nat × Nat → Nat) (cI cZ cS cA : ClassId) (i : Nat) (g : Nat → Int32) : fb_k n ad cI cZ cS cA (15, i) g = .inr (7, fb_f15 ad i g) := rfl
theorem fb_s15_0 (ad : Nat × Nat → Nat) (i : Nat) (v : Int32) (g : Nat → Int32) : 0 < (fb_f15 ad i g).length ∧ (fb_f15 ad i g).set 0 (.int v) = fb_f15 ad i (upd g 0 v) := ⟨by simp [fb_f15], by simp [fb_f15, upd]⟩
theorem fb_s15_1 (ad : Nat × Nat → Nat) (i : Nat) (v : Int32) (g : Nat → Int32) : 1 < (fb_f15 ad i g).length ∧ (fb_f15 ad i g).set 1 (.int v) = fb_f15 ad i (upd g 1 v) := ⟨by simp [fb_f15], by simp [fb_f15, upd]⟩
theorem fb_s15_4 (ad : Nat × Nat → Nat) (i : Nat) (v : Int32) (g : Nat → Int32) : 4 < (fb_f15 ad i g).length ∧ (fb_f15 ad i g).set 4 (.int v) = fb_f15 ad i (upd g 4 v) := ⟨by simp [fb_f15], by simp [fb_f15, upd]⟩
theorem fb_s15_5 (ad : Nat × Nat → Nat) (i : Nat) (v : Int32) (g : Nat → Int32) : 5 < (fb_f15 ad i g).length ∧ (fb_f15 ad i g).set 5 (.int v) = fb_f15 ad i (upd g 5 v) := ⟨by simp [fb_f15], by simp [fb_f15, upd]⟩
theorem fb_s15_6 (ad : Nat × Nat → Nat) (i : Nat) (v : Int32) (g : Nat → Int32) : 6 < (fb_f15 ad i g).length ∧ (fb_f15 ad i g).set 6 (.int v) = fb_f15 ad i (upd g 6 v) := ⟨by simp [fb_f15], by simp [fb_f15, upd]⟩
theorem fb_s15_7 (ad : Nat × Nat → Nat) (i : Nat) (v : Int32) (g : Nat → Int32) : 7 < (fb_f15 ad i g).length ∧ (fb_f15 ad i g).set 7 (.int v) = fb_f15 ad i (upd g 7 v) := ⟨by simp [fb_f15], by simp [fb_f15, upd]⟩
theorem fb_s15_8 (ad : Nat × Nat → Nat) (i : Nat) (v : Int32) (g : Nat → Int32) : 8 < (fb_f15 ad i g).length ∧ (fb_f15 ad i g).set 8 (.int v) = fb_f15 ad i (upd g 8 v) := ⟨by simp [fb_f15], by simp [fb_f15, upd]⟩
abbrev fb_ty (cI cZ cS cA : ClassId) : List (ClassId × FieldType) := [(cI, .int), (cZ, .boolean), (cS, .object tb_RSlt), (cA, .object tb_RAcc)]
/-- a contract of a method of the program -/
def fb_C (l : Launch) (D : va_G) (n : Nat) (ad : Nat × Nat → Nat) (cI cZ cS cA : ClassId) (y : MethodName) (b : ByteArray) (mL : Nat) (ret : Option FieldType) (fr lo : Nat) (M : fr_M) (av : List Value) (r : Option Value) (Pm : fr_M → Prop) : Prop :=
  Met l y (Cond.code y b mL ret :: tb_W) { frames := fr, cells := 0, slots := 0, locals := lo } (xw_Pc D tb_cl (fb_ty cI cZ cS cA) (fb_ids n) ad (fb_k n ad cI cZ cS cA) tb_nl M av) (xw_Qc D tb_cl (fb_ids n) ad (fb_k n ad cI cZ cS cA) r Pm) 0 0 (xw_A (fb_ids n) ad)
section XB
variable {p : Program} {l : Launch} {e : Env} {R : Room} {s : State} {m : MethodId} {args : Array Value} {below : List Frame} {meth : Method} {c : Code} {H : Heap} {locs : List Loc} {cells slots : Nat} {Q : State → Prop}
variable {cc : ByteArray} {pc : Nat} {ls : Array Slot} {rest : List Value} {D : va_G} {cl : List vw_C} {A : Nat → Prop} {tys : List (ClassId × FieldType)} {H0 : Heap} {tb : List Cond} {cd : Cond} {own : String}
variable {ids : List (Nat × Nat)} {ad : Nat × Nat → Nat} {cf : Nat × Nat → va_E} {xk : Nat × Nat → (Nat → Int32) → va_E} {M : Nat × Nat → Nat → Int32}
theorem xb_get (Z : xw_Z p c cc s args m own (cd :: tb) D cl tys) (hw : xw_H D cl A H0 ids ad (xw_M xk M) H locs) {k : Nat × Nat} (hk : k ∈ ids) {ci : Nat} {fs : (Nat → Int32) → List Value} (he : ∀ g, xk k g = .inr (ci, fs g)) {C : String} {T : u_T} {N : Nat} (hc : cl[ci]? = some (C, T, N)) (hin : ∀ w ∈ u_ws C T N, w ∈ tb) (j : Nat) (hj : j < N) {index : Nat} (hl : Cond.fieldLink own index C (T j).2.1 (T j).2.2.1 ∈ tb) (hT : (T j).1 = C) {v : Value} (hv : (fs (M k))[j]? = some v) (hdg : decode cc pc = .ok (.getfield index, 3))
    (kk : W p l e R s m args below meth c H locs cells slots Q (F0 m (pc + 3) ls (v :: rest))) : W p l e R s m args below meth c H locs cells slots Q (F0 m pc ls (.ref (ad k) :: rest)) :=
  xw_get Z hw hk (he (M k)) hc (fun w h => List.mem_cons_of_mem _ (hin w h)) j hj (List.mem_cons_of_mem _ hl) hT hv hdg kk
theorem xb_put (Z : xw_Z p c cc s args m own (cd :: tb) D cl tys) (hw : xw_H D cl A H0 ids ad (xw_M xk M) H locs) {k : Nat × Nat} (hk : k ∈ ids) {ci : Nat} {fs : (Nat → Int32) → List Value} (he : ∀ g, xk k g = .inr (ci, fs g)) {C : String} {T : u_T} {N : Nat} (hc : cl[ci]? = some (C, T, N)) (hin : ∀ w ∈ u_ws C T N, w ∈ tb) (ty0 : Nat → FieldType) (hty : ∀ k, k < N → parseFieldDescriptor (T k).2.2.1 = some (ty0 k)) (hnm : ∀ a, a < N → ∀ b, b < N → a ≠ b → (T a).2.1 ≠ (T b).2.1) (j : Nat) (hj : j < N) {index : Nat} (hl : Cond.fieldLink own index C (T j).2.1 (T j).2.2.1 ∈ tb) (hT : (T j).1 = C) (hfin : (T j).2.2.2 = false) {v : Int32} (hi : ty0 j = .int) (hset : ∀ g : Nat → Int32, j < (fs g).length ∧ (fs g).set j (.int v) = fs (upd g j v)) (hdg : decode cc pc = .ok (.putfield index, 3))
    (kk : ∀ (M1 : Nat × Nat → Nat → Int32) (H1 : Heap) (locs1 : List Loc), M1 = xw_mw M k (upd (M k) j v) → xw_H D cl A H0 ids ad (xw_M xk M1) H1 locs1 → W p l e R s m args below meth c H1 locs1 cells slots Q (F0 m (pc + 3) ls rest)) : W p l e R s m args below meth c H locs cells slots Q (F0 m pc ls (.int v :: .ref (ad k) :: rest)) :=
  xw_puti Z hw hk he hc (fun w h => List.mem_cons_of_mem _ (hin w h)) ty0 hty hnm j hj (List.mem_cons_of_mem _ hl) hT hfin hi hset hdg (fun H1 locs1 h => kk _ H1 locs1 rfl h)
theorem xb_iast (Z : xw_Z p c cc s args m own (cd :: tb) D cl tys) (hw : xw_H D cl A H0 ids ad (xw_M xk M) H locs) {k : Nat × Nat} (hk : k ∈ ids) {cA : ClassId} {N : Nat} (he : ∀ g, xk k g = .inl (cA, N, .inl g)) (t0 : Nat) (ht : tys[t0]? = some (cA, .int)) {i x : Int32} (j : Nat) (hi : i = nI j) (hj : j < N) (hN : N < 2 ^ 31) (hdg : decode cc pc = .ok (.iastore, 1))
    (kk : ∀ (M1 : Nat × Nat → Nat → Int32) (H1 : Heap) (locs1 : List Loc), M1 = xw_mw M k (upd (M k) j x) → xw_H D cl A H0 ids ad (xw_M xk M1) H1 locs1 → W p l e R s m args below meth c H1 locs1 cells slots Q (F0 m (pc + 1) ls rest)) : W p l e R s m args below meth c H locs cells slots Q (F0 m pc ls (.int x :: .int i :: .ref (ad k) :: rest)) :=
  xw_iast Z hw hk he t0 ht j hi hj hN hdg (fun H1 locs1 h => kk _ H1 locs1 rfl h)
theorem xb_zast (Z : xw_Z p c cc s args m own (cd :: tb) D cl tys) (hw : xw_H D cl A H0 ids ad (xw_M xk M) H locs) {k : Nat × Nat} (hk : k ∈ ids) {cA : ClassId} {N : Nat} (he : ∀ g, xk k g = .inl (cA, N, .inl g)) (t0 : Nat) (ht : tys[t0]? = some (cA, .boolean)) {i x : Int32} (hx01 : vp_nar .boolean x = x) (j : Nat) (hi : i = nI j) (hj : j < N) (hN : N < 2 ^ 31) (hdg : decode cc pc = .ok (.bastore, 1))
    (kk : ∀ (M1 : Nat × Nat → Nat → Int32) (H1 : Heap) (locs1 : List Loc), M1 = xw_mw M k (upd (M k) j x) → xw_H D cl A H0 ids ad (xw_M xk M1) H1 locs1 → W p l e R s m args below meth c H1 locs1 cells slots Q (F0 m (pc + 1) ls rest)) : W p l e R s m args below meth c H locs cells slots Q (F0 m pc ls (.int x :: .int i :: .ref (ad k) :: rest)) :=
  xw_zast Z hw hk he t0 ht hx01 j hi hj hN hdg (fun H1 locs1 h => kk _ H1 locs1 rfl h)
end XB
theorem xi_inc1 (a : Nat) : nI a + Int32.ofInt 1 = nI (a + 1) := by rw [lit1]; exact nI_1 a
theorem xi_z0 : vp_nar .boolean (nI 0) = nI 0 := by decide
theorem xi_z1 : vp_nar .boolean (nI 1) = nI 1 := by decide
end
section
/-! More words, and the row of a copy within one array. -/
theorem mk_Mail_52 : Cond.methodLink "FastBallots$Mail" 52 arraycopyName ∈ tb_W := tb_m2 68 rfl rfl
theorem mt_acopy : Cond.static arraycopyName ∈ tb_W := tb_m2 69 rfl rfl
theorem mn_acopy : Cond.native arraycopyName ∈ tb_W := tb_m2 70 rfl rfl
theorem mz_System : Cond.initialized "java/lang/System" ∈ tb_W := tb_m1 11 rfl rfl
theorem mz_Math : Cond.initialized "java/lang/Math" ∈ tb_W := tb_m1 3 rfl rfl
theorem mk_Siz_9 : Cond.methodLink "FastBallots$Sizes" 9 Lib.Math.min.name ∈ tb_W := tb_m1 26 rfl rfl
theorem mt_min : Cond.static Lib.Math.min.name ∈ tb_W := tb_m1 27 rfl rfl
theorem mc_min : Cond.code Lib.Math.min.name Lib.Math.min.code 2 (some .int) ∈ tb_W := tb_m1 28 (by decide +kernel) rfl
theorem mk_Siz_15 : Cond.methodLink "FastBallots$Sizes" 15 Lib.Math.max.name ∈ tb_W := tb_m1 29 rfl rfl
theorem mt_max : Cond.static Lib.Math.max.name ∈ tb_W := tb_m1 30 rfl rfl
theorem mc_max : Cond.code Lib.Math.max.name Lib.Math.max.code 2 (some .int) ∈ tb_W := tb_m1 31 (by decide +kernel) rfl
theorem mk_Cor_135 : Cond.methodLink "FastBallots$Coordinator" 135 Lib.Math.max.name ∈ tb_W := tb_m2 117 rfl rfl
section XD
variable {p : Program} {l : Launch} {e : Env} {R : Room} {s : State} {m : MethodId} {args : Array Value} {below : List Frame} {meth : Method} {c : Code} {H : Heap} {locs : List Loc} {cells slots : Nat} {Q : State → Prop}
variable {cc : ByteArray} {pc : Nat} {ls : Array Slot} {rest : List Value} {D : va_G} {cl : List vw_C} {A : Nat → Prop} {tys : List (ClassId × FieldType)} {H0 : Heap} {cd : Cond} {own : String}
variable {ids : List (Nat × Nat)} {ad : Nat × Nat → Nat} {xk : Nat × Nat → (Nat → Int32) → va_E} {M : Nat × Nat → Nat → Int32}
theorem xb_copy (Z : xw_Z p c cc s args m own (cd :: tb_W) D cl tys) (hml : c.maxLocals = ls.size) (hw : xw_H D cl A H0 ids ad (xw_M xk M) H locs) {k : Nat × Nat} (hk : k ∈ ids) {cA : ClassId} {N : Nat} (he : ∀ g, xk k g = .inl (cA, N, .inl g)) (t0 : Nat) (ht : tys[t0]? = some (cA, .int)) {index : Nat} (hl : Cond.methodLink own index arraycopyName ∈ tb_W) {a b d : Nat} (h1 : a + d ≤ N) (h2 : b + d ≤ N) (hN : N < 2 ^ 31) (hfr : 1 ≤ R.frames) (hlo : (rest.map fun v => v.category).sum + 18 ≤ R.locals) (hdg : decode cc pc = .ok (.invokestatic index, 3))
    (kk : ∀ (M1 : Nat × Nat → Nat → Int32) (H1 : Heap) (locs1 : List Loc), M1 = xw_mw M k (va_cpy (M k) (M k) a b d) → xw_H D cl A H0 ids ad (xw_M xk M1) H1 locs1 → W p l e R s m args below meth c H1 locs1 cells slots Q (F0 m (pc + 3) ls rest)) : W p l e R s m args below meth c H locs cells slots Q (F0 m pc ls (.int (nI d) :: .int (nI b) :: .ref (ad k) :: .int (nI a) :: .ref (ad k) :: rest)) := by
  obtain ⟨hx, hb, hts, hown, hK⟩ := Z
  have T : ∀ w ∈ tb_W, w.before args s = true := fun w h => hts w (List.mem_cons_of_mem _ h)
  obtain ⟨q0, hq⟩ := List.getElem?_of_mem hk
  have hat : (xw_ws ids ad (xw_M xk M))[q0]? = some (ad k, .inl (cA, N, .inl (M k))) := by rw [xw_at hq]; exact congrArg (fun z => some (ad k, z)) (he (M k))
  refine va_copyi (A := A) (H0 := H0) hx hb hml hown (T _ hl) (T _ mn_acopy) (T _ mt_acopy) (T _ mz_System) hK hw.1 hw.2.1 hw.2.2 q0 q0 t0 t0 hat hat ht ht rfl (nI_pos (by omega)) (nI_pos (by omega)) (nI_pos (by omega)) (by rw [nI_clamp (by omega), nI_clamp (by omega)]; exact h1) (by rw [nI_clamp (by omega), nI_clamp (by omega)]; exact h2) (fun _ _ => rfl) hfr hlo hdg (fun H1 locs1 hP hD hS => ?_)
  rw [nI_clamp (by omega), nI_clamp (by omega), nI_clamp (by omega), xw_set hw.2.1 hq, ← he, xw_up_M] at hP hD
  exact kk _ H1 locs1 rfl ⟨hP, hD, hS⟩
end XD
theorem fr_a {n q f : Nat} {S : pz_T} {ex : Nat → Nat → Prop} {M : fr_M} (h : fr_R n q f S ex M) {s a : Nat} (hs : s < 3) (ha : a < n) : M (15, 5 * s + a) 0 = nI a ∧ M (15, 5 * s + a) 1 = nI s ∧ M (15, 5 * s + a) 4 = nI (S.2 s 0 a 0) ∧ M (15, 5 * s + a) 5 = nI (S.2 s 1 a 0) ∧ M (15, 5 * s + a) 6 = nI (S.2 s 2 a 0) ∧ M (15, 5 * s + a) 7 = nI (S.2 s 3 a 0) ∧ M (15, 5 * s + a) 8 = nI (S.2 s 4 a 0) := h.2.2.2.2.2.2.2.2 s a hs ha
theorem fr_c {n q f : Nat} {S : pz_T} {ex : Nat → Nat → Prop} {M : fr_M} (h : fr_R n q f S ex M) {s c : Nat} (hs : s < 3) (hc : c < 2) : M (9, 2 * s + c) 0 = nI s ∧ M (9, 2 * s + c) 3 = nI (S.2 s 8 c 0) ∧ M (9, 2 * s + c) 4 = nI (S.2 s 9 c 0) ∧ M (9, 2 * s + c) 5 = nI (S.2 s 10 c 0) := h.2.2.2.2.1 s c hs hc
theorem fr_t {n q f : Nat} {S : pz_T} {ex : Nat → Nat → Prop} {M : fr_M} (h : fr_R n q f S ex M) {s c : Nat} (hs : s < 3) (hc : c < 2) (hx : ¬ ex s c) : M (9, 2 * s + c) 9 = nI (pz_te n (S.2 s) c) ∧ ∀ a, a < n → M (10, 2 * s + c) a = nI (S.2 s 11 c a) ∧ (S.2 s 11 c a ≠ 0 → M (11, 2 * s + c) a = nI (S.2 s 12 c a) ∧ M (12, 2 * s + c) a = nI (S.2 s 13 c a)) := h.2.2.2.2.2.1 s c hs hc hx
theorem fr_s {n q f : Nat} {S : pz_T} {ex : Nat → Nat → Prop} {M : fr_M} (h : fr_R n q f S ex M) {s : Nat} (hs : s < 3) : M (13, 2 * s) 2 = nI (S.2 s 16 0 0) ∧ M (13, 2 * s + 1) 2 = nI (S.2 s 7 0 0) := h.2.2.2.2.2.2.1 s hs
theorem fr_v {n q f : Nat} {S : pz_T} {ex : Nat → Nat → Prop} {M : fr_M} (h : fr_R n q f S ex M) {s r a : Nat} (hs : s < 3) (hr : r ≤ 12) (ha : a < n) : M (14, 2 * s) (r * n + a) = nI (S.2 s 5 r a) ∧ M (14, 2 * s + 1) (r * n + a) = nI (S.2 s 6 r a) := h.2.2.2.2.2.2.2.1 s r a hs hr ha
theorem fr_len {S : pz_T} {s : Nat} {p : pz_P} : (pz_pw S s p).1 = S.1 := rfl
theorem fr_sd_len {S : pz_T} {g : pz_M} (h : S.1.length ≤ 60) : (pz_sd S g).1.length ≤ 60 := by
  unfold pz_sd
  split
  · simp; omega
  · exact h
end
section
/-! The program's small methods: tests of numbers, the mail. -/
def fr_K (n q f : Nat) (S : pz_T) (ex : Nat → Nat → Prop) (M : fr_M) : fr_M → Prop := fun M' => fr_R n q f S ex M' ∧ M' (6, 0) = M (6, 0)
theorem md_FB_isSlot_0 : decode mb_FB_isSlot 0 = .ok (.iload_n 0, 1) := by decide +kernel
theorem md_FB_isSlot_1 : decode mb_FB_isSlot 1 = .ok (.ifCond .lt 12, 3) := by decide +kernel
theorem md_FB_isSlot_4 : decode mb_FB_isSlot 4 = .ok (.iload_n 0, 1) := by decide +kernel
theorem md_FB_isSlot_5 : decode mb_FB_isSlot 5 = .ok (.iconst 3, 1) := by decide +kernel
theorem md_FB_isSlot_6 : decode mb_FB_isSlot 6 = .ok (.if_icmp .ge 7, 3) := by decide +kernel
theorem md_FB_isSlot_9 : decode mb_FB_isSlot 9 = .ok (.iconst 1, 1) := by decide +kernel
theorem md_FB_isSlot_10 : decode mb_FB_isSlot 10 = .ok (.goto 4, 3) := by decide +kernel
theorem md_FB_isSlot_13 : decode mb_FB_isSlot 13 = .ok (.iconst 0, 1) := by decide +kernel
theorem md_FB_isSlot_14 : decode mb_FB_isSlot 14 = .ok (.ireturn, 1) := by decide +kernel
theorem md_FB_isRound_0 : decode mb_FB_isRound 0 = .ok (.iload_n 0, 1) := by decide +kernel
theorem md_FB_isRound_1 : decode mb_FB_isRound 1 = .ok (.iconst 1, 1) := by decide +kernel
theorem md_FB_isRound_2 : decode mb_FB_isRound 2 = .ok (.if_icmp .lt 13, 3) := by decide +kernel
theorem md_FB_isRound_5 : decode mb_FB_isRound 5 = .ok (.iload_n 0, 1) := by decide +kernel
theorem md_FB_isRound_6 : decode mb_FB_isRound 6 = .ok (.bipush 12, 2) := by decide +kernel
theorem md_FB_isRound_8 : decode mb_FB_isRound 8 = .ok (.if_icmp .gt 7, 3) := by decide +kernel
theorem md_FB_isRound_11 : decode mb_FB_isRound 11 = .ok (.iconst 1, 1) := by decide +kernel
theorem md_FB_isRound_12 : decode mb_FB_isRound 12 = .ok (.goto 4, 3) := by decide +kernel
theorem md_FB_isRound_15 : decode mb_FB_isRound 15 = .ok (.iconst 0, 1) := by decide +kernel
theorem md_FB_isRound_16 : decode mb_FB_isRound 16 = .ok (.ireturn, 1) := by decide +kernel
theorem md_FB_isValue_0 : decode mb_FB_isValue 0 = .ok (.iload_n 0, 1) := by decide +kernel
theorem md_FB_isValue_1 : decode mb_FB_isValue 1 = .ok (.iconst 1, 1) := by decide +kernel
theorem md_FB_isValue_2 : decode mb_FB_isValue 2 = .ok (.if_icmp .lt 14, 3) := by decide +kernel
theorem md_FB_isValue_5 : decode mb_FB_isValue 5 = .ok (.iload_n 0, 1) := by decide +kernel
theorem md_FB_isValue_6 : decode mb_FB_isValue 6 = .ok (.sipush 1000, 3) := by decide +kernel
theorem md_FB_isValue_9 : decode mb_FB_isValue 9 = .ok (.if_icmp .gt 7, 3) := by decide +kernel
theorem md_FB_isValue_12 : decode mb_FB_isValue 12 = .ok (.iconst 1, 1) := by decide +kernel
theorem md_FB_isValue_13 : decode mb_FB_isValue 13 = .ok (.goto 4, 3) := by decide +kernel
theorem md_FB_isValue_16 : decode mb_FB_isValue 16 = .ok (.iconst 0, 1) := by decide +kernel
theorem md_FB_isValue_17 : decode mb_FB_isValue 17 = .ok (.ireturn, 1) := by decide +kernel
theorem md_FB_isFast_0 : decode mb_FB_isFast 0 = .ok (.iload_n 0, 1) := by decide +kernel
theorem md_FB_isFast_1 : decode mb_FB_isFast 1 = .ok (.iconst 2, 1) := by decide +kernel
theorem md_FB_isFast_2 : decode mb_FB_isFast 2 = .ok (.irem, 1) := by decide +kernel
theorem md_FB_isFast_3 : decode mb_FB_isFast 3 = .ok (.iconst 1, 1) := by decide +kernel
theorem md_FB_isFast_4 : decode mb_FB_isFast 4 = .ok (.if_icmp .ne 7, 3) := by decide +kernel
theorem md_FB_isFast_7 : decode mb_FB_isFast 7 = .ok (.iconst 1, 1) := by decide +kernel
theorem md_FB_isFast_8 : decode mb_FB_isFast 8 = .ok (.goto 4, 3) := by decide +kernel
theorem md_FB_isFast_11 : decode mb_FB_isFast 11 = .ok (.iconst 0, 1) := by decide +kernel
theorem md_FB_isFast_12 : decode mb_FB_isFast 12 = .ok (.ireturn, 1) := by decide +kernel
theorem md_FB_coordinatorOf_0 : decode mb_FB_coordinatorOf 0 = .ok (.iload_n 0, 1) := by decide +kernel
theorem md_FB_coordinatorOf_1 : decode mb_FB_coordinatorOf 1 = .ok (.iconst 1, 1) := by decide +kernel
theorem md_FB_coordinatorOf_2 : decode mb_FB_coordinatorOf 2 = .ok (.isub, 1) := by decide +kernel
theorem md_FB_coordinatorOf_3 : decode mb_FB_coordinatorOf 3 = .ok (.iconst 2, 1) := by decide +kernel
theorem md_FB_coordinatorOf_4 : decode mb_FB_coordinatorOf 4 = .ok (.idiv, 1) := by decide +kernel
theorem md_FB_coordinatorOf_5 : decode mb_FB_coordinatorOf 5 = .ok (.iconst 2, 1) := by decide +kernel
theorem md_FB_coordinatorOf_6 : decode mb_FB_coordinatorOf 6 = .ok (.irem, 1) := by decide +kernel
theorem md_FB_coordinatorOf_7 : decode mb_FB_coordinatorOf 7 = .ok (.ifCond .ne 8, 3) := by decide +kernel
theorem md_FB_coordinatorOf_10 : decode mb_FB_coordinatorOf 10 = .ok (.bipush 8, 2) := by decide +kernel
theorem md_FB_coordinatorOf_12 : decode mb_FB_coordinatorOf 12 = .ok (.goto 5, 3) := by decide +kernel
theorem md_FB_coordinatorOf_15 : decode mb_FB_coordinatorOf 15 = .ok (.bipush 9, 2) := by decide +kernel
theorem md_FB_coordinatorOf_17 : decode mb_FB_coordinatorOf 17 = .ok (.ireturn, 1) := by decide +kernel
theorem md_FB_isCoordinator_0 : decode mb_FB_isCoordinator 0 = .ok (.iload_n 0, 1) := by decide +kernel
theorem md_FB_isCoordinator_1 : decode mb_FB_isCoordinator 1 = .ok (.bipush 8, 2) := by decide +kernel
theorem md_FB_isCoordinator_3 : decode mb_FB_isCoordinator 3 = .ok (.if_icmp .eq 9, 3) := by decide +kernel
theorem md_FB_isCoordinator_6 : decode mb_FB_isCoordinator 6 = .ok (.iload_n 0, 1) := by decide +kernel
theorem md_FB_isCoordinator_7 : decode mb_FB_isCoordinator 7 = .ok (.bipush 9, 2) := by decide +kernel
theorem md_FB_isCoordinator_9 : decode mb_FB_isCoordinator 9 = .ok (.if_icmp .ne 7, 3) := by decide +kernel
theorem md_FB_isCoordinator_12 : decode mb_FB_isCoordinator 12 = .ok (.iconst 1, 1) := by decide +kernel
theorem md_FB_isCoordinator_13 : decode mb_FB_isCoordinator 13 = .ok (.goto 4, 3) := by decide +kernel
theorem md_FB_isCoordinator_16 : decode mb_FB_isCoordinator 16 = .ok (.iconst 0, 1) := by decide +kernel
theorem md_FB_isCoordinator_17 : decode mb_FB_isCoordinator 17 = .ok (.ireturn, 1) := by decide +kernel
theorem md_FB_isAcceptor_0 : decode mb_FB_isAcceptor 0 = .ok (.iload_n 1, 1) := by decide +kernel
theorem md_FB_isAcceptor_1 : decode mb_FB_isAcceptor 1 = .ok (.ifCond .lt 18, 3) := by decide +kernel
theorem md_FB_isAcceptor_4 : decode mb_FB_isAcceptor 4 = .ok (.iload_n 1, 1) := by decide +kernel
theorem md_FB_isAcceptor_5 : decode mb_FB_isAcceptor 5 = .ok (.aload_n 0, 1) := by decide +kernel
theorem md_FB_isAcceptor_6 : decode mb_FB_isAcceptor 6 = .ok (.getfield 12, 3) := by decide +kernel
theorem md_FB_isAcceptor_9 : decode mb_FB_isAcceptor 9 = .ok (.getfield 45, 3) := by decide +kernel
theorem md_FB_isAcceptor_12 : decode mb_FB_isAcceptor 12 = .ok (.if_icmp .ge 7, 3) := by decide +kernel
theorem md_FB_isAcceptor_15 : decode mb_FB_isAcceptor 15 = .ok (.iconst 1, 1) := by decide +kernel
theorem md_FB_isAcceptor_16 : decode mb_FB_isAcceptor 16 = .ok (.goto 4, 3) := by decide +kernel
theorem md_FB_isAcceptor_19 : decode mb_FB_isAcceptor 19 = .ok (.iconst 0, 1) := by decide +kernel
theorem md_FB_isAcceptor_20 : decode mb_FB_isAcceptor 20 = .ok (.ireturn, 1) := by decide +kernel
theorem md_Mail_has_0 : decode mb_Mail_has 0 = .ok (.iload_n 1, 1) := by decide +kernel
theorem md_Mail_has_1 : decode mb_Mail_has 1 = .ok (.ifCond .lt 15, 3) := by decide +kernel
theorem md_Mail_has_4 : decode mb_Mail_has 4 = .ok (.iload_n 1, 1) := by decide +kernel
theorem md_Mail_has_5 : decode mb_Mail_has 5 = .ok (.aload_n 0, 1) := by decide +kernel
theorem md_Mail_has_6 : decode mb_Mail_has 6 = .ok (.getfield 20, 3) := by decide +kernel
theorem md_Mail_has_9 : decode mb_Mail_has 9 = .ok (.if_icmp .ge 7, 3) := by decide +kernel
theorem md_Mail_has_12 : decode mb_Mail_has 12 = .ok (.iconst 1, 1) := by decide +kernel
theorem md_Mail_has_13 : decode mb_Mail_has 13 = .ok (.goto 4, 3) := by decide +kernel
theorem md_Mail_has_16 : decode mb_Mail_has 16 = .ok (.iconst 0, 1) := by decide +kernel
theorem md_Mail_has_17 : decode mb_Mail_has 17 = .ok (.ireturn, 1) := by decide +kernel
theorem md_Mail_send_0 : decode mb_Mail_send 0 = .ok (.aload_n 0, 1) := by decide +kernel
theorem md_Mail_send_1 : decode mb_Mail_send 1 = .ok (.getfield 20, 3) := by decide +kernel
theorem md_Mail_send_4 : decode mb_Mail_send 4 = .ok (.bipush 60, 2) := by decide +kernel
theorem md_Mail_send_6 : decode mb_Mail_send 6 = .ok (.if_icmp .lt 14, 3) := by decide +kernel
theorem md_Mail_send_9 : decode mb_Mail_send 9 = .ok (.aload_n 0, 1) := by decide +kernel
theorem md_Mail_send_10 : decode mb_Mail_send 10 = .ok (.dup, 1) := by decide +kernel
theorem md_Mail_send_11 : decode mb_Mail_send 11 = .ok (.getfield 24, 3) := by decide +kernel
theorem md_Mail_send_14 : decode mb_Mail_send 14 = .ok (.iconst 1, 1) := by decide +kernel
theorem md_Mail_send_15 : decode mb_Mail_send 15 = .ok (.iadd, 1) := by decide +kernel
theorem md_Mail_send_16 : decode mb_Mail_send 16 = .ok (.putfield 24, 3) := by decide +kernel
theorem md_Mail_send_19 : decode mb_Mail_send 19 = .ok (.return_, 1) := by decide +kernel
theorem md_Mail_send_20 : decode mb_Mail_send 20 = .ok (.aload_n 0, 1) := by decide +kernel
theorem md_Mail_send_21 : decode mb_Mail_send 21 = .ok (.getfield 20, 3) := by decide +kernel
theorem md_Mail_send_24 : decode mb_Mail_send 24 = .ok (.bipush 7, 2) := by decide +kernel
theorem md_Mail_send_26 : decode mb_Mail_send 26 = .ok (.imul, 1) := by decide +kernel
theorem md_Mail_send_27 : decode mb_Mail_send 27 = .ok (.istore 8, 2) := by decide +kernel
theorem md_Mail_send_29 : decode mb_Mail_send 29 = .ok (.aload_n 0, 1) := by decide +kernel
theorem md_Mail_send_30 : decode mb_Mail_send 30 = .ok (.getfield 9, 3) := by decide +kernel
theorem md_Mail_send_33 : decode mb_Mail_send 33 = .ok (.iload 8, 2) := by decide +kernel
theorem md_Mail_send_35 : decode mb_Mail_send 35 = .ok (.iconst 0, 1) := by decide +kernel
theorem md_Mail_send_36 : decode mb_Mail_send 36 = .ok (.iadd, 1) := by decide +kernel
theorem md_Mail_send_37 : decode mb_Mail_send 37 = .ok (.iload_n 1, 1) := by decide +kernel
theorem md_Mail_send_38 : decode mb_Mail_send 38 = .ok (.iastore, 1) := by decide +kernel
theorem md_Mail_send_39 : decode mb_Mail_send 39 = .ok (.aload_n 0, 1) := by decide +kernel
theorem md_Mail_send_40 : decode mb_Mail_send 40 = .ok (.getfield 9, 3) := by decide +kernel
theorem md_Mail_send_43 : decode mb_Mail_send 43 = .ok (.iload 8, 2) := by decide +kernel
theorem md_Mail_send_45 : decode mb_Mail_send 45 = .ok (.iconst 1, 1) := by decide +kernel
theorem md_Mail_send_46 : decode mb_Mail_send 46 = .ok (.iadd, 1) := by decide +kernel
theorem md_Mail_send_47 : decode mb_Mail_send 47 = .ok (.iload_n 2, 1) := by decide +kernel
theorem md_Mail_send_48 : decode mb_Mail_send 48 = .ok (.iastore, 1) := by decide +kernel
theorem md_Mail_send_49 : decode mb_Mail_send 49 = .ok (.aload_n 0, 1) := by decide +kernel
theorem md_Mail_send_50 : decode mb_Mail_send 50 = .ok (.getfield 9, 3) := by decide +kernel
theorem md_Mail_send_53 : decode mb_Mail_send 53 = .ok (.iload 8, 2) := by decide +kernel
theorem md_Mail_send_55 : decode mb_Mail_send 55 = .ok (.iconst 2, 1) := by decide +kernel
theorem md_Mail_send_56 : decode mb_Mail_send 56 = .ok (.iadd, 1) := by decide +kernel
theorem md_Mail_send_57 : decode mb_Mail_send 57 = .ok (.iload_n 3, 1) := by decide +kernel
theorem md_Mail_send_58 : decode mb_Mail_send 58 = .ok (.iastore, 1) := by decide +kernel
theorem md_Mail_send_59 : decode mb_Mail_send 59 = .ok (.aload_n 0, 1) := by decide +kernel
theorem md_Mail_send_60 : decode mb_Mail_send 60 = .ok (.getfield 9, 3) := by decide +kernel
theorem md_Mail_send_63 : decode mb_Mail_send 63 = .ok (.iload 8, 2) := by decide +kernel
theorem md_Mail_send_65 : decode mb_Mail_send 65 = .ok (.iconst 3, 1) := by decide +kernel
theorem md_Mail_send_66 : decode mb_Mail_send 66 = .ok (.iadd, 1) := by decide +kernel
theorem md_Mail_send_67 : decode mb_Mail_send 67 = .ok (.iload 4, 2) := by decide +kernel
theorem md_Mail_send_69 : decode mb_Mail_send 69 = .ok (.iastore, 1) := by decide +kernel
theorem md_Mail_send_70 : decode mb_Mail_send 70 = .ok (.aload_n 0, 1) := by decide +kernel
theorem md_Mail_send_71 : decode mb_Mail_send 71 = .ok (.getfield 9, 3) := by decide +kernel
theorem md_Mail_send_74 : decode mb_Mail_send 74 = .ok (.iload 8, 2) := by decide +kernel
theorem md_Mail_send_76 : decode mb_Mail_send 76 = .ok (.iconst 4, 1) := by decide +kernel
theorem md_Mail_send_77 : decode mb_Mail_send 77 = .ok (.iadd, 1) := by decide +kernel
theorem md_Mail_send_78 : decode mb_Mail_send 78 = .ok (.iload 5, 2) := by decide +kernel
theorem md_Mail_send_80 : decode mb_Mail_send 80 = .ok (.iastore, 1) := by decide +kernel
theorem md_Mail_send_81 : decode mb_Mail_send 81 = .ok (.aload_n 0, 1) := by decide +kernel
theorem md_Mail_send_82 : decode mb_Mail_send 82 = .ok (.getfield 9, 3) := by decide +kernel
theorem md_Mail_send_85 : decode mb_Mail_send 85 = .ok (.iload 8, 2) := by decide +kernel
theorem md_Mail_send_87 : decode mb_Mail_send 87 = .ok (.iconst 5, 1) := by decide +kernel
theorem md_Mail_send_88 : decode mb_Mail_send 88 = .ok (.iadd, 1) := by decide +kernel
theorem md_Mail_send_89 : decode mb_Mail_send 89 = .ok (.iload 6, 2) := by decide +kernel
theorem md_Mail_send_91 : decode mb_Mail_send 91 = .ok (.iastore, 1) := by decide +kernel
theorem md_Mail_send_92 : decode mb_Mail_send 92 = .ok (.aload_n 0, 1) := by decide +kernel
theorem md_Mail_send_93 : decode mb_Mail_send 93 = .ok (.getfield 9, 3) := by decide +kernel
theorem md_Mail_send_96 : decode mb_Mail_send 96 = .ok (.iload 8, 2) := by decide +kernel
theorem md_Mail_send_98 : decode mb_Mail_send 98 = .ok (.bipush 6, 2) := by decide +kernel
theorem md_Mail_send_100 : decode mb_Mail_send 100 = .ok (.iadd, 1) := by decide +kernel
theorem md_Mail_send_101 : decode mb_Mail_send 101 = .ok (.iload 7, 2) := by decide +kernel
theorem md_Mail_send_103 : decode mb_Mail_send 103 = .ok (.iastore, 1) := by decide +kernel
theorem md_Mail_send_104 : decode mb_Mail_send 104 = .ok (.aload_n 0, 1) := by decide +kernel
theorem md_Mail_send_105 : decode mb_Mail_send 105 = .ok (.dup, 1) := by decide +kernel
theorem md_Mail_send_106 : decode mb_Mail_send 106 = .ok (.getfield 20, 3) := by decide +kernel
theorem md_Mail_send_109 : decode mb_Mail_send 109 = .ok (.iconst 1, 1) := by decide +kernel
theorem md_Mail_send_110 : decode mb_Mail_send 110 = .ok (.iadd, 1) := by decide +kernel
theorem md_Mail_send_111 : decode mb_Mail_send 111 = .ok (.putfield 20, 3) := by decide +kernel
theorem md_Mail_send_114 : decode mb_Mail_send 114 = .ok (.return_, 1) := by decide +kernel
theorem md_Mail_valueIn_0 : decode mb_Mail_valueIn 0 = .ok (.aload_n 0, 1) := by decide +kernel
theorem md_Mail_valueIn_1 : decode mb_Mail_valueIn 1 = .ok (.getfield 9, 3) := by decide +kernel
theorem md_Mail_valueIn_4 : decode mb_Mail_valueIn 4 = .ok (.iload_n 1, 1) := by decide +kernel
theorem md_Mail_valueIn_5 : decode mb_Mail_valueIn 5 = .ok (.bipush 7, 2) := by decide +kernel
theorem md_Mail_valueIn_7 : decode mb_Mail_valueIn 7 = .ok (.imul, 1) := by decide +kernel
theorem md_Mail_valueIn_8 : decode mb_Mail_valueIn 8 = .ok (.iconst 5, 1) := by decide +kernel
theorem md_Mail_valueIn_9 : decode mb_Mail_valueIn 9 = .ok (.iadd, 1) := by decide +kernel
theorem md_Mail_valueIn_10 : decode mb_Mail_valueIn 10 = .ok (.iaload, 1) := by decide +kernel
theorem md_Mail_valueIn_11 : decode mb_Mail_valueIn 11 = .ok (.ireturn, 1) := by decide +kernel
theorem md_Mail_label_0 : decode mb_Mail_label 0 = .ok (.iload_n 1, 1) := by decide +kernel
theorem md_Mail_label_1 : decode mb_Mail_label 1 = .ok (.bipush 7, 2) := by decide +kernel
theorem md_Mail_label_3 : decode mb_Mail_label 3 = .ok (.imul, 1) := by decide +kernel
theorem md_Mail_label_4 : decode mb_Mail_label 4 = .ok (.istore_n 2, 1) := by decide +kernel
theorem md_Mail_label_5 : decode mb_Mail_label 5 = .ok (.ldc 58, 2) := by decide +kernel
theorem md_Mail_label_7 : decode mb_Mail_label 7 = .ok (.aload_n 0, 1) := by decide +kernel
theorem md_Mail_label_8 : decode mb_Mail_label 8 = .ok (.getfield 9, 3) := by decide +kernel
theorem md_Mail_label_11 : decode mb_Mail_label 11 = .ok (.iload_n 2, 1) := by decide +kernel
theorem md_Mail_label_12 : decode mb_Mail_label 12 = .ok (.iconst 0, 1) := by decide +kernel
theorem md_Mail_label_13 : decode mb_Mail_label 13 = .ok (.iadd, 1) := by decide +kernel
theorem md_Mail_label_14 : decode mb_Mail_label 14 = .ok (.iaload, 1) := by decide +kernel
theorem md_Mail_label_15 : decode mb_Mail_label 15 = .ok (.imul, 1) := by decide +kernel
theorem md_Mail_label_16 : decode mb_Mail_label 16 = .ok (.sipush 10000, 3) := by decide +kernel
theorem md_Mail_label_19 : decode mb_Mail_label 19 = .ok (.aload_n 0, 1) := by decide +kernel
theorem md_Mail_label_20 : decode mb_Mail_label 20 = .ok (.getfield 9, 3) := by decide +kernel
theorem md_Mail_label_23 : decode mb_Mail_label 23 = .ok (.iload_n 2, 1) := by decide +kernel
theorem md_Mail_label_24 : decode mb_Mail_label 24 = .ok (.iconst 1, 1) := by decide +kernel
theorem md_Mail_label_25 : decode mb_Mail_label 25 = .ok (.iadd, 1) := by decide +kernel
theorem md_Mail_label_26 : decode mb_Mail_label 26 = .ok (.iaload, 1) := by decide +kernel
theorem md_Mail_label_27 : decode mb_Mail_label 27 = .ok (.imul, 1) := by decide +kernel
theorem md_Mail_label_28 : decode mb_Mail_label 28 = .ok (.iadd, 1) := by decide +kernel
theorem md_Mail_label_29 : decode mb_Mail_label 29 = .ok (.istore_n 3, 1) := by decide +kernel
theorem md_Mail_label_30 : decode mb_Mail_label 30 = .ok (.iload_n 3, 1) := by decide +kernel
theorem md_Mail_label_31 : decode mb_Mail_label 31 = .ok (.bipush 100, 2) := by decide +kernel
theorem md_Mail_label_33 : decode mb_Mail_label 33 = .ok (.aload_n 0, 1) := by decide +kernel
theorem md_Mail_label_34 : decode mb_Mail_label 34 = .ok (.getfield 9, 3) := by decide +kernel
theorem md_Mail_label_37 : decode mb_Mail_label 37 = .ok (.iload_n 2, 1) := by decide +kernel
theorem md_Mail_label_38 : decode mb_Mail_label 38 = .ok (.iconst 2, 1) := by decide +kernel
theorem md_Mail_label_39 : decode mb_Mail_label 39 = .ok (.iadd, 1) := by decide +kernel
theorem md_Mail_label_40 : decode mb_Mail_label 40 = .ok (.iaload, 1) := by decide +kernel
theorem md_Mail_label_41 : decode mb_Mail_label 41 = .ok (.imul, 1) := by decide +kernel
theorem md_Mail_label_42 : decode mb_Mail_label 42 = .ok (.iadd, 1) := by decide +kernel
theorem md_Mail_label_43 : decode mb_Mail_label 43 = .ok (.aload_n 0, 1) := by decide +kernel
theorem md_Mail_label_44 : decode mb_Mail_label 44 = .ok (.getfield 9, 3) := by decide +kernel
theorem md_Mail_label_47 : decode mb_Mail_label 47 = .ok (.iload_n 2, 1) := by decide +kernel
theorem md_Mail_label_48 : decode mb_Mail_label 48 = .ok (.iconst 4, 1) := by decide +kernel
theorem md_Mail_label_49 : decode mb_Mail_label 49 = .ok (.iadd, 1) := by decide +kernel
theorem md_Mail_label_50 : decode mb_Mail_label 50 = .ok (.iaload, 1) := by decide +kernel
theorem md_Mail_label_51 : decode mb_Mail_label 51 = .ok (.iadd, 1) := by decide +kernel
theorem md_Mail_label_52 : decode mb_Mail_label 52 = .ok (.ireturn, 1) := by decide +kernel
set_option maxHeartbeats 4000000 in
theorem k_isSlot1 (l : Launch) (D : va_G) {n : Nat} (ad : Nat × Nat → Nat) (cI cZ cS cA : ClassId) {M : fr_M} {j : Nat} (hj : j < 3) : fb_C l D n ad cI cZ cS cA my_FB_isSlot mb_FB_isSlot 1 (some .boolean) 0 0 M [.int (nI (j))] (some (.int (nI 1))) (fun M' => M' = M) := by
  refine xw_start [.int (nI (j))] (by decide) (Nat.le_of_ble_eq_true rfl) ?_
  intro p e st m below meth cd0 ls Z hml hr hlk hN hl hw
  have hl : lv_has ls 1 [(0, .int (nI (j)))] := hl
  refine lv_iload_n Z.1 Z.2.1 md_FB_isSlot_0 rfl (lv_at hl 0 rfl) ?_
  refine lv_if_lt (tgt := 13) Z.1 Z.2.1 md_FB_isSlot_1 (by decide) (fun h1 => by exfalso; exact nI_pos (by omega) h1) (fun h1 => ?_)
  refine lv_iload_n Z.1 Z.2.1 md_FB_isSlot_4 rfl (lv_at hl 0 rfl) ?_
  refine lv_iconst (v := nI 3) Z.1 Z.2.1 md_FB_isSlot_5 (by decide) ?_
  refine xi_icmp_ge (tgt := 13) Z md_FB_isSlot_6 (by decide) (by omega) (by omega) (fun h6 => by exfalso; omega) (fun h6 => ?_)
  refine lv_iconst (v := nI 1) Z.1 Z.2.1 md_FB_isSlot_9 (by decide) ?_
  refine lv_goto (tgt := 14) Z.1 Z.2.1 md_FB_isSlot_10 (by decide) ?_
  exact xw_zret Z hr hlk hw md_FB_isSlot_14 rfl rfl rfl
set_option maxHeartbeats 4000000 in
theorem k_isSlot0 (l : Launch) (D : va_G) {n : Nat} (ad : Nat × Nat → Nat) (cI cZ cS cA : ClassId) {M : fr_M} {x : Int32} (hx : x < 0 ∨ nI 3 ≤ x) : fb_C l D n ad cI cZ cS cA my_FB_isSlot mb_FB_isSlot 1 (some .boolean) 0 0 M [.int (x)] (some (.int (nI 0))) (fun M' => M' = M) := by
  refine xw_start [.int (x)] (by decide) (Nat.le_of_ble_eq_true rfl) ?_
  intro p e st m below meth cd0 ls Z hml hr hlk hN hl hw
  have hl : lv_has ls 1 [(0, .int (x))] := hl
  refine lv_iload_n Z.1 Z.2.1 md_FB_isSlot_0 rfl (lv_at hl 0 rfl) ?_
  refine lv_if_lt (tgt := 13) Z.1 Z.2.1 md_FB_isSlot_1 (by decide) (fun h1 => ?_) (fun h1 => ?_)
  · refine lv_iconst (v := nI 0) Z.1 Z.2.1 md_FB_isSlot_13 (by decide) ?_
    exact xw_zret Z hr hlk hw md_FB_isSlot_14 rfl rfl rfl
  · refine lv_iload_n Z.1 Z.2.1 md_FB_isSlot_4 rfl (lv_at hl 0 rfl) ?_
    refine lv_iconst (v := nI 3) Z.1 Z.2.1 md_FB_isSlot_5 (by decide) ?_
    refine lv_icmp_ge (tgt := 13) Z.1 Z.2.1 md_FB_isSlot_6 (by decide) (fun h6 => ?_) (fun h6 => by exfalso; exact hx.elim h1 h6)
    refine lv_iconst (v := nI 0) Z.1 Z.2.1 md_FB_isSlot_13 (by decide) ?_
    exact xw_zret Z hr hlk hw md_FB_isSlot_14 rfl rfl rfl
set_option maxHeartbeats 4000000 in
theorem k_isRound1 (l : Launch) (D : va_G) {n : Nat} (ad : Nat × Nat → Nat) (cI cZ cS cA : ClassId) {M : fr_M} {j : Nat} (hj : 1 ≤ j) (hj2 : j ≤ 12) : fb_C l D n ad cI cZ cS cA my_FB_isRound mb_FB_isRound 1 (some .boolean) 0 0 M [.int (nI (j))] (some (.int (nI 1))) (fun M' => M' = M) := by
  refine xw_start [.int (nI (j))] (by decide) (Nat.le_of_ble_eq_true rfl) ?_
  intro p e st m below meth cd0 ls Z hml hr hlk hN hl hw
  have hl : lv_has ls 1 [(0, .int (nI (j)))] := hl
  refine lv_iload_n Z.1 Z.2.1 md_FB_isRound_0 rfl (lv_at hl 0 rfl) ?_
  refine lv_iconst (v := nI 1) Z.1 Z.2.1 md_FB_isRound_1 (by decide) ?_
  refine xi_icmp_lt (tgt := 15) Z md_FB_isRound_2 (by decide) (by omega) (by omega) (fun h2 => by exfalso; omega) (fun h2 => ?_)
  refine lv_iload_n Z.1 Z.2.1 md_FB_isRound_5 rfl (lv_at hl 0 rfl) ?_
  refine lv_bipush (v := nI 12) Z.1 Z.2.1 md_FB_isRound_6 (by decide) ?_
  refine xi_icmp_gt (tgt := 15) Z md_FB_isRound_8 (by decide) (by omega) (by omega) (fun h8 => by exfalso; omega) (fun h8 => ?_)
  refine lv_iconst (v := nI 1) Z.1 Z.2.1 md_FB_isRound_11 (by decide) ?_
  refine lv_goto (tgt := 16) Z.1 Z.2.1 md_FB_isRound_12 (by decide) ?_
  exact xw_zret Z hr hlk hw md_FB_isRound_16 rfl rfl rfl
set_option maxHeartbeats 4000000 in
theorem k_isRound0 (l : Launch) (D : va_G) {n : Nat} (ad : Nat × Nat → Nat) (cI cZ cS cA : ClassId) {M : fr_M} {x : Int32} (hx : x < nI 1 ∨ nI 12 < x) : fb_C l D n ad cI cZ cS cA my_FB_isRound mb_FB_isRound 1 (some .boolean) 0 0 M [.int (x)] (some (.int (nI 0))) (fun M' => M' = M) := by
  refine xw_start [.int (x)] (by decide) (Nat.le_of_ble_eq_true rfl) ?_
  intro p e st m below meth cd0 ls Z hml hr hlk hN hl hw
  have hl : lv_has ls 1 [(0, .int (x))] := hl
  refine lv_iload_n Z.1 Z.2.1 md_FB_isRound_0 rfl (lv_at hl 0 rfl) ?_
  refine lv_iconst (v := nI 1) Z.1 Z.2.1 md_FB_isRound_1 (by decide) ?_
  refine lv_icmp_lt (tgt := 15) Z.1 Z.2.1 md_FB_isRound_2 (by decide) (fun h2 => ?_) (fun h2 => ?_)
  · refine lv_iconst (v := nI 0) Z.1 Z.2.1 md_FB_isRound_15 (by decide) ?_
    exact xw_zret Z hr hlk hw md_FB_isRound_16 rfl rfl rfl
  · refine lv_iload_n Z.1 Z.2.1 md_FB_isRound_5 rfl (lv_at hl 0 rfl) ?_
    refine lv_bipush (v := nI 12) Z.1 Z.2.1 md_FB_isRound_6 (by decide) ?_
    refine lv_icmp_gt (tgt := 15) Z.1 Z.2.1 md_FB_isRound_8 (by decide) (fun h8 => ?_) (fun h8 => by exfalso; exact hx.elim h2 h8)
    refine lv_iconst (v := nI 0) Z.1 Z.2.1 md_FB_isRound_15 (by decide) ?_
    exact xw_zret Z hr hlk hw md_FB_isRound_16 rfl rfl rfl
set_option maxHeartbeats 4000000 in
theorem k_isValue1 (l : Launch) (D : va_G) {n : Nat} (ad : Nat × Nat → Nat) (cI cZ cS cA : ClassId) {M : fr_M} {j : Nat} (hj : 1 ≤ j) (hj2 : j ≤ 1000) : fb_C l D n ad cI cZ cS cA my_FB_isValue mb_FB_isValue 1 (some .boolean) 0 0 M [.int (nI (j))] (some (.int (nI 1))) (fun M' => M' = M) := by
  refine xw_start [.int (nI (j))] (by decide) (Nat.le_of_ble_eq_true rfl) ?_
  intro p e st m below meth cd0 ls Z hml hr hlk hN hl hw
  have hl : lv_has ls 1 [(0, .int (nI (j)))] := hl
  refine lv_iload_n Z.1 Z.2.1 md_FB_isValue_0 rfl (lv_at hl 0 rfl) ?_
  refine lv_iconst (v := nI 1) Z.1 Z.2.1 md_FB_isValue_1 (by decide) ?_
  refine xi_icmp_lt (tgt := 16) Z md_FB_isValue_2 (by decide) (by omega) (by omega) (fun h2 => by exfalso; omega) (fun h2 => ?_)
  refine lv_iload_n Z.1 Z.2.1 md_FB_isValue_5 rfl (lv_at hl 0 rfl) ?_
  refine lv_sipush (v := nI 1000) Z.1 Z.2.1 md_FB_isValue_6 (by decide) ?_
  refine xi_icmp_gt (tgt := 16) Z md_FB_isValue_9 (by decide) (by omega) (by omega) (fun h9 => by exfalso; omega) (fun h9 => ?_)
  refine lv_iconst (v := nI 1) Z.1 Z.2.1 md_FB_isValue_12 (by decide) ?_
  refine lv_goto (tgt := 17) Z.1 Z.2.1 md_FB_isValue_13 (by decide) ?_
  exact xw_zret Z hr hlk hw md_FB_isValue_17 rfl rfl rfl
set_option maxHeartbeats 4000000 in
theorem k_isValue0 (l : Launch) (D : va_G) {n : Nat} (ad : Nat × Nat → Nat) (cI cZ cS cA : ClassId) {M : fr_M} {x : Int32} (hx : x < nI 1 ∨ nI 1000 < x) : fb_C l D n ad cI cZ cS cA my_FB_isValue mb_FB_isValue 1 (some .boolean) 0 0 M [.int (x)] (some (.int (nI 0))) (fun M' => M' = M) := by
  refine xw_start [.int (x)] (by decide) (Nat.le_of_ble_eq_true rfl) ?_
  intro p e st m below meth cd0 ls Z hml hr hlk hN hl hw
  have hl : lv_has ls 1 [(0, .int (x))] := hl
  refine lv_iload_n Z.1 Z.2.1 md_FB_isValue_0 rfl (lv_at hl 0 rfl) ?_
  refine lv_iconst (v := nI 1) Z.1 Z.2.1 md_FB_isValue_1 (by decide) ?_
  refine lv_icmp_lt (tgt := 16) Z.1 Z.2.1 md_FB_isValue_2 (by decide) (fun h2 => ?_) (fun h2 => ?_)
  · refine lv_iconst (v := nI 0) Z.1 Z.2.1 md_FB_isValue_16 (by decide) ?_
    exact xw_zret Z hr hlk hw md_FB_isValue_17 rfl rfl rfl
  · refine lv_iload_n Z.1 Z.2.1 md_FB_isValue_5 rfl (lv_at hl 0 rfl) ?_
    refine lv_sipush (v := nI 1000) Z.1 Z.2.1 md_FB_isValue_6 (by decide) ?_
    refine lv_icmp_gt (tgt := 16) Z.1 Z.2.1 md_FB_isValue_9 (by decide) (fun h9 => ?_) (fun h9 => by exfalso; exact hx.elim h2 h9)
    refine lv_iconst (v := nI 0) Z.1 Z.2.1 md_FB_isValue_16 (by decide) ?_
    exact xw_zret Z hr hlk hw md_FB_isValue_17 rfl rfl rfl
set_option maxHeartbeats 4000000 in
theorem k_isFast (l : Launch) (D : va_G) {n : Nat} (ad : Nat × Nat → Nat) (cI cZ cS cA : ClassId) {M : fr_M} {j : Nat} (hj : j < 2 ^ 31) : fb_C l D n ad cI cZ cS cA my_FB_isFast mb_FB_isFast 1 (some .boolean) 0 0 M [.int (nI (j))] (some (.int (nI (j % 2)))) (fun M' => M' = M) := by
  refine xw_start [.int (nI (j))] (by decide) (Nat.le_of_ble_eq_true rfl) ?_
  intro p e st m below meth cd0 ls Z hml hr hlk hN hl hw
  have hl : lv_has ls 1 [(0, .int (nI (j)))] := hl
  refine lv_iload_n Z.1 Z.2.1 md_FB_isFast_0 rfl (lv_at hl 0 rfl) ?_
  refine lv_iconst (v := nI 2) Z.1 Z.2.1 md_FB_isFast_1 (by decide) ?_
  refine xi_rem Z md_FB_isFast_2 (by omega) (by omega) (by omega) ?_
  refine lv_iconst (v := nI 1) Z.1 Z.2.1 md_FB_isFast_3 (by decide) ?_
  refine xi_icmp_ne (tgt := 11) Z md_FB_isFast_4 (by decide) (by omega) (by omega) (fun h4 => ?_) (fun h4 => ?_)
  · refine lv_iconst (v := nI 0) Z.1 Z.2.1 md_FB_isFast_11 (by decide) ?_
    exact xw_zret Z hr hlk hw md_FB_isFast_12 (by first | rw [show j % 2 = 1 by omega] | rw [show j % 2 = 0 by omega]) rfl rfl
  · refine lv_iconst (v := nI 1) Z.1 Z.2.1 md_FB_isFast_7 (by decide) ?_
    refine lv_goto (tgt := 12) Z.1 Z.2.1 md_FB_isFast_8 (by decide) ?_
    exact xw_zret Z hr hlk hw md_FB_isFast_12 (by first | rw [show j % 2 = 1 by omega] | rw [show j % 2 = 0 by omega]) rfl rfl
set_option maxHeartbeats 4000000 in
theorem k_coordinatorOf (l : Launch) (D : va_G) {n : Nat} (ad : Nat × Nat → Nat) (cI cZ cS cA : ClassId) {M : fr_M} {j : Nat} (hj0 : 1 ≤ j) (hj : j < 2 ^ 31) : fb_C l D n ad cI cZ cS cA my_FB_coordinatorOf mb_FB_coordinatorOf 1 (some .int) 0 0 M [.int (nI (j))] (some (.int (nI (8 + pz_ci j)))) (fun M' => M' = M) := by
  refine xw_start [.int (nI (j))] (by decide) (Nat.le_of_ble_eq_true rfl) ?_
  intro p e st m below meth cd0 ls Z hml hr hlk hN hl hw
  have hl : lv_has ls 1 [(0, .int (nI (j)))] := hl
  refine lv_iload_n Z.1 Z.2.1 md_FB_coordinatorOf_0 rfl (lv_at hl 0 rfl) ?_
  refine lv_iconst (v := nI 1) Z.1 Z.2.1 md_FB_coordinatorOf_1 (by decide) ?_
  refine xi_sub Z md_FB_coordinatorOf_2 (by omega) ?_
  refine lv_iconst (v := nI 2) Z.1 Z.2.1 md_FB_coordinatorOf_3 (by decide) ?_
  refine xi_div Z md_FB_coordinatorOf_4 (by omega) (by omega) (by omega) ?_
  refine lv_iconst (v := nI 2) Z.1 Z.2.1 md_FB_coordinatorOf_5 (by decide) ?_
  refine xi_rem Z md_FB_coordinatorOf_6 (by omega) (by omega) (by omega) ?_
  refine xi_if_ne (tgt := 15) Z md_FB_coordinatorOf_7 (by decide) (by omega) (fun h7 => ?_) (fun h7 => ?_)
  · refine lv_bipush (v := nI 9) Z.1 Z.2.1 md_FB_coordinatorOf_15 (by decide) ?_
    exact xw_iret Z hr hlk hw md_FB_coordinatorOf_17 (by unfold pz_ci; first | rw [if_pos (by omega)] | rw [if_neg (by omega)]) rfl
  · refine lv_bipush (v := nI 8) Z.1 Z.2.1 md_FB_coordinatorOf_10 (by decide) ?_
    refine lv_goto (tgt := 17) Z.1 Z.2.1 md_FB_coordinatorOf_12 (by decide) ?_
    exact xw_iret Z hr hlk hw md_FB_coordinatorOf_17 (by unfold pz_ci; first | rw [if_pos (by omega)] | rw [if_neg (by omega)]) rfl
set_option maxHeartbeats 4000000 in
theorem k_isCoordinator1 (l : Launch) (D : va_G) {n : Nat} (ad : Nat × Nat → Nat) (cI cZ cS cA : ClassId) {M : fr_M} {j : Nat} (hj : j = 8 ∨ j = 9) : fb_C l D n ad cI cZ cS cA my_FB_isCoordinator mb_FB_isCoordinator 1 (some .boolean) 0 0 M [.int (nI (j))] (some (.int (nI 1))) (fun M' => M' = M) := by
  refine xw_start [.int (nI (j))] (by decide) (Nat.le_of_ble_eq_true rfl) ?_
  intro p e st m below meth cd0 ls Z hml hr hlk hN hl hw
  have hl : lv_has ls 1 [(0, .int (nI (j)))] := hl
  refine lv_iload_n Z.1 Z.2.1 md_FB_isCoordinator_0 rfl (lv_at hl 0 rfl) ?_
  refine lv_bipush (v := nI 8) Z.1 Z.2.1 md_FB_isCoordinator_1 (by decide) ?_
  refine xi_icmp_eq (tgt := 12) Z md_FB_isCoordinator_3 (by decide) (by omega) (by omega) (fun h3 => ?_) (fun h3 => ?_)
  · refine lv_iconst (v := nI 1) Z.1 Z.2.1 md_FB_isCoordinator_12 (by decide) ?_
    refine lv_goto (tgt := 17) Z.1 Z.2.1 md_FB_isCoordinator_13 (by decide) ?_
    exact xw_zret Z hr hlk hw md_FB_isCoordinator_17 rfl rfl rfl
  · refine lv_iload_n Z.1 Z.2.1 md_FB_isCoordinator_6 rfl (lv_at hl 0 rfl) ?_
    refine lv_bipush (v := nI 9) Z.1 Z.2.1 md_FB_isCoordinator_7 (by decide) ?_
    refine xi_icmp_ne (tgt := 16) Z md_FB_isCoordinator_9 (by decide) (by omega) (by omega) (fun h9 => by exfalso; omega) (fun h9 => ?_)
    refine lv_iconst (v := nI 1) Z.1 Z.2.1 md_FB_isCoordinator_12 (by decide) ?_
    refine lv_goto (tgt := 17) Z.1 Z.2.1 md_FB_isCoordinator_13 (by decide) ?_
    exact xw_zret Z hr hlk hw md_FB_isCoordinator_17 rfl rfl rfl
set_option maxHeartbeats 4000000 in
theorem k_isCoordinator0 (l : Launch) (D : va_G) {n : Nat} (ad : Nat × Nat → Nat) (cI cZ cS cA : ClassId) {M : fr_M} {x : Int32} (hx8 : ¬ x = nI 8) (hx9 : ¬ x = nI 9) : fb_C l D n ad cI cZ cS cA my_FB_isCoordinator mb_FB_isCoordinator 1 (some .boolean) 0 0 M [.int (x)] (some (.int (nI 0))) (fun M' => M' = M) := by
  refine xw_start [.int (x)] (by decide) (Nat.le_of_ble_eq_true rfl) ?_
  intro p e st m below meth cd0 ls Z hml hr hlk hN hl hw
  have hl : lv_has ls 1 [(0, .int (x))] := hl
  refine lv_iload_n Z.1 Z.2.1 md_FB_isCoordinator_0 rfl (lv_at hl 0 rfl) ?_
  refine lv_bipush (v := nI 8) Z.1 Z.2.1 md_FB_isCoordinator_1 (by decide) ?_
  refine lv_icmp_eq (tgt := 12) Z.1 Z.2.1 md_FB_isCoordinator_3 (by decide) (fun h3 => by exfalso; exact hx8 h3) (fun h3 => ?_)
  refine lv_iload_n Z.1 Z.2.1 md_FB_isCoordinator_6 rfl (lv_at hl 0 rfl) ?_
  refine lv_bipush (v := nI 9) Z.1 Z.2.1 md_FB_isCoordinator_7 (by decide) ?_
  refine lv_icmp_ne (tgt := 16) Z.1 Z.2.1 md_FB_isCoordinator_9 (by decide) (fun h9 => ?_) (fun h9 => by exfalso; exact hx9 h9)
  refine lv_iconst (v := nI 0) Z.1 Z.2.1 md_FB_isCoordinator_16 (by decide) ?_
  exact xw_zret Z hr hlk hw md_FB_isCoordinator_17 rfl rfl rfl
set_option maxHeartbeats 4000000 in
theorem k_isAcceptor1 (l : Launch) (D : va_G) {n : Nat} (ad : Nat × Nat → Nat) (cI cZ cS cA : ClassId) {M : fr_M} {q f j : Nat} (hn : n ≤ 5) (h : fr_1 n q f M) (hj : j < n) : fb_C l D n ad cI cZ cS cA my_FB_isAcceptor mb_FB_isAcceptor 2 (some .boolean) 0 0 M [.ref (ad (0, 0)), .int (nI (j))] (some (.int (nI 1))) (fun M' => M' = M) := by
  refine xw_start [.ref (ad (0, 0)), .int (nI (j))] (by decide) (Nat.le_of_ble_eq_true rfl) ?_
  intro p e st m below meth cd0 ls Z hml hr hlk hN hl hw
  have hl : lv_has ls 2 [(0, .ref (ad (0, 0))), (1, .int (nI (j)))] := hl
  refine lv_iload_n Z.1 Z.2.1 md_FB_isAcceptor_0 rfl (lv_at hl 1 rfl) ?_
  refine lv_if_lt (tgt := 19) Z.1 Z.2.1 md_FB_isAcceptor_1 (by decide) (fun h1 => by exfalso; exact nI_pos (by omega) h1) (fun h1 => ?_)
  refine lv_iload_n Z.1 Z.2.1 md_FB_isAcceptor_4 rfl (lv_at hl 1 rfl) ?_
  refine lv_aload_n Z.1 Z.2.1 md_FB_isAcceptor_5 rfl (lv_at hl 0 rfl) ?_
  refine xb_get (v := .ref (ad (1, 0))) Z hw (fb_in0 n) (fb_e0 n ad cI cZ cS cA) rfl tb_iFB 0 (by decide) mk_FB_12 rfl rfl md_FB_isAcceptor_6 ?_
  refine xb_get (v := .int (M (1, 0) 0)) Z hw (fb_in1 n) (fb_e1 n ad cI cZ cS cA) rfl tb_iSiz 0 (by decide) mk_FB_45 rfl rfl md_FB_isAcceptor_9 ?_
  refine xi_re (show M (1, 0) 0 = nI (n) from h.1) ?_
  refine xi_icmp_ge (tgt := 19) Z md_FB_isAcceptor_12 (by decide) (by omega) (by omega) (fun h12 => by exfalso; omega) (fun h12 => ?_)
  refine lv_iconst (v := nI 1) Z.1 Z.2.1 md_FB_isAcceptor_15 (by decide) ?_
  refine lv_goto (tgt := 20) Z.1 Z.2.1 md_FB_isAcceptor_16 (by decide) ?_
  exact xw_zret Z hr hlk hw md_FB_isAcceptor_20 rfl rfl rfl
set_option maxHeartbeats 4000000 in
theorem k_isAcceptor0 (l : Launch) (D : va_G) {n : Nat} (ad : Nat × Nat → Nat) (cI cZ cS cA : ClassId) {M : fr_M} {q f : Nat} {x : Int32} (h : fr_1 n q f M) (hx : x < 0 ∨ nI n ≤ x) : fb_C l D n ad cI cZ cS cA my_FB_isAcceptor mb_FB_isAcceptor 2 (some .boolean) 0 0 M [.ref (ad (0, 0)), .int (x)] (some (.int (nI 0))) (fun M' => M' = M) := by
  refine xw_start [.ref (ad (0, 0)), .int (x)] (by decide) (Nat.le_of_ble_eq_true rfl) ?_
  intro p e st m below meth cd0 ls Z hml hr hlk hN hl hw
  have hl : lv_has ls 2 [(0, .ref (ad (0, 0))), (1, .int (x))] := hl
  refine lv_iload_n Z.1 Z.2.1 md_FB_isAcceptor_0 rfl (lv_at hl 1 rfl) ?_
  refine lv_if_lt (tgt := 19) Z.1 Z.2.1 md_FB_isAcceptor_1 (by decide) (fun h1 => ?_) (fun h1 => ?_)
  · refine lv_iconst (v := nI 0) Z.1 Z.2.1 md_FB_isAcceptor_19 (by decide) ?_
    exact xw_zret Z hr hlk hw md_FB_isAcceptor_20 rfl rfl rfl
  · refine lv_iload_n Z.1 Z.2.1 md_FB_isAcceptor_4 rfl (lv_at hl 1 rfl) ?_
    refine lv_aload_n Z.1 Z.2.1 md_FB_isAcceptor_5 rfl (lv_at hl 0 rfl) ?_
    refine xb_get (v := .ref (ad (1, 0))) Z hw (fb_in0 n) (fb_e0 n ad cI cZ cS cA) rfl tb_iFB 0 (by decide) mk_FB_12 rfl rfl md_FB_isAcceptor_6 ?_
    refine xb_get (v := .int (M (1, 0) 0)) Z hw (fb_in1 n) (fb_e1 n ad cI cZ cS cA) rfl tb_iSiz 0 (by decide) mk_FB_45 rfl rfl md_FB_isAcceptor_9 ?_
    refine xi_re (show M (1, 0) 0 = nI (n) from h.1) ?_
    refine lv_icmp_ge (tgt := 19) Z.1 Z.2.1 md_FB_isAcceptor_12 (by decide) (fun h12 => ?_) (fun h12 => by exfalso; exact hx.elim h1 h12)
    refine lv_iconst (v := nI 0) Z.1 Z.2.1 md_FB_isAcceptor_19 (by decide) ?_
    exact xw_zret Z hr hlk hw md_FB_isAcceptor_20 rfl rfl rfl
set_option maxHeartbeats 4000000 in
theorem k_has1 (l : Launch) (D : va_G) {n : Nat} (ad : Nat × Nat → Nat) (cI cZ cS cA : ClassId) {M : fr_M} {S : pz_T} {j : Nat} (h : fr_2 S M) (h60 : S.1.length ≤ 60) (hj : j < S.1.length) : fb_C l D n ad cI cZ cS cA my_Mail_has mb_Mail_has 2 (some .boolean) 0 0 M [.ref (ad (2, 0)), .int (nI (j))] (some (.int (nI 1))) (fun M' => M' = M) := by
  refine xw_start [.ref (ad (2, 0)), .int (nI (j))] (by decide) (Nat.le_of_ble_eq_true rfl) ?_
  intro p e st m below meth cd0 ls Z hml hr hlk hN hl hw
  have hl : lv_has ls 2 [(0, .ref (ad (2, 0))), (1, .int (nI (j)))] := hl
  refine lv_iload_n Z.1 Z.2.1 md_Mail_has_0 rfl (lv_at hl 1 rfl) ?_
  refine lv_if_lt (tgt := 16) Z.1 Z.2.1 md_Mail_has_1 (by decide) (fun h1 => by exfalso; exact nI_pos (by omega) h1) (fun h1 => ?_)
  refine lv_iload_n Z.1 Z.2.1 md_Mail_has_4 rfl (lv_at hl 1 rfl) ?_
  refine lv_aload_n Z.1 Z.2.1 md_Mail_has_5 rfl (lv_at hl 0 rfl) ?_
  refine xb_get (v := .int (M (2, 0) 2)) Z hw (fb_in2 n) (fb_e2 n ad cI cZ cS cA) rfl tb_iMail 2 (by decide) mk_Mail_20 rfl rfl md_Mail_has_6 ?_
  refine xi_re (show M (2, 0) 2 = nI (S.1.length) from h.1) ?_
  refine xi_icmp_ge (tgt := 16) Z md_Mail_has_9 (by decide) (by omega) (by omega) (fun h9 => by exfalso; omega) (fun h9 => ?_)
  refine lv_iconst (v := nI 1) Z.1 Z.2.1 md_Mail_has_12 (by decide) ?_
  refine lv_goto (tgt := 17) Z.1 Z.2.1 md_Mail_has_13 (by decide) ?_
  exact xw_zret Z hr hlk hw md_Mail_has_17 rfl rfl rfl
set_option maxHeartbeats 4000000 in
theorem k_has0 (l : Launch) (D : va_G) {n : Nat} (ad : Nat × Nat → Nat) (cI cZ cS cA : ClassId) {M : fr_M} {S : pz_T} {x : Int32} (h : fr_2 S M) (hx : x < 0 ∨ nI S.1.length ≤ x) : fb_C l D n ad cI cZ cS cA my_Mail_has mb_Mail_has 2 (some .boolean) 0 0 M [.ref (ad (2, 0)), .int (x)] (some (.int (nI 0))) (fun M' => M' = M) := by
  refine xw_start [.ref (ad (2, 0)), .int (x)] (by decide) (Nat.le_of_ble_eq_true rfl) ?_
  intro p e st m below meth cd0 ls Z hml hr hlk hN hl hw
  have hl : lv_has ls 2 [(0, .ref (ad (2, 0))), (1, .int (x))] := hl
  refine lv_iload_n Z.1 Z.2.1 md_Mail_has_0 rfl (lv_at hl 1 rfl) ?_
  refine lv_if_lt (tgt := 16) Z.1 Z.2.1 md_Mail_has_1 (by decide) (fun h1 => ?_) (fun h1 => ?_)
  · refine lv_iconst (v := nI 0) Z.1 Z.2.1 md_Mail_has_16 (by decide) ?_
    exact xw_zret Z hr hlk hw md_Mail_has_17 rfl rfl rfl
  · refine lv_iload_n Z.1 Z.2.1 md_Mail_has_4 rfl (lv_at hl 1 rfl) ?_
    refine lv_aload_n Z.1 Z.2.1 md_Mail_has_5 rfl (lv_at hl 0 rfl) ?_
    refine xb_get (v := .int (M (2, 0) 2)) Z hw (fb_in2 n) (fb_e2 n ad cI cZ cS cA) rfl tb_iMail 2 (by decide) mk_Mail_20 rfl rfl md_Mail_has_6 ?_
    refine xi_re (show M (2, 0) 2 = nI (S.1.length) from h.1) ?_
    refine lv_icmp_ge (tgt := 16) Z.1 Z.2.1 md_Mail_has_9 (by decide) (fun h9 => ?_) (fun h9 => by exfalso; exact hx.elim h1 h9)
    refine lv_iconst (v := nI 0) Z.1 Z.2.1 md_Mail_has_16 (by decide) ?_
    exact xw_zret Z hr hlk hw md_Mail_has_17 rfl rfl rfl
set_option maxHeartbeats 4000000 in
theorem k_send (l : Launch) (D : va_G) {n : Nat} (ad : Nat × Nat → Nat) (cI cZ cS cA : ClassId) {M : fr_M} {q f : Nat} {S : pz_T} {ex : Nat → Nat → Prop} {g : pz_M} {x : Int32} (h : fr_R n q f S ex M) (h60 : S.1.length ≤ 60) (hx : g 0 = 3 ∨ g 0 = 5 → x = nI (g 3)) : fb_C l D n ad cI cZ cS cA my_Mail_send mb_Mail_send 9 none 0 0 M [.ref (ad (2, 0)), .int (nI (g 0)), .int (nI (g 1)), .int (nI (g 2)), .int (x), .int (nI (g 4)), .int (nI (g 5)), .int (nI (g 6))] (none) (fr_K n q f (pz_sd S g) ex M) := by
  refine xw_start [.ref (ad (2, 0)), .int (nI (g 0)), .int (nI (g 1)), .int (nI (g 2)), .int (x), .int (nI (g 4)), .int (nI (g 5)), .int (nI (g 6))] (by decide) (Nat.le_of_ble_eq_true rfl) ?_
  intro p e st m below meth cd0 ls Z hml hr hlk hN hl hw
  have hl : lv_has ls 9 [(0, .ref (ad (2, 0))), (1, .int (nI (g 0))), (2, .int (nI (g 1))), (3, .int (nI (g 2))), (4, .int (x)), (5, .int (nI (g 4))), (6, .int (nI (g 5))), (7, .int (nI (g 6)))] := hl
  refine lv_aload_n Z.1 Z.2.1 md_Mail_send_0 rfl (lv_at hl 0 rfl) ?_
  refine xb_get (v := .int (M (2, 0) 2)) Z hw (fb_in2 n) (fb_e2 n ad cI cZ cS cA) rfl tb_iMail 2 (by decide) mk_Mail_20 rfl rfl md_Mail_send_1 ?_
  refine xi_re (show M (2, 0) 2 = nI (S.1.length) from h.2.1.1) ?_
  refine lv_bipush (v := nI 60) Z.1 Z.2.1 md_Mail_send_4 (by decide) ?_
  refine xi_icmp_lt (tgt := 20) Z md_Mail_send_6 (by decide) (by omega) (by omega) (fun h6 => ?_) (fun h6 => ?_)
  · refine lv_aload_n Z.1 Z.2.1 md_Mail_send_20 rfl (lv_at hl 0 rfl) ?_
    refine xb_get (v := .int (M (2, 0) 2)) Z hw (fb_in2 n) (fb_e2 n ad cI cZ cS cA) rfl tb_iMail 2 (by decide) mk_Mail_20 rfl rfl md_Mail_send_21 ?_
    refine xi_re (show M (2, 0) 2 = nI (S.1.length) from h.2.1.1) ?_
    refine lv_bipush (v := nI 7) Z.1 Z.2.1 md_Mail_send_24 (by decide) ?_
    refine xi_mul Z md_Mail_send_26 ?_
    refine lv_istore Z.1 Z.2.1 md_Mail_send_27 hl (by decide) rfl (fun ls hl => ?_)
    have hl : lv_has ls 9 [(8, .int (nI ((S.1.length) * 7))), (0, .ref (ad (2, 0))), (1, .int (nI (g 0))), (2, .int (nI (g 1))), (3, .int (nI (g 2))), (4, .int (x)), (5, .int (nI (g 4))), (6, .int (nI (g 5))), (7, .int (nI (g 6)))] := hl
    refine lv_aload_n Z.1 Z.2.1 md_Mail_send_29 rfl (lv_at hl 1 rfl) ?_
    refine xb_get (v := .ref (ad (5, 0))) Z hw (fb_in2 n) (fb_e2 n ad cI cZ cS cA) rfl tb_iMail 0 (by decide) mk_Mail_9 rfl rfl md_Mail_send_30 ?_
    refine lv_iload Z.1 Z.2.1 md_Mail_send_33 (lv_at hl 0 rfl) ?_
    refine lv_iconst (v := nI 0) Z.1 Z.2.1 md_Mail_send_35 (by decide) ?_
    refine xi_add Z md_Mail_send_36 ?_
    refine lv_iload_n Z.1 Z.2.1 md_Mail_send_37 rfl (lv_at hl 2 rfl) ?_
    refine xb_iast Z hw (fb_in5 n) (fb_e5 n ad cI cZ cS cA) 0 rfl (((S.1.length) * 7) + 0) rfl (by omega) (by omega) md_Mail_send_38 (fun M1 H1 locs1 e1 hw => ?_)
    refine lv_aload_n Z.1 Z.2.1 md_Mail_send_39 rfl (lv_at hl 1 rfl) ?_
    refine xb_get (v := .ref (ad (5, 0))) Z hw (fb_in2 n) (fb_e2 n ad cI cZ cS cA) rfl tb_iMail 0 (by decide) mk_Mail_9 rfl rfl md_Mail_send_40 ?_
    refine lv_iload Z.1 Z.2.1 md_Mail_send_43 (lv_at hl 0 rfl) ?_
    refine lv_iconst (v := nI 1) Z.1 Z.2.1 md_Mail_send_45 (by decide) ?_
    refine xi_add Z md_Mail_send_46 ?_
    refine lv_iload_n Z.1 Z.2.1 md_Mail_send_47 rfl (lv_at hl 3 rfl) ?_
    refine xb_iast Z hw (fb_in5 n) (fb_e5 n ad cI cZ cS cA) 0 rfl (((S.1.length) * 7) + 1) rfl (by omega) (by omega) md_Mail_send_48 (fun M2 H2 locs2 e2 hw => ?_)
    refine lv_aload_n Z.1 Z.2.1 md_Mail_send_49 rfl (lv_at hl 1 rfl) ?_
    refine xb_get (v := .ref (ad (5, 0))) Z hw (fb_in2 n) (fb_e2 n ad cI cZ cS cA) rfl tb_iMail 0 (by decide) mk_Mail_9 rfl rfl md_Mail_send_50 ?_
    refine lv_iload Z.1 Z.2.1 md_Mail_send_53 (lv_at hl 0 rfl) ?_
    refine lv_iconst (v := nI 2) Z.1 Z.2.1 md_Mail_send_55 (by decide) ?_
    refine xi_add Z md_Mail_send_56 ?_
    refine lv_iload_n Z.1 Z.2.1 md_Mail_send_57 rfl (lv_at hl 4 rfl) ?_
    refine xb_iast Z hw (fb_in5 n) (fb_e5 n ad cI cZ cS cA) 0 rfl (((S.1.length) * 7) + 2) rfl (by omega) (by omega) md_Mail_send_58 (fun M3 H3 locs3 e3 hw => ?_)
    refine lv_aload_n Z.1 Z.2.1 md_Mail_send_59 rfl (lv_at hl 1 rfl) ?_
    refine xb_get (v := .ref (ad (5, 0))) Z hw (fb_in2 n) (fb_e2 n ad cI cZ cS cA) rfl tb_iMail 0 (by decide) mk_Mail_9 rfl rfl md_Mail_send_60 ?_
    refine lv_iload Z.1 Z.2.1 md_Mail_send_63 (lv_at hl 0 rfl) ?_
    refine lv_iconst (v := nI 3) Z.1 Z.2.1 md_Mail_send_65 (by decide) ?_
    refine xi_add Z md_Mail_send_66 ?_
    refine lv_iload Z.1 Z.2.1 md_Mail_send_67 (lv_at hl 5 rfl) ?_
    refine xb_iast Z hw (fb_in5 n) (fb_e5 n ad cI cZ cS cA) 0 rfl (((S.1.length) * 7) + 3) rfl (by omega) (by omega) md_Mail_send_69 (fun M4 H4 locs4 e4 hw => ?_)
    refine lv_aload_n Z.1 Z.2.1 md_Mail_send_70 rfl (lv_at hl 1 rfl) ?_
    refine xb_get (v := .ref (ad (5, 0))) Z hw (fb_in2 n) (fb_e2 n ad cI cZ cS cA) rfl tb_iMail 0 (by decide) mk_Mail_9 rfl rfl md_Mail_send_71 ?_
    refine lv_iload Z.1 Z.2.1 md_Mail_send_74 (lv_at hl 0 rfl) ?_
    refine lv_iconst (v := nI 4) Z.1 Z.2.1 md_Mail_send_76 (by decide) ?_
    refine xi_add Z md_Mail_send_77 ?_
    refine lv_iload Z.1 Z.2.1 md_Mail_send_78 (lv_at hl 6 rfl) ?_
    refine xb_iast Z hw (fb_in5 n) (fb_e5 n ad cI cZ cS cA) 0 rfl (((S.1.length) * 7) + 4) rfl (by omega) (by omega) md_Mail_send_80 (fun M5 H5 locs5 e5 hw => ?_)
    refine lv_aload_n Z.1 Z.2.1 md_Mail_send_81 rfl (lv_at hl 1 rfl) ?_
    refine xb_get (v := .ref (ad (5, 0))) Z hw (fb_in2 n) (fb_e2 n ad cI cZ cS cA) rfl tb_iMail 0 (by decide) mk_Mail_9 rfl rfl md_Mail_send_82 ?_
    refine lv_iload Z.1 Z.2.1 md_Mail_send_85 (lv_at hl 0 rfl) ?_
    refine lv_iconst (v := nI 5) Z.1 Z.2.1 md_Mail_send_87 (by decide) ?_
    refine xi_add Z md_Mail_send_88 ?_
    refine lv_iload Z.1 Z.2.1 md_Mail_send_89 (lv_at hl 7 rfl) ?_
    refine xb_iast Z hw (fb_in5 n) (fb_e5 n ad cI cZ cS cA) 0 rfl (((S.1.length) * 7) + 5) rfl (by omega) (by omega) md_Mail_send_91 (fun M6 H6 locs6 e6 hw => ?_)
    refine lv_aload_n Z.1 Z.2.1 md_Mail_send_92 rfl (lv_at hl 1 rfl) ?_
    refine xb_get (v := .ref (ad (5, 0))) Z hw (fb_in2 n) (fb_e2 n ad cI cZ cS cA) rfl tb_iMail 0 (by decide) mk_Mail_9 rfl rfl md_Mail_send_93 ?_
    refine lv_iload Z.1 Z.2.1 md_Mail_send_96 (lv_at hl 0 rfl) ?_
    refine lv_bipush (v := nI 6) Z.1 Z.2.1 md_Mail_send_98 (by decide) ?_
    refine xi_add Z md_Mail_send_100 ?_
    refine lv_iload Z.1 Z.2.1 md_Mail_send_101 (lv_at hl 8 rfl) ?_
    refine xb_iast Z hw (fb_in5 n) (fb_e5 n ad cI cZ cS cA) 0 rfl (((S.1.length) * 7) + 6) rfl (by omega) (by omega) md_Mail_send_103 (fun M7 H7 locs7 e7 hw => ?_)
    have h2 : M7 (2, 0) = M (2, 0) := by rw [e7, xw_mw_n (by decide), e6, xw_mw_n (by decide), e5, xw_mw_n (by decide), e4, xw_mw_n (by decide), e3, xw_mw_n (by decide), e2, xw_mw_n (by decide), e1, xw_mw_n (by decide)]
    refine lv_aload_n Z.1 Z.2.1 md_Mail_send_104 rfl (lv_at hl 1 rfl) ?_
    refine lv_dup Z.1 Z.2.1 md_Mail_send_105 rfl ?_
    refine xb_get (v := .int (M7 (2, 0) 2)) Z hw (fb_in2 n) (fb_e2 n ad cI cZ cS cA) rfl tb_iMail 2 (by decide) mk_Mail_20 rfl rfl md_Mail_send_106 ?_
    refine xi_re (show M7 (2, 0) 2 = nI (S.1.length) from (by rw [h2]; exact h.2.1.1)) ?_
    refine lv_iconst (v := nI 1) Z.1 Z.2.1 md_Mail_send_109 (by decide) ?_
    refine xi_add Z md_Mail_send_110 ?_
    refine xb_put Z hw (fb_in2 n) (fb_e2 n ad cI cZ cS cA) rfl tb_iMail tb_tMail tb_yMail tb_nMail 2 (by decide) mk_Mail_20 rfl rfl rfl (fb_s2_2 ad _) md_Mail_send_111 (fun M8 H8 locs8 e8 hw => ?_)
    have hk : ∀ k, k ≠ (5, 0) → k ≠ (2, 0) → M8 k = M k := fun k h5 h2 => by rw [e8, xw_mw_n h2, e7, xw_mw_n h5, e6, xw_mw_n h5, e5, xw_mw_n h5, e4, xw_mw_n h5, e3, xw_mw_n h5, e2, xw_mw_n h5, e1, xw_mw_n h5]
    have c5 : M8 (5, 0) = upd (upd (upd (upd (upd (upd (upd (M (5, 0)) (S.1.length * 7 + 0) (nI (g 0))) (S.1.length * 7 + 1) (nI (g 1))) (S.1.length * 7 + 2) (nI (g 2))) (S.1.length * 7 + 3) x) (S.1.length * 7 + 4) (nI (g 4))) (S.1.length * 7 + 5) (nI (g 5))) (S.1.length * 7 + 6) (nI (g 6)) := by rw [e8, xw_mw_n (by decide), e7, xw_mw_s, e6, xw_mw_s, e5, xw_mw_s, e4, xw_mw_s, e3, xw_mw_s, e2, xw_mw_s, e1, xw_mw_s]
    refine xw_vret Z hr hlk hw md_Mail_send_114 ⟨fr_send1 h (by omega) hk (fun i hi => ?_) ?_ ?_ ?_, hk _ (by decide) (by decide)⟩
    · rw [c5]; simp only [upd]; repeat rw [if_neg (by omega)]
    · refine ⟨?_, ?_, ?_, fun z => ?_, ?_, ?_, ?_⟩ <;> (rw [c5]; simp only [upd]) <;> first | (simp; done) | (simp; exact hx z)
    · rw [e8, xw_mw_s]; simp [upd]
    · rw [e8, xw_mw_s]; simp only [upd]; rw [if_neg (by decide), h2]
  · refine lv_aload_n Z.1 Z.2.1 md_Mail_send_9 rfl (lv_at hl 0 rfl) ?_
    refine lv_dup Z.1 Z.2.1 md_Mail_send_10 rfl ?_
    refine xb_get (v := .int (M (2, 0) 3)) Z hw (fb_in2 n) (fb_e2 n ad cI cZ cS cA) rfl tb_iMail 3 (by decide) mk_Mail_24 rfl rfl md_Mail_send_11 ?_
    refine xi_re (show M (2, 0) 3 = nI (S.2 3 15 0 0) from h.2.1.2) ?_
    refine lv_iconst (v := nI 1) Z.1 Z.2.1 md_Mail_send_14 (by decide) ?_
    refine xi_add Z md_Mail_send_15 ?_
    refine xb_put Z hw (fb_in2 n) (fb_e2 n ad cI cZ cS cA) rfl tb_iMail tb_tMail tb_yMail tb_nMail 3 (by decide) mk_Mail_24 rfl rfl rfl (fb_s2_3 ad _) md_Mail_send_16 (fun M9 H9 locs9 e9 hw => ?_)
    refine xw_vret Z hr hlk hw md_Mail_send_19 ⟨fr_send2 h (by omega) (fun k hk => by rw [e9, xw_mw_n hk]) ?_ ?_, by rw [e9, xw_mw_n (by decide)]⟩
    · rw [e9, xw_mw_s]; simp [upd]
    · rw [e9, xw_mw_s]; simp [upd]
end
section
/-! The mail, the sizes, the tallies. -/
theorem md_Mail_remove_0 : decode mb_Mail_remove 0 = .ok (.iload_n 1, 1) := by decide +kernel
theorem md_Mail_remove_1 : decode mb_Mail_remove 1 = .ok (.iconst 1, 1) := by decide +kernel
theorem md_Mail_remove_2 : decode mb_Mail_remove 2 = .ok (.iadd, 1) := by decide +kernel
theorem md_Mail_remove_3 : decode mb_Mail_remove 3 = .ok (.bipush 7, 2) := by decide +kernel
theorem md_Mail_remove_5 : decode mb_Mail_remove 5 = .ok (.imul, 1) := by decide +kernel
theorem md_Mail_remove_6 : decode mb_Mail_remove 6 = .ok (.istore_n 2, 1) := by decide +kernel
theorem md_Mail_remove_7 : decode mb_Mail_remove 7 = .ok (.aload_n 0, 1) := by decide +kernel
theorem md_Mail_remove_8 : decode mb_Mail_remove 8 = .ok (.getfield 9, 3) := by decide +kernel
theorem md_Mail_remove_11 : decode mb_Mail_remove 11 = .ok (.iload_n 2, 1) := by decide +kernel
theorem md_Mail_remove_12 : decode mb_Mail_remove 12 = .ok (.aload_n 0, 1) := by decide +kernel
theorem md_Mail_remove_13 : decode mb_Mail_remove 13 = .ok (.getfield 9, 3) := by decide +kernel
theorem md_Mail_remove_16 : decode mb_Mail_remove 16 = .ok (.iload_n 1, 1) := by decide +kernel
theorem md_Mail_remove_17 : decode mb_Mail_remove 17 = .ok (.bipush 7, 2) := by decide +kernel
theorem md_Mail_remove_19 : decode mb_Mail_remove 19 = .ok (.imul, 1) := by decide +kernel
theorem md_Mail_remove_20 : decode mb_Mail_remove 20 = .ok (.aload_n 0, 1) := by decide +kernel
theorem md_Mail_remove_21 : decode mb_Mail_remove 21 = .ok (.getfield 20, 3) := by decide +kernel
theorem md_Mail_remove_24 : decode mb_Mail_remove 24 = .ok (.bipush 7, 2) := by decide +kernel
theorem md_Mail_remove_26 : decode mb_Mail_remove 26 = .ok (.imul, 1) := by decide +kernel
theorem md_Mail_remove_27 : decode mb_Mail_remove 27 = .ok (.iload_n 2, 1) := by decide +kernel
theorem md_Mail_remove_28 : decode mb_Mail_remove 28 = .ok (.isub, 1) := by decide +kernel
theorem md_Mail_remove_29 : decode mb_Mail_remove 29 = .ok (.invokestatic 52, 3) := by decide +kernel
theorem md_Mail_remove_32 : decode mb_Mail_remove 32 = .ok (.aload_n 0, 1) := by decide +kernel
theorem md_Mail_remove_33 : decode mb_Mail_remove 33 = .ok (.dup, 1) := by decide +kernel
theorem md_Mail_remove_34 : decode mb_Mail_remove 34 = .ok (.getfield 20, 3) := by decide +kernel
theorem md_Mail_remove_37 : decode mb_Mail_remove 37 = .ok (.iconst 1, 1) := by decide +kernel
theorem md_Mail_remove_38 : decode mb_Mail_remove 38 = .ok (.isub, 1) := by decide +kernel
theorem md_Mail_remove_39 : decode mb_Mail_remove 39 = .ok (.putfield 20, 3) := by decide +kernel
theorem md_Mail_remove_42 : decode mb_Mail_remove 42 = .ok (.return_, 1) := by decide +kernel
theorem md_Mail_take_0 : decode mb_Mail_take 0 = .ok (.iload_n 1, 1) := by decide +kernel
theorem md_Mail_take_1 : decode mb_Mail_take 1 = .ok (.bipush 7, 2) := by decide +kernel
theorem md_Mail_take_3 : decode mb_Mail_take 3 = .ok (.imul, 1) := by decide +kernel
theorem md_Mail_take_4 : decode mb_Mail_take 4 = .ok (.istore_n 2, 1) := by decide +kernel
theorem md_Mail_take_5 : decode mb_Mail_take 5 = .ok (.aload_n 0, 1) := by decide +kernel
theorem md_Mail_take_6 : decode mb_Mail_take 6 = .ok (.getfield 16, 3) := by decide +kernel
theorem md_Mail_take_9 : decode mb_Mail_take 9 = .ok (.aload_n 0, 1) := by decide +kernel
theorem md_Mail_take_10 : decode mb_Mail_take 10 = .ok (.getfield 9, 3) := by decide +kernel
theorem md_Mail_take_13 : decode mb_Mail_take 13 = .ok (.iload_n 2, 1) := by decide +kernel
theorem md_Mail_take_14 : decode mb_Mail_take 14 = .ok (.iconst 0, 1) := by decide +kernel
theorem md_Mail_take_15 : decode mb_Mail_take 15 = .ok (.iadd, 1) := by decide +kernel
theorem md_Mail_take_16 : decode mb_Mail_take 16 = .ok (.iaload, 1) := by decide +kernel
theorem md_Mail_take_17 : decode mb_Mail_take 17 = .ok (.putfield 27, 3) := by decide +kernel
theorem md_Mail_take_20 : decode mb_Mail_take 20 = .ok (.aload_n 0, 1) := by decide +kernel
theorem md_Mail_take_21 : decode mb_Mail_take 21 = .ok (.getfield 16, 3) := by decide +kernel
theorem md_Mail_take_24 : decode mb_Mail_take 24 = .ok (.aload_n 0, 1) := by decide +kernel
theorem md_Mail_take_25 : decode mb_Mail_take 25 = .ok (.getfield 9, 3) := by decide +kernel
theorem md_Mail_take_28 : decode mb_Mail_take 28 = .ok (.iload_n 2, 1) := by decide +kernel
theorem md_Mail_take_29 : decode mb_Mail_take 29 = .ok (.iconst 1, 1) := by decide +kernel
theorem md_Mail_take_30 : decode mb_Mail_take 30 = .ok (.iadd, 1) := by decide +kernel
theorem md_Mail_take_31 : decode mb_Mail_take 31 = .ok (.iaload, 1) := by decide +kernel
theorem md_Mail_take_32 : decode mb_Mail_take 32 = .ok (.putfield 30, 3) := by decide +kernel
theorem md_Mail_take_35 : decode mb_Mail_take 35 = .ok (.aload_n 0, 1) := by decide +kernel
theorem md_Mail_take_36 : decode mb_Mail_take 36 = .ok (.getfield 16, 3) := by decide +kernel
theorem md_Mail_take_39 : decode mb_Mail_take 39 = .ok (.aload_n 0, 1) := by decide +kernel
theorem md_Mail_take_40 : decode mb_Mail_take 40 = .ok (.getfield 9, 3) := by decide +kernel
theorem md_Mail_take_43 : decode mb_Mail_take 43 = .ok (.iload_n 2, 1) := by decide +kernel
theorem md_Mail_take_44 : decode mb_Mail_take 44 = .ok (.iconst 2, 1) := by decide +kernel
theorem md_Mail_take_45 : decode mb_Mail_take 45 = .ok (.iadd, 1) := by decide +kernel
theorem md_Mail_take_46 : decode mb_Mail_take 46 = .ok (.iaload, 1) := by decide +kernel
theorem md_Mail_take_47 : decode mb_Mail_take 47 = .ok (.putfield 33, 3) := by decide +kernel
theorem md_Mail_take_50 : decode mb_Mail_take 50 = .ok (.aload_n 0, 1) := by decide +kernel
theorem md_Mail_take_51 : decode mb_Mail_take 51 = .ok (.getfield 16, 3) := by decide +kernel
theorem md_Mail_take_54 : decode mb_Mail_take 54 = .ok (.aload_n 0, 1) := by decide +kernel
theorem md_Mail_take_55 : decode mb_Mail_take 55 = .ok (.getfield 9, 3) := by decide +kernel
theorem md_Mail_take_58 : decode mb_Mail_take 58 = .ok (.iload_n 2, 1) := by decide +kernel
theorem md_Mail_take_59 : decode mb_Mail_take 59 = .ok (.iconst 3, 1) := by decide +kernel
theorem md_Mail_take_60 : decode mb_Mail_take 60 = .ok (.iadd, 1) := by decide +kernel
theorem md_Mail_take_61 : decode mb_Mail_take 61 = .ok (.iaload, 1) := by decide +kernel
theorem md_Mail_take_62 : decode mb_Mail_take 62 = .ok (.putfield 36, 3) := by decide +kernel
theorem md_Mail_take_65 : decode mb_Mail_take 65 = .ok (.aload_n 0, 1) := by decide +kernel
theorem md_Mail_take_66 : decode mb_Mail_take 66 = .ok (.getfield 16, 3) := by decide +kernel
theorem md_Mail_take_69 : decode mb_Mail_take 69 = .ok (.aload_n 0, 1) := by decide +kernel
theorem md_Mail_take_70 : decode mb_Mail_take 70 = .ok (.getfield 9, 3) := by decide +kernel
theorem md_Mail_take_73 : decode mb_Mail_take 73 = .ok (.iload_n 2, 1) := by decide +kernel
theorem md_Mail_take_74 : decode mb_Mail_take 74 = .ok (.iconst 4, 1) := by decide +kernel
theorem md_Mail_take_75 : decode mb_Mail_take 75 = .ok (.iadd, 1) := by decide +kernel
theorem md_Mail_take_76 : decode mb_Mail_take 76 = .ok (.iaload, 1) := by decide +kernel
theorem md_Mail_take_77 : decode mb_Mail_take 77 = .ok (.putfield 39, 3) := by decide +kernel
theorem md_Mail_take_80 : decode mb_Mail_take 80 = .ok (.aload_n 0, 1) := by decide +kernel
theorem md_Mail_take_81 : decode mb_Mail_take 81 = .ok (.getfield 16, 3) := by decide +kernel
theorem md_Mail_take_84 : decode mb_Mail_take 84 = .ok (.aload_n 0, 1) := by decide +kernel
theorem md_Mail_take_85 : decode mb_Mail_take 85 = .ok (.getfield 9, 3) := by decide +kernel
theorem md_Mail_take_88 : decode mb_Mail_take 88 = .ok (.iload_n 2, 1) := by decide +kernel
theorem md_Mail_take_89 : decode mb_Mail_take 89 = .ok (.iconst 5, 1) := by decide +kernel
theorem md_Mail_take_90 : decode mb_Mail_take 90 = .ok (.iadd, 1) := by decide +kernel
theorem md_Mail_take_91 : decode mb_Mail_take 91 = .ok (.iaload, 1) := by decide +kernel
theorem md_Mail_take_92 : decode mb_Mail_take 92 = .ok (.putfield 42, 3) := by decide +kernel
theorem md_Mail_take_95 : decode mb_Mail_take 95 = .ok (.aload_n 0, 1) := by decide +kernel
theorem md_Mail_take_96 : decode mb_Mail_take 96 = .ok (.getfield 16, 3) := by decide +kernel
theorem md_Mail_take_99 : decode mb_Mail_take 99 = .ok (.aload_n 0, 1) := by decide +kernel
theorem md_Mail_take_100 : decode mb_Mail_take 100 = .ok (.getfield 9, 3) := by decide +kernel
theorem md_Mail_take_103 : decode mb_Mail_take 103 = .ok (.iload_n 2, 1) := by decide +kernel
theorem md_Mail_take_104 : decode mb_Mail_take 104 = .ok (.bipush 6, 2) := by decide +kernel
theorem md_Mail_take_106 : decode mb_Mail_take 106 = .ok (.iadd, 1) := by decide +kernel
theorem md_Mail_take_107 : decode mb_Mail_take 107 = .ok (.iaload, 1) := by decide +kernel
theorem md_Mail_take_108 : decode mb_Mail_take 108 = .ok (.putfield 45, 3) := by decide +kernel
theorem md_Mail_take_111 : decode mb_Mail_take 111 = .ok (.aload_n 0, 1) := by decide +kernel
theorem md_Mail_take_112 : decode mb_Mail_take 112 = .ok (.iload_n 1, 1) := by decide +kernel
theorem md_Mail_take_113 : decode mb_Mail_take 113 = .ok (.invokevirtual 48, 3) := by decide +kernel
theorem md_Mail_take_116 : decode mb_Mail_take 116 = .ok (.aload_n 0, 1) := by decide +kernel
theorem md_Mail_take_117 : decode mb_Mail_take 117 = .ok (.getfield 16, 3) := by decide +kernel
theorem md_Mail_take_120 : decode mb_Mail_take 120 = .ok (.areturn, 1) := by decide +kernel
theorem md_Siz_quorumOf_0 : decode mb_Siz_quorumOf 0 = .ok (.iload_n 1, 1) := by decide +kernel
theorem md_Siz_quorumOf_1 : decode mb_Siz_quorumOf 1 = .ok (.invokestatic 34, 3) := by decide +kernel
theorem md_Siz_quorumOf_4 : decode mb_Siz_quorumOf 4 = .ok (.ifCond .eq 10, 3) := by decide +kernel
theorem md_Siz_quorumOf_7 : decode mb_Siz_quorumOf 7 = .ok (.aload_n 0, 1) := by decide +kernel
theorem md_Siz_quorumOf_8 : decode mb_Siz_quorumOf 8 = .ok (.getfield 31, 3) := by decide +kernel
theorem md_Siz_quorumOf_11 : decode mb_Siz_quorumOf 11 = .ok (.goto 7, 3) := by decide +kernel
theorem md_Siz_quorumOf_14 : decode mb_Siz_quorumOf 14 = .ok (.aload_n 0, 1) := by decide +kernel
theorem md_Siz_quorumOf_15 : decode mb_Siz_quorumOf 15 = .ok (.getfield 28, 3) := by decide +kernel
theorem md_Siz_quorumOf_18 : decode mb_Siz_quorumOf 18 = .ok (.ireturn, 1) := by decide +kernel
theorem md_Tal_tally_0 : decode mb_Tal_tally 0 = .ok (.iload_n 1, 1) := by decide +kernel
theorem md_Tal_tally_1 : decode mb_Tal_tally 1 = .ok (.aload_n 0, 1) := by decide +kernel
theorem md_Tal_tally_2 : decode mb_Tal_tally 2 = .ok (.getfield 9, 3) := by decide +kernel
theorem md_Tal_tally_5 : decode mb_Tal_tally 5 = .ok (.getfield 15, 3) := by decide +kernel
theorem md_Tal_tally_8 : decode mb_Tal_tally 8 = .ok (.imul, 1) := by decide +kernel
theorem md_Tal_tally_9 : decode mb_Tal_tally 9 = .ok (.istore_n 3, 1) := by decide +kernel
theorem md_Tal_tally_10 : decode mb_Tal_tally 10 = .ok (.iconst 0, 1) := by decide +kernel
theorem md_Tal_tally_11 : decode mb_Tal_tally 11 = .ok (.istore 4, 2) := by decide +kernel
theorem md_Tal_tally_13 : decode mb_Tal_tally 13 = .ok (.iconst 0, 1) := by decide +kernel
theorem md_Tal_tally_14 : decode mb_Tal_tally 14 = .ok (.istore 5, 2) := by decide +kernel
theorem md_Tal_tally_16 : decode mb_Tal_tally 16 = .ok (.iload 5, 2) := by decide +kernel
theorem md_Tal_tally_18 : decode mb_Tal_tally 18 = .ok (.aload_n 0, 1) := by decide +kernel
theorem md_Tal_tally_19 : decode mb_Tal_tally 19 = .ok (.getfield 9, 3) := by decide +kernel
theorem md_Tal_tally_22 : decode mb_Tal_tally 22 = .ok (.getfield 15, 3) := by decide +kernel
theorem md_Tal_tally_25 : decode mb_Tal_tally 25 = .ok (.if_icmp .ge 25, 3) := by decide +kernel
theorem md_Tal_tally_28 : decode mb_Tal_tally 28 = .ok (.aload_n 0, 1) := by decide +kernel
theorem md_Tal_tally_29 : decode mb_Tal_tally 29 = .ok (.getfield 21, 3) := by decide +kernel
theorem md_Tal_tally_32 : decode mb_Tal_tally 32 = .ok (.iload_n 3, 1) := by decide +kernel
theorem md_Tal_tally_33 : decode mb_Tal_tally 33 = .ok (.iload 5, 2) := by decide +kernel
theorem md_Tal_tally_35 : decode mb_Tal_tally 35 = .ok (.iadd, 1) := by decide +kernel
theorem md_Tal_tally_36 : decode mb_Tal_tally 36 = .ok (.iaload, 1) := by decide +kernel
theorem md_Tal_tally_37 : decode mb_Tal_tally 37 = .ok (.iload_n 2, 1) := by decide +kernel
theorem md_Tal_tally_38 : decode mb_Tal_tally 38 = .ok (.if_icmp .ne 6, 3) := by decide +kernel
theorem md_Tal_tally_41 : decode mb_Tal_tally 41 = .ok (.iinc 4 1, 3) := by decide +kernel
theorem md_Tal_tally_44 : decode mb_Tal_tally 44 = .ok (.iinc 5 1, 3) := by decide +kernel
theorem md_Tal_tally_47 : decode mb_Tal_tally 47 = .ok (.goto (-31), 3) := by decide +kernel
theorem md_Tal_tally_50 : decode mb_Tal_tally 50 = .ok (.iload 4, 2) := by decide +kernel
theorem md_Tal_tally_52 : decode mb_Tal_tally 52 = .ok (.ireturn, 1) := by decide +kernel
theorem md_Tal_record_0 : decode mb_Tal_record 0 = .ok (.aload_n 0, 1) := by decide +kernel
theorem md_Tal_record_1 : decode mb_Tal_record 1 = .ok (.getfield 21, 3) := by decide +kernel
theorem md_Tal_record_4 : decode mb_Tal_record 4 = .ok (.iload_n 1, 1) := by decide +kernel
theorem md_Tal_record_5 : decode mb_Tal_record 5 = .ok (.aload_n 0, 1) := by decide +kernel
theorem md_Tal_record_6 : decode mb_Tal_record 6 = .ok (.getfield 9, 3) := by decide +kernel
theorem md_Tal_record_9 : decode mb_Tal_record 9 = .ok (.getfield 15, 3) := by decide +kernel
theorem md_Tal_record_12 : decode mb_Tal_record 12 = .ok (.imul, 1) := by decide +kernel
theorem md_Tal_record_13 : decode mb_Tal_record 13 = .ok (.iload_n 2, 1) := by decide +kernel
theorem md_Tal_record_14 : decode mb_Tal_record 14 = .ok (.iadd, 1) := by decide +kernel
theorem md_Tal_record_15 : decode mb_Tal_record 15 = .ok (.iload_n 3, 1) := by decide +kernel
theorem md_Tal_record_16 : decode mb_Tal_record 16 = .ok (.iastore, 1) := by decide +kernel
theorem md_Tal_record_17 : decode mb_Tal_record 17 = .ok (.aload_n 0, 1) := by decide +kernel
theorem md_Tal_record_18 : decode mb_Tal_record 18 = .ok (.getfield 25, 3) := by decide +kernel
theorem md_Tal_record_21 : decode mb_Tal_record 21 = .ok (.ifCond .ne 25, 3) := by decide +kernel
theorem md_Tal_record_24 : decode mb_Tal_record 24 = .ok (.aload_n 0, 1) := by decide +kernel
theorem md_Tal_record_25 : decode mb_Tal_record 25 = .ok (.iload_n 1, 1) := by decide +kernel
theorem md_Tal_record_26 : decode mb_Tal_record 26 = .ok (.iload_n 3, 1) := by decide +kernel
theorem md_Tal_record_27 : decode mb_Tal_record 27 = .ok (.invokevirtual 28, 3) := by decide +kernel
theorem md_Tal_record_30 : decode mb_Tal_record 30 = .ok (.aload_n 0, 1) := by decide +kernel
theorem md_Tal_record_31 : decode mb_Tal_record 31 = .ok (.getfield 9, 3) := by decide +kernel
theorem md_Tal_record_34 : decode mb_Tal_record 34 = .ok (.iload_n 1, 1) := by decide +kernel
theorem md_Tal_record_35 : decode mb_Tal_record 35 = .ok (.invokevirtual 32, 3) := by decide +kernel
theorem md_Tal_record_38 : decode mb_Tal_record 38 = .ok (.if_icmp .lt 8, 3) := by decide +kernel
theorem md_Tal_record_41 : decode mb_Tal_record 41 = .ok (.aload_n 0, 1) := by decide +kernel
theorem md_Tal_record_42 : decode mb_Tal_record 42 = .ok (.iload_n 3, 1) := by decide +kernel
theorem md_Tal_record_43 : decode mb_Tal_record 43 = .ok (.putfield 25, 3) := by decide +kernel
theorem md_Tal_record_46 : decode mb_Tal_record 46 = .ok (.return_, 1) := by decide +kernel
theorem fr_k6 {n q f : Nat} {S : pz_T} {ex : Nat → Nat → Prop} {M M' : fr_M} (h : fr_R n q f S ex M) (hk : ∀ k, k ≠ (6, 0) → M' k = M k) : fr_R n q f S ex M' := by
  obtain ⟨a1, a2, a4, a5, a9, a10, a13, a14, a15⟩ := h
  have m : ∀ x y, x ≠ 6 → M' (x, y) = M (x, y) := fun x y hx => hk _ (fr_pair hx)
  refine ⟨?_, ?_, ?_, ?_, ?_, ?_, ?_, ?_, ?_⟩
  · unfold fr_1; rw [m 1 0 (by omega)]; exact a1
  · unfold fr_2; rw [m 2 0 (by omega)]; exact a2
  · intro w hw; rw [m 4 0 (by omega)]; exact a4 w hw
  · intro i x hx; rw [m 5 0 (by omega)]; exact a5 i x hx
  · intro s c hs hc; rw [m 9 _ (by omega)]; exact a9 s c hs hc
  · intro s c hs hc hx; rw [m 9 _ (by omega), m 10 _ (by omega), m 11 _ (by omega), m 12 _ (by omega)]; exact a10 s c hs hc hx
  · intro s hs; rw [m 13 _ (by omega), m 13 _ (by omega)]; exact a13 s hs
  · intro s r a hs hr ha; rw [m 14 _ (by omega), m 14 _ (by omega)]; exact a14 s r a hs hr ha
  · intro s a hs ha; rw [m 15 _ (by omega)]; exact a15 s a hs ha
set_option maxHeartbeats 4000000 in
theorem k_valueIn (l : Launch) (D : va_G) {n : Nat} (ad : Nat × Nat → Nat) (cI cZ cS cA : ClassId) {M : fr_M} {q f : Nat} {S : pz_T} {ex : Nat → Nat → Prop} {j : Nat} {g : pz_M} (h : fr_R n q f S ex M) (h60 : S.1.length ≤ 60) (hg : S.1[j]? = some g) : fb_C l D n ad cI cZ cS cA my_Mail_valueIn mb_Mail_valueIn 2 (some .int) 0 0 M [.ref (ad (2, 0)), .int (nI (j))] (some (.int (nI (g 5)))) (fun M' => M' = M) := by
  have hj : j < S.1.length := (List.getElem?_eq_some_iff.mp hg).1
  have hrow := h.2.2.2.1 j g hg
  refine xw_start [.ref (ad (2, 0)), .int (nI (j))] (by decide) (Nat.le_of_ble_eq_true rfl) ?_
  intro p e st m below meth cd0 ls Z hml hr hlk hN hl hw
  have hl : lv_has ls 2 [(0, .ref (ad (2, 0))), (1, .int (nI (j)))] := hl
  refine lv_aload_n Z.1 Z.2.1 md_Mail_valueIn_0 rfl (lv_at hl 0 rfl) ?_
  refine xb_get (v := .ref (ad (5, 0))) Z hw (fb_in2 n) (fb_e2 n ad cI cZ cS cA) rfl tb_iMail 0 (by decide) mk_Mail_9 rfl rfl md_Mail_valueIn_1 ?_
  refine lv_iload_n Z.1 Z.2.1 md_Mail_valueIn_4 rfl (lv_at hl 1 rfl) ?_
  refine lv_bipush (v := nI 7) Z.1 Z.2.1 md_Mail_valueIn_5 (by decide) ?_
  refine xi_mul Z md_Mail_valueIn_7 ?_
  refine lv_iconst (v := nI 5) Z.1 Z.2.1 md_Mail_valueIn_8 (by decide) ?_
  refine xi_add Z md_Mail_valueIn_9 ?_
  refine xw_iald Z hw (fb_in5 n) (fb_e5 n ad cI cZ cS cA) 0 rfl (j * 7 + 5) rfl (by omega) (by omega) md_Mail_valueIn_10 ?_
  refine xi_re (show M (5, 0) (j * 7 + 5) = nI (g 5) from hrow.2.2.2.2.2.1) ?_
  exact xw_iret Z hr hlk hw md_Mail_valueIn_11 rfl rfl
set_option maxHeartbeats 4000000 in
theorem k_label (l : Launch) (D : va_G) {n : Nat} (ad : Nat × Nat → Nat) (cI cZ cS cA : ClassId) {M : fr_M} {q f : Nat} {S : pz_T} {ex : Nat → Nat → Prop} {j : Nat} {g : pz_M} (h : fr_R n q f S ex M) (h60 : S.1.length ≤ 60) (hg : S.1[j]? = some g) : fb_C l D n ad cI cZ cS cA my_Mail_label mb_Mail_label 4 (some .int) 0 0 M [.ref (ad (2, 0)), .int (nI (j))] (some (.int (nI (100000 * g 0 + 10000 * g 1 + 100 * g 2 + g 4)))) (fun M' => M' = M) := by
  have hj : j < S.1.length := (List.getElem?_eq_some_iff.mp hg).1
  have hrow := h.2.2.2.1 j g hg
  refine xw_start [.ref (ad (2, 0)), .int (nI (j))] (by decide) (Nat.le_of_ble_eq_true rfl) ?_
  intro p e st m below meth cd0 ls Z hml hr hlk hN hl hw
  have hl : lv_has ls 4 [(0, .ref (ad (2, 0))), (1, .int (nI (j)))] := hl
  refine lv_iload_n Z.1 Z.2.1 md_Mail_label_0 rfl (lv_at hl 1 rfl) ?_
  refine lv_bipush (v := nI 7) Z.1 Z.2.1 md_Mail_label_1 (by decide) ?_
  refine xi_mul Z md_Mail_label_3 ?_
  refine lv_istore_n Z.1 Z.2.1 md_Mail_label_4 rfl hl (by decide) rfl (fun ls hl => ?_)
  have hl : lv_has ls 4 [(2, .int (nI (j * 7))), (0, .ref (ad (2, 0))), (1, .int (nI (j)))] := hl
  refine lv_ldc Z.1 Z.2.1 Z.2.2.2.1 (Z.2.2.1 _ (List.mem_cons_of_mem _ mk_Mail_58)) md_Mail_label_5 ?_
  refine xi_re (show _ = nI (100000) by decide) ?_
  refine lv_aload_n Z.1 Z.2.1 md_Mail_label_7 rfl (lv_at hl 1 rfl) ?_
  refine xb_get (v := .ref (ad (5, 0))) Z hw (fb_in2 n) (fb_e2 n ad cI cZ cS cA) rfl tb_iMail 0 (by decide) mk_Mail_9 rfl rfl md_Mail_label_8 ?_
  refine lv_iload_n Z.1 Z.2.1 md_Mail_label_11 rfl (lv_at hl 0 rfl) ?_
  refine lv_iconst (v := nI 0) Z.1 Z.2.1 md_Mail_label_12 (by decide) ?_
  refine xi_add Z md_Mail_label_13 ?_
  refine xw_iald Z hw (fb_in5 n) (fb_e5 n ad cI cZ cS cA) 0 rfl (j * 7 + 0) rfl (by omega) (by omega) md_Mail_label_14 ?_
  refine xi_re (show M (5, 0) (j * 7 + 0) = nI (g 0) from hrow.1) ?_
  refine xi_mul Z md_Mail_label_15 ?_
  refine lv_sipush (v := nI 10000) Z.1 Z.2.1 md_Mail_label_16 (by decide) ?_
  refine lv_aload_n Z.1 Z.2.1 md_Mail_label_19 rfl (lv_at hl 1 rfl) ?_
  refine xb_get (v := .ref (ad (5, 0))) Z hw (fb_in2 n) (fb_e2 n ad cI cZ cS cA) rfl tb_iMail 0 (by decide) mk_Mail_9 rfl rfl md_Mail_label_20 ?_
  refine lv_iload_n Z.1 Z.2.1 md_Mail_label_23 rfl (lv_at hl 0 rfl) ?_
  refine lv_iconst (v := nI 1) Z.1 Z.2.1 md_Mail_label_24 (by decide) ?_
  refine xi_add Z md_Mail_label_25 ?_
  refine xw_iald Z hw (fb_in5 n) (fb_e5 n ad cI cZ cS cA) 0 rfl (j * 7 + 1) rfl (by omega) (by omega) md_Mail_label_26 ?_
  refine xi_re (show M (5, 0) (j * 7 + 1) = nI (g 1) from hrow.2.1) ?_
  refine xi_mul Z md_Mail_label_27 ?_
  refine xi_add Z md_Mail_label_28 ?_
  refine lv_istore_n Z.1 Z.2.1 md_Mail_label_29 rfl hl (by decide) rfl (fun ls hl => ?_)
  have hl : lv_has ls 4 [(3, .int (nI ((100000 * (g 0)) + (10000 * (g 1))))), (2, .int (nI (j * 7))), (0, .ref (ad (2, 0))), (1, .int (nI (j)))] := hl
  refine lv_iload_n Z.1 Z.2.1 md_Mail_label_30 rfl (lv_at hl 0 rfl) ?_
  refine lv_bipush (v := nI 100) Z.1 Z.2.1 md_Mail_label_31 (by decide) ?_
  refine lv_aload_n Z.1 Z.2.1 md_Mail_label_33 rfl (lv_at hl 2 rfl) ?_
  refine xb_get (v := .ref (ad (5, 0))) Z hw (fb_in2 n) (fb_e2 n ad cI cZ cS cA) rfl tb_iMail 0 (by decide) mk_Mail_9 rfl rfl md_Mail_label_34 ?_
  refine lv_iload_n Z.1 Z.2.1 md_Mail_label_37 rfl (lv_at hl 1 rfl) ?_
  refine lv_iconst (v := nI 2) Z.1 Z.2.1 md_Mail_label_38 (by decide) ?_
  refine xi_add Z md_Mail_label_39 ?_
  refine xw_iald Z hw (fb_in5 n) (fb_e5 n ad cI cZ cS cA) 0 rfl (j * 7 + 2) rfl (by omega) (by omega) md_Mail_label_40 ?_
  refine xi_re (show M (5, 0) (j * 7 + 2) = nI (g 2) from hrow.2.2.1) ?_
  refine xi_mul Z md_Mail_label_41 ?_
  refine xi_add Z md_Mail_label_42 ?_
  refine lv_aload_n Z.1 Z.2.1 md_Mail_label_43 rfl (lv_at hl 2 rfl) ?_
  refine xb_get (v := .ref (ad (5, 0))) Z hw (fb_in2 n) (fb_e2 n ad cI cZ cS cA) rfl tb_iMail 0 (by decide) mk_Mail_9 rfl rfl md_Mail_label_44 ?_
  refine lv_iload_n Z.1 Z.2.1 md_Mail_label_47 rfl (lv_at hl 1 rfl) ?_
  refine lv_iconst (v := nI 4) Z.1 Z.2.1 md_Mail_label_48 (by decide) ?_
  refine xi_add Z md_Mail_label_49 ?_
  refine xw_iald Z hw (fb_in5 n) (fb_e5 n ad cI cZ cS cA) 0 rfl (j * 7 + 4) rfl (by omega) (by omega) md_Mail_label_50 ?_
  refine xi_re (show M (5, 0) (j * 7 + 4) = nI (g 4) from hrow.2.2.2.2.1) ?_
  refine xi_add Z md_Mail_label_51 ?_
  exact xw_iret Z hr hlk hw md_Mail_label_52 rfl rfl
set_option maxHeartbeats 4000000 in
theorem k_remove (l : Launch) (D : va_G) {n : Nat} (ad : Nat × Nat → Nat) (cI cZ cS cA : ClassId) {M : fr_M} {q f : Nat} {S : pz_T} {ex : Nat → Nat → Prop} {j : Nat} (h : fr_R n q f S ex M) (h60 : S.1.length ≤ 60) (hj : j < S.1.length) : fb_C l D n ad cI cZ cS cA my_Mail_remove mb_Mail_remove 3 none 1 18 M [.ref (ad (2, 0)), .int (nI (j))] (none) (fr_K n q f (pz_rm S j) ex M) := by
  refine xw_start [.ref (ad (2, 0)), .int (nI (j))] (by decide) (Nat.le_of_ble_eq_true rfl) ?_
  intro p e st m below meth cd0 ls Z hml hr hlk hN hl hw
  have hl : lv_has ls 3 [(0, .ref (ad (2, 0))), (1, .int (nI (j)))] := hl
  refine lv_iload_n Z.1 Z.2.1 md_Mail_remove_0 rfl (lv_at hl 1 rfl) ?_
  refine lv_iconst (v := nI 1) Z.1 Z.2.1 md_Mail_remove_1 (by decide) ?_
  refine xi_add Z md_Mail_remove_2 ?_
  refine lv_bipush (v := nI 7) Z.1 Z.2.1 md_Mail_remove_3 (by decide) ?_
  refine xi_mul Z md_Mail_remove_5 ?_
  refine lv_istore_n Z.1 Z.2.1 md_Mail_remove_6 rfl hl (by decide) rfl (fun ls hl => ?_)
  have hl : lv_has ls 3 [(2, .int (nI ((j + 1) * 7))), (0, .ref (ad (2, 0))), (1, .int (nI (j)))] := hl
  refine lv_aload_n Z.1 Z.2.1 md_Mail_remove_7 rfl (lv_at hl 1 rfl) ?_
  refine xb_get (v := .ref (ad (5, 0))) Z hw (fb_in2 n) (fb_e2 n ad cI cZ cS cA) rfl tb_iMail 0 (by decide) mk_Mail_9 rfl rfl md_Mail_remove_8 ?_
  refine lv_iload_n Z.1 Z.2.1 md_Mail_remove_11 rfl (lv_at hl 0 rfl) ?_
  refine lv_aload_n Z.1 Z.2.1 md_Mail_remove_12 rfl (lv_at hl 1 rfl) ?_
  refine xb_get (v := .ref (ad (5, 0))) Z hw (fb_in2 n) (fb_e2 n ad cI cZ cS cA) rfl tb_iMail 0 (by decide) mk_Mail_9 rfl rfl md_Mail_remove_13 ?_
  refine lv_iload_n Z.1 Z.2.1 md_Mail_remove_16 rfl (lv_at hl 2 rfl) ?_
  refine lv_bipush (v := nI 7) Z.1 Z.2.1 md_Mail_remove_17 (by decide) ?_
  refine xi_mul Z md_Mail_remove_19 ?_
  refine lv_aload_n Z.1 Z.2.1 md_Mail_remove_20 rfl (lv_at hl 1 rfl) ?_
  refine xb_get (v := .int (M (2, 0) 2)) Z hw (fb_in2 n) (fb_e2 n ad cI cZ cS cA) rfl tb_iMail 2 (by decide) mk_Mail_20 rfl rfl md_Mail_remove_21 ?_
  refine xi_re (show M (2, 0) 2 = nI (S.1.length) from h.2.1.1) ?_
  refine lv_bipush (v := nI 7) Z.1 Z.2.1 md_Mail_remove_24 (by decide) ?_
  refine xi_mul Z md_Mail_remove_26 ?_
  refine lv_iload_n Z.1 Z.2.1 md_Mail_remove_27 rfl (lv_at hl 0 rfl) ?_
  refine xi_sub Z md_Mail_remove_28 (by omega) ?_
  refine xb_copy Z (hml.trans hl.1.symm) hw (fb_in5 n) (fb_e5 n ad cI cZ cS cA) 0 rfl mk_Mail_52 (a := (j + 1) * 7) (b := j * 7) (d := ((S.1.length) * 7) - ((j + 1) * 7)) (by omega) (by omega) (by decide) (Nat.le_of_ble_eq_true rfl) (Nat.le_of_ble_eq_true rfl) md_Mail_remove_29 (fun M1 H1 locs1 e1 hw => ?_)
  have h2 : M1 (2, 0) = M (2, 0) := by rw [e1, xw_mw_n (by decide)]
  refine lv_aload_n Z.1 Z.2.1 md_Mail_remove_32 rfl (lv_at hl 1 rfl) ?_
  refine lv_dup Z.1 Z.2.1 md_Mail_remove_33 rfl ?_
  refine xb_get (v := .int (M1 (2, 0) 2)) Z hw (fb_in2 n) (fb_e2 n ad cI cZ cS cA) rfl tb_iMail 2 (by decide) mk_Mail_20 rfl rfl md_Mail_remove_34 ?_
  refine xi_re (show M1 (2, 0) 2 = nI (S.1.length) from (by rw [h2]; exact h.2.1.1)) ?_
  refine lv_iconst (v := nI 1) Z.1 Z.2.1 md_Mail_remove_37 (by decide) ?_
  refine xi_sub Z md_Mail_remove_38 (by omega) ?_
  refine xb_put Z hw (fb_in2 n) (fb_e2 n ad cI cZ cS cA) rfl tb_iMail tb_tMail tb_yMail tb_nMail 2 (by decide) mk_Mail_20 rfl rfl rfl (fb_s2_2 ad _) md_Mail_remove_39 (fun M2 H2 locs2 e2 hw => ?_)
  refine xw_vret Z hr hlk hw md_Mail_remove_42 ⟨fr_rm h hj (fun k h2 h5 _ => by rw [e2, xw_mw_n h2, e1, xw_mw_n h5]) ?_ ?_ (fun t ht => ?_) (fun t ht1 ht2 => ?_), by rw [e2, xw_mw_n (by decide), e1, xw_mw_n (by decide)]⟩
  · rw [e2, xw_mw_s]; simp [upd]
  · rw [e2, xw_mw_s]; simp only [upd]; rw [if_neg (by decide), h2]
  · rw [e2, xw_mw_n (by decide), e1, xw_mw_s]; exact pk_cpy_out (by omega)
  · rw [e2, xw_mw_n (by decide), e1, xw_mw_s, pk_cpy_in (by omega) (by omega)]; exact congrArg _ (by omega)
set_option maxHeartbeats 4000000 in
theorem k_take (l : Launch) (D : va_G) {n : Nat} (ad : Nat × Nat → Nat) (cI cZ cS cA : ClassId) {M : fr_M} {q f : Nat} {S : pz_T} {ex : Nat → Nat → Prop} {j : Nat} {g : pz_M} (h : fr_R n q f S ex M) (h60 : S.1.length ≤ 60) (hg : S.1[j]? = some g) : fb_C l D n ad cI cZ cS cA my_Mail_take mb_Mail_take 3 (some (.object "FastBallots$Message")) 2 40 M [.ref (ad (2, 0)), .int (nI (j))] (some (.ref (ad (6, 0)))) (fun M' => fr_R n q f (pz_rm S j) ex M' ∧ fr_row g (M' (6, 0))) := by
  have hj : j < S.1.length := (List.getElem?_eq_some_iff.mp hg).1
  have hrow := h.2.2.2.1 j g hg
  refine xw_start [.ref (ad (2, 0)), .int (nI (j))] (by decide) (Nat.le_of_ble_eq_true rfl) ?_
  intro p e st m below meth cd0 ls Z hml hr hlk hN hl hw
  have hl : lv_has ls 3 [(0, .ref (ad (2, 0))), (1, .int (nI (j)))] := hl
  refine lv_iload_n Z.1 Z.2.1 md_Mail_take_0 rfl (lv_at hl 1 rfl) ?_
  refine lv_bipush (v := nI 7) Z.1 Z.2.1 md_Mail_take_1 (by decide) ?_
  refine xi_mul Z md_Mail_take_3 ?_
  refine lv_istore_n Z.1 Z.2.1 md_Mail_take_4 rfl hl (by decide) rfl (fun ls hl => ?_)
  have hl : lv_has ls 3 [(2, .int (nI (j * 7))), (0, .ref (ad (2, 0))), (1, .int (nI (j)))] := hl
  refine lv_aload_n Z.1 Z.2.1 md_Mail_take_5 rfl (lv_at hl 1 rfl) ?_
  refine xb_get (v := .ref (ad (6, 0))) Z hw (fb_in2 n) (fb_e2 n ad cI cZ cS cA) rfl tb_iMail 1 (by decide) mk_Mail_16 rfl rfl md_Mail_take_6 ?_
  refine lv_aload_n Z.1 Z.2.1 md_Mail_take_9 rfl (lv_at hl 1 rfl) ?_
  refine xb_get (v := .ref (ad (5, 0))) Z hw (fb_in2 n) (fb_e2 n ad cI cZ cS cA) rfl tb_iMail 0 (by decide) mk_Mail_9 rfl rfl md_Mail_take_10 ?_
  refine lv_iload_n Z.1 Z.2.1 md_Mail_take_13 rfl (lv_at hl 0 rfl) ?_
  refine lv_iconst (v := nI 0) Z.1 Z.2.1 md_Mail_take_14 (by decide) ?_
  refine xi_add Z md_Mail_take_15 ?_
  refine xw_iald Z hw (fb_in5 n) (fb_e5 n ad cI cZ cS cA) 0 rfl (j * 7 + 0) rfl (by omega) (by omega) md_Mail_take_16 ?_
  refine xb_put Z hw (fb_in6 n) (fb_e6 n ad cI cZ cS cA) rfl tb_iMsg tb_tMsg tb_yMsg tb_nMsg 0 (by decide) mk_Mail_27 rfl rfl rfl (fb_s6_0 ad _) md_Mail_take_17 (fun M1 H1 locs1 e1 hw => ?_)
  refine lv_aload_n Z.1 Z.2.1 md_Mail_take_20 rfl (lv_at hl 1 rfl) ?_
  refine xb_get (v := .ref (ad (6, 0))) Z hw (fb_in2 n) (fb_e2 n ad cI cZ cS cA) rfl tb_iMail 1 (by decide) mk_Mail_16 rfl rfl md_Mail_take_21 ?_
  refine lv_aload_n Z.1 Z.2.1 md_Mail_take_24 rfl (lv_at hl 1 rfl) ?_
  refine xb_get (v := .ref (ad (5, 0))) Z hw (fb_in2 n) (fb_e2 n ad cI cZ cS cA) rfl tb_iMail 0 (by decide) mk_Mail_9 rfl rfl md_Mail_take_25 ?_
  refine lv_iload_n Z.1 Z.2.1 md_Mail_take_28 rfl (lv_at hl 0 rfl) ?_
  refine lv_iconst (v := nI 1) Z.1 Z.2.1 md_Mail_take_29 (by decide) ?_
  refine xi_add Z md_Mail_take_30 ?_
  refine xw_iald Z hw (fb_in5 n) (fb_e5 n ad cI cZ cS cA) 0 rfl (j * 7 + 1) rfl (by omega) (by omega) md_Mail_take_31 ?_
  refine xi_re (show M1 (5, 0) (j * 7 + 1) = M (5, 0) (j * 7 + 1) from congrFun (by rw [e1, xw_mw_n (by decide)] : M1 (5, 0) = M (5, 0)) _) ?_
  refine xb_put Z hw (fb_in6 n) (fb_e6 n ad cI cZ cS cA) rfl tb_iMsg tb_tMsg tb_yMsg tb_nMsg 1 (by decide) mk_Mail_30 rfl rfl rfl (fb_s6_1 ad _) md_Mail_take_32 (fun M2 H2 locs2 e2 hw => ?_)
  refine lv_aload_n Z.1 Z.2.1 md_Mail_take_35 rfl (lv_at hl 1 rfl) ?_
  refine xb_get (v := .ref (ad (6, 0))) Z hw (fb_in2 n) (fb_e2 n ad cI cZ cS cA) rfl tb_iMail 1 (by decide) mk_Mail_16 rfl rfl md_Mail_take_36 ?_
  refine lv_aload_n Z.1 Z.2.1 md_Mail_take_39 rfl (lv_at hl 1 rfl) ?_
  refine xb_get (v := .ref (ad (5, 0))) Z hw (fb_in2 n) (fb_e2 n ad cI cZ cS cA) rfl tb_iMail 0 (by decide) mk_Mail_9 rfl rfl md_Mail_take_40 ?_
  refine lv_iload_n Z.1 Z.2.1 md_Mail_take_43 rfl (lv_at hl 0 rfl) ?_
  refine lv_iconst (v := nI 2) Z.1 Z.2.1 md_Mail_take_44 (by decide) ?_
  refine xi_add Z md_Mail_take_45 ?_
  refine xw_iald Z hw (fb_in5 n) (fb_e5 n ad cI cZ cS cA) 0 rfl (j * 7 + 2) rfl (by omega) (by omega) md_Mail_take_46 ?_
  refine xi_re (show M2 (5, 0) (j * 7 + 2) = M (5, 0) (j * 7 + 2) from congrFun (by rw [e2, xw_mw_n (by decide), e1, xw_mw_n (by decide)] : M2 (5, 0) = M (5, 0)) _) ?_
  refine xb_put Z hw (fb_in6 n) (fb_e6 n ad cI cZ cS cA) rfl tb_iMsg tb_tMsg tb_yMsg tb_nMsg 2 (by decide) mk_Mail_33 rfl rfl rfl (fb_s6_2 ad _) md_Mail_take_47 (fun M3 H3 locs3 e3 hw => ?_)
  refine lv_aload_n Z.1 Z.2.1 md_Mail_take_50 rfl (lv_at hl 1 rfl) ?_
  refine xb_get (v := .ref (ad (6, 0))) Z hw (fb_in2 n) (fb_e2 n ad cI cZ cS cA) rfl tb_iMail 1 (by decide) mk_Mail_16 rfl rfl md_Mail_take_51 ?_
  refine lv_aload_n Z.1 Z.2.1 md_Mail_take_54 rfl (lv_at hl 1 rfl) ?_
  refine xb_get (v := .ref (ad (5, 0))) Z hw (fb_in2 n) (fb_e2 n ad cI cZ cS cA) rfl tb_iMail 0 (by decide) mk_Mail_9 rfl rfl md_Mail_take_55 ?_
  refine lv_iload_n Z.1 Z.2.1 md_Mail_take_58 rfl (lv_at hl 0 rfl) ?_
  refine lv_iconst (v := nI 3) Z.1 Z.2.1 md_Mail_take_59 (by decide) ?_
  refine xi_add Z md_Mail_take_60 ?_
  refine xw_iald Z hw (fb_in5 n) (fb_e5 n ad cI cZ cS cA) 0 rfl (j * 7 + 3) rfl (by omega) (by omega) md_Mail_take_61 ?_
  refine xi_re (show M3 (5, 0) (j * 7 + 3) = M (5, 0) (j * 7 + 3) from congrFun (by rw [e3, xw_mw_n (by decide), e2, xw_mw_n (by decide), e1, xw_mw_n (by decide)] : M3 (5, 0) = M (5, 0)) _) ?_
  refine xb_put Z hw (fb_in6 n) (fb_e6 n ad cI cZ cS cA) rfl tb_iMsg tb_tMsg tb_yMsg tb_nMsg 3 (by decide) mk_Mail_36 rfl rfl rfl (fb_s6_3 ad _) md_Mail_take_62 (fun M4 H4 locs4 e4 hw => ?_)
  refine lv_aload_n Z.1 Z.2.1 md_Mail_take_65 rfl (lv_at hl 1 rfl) ?_
  refine xb_get (v := .ref (ad (6, 0))) Z hw (fb_in2 n) (fb_e2 n ad cI cZ cS cA) rfl tb_iMail 1 (by decide) mk_Mail_16 rfl rfl md_Mail_take_66 ?_
  refine lv_aload_n Z.1 Z.2.1 md_Mail_take_69 rfl (lv_at hl 1 rfl) ?_
  refine xb_get (v := .ref (ad (5, 0))) Z hw (fb_in2 n) (fb_e2 n ad cI cZ cS cA) rfl tb_iMail 0 (by decide) mk_Mail_9 rfl rfl md_Mail_take_70 ?_
  refine lv_iload_n Z.1 Z.2.1 md_Mail_take_73 rfl (lv_at hl 0 rfl) ?_
  refine lv_iconst (v := nI 4) Z.1 Z.2.1 md_Mail_take_74 (by decide) ?_
  refine xi_add Z md_Mail_take_75 ?_
  refine xw_iald Z hw (fb_in5 n) (fb_e5 n ad cI cZ cS cA) 0 rfl (j * 7 + 4) rfl (by omega) (by omega) md_Mail_take_76 ?_
  refine xi_re (show M4 (5, 0) (j * 7 + 4) = M (5, 0) (j * 7 + 4) from congrFun (by rw [e4, xw_mw_n (by decide), e3, xw_mw_n (by decide), e2, xw_mw_n (by decide), e1, xw_mw_n (by decide)] : M4 (5, 0) = M (5, 0)) _) ?_
  refine xb_put Z hw (fb_in6 n) (fb_e6 n ad cI cZ cS cA) rfl tb_iMsg tb_tMsg tb_yMsg tb_nMsg 4 (by decide) mk_Mail_39 rfl rfl rfl (fb_s6_4 ad _) md_Mail_take_77 (fun M5 H5 locs5 e5 hw => ?_)
  refine lv_aload_n Z.1 Z.2.1 md_Mail_take_80 rfl (lv_at hl 1 rfl) ?_
  refine xb_get (v := .ref (ad (6, 0))) Z hw (fb_in2 n) (fb_e2 n ad cI cZ cS cA) rfl tb_iMail 1 (by decide) mk_Mail_16 rfl rfl md_Mail_take_81 ?_
  refine lv_aload_n Z.1 Z.2.1 md_Mail_take_84 rfl (lv_at hl 1 rfl) ?_
  refine xb_get (v := .ref (ad (5, 0))) Z hw (fb_in2 n) (fb_e2 n ad cI cZ cS cA) rfl tb_iMail 0 (by decide) mk_Mail_9 rfl rfl md_Mail_take_85 ?_
  refine lv_iload_n Z.1 Z.2.1 md_Mail_take_88 rfl (lv_at hl 0 rfl) ?_
  refine lv_iconst (v := nI 5) Z.1 Z.2.1 md_Mail_take_89 (by decide) ?_
  refine xi_add Z md_Mail_take_90 ?_
  refine xw_iald Z hw (fb_in5 n) (fb_e5 n ad cI cZ cS cA) 0 rfl (j * 7 + 5) rfl (by omega) (by omega) md_Mail_take_91 ?_
  refine xi_re (show M5 (5, 0) (j * 7 + 5) = M (5, 0) (j * 7 + 5) from congrFun (by rw [e5, xw_mw_n (by decide), e4, xw_mw_n (by decide), e3, xw_mw_n (by decide), e2, xw_mw_n (by decide), e1, xw_mw_n (by decide)] : M5 (5, 0) = M (5, 0)) _) ?_
  refine xb_put Z hw (fb_in6 n) (fb_e6 n ad cI cZ cS cA) rfl tb_iMsg tb_tMsg tb_yMsg tb_nMsg 5 (by decide) mk_Mail_42 rfl rfl rfl (fb_s6_5 ad _) md_Mail_take_92 (fun M6 H6 locs6 e6 hw => ?_)
  refine lv_aload_n Z.1 Z.2.1 md_Mail_take_95 rfl (lv_at hl 1 rfl) ?_
  refine xb_get (v := .ref (ad (6, 0))) Z hw (fb_in2 n) (fb_e2 n ad cI cZ cS cA) rfl tb_iMail 1 (by decide) mk_Mail_16 rfl rfl md_Mail_take_96 ?_
  refine lv_aload_n Z.1 Z.2.1 md_Mail_take_99 rfl (lv_at hl 1 rfl) ?_
  refine xb_get (v := .ref (ad (5, 0))) Z hw (fb_in2 n) (fb_e2 n ad cI cZ cS cA) rfl tb_iMail 0 (by decide) mk_Mail_9 rfl rfl md_Mail_take_100 ?_
  refine lv_iload_n Z.1 Z.2.1 md_Mail_take_103 rfl (lv_at hl 0 rfl) ?_
  refine lv_bipush (v := nI 6) Z.1 Z.2.1 md_Mail_take_104 (by decide) ?_
  refine xi_add Z md_Mail_take_106 ?_
  refine xw_iald Z hw (fb_in5 n) (fb_e5 n ad cI cZ cS cA) 0 rfl (j * 7 + 6) rfl (by omega) (by omega) md_Mail_take_107 ?_
  refine xi_re (show M6 (5, 0) (j * 7 + 6) = M (5, 0) (j * 7 + 6) from congrFun (by rw [e6, xw_mw_n (by decide), e5, xw_mw_n (by decide), e4, xw_mw_n (by decide), e3, xw_mw_n (by decide), e2, xw_mw_n (by decide), e1, xw_mw_n (by decide)] : M6 (5, 0) = M (5, 0)) _) ?_
  refine xb_put Z hw (fb_in6 n) (fb_e6 n ad cI cZ cS cA) rfl tb_iMsg tb_tMsg tb_yMsg tb_nMsg 6 (by decide) mk_Mail_45 rfl rfl rfl (fb_s6_6 ad _) md_Mail_take_108 (fun M7 H7 locs7 e7 hw => ?_)
  refine lv_aload_n Z.1 Z.2.1 md_Mail_take_111 rfl (lv_at hl 1 rfl) ?_
  refine lv_iload_n Z.1 Z.2.1 md_Mail_take_112 rfl (lv_at hl 2 rfl) ?_
  have c6 : M7 (6, 0) = upd (upd (upd (upd (upd (upd (upd (M (6, 0)) 0 (M (5, 0) (j * 7 + 0))) 1 (M (5, 0) (j * 7 + 1))) 2 (M (5, 0) (j * 7 + 2))) 3 (M (5, 0) (j * 7 + 3))) 4 (M (5, 0) (j * 7 + 4))) 5 (M (5, 0) (j * 7 + 5))) 6 (M (5, 0) (j * 7 + 6)) := by rw [e7, xw_mw_s, e6, xw_mw_s, e5, xw_mw_s, e4, xw_mw_s, e3, xw_mw_s, e2, xw_mw_s, e1, xw_mw_s]
  have h7 : fr_R n q f S ex M7 := fr_k6 h (fun k hk => by rw [e7, xw_mw_n hk, e6, xw_mw_n hk, e5, xw_mw_n hk, e4, xw_mw_n hk, e3, xw_mw_n hk, e2, xw_mw_n hk, e1, xw_mw_n hk])
  refine xw_cV (n := 1) (rest := []) Z hml hl.1 hN hw (k_remove l D ad cI cZ cS cA h7 h60 hj) tb_g mc_Mail_remove mk_Mail_48 mi_Mail_remove ms_Mail_remove mz_Mail ⟨by decide, by decide, by decide +kernel⟩ ⟨Nat.le_of_ble_eq_true rfl, Nat.le_of_ble_eq_true rfl⟩ (fb_in2 n) (fb_e2 n ad cI cZ cS cA _) rfl rfl rfl rfl (Nat.le_of_ble_eq_true rfl) ⟨Nat.le_refl _, Nat.le_refl _⟩ md_Mail_take_113 (fun M8 H8 locs8 h8 hw => ?_)
  refine W.eq (g2 := F0 m 116 ls []) rfl ?_
  refine lv_aload_n Z.1 Z.2.1 md_Mail_take_116 rfl (lv_at hl 1 rfl) ?_
  refine xb_get (v := .ref (ad (6, 0))) Z hw (fb_in2 n) (fb_e2 n ad cI cZ cS cA) rfl tb_iMail 1 (by decide) mk_Mail_16 rfl rfl md_Mail_take_117 ?_
  exact xw_aret Z hr hlk hw md_Mail_take_120 ⟨h8.1, by rw [h8.2, c6]; exact ⟨hrow.1, hrow.2.1, hrow.2.2.1, hrow.2.2.2.1, hrow.2.2.2.2.1, hrow.2.2.2.2.2.1, hrow.2.2.2.2.2.2⟩⟩
set_option maxHeartbeats 4000000 in
theorem k_quorumOf (l : Launch) (D : va_G) {n : Nat} (ad : Nat × Nat → Nat) (cI cZ cS cA : ClassId) {M : fr_M} {q f r : Nat} (h : fr_1 n q f M) (hr2 : r < 2 ^ 31) : fb_C l D n ad cI cZ cS cA my_Siz_quorumOf mb_Siz_quorumOf 2 (some .int) 1 20 M [.ref (ad (1, 0)), .int (nI (r))] (some (.int (nI (pz_en q f r)))) (fun M' => M' = M) := by
  refine xw_start [.ref (ad (1, 0)), .int (nI (r))] (by decide) (Nat.le_of_ble_eq_true rfl) ?_
  intro p e st m below meth cd0 ls Z hml hr hlk hN hl hw
  have hl : lv_has ls 2 [(0, .ref (ad (1, 0))), (1, .int (nI (r)))] := hl
  refine lv_iload_n Z.1 Z.2.1 md_Siz_quorumOf_0 rfl (lv_at hl 1 rfl) ?_
  refine xw_cN (n := 1) (rest := []) Z hml hl.1 hN hw (k_isFast l D ad cI cZ cS cA (M := M) hr2) tb_g mc_FB_isFast (host := "FastBallots") (List.mem_of_getElem? (i := 2) rfl) mt_FB_isFast mz_FB ⟨by decide, by decide, by decide +kernel⟩ ⟨Nat.le_of_ble_eq_true rfl, Nat.le_of_ble_eq_true rfl⟩ rfl rfl (Nat.le_of_ble_eq_true rfl) ⟨Nat.le_refl _, Nat.le_refl _⟩ md_Siz_quorumOf_1 (fun M1 H1 locs1 e1 hw => ?_)
  have ey1 := e1.symm
  subst ey1
  refine W.eq (g2 := F0 m 4 ls [.int (nI (r % 2))]) rfl ?_
  refine xi_if_eq (tgt := 14) Z md_Siz_quorumOf_4 (by decide) (by omega) (fun h4 => ?_) (fun h4 => ?_)
  · refine lv_aload_n Z.1 Z.2.1 md_Siz_quorumOf_14 rfl (lv_at hl 0 rfl) ?_
    refine xb_get (v := .int (M (1, 0) 1)) Z hw (fb_in1 n) (fb_e1 n ad cI cZ cS cA) rfl tb_iSiz 1 (by decide) mk_Siz_28 rfl rfl md_Siz_quorumOf_15 ?_
    refine xi_re (show M (1, 0) 1 = nI (q) from h.2.1) ?_
    exact xw_iret Z hr hlk hw md_Siz_quorumOf_18 (by unfold pz_en; first | rw [if_pos (by omega)] | rw [if_neg (by omega)]) rfl
  · refine lv_aload_n Z.1 Z.2.1 md_Siz_quorumOf_7 rfl (lv_at hl 0 rfl) ?_
    refine xb_get (v := .int (M (1, 0) 2)) Z hw (fb_in1 n) (fb_e1 n ad cI cZ cS cA) rfl tb_iSiz 2 (by decide) mk_Siz_31 rfl rfl md_Siz_quorumOf_8 ?_
    refine xi_re (show M (1, 0) 2 = nI (f) from h.2.2) ?_
    refine lv_goto (tgt := 18) Z.1 Z.2.1 md_Siz_quorumOf_11 (by decide) ?_
    exact xw_iret Z hr hlk hw md_Siz_quorumOf_18 (by unfold pz_en; first | rw [if_pos (by omega)] | rw [if_neg (by omega)]) rfl
set_option maxHeartbeats 4000000 in
theorem k_tally0 (l : Launch) (D : va_G) {n : Nat} (ad : Nat × Nat → Nat) (cI cZ cS cA : ClassId) {M : fr_M} {q f : Nat} {S : pz_T} {ex : Nat → Nat → Prop} {s r v : Nat} (hn : n ≤ 5) (h : fr_R n q f S ex M) (hs : s < 3) (hr12 : r ≤ 12) (hv : v < 2 ^ 31) (hb : ∀ a, a < n → S.2 s 5 r a < 2 ^ 31) : fb_C l D n ad cI cZ cS cA my_Tal_tally mb_Tal_tally 6 (some .int) 0 0 M [.ref (ad (13, 2 * s + 0)), .int (nI (r)), .int (nI (v))] (some (.int (nI (pz_sm n (fun a => if S.2 s 5 r a = v then 1 else 0))))) (fun M' => M' = M) := by
  refine xw_start [.ref (ad (13, 2 * s + 0)), .int (nI (r)), .int (nI (v))] (by decide) (Nat.le_of_ble_eq_true rfl) ?_
  intro p e st m below meth cd0 ls Z hml hr hlk hN hl hw
  have hl : lv_has ls 6 [(0, .ref (ad (13, 2 * s + 0))), (1, .int (nI (r))), (2, .int (nI (v)))] := hl
  refine lv_iload_n Z.1 Z.2.1 md_Tal_tally_0 rfl (lv_at hl 1 rfl) ?_
  refine lv_aload_n Z.1 Z.2.1 md_Tal_tally_1 rfl (lv_at hl 0 rfl) ?_
  refine xb_get (v := .ref (ad (1, 0))) Z hw (fb_in13 n hs (by decide)) (fb_e13 n ad cI cZ cS cA (2 * s + 0)) rfl tb_iTal 0 (by decide) mk_Tal_9 rfl rfl md_Tal_tally_2 ?_
  refine xb_get (v := .int (M (1, 0) 0)) Z hw (fb_in1 n) (fb_e1 n ad cI cZ cS cA) rfl tb_iSiz 0 (by decide) mk_Tal_15 rfl rfl md_Tal_tally_5 ?_
  refine xi_re (show M (1, 0) 0 = nI (n) from h.1.1) ?_
  refine xi_mul Z md_Tal_tally_8 ?_
  refine lv_istore_n Z.1 Z.2.1 md_Tal_tally_9 rfl hl (by decide) rfl (fun ls hl => ?_)
  have hl : lv_has ls 6 [(3, .int (nI (r * n))), (0, .ref (ad (13, 2 * s + 0))), (1, .int (nI (r))), (2, .int (nI (v)))] := hl
  refine lv_iconst (v := nI 0) Z.1 Z.2.1 md_Tal_tally_10 (by decide) ?_
  refine lv_istore Z.1 Z.2.1 md_Tal_tally_11 hl (by decide) rfl (fun ls hl => ?_)
  have hl : lv_has ls 6 [(4, .int (nI (0))), (3, .int (nI (r * n))), (0, .ref (ad (13, 2 * s + 0))), (1, .int (nI (r))), (2, .int (nI (v)))] := hl
  refine lv_iconst (v := nI 0) Z.1 Z.2.1 md_Tal_tally_13 (by decide) ?_
  refine lv_istore Z.1 Z.2.1 md_Tal_tally_14 hl (by decide) rfl (fun ls hl => ?_)
  have hl : lv_has ls 6 [(5, .int (nI (0))), (4, .int (nI (0))), (3, .int (nI (r * n))), (0, .ref (ad (13, 2 * s + 0))), (1, .int (nI (r))), (2, .int (nI (v)))] := hl
  have loop16 : ∀ (d i : Nat) (Hi : Heap) (Li : List Loc) (ls : Array Slot), i + d = n → xw_H D tb_cl (xw_A (fb_ids n) ad) st.heap (fb_ids n) ad (xw_M (fb_k n ad cI cZ cS cA) M) Hi Li → lv_has ls 6 [(5, .int (nI (i))), (4, .int (nI (pz_sm i (fun a => if S.2 s 5 r a = v then 1 else 0)))), (3, .int (nI (r * n))), (0, .ref (ad (13, 2 * s + 0))), (1, .int (nI (r))), (2, .int (nI (v)))] → W p l e { frames := 0, cells := 0, slots := 0, locals := 0 } st m [.ref (ad (13, 2 * s + 0)), .int (nI (r)), .int (nI (v))].toArray below meth cd0 Hi Li 0 0 (MQ below (xw_Qc D tb_cl (fb_ids n) ad (fb_k n ad cI cZ cS cA) (some (.int (nI (pz_sm n (fun a => if S.2 s 5 r a = v then 1 else 0))))) (fun M' => M' = M)) [.ref (ad (13, 2 * s + 0)), .int (nI (r)), .int (nI (v))].toArray st 0 0 (xw_A (fb_ids n) ad)) (F0 m 16 ls []) := by
    intro d
    induction d with
    | zero =>
      intro i Hi Li ls hi hw hl
      refine lv_iload Z.1 Z.2.1 md_Tal_tally_16 (lv_at hl 0 rfl) ?_
      refine lv_aload_n Z.1 Z.2.1 md_Tal_tally_18 rfl (lv_at hl 3 rfl) ?_
      refine xb_get (v := .ref (ad (1, 0))) Z hw (fb_in13 n hs (by decide)) (fb_e13 n ad cI cZ cS cA (2 * s + 0)) rfl tb_iTal 0 (by decide) mk_Tal_9 rfl rfl md_Tal_tally_19 ?_
      refine xb_get (v := .int (M (1, 0) 0)) Z hw (fb_in1 n) (fb_e1 n ad cI cZ cS cA) rfl tb_iSiz 0 (by decide) mk_Tal_15 rfl rfl md_Tal_tally_22 ?_
      refine xi_re (show M (1, 0) 0 = nI (n) from h.1.1) ?_
      refine xi_icmp_ge (tgt := 50) Z md_Tal_tally_25 (by decide) (by omega) (by omega) (fun h25 => ?_) (fun h25 => by exfalso; omega)
      refine lv_iload Z.1 Z.2.1 md_Tal_tally_50 (lv_at hl 1 rfl) ?_
      exact xw_iret Z hr hlk hw md_Tal_tally_52 (by rw [show i = n by omega]) rfl
    | succ d ih =>
      intro i Hi Li ls hi hw hl
      refine lv_iload Z.1 Z.2.1 md_Tal_tally_16 (lv_at hl 0 rfl) ?_
      refine lv_aload_n Z.1 Z.2.1 md_Tal_tally_18 rfl (lv_at hl 3 rfl) ?_
      refine xb_get (v := .ref (ad (1, 0))) Z hw (fb_in13 n hs (by decide)) (fb_e13 n ad cI cZ cS cA (2 * s + 0)) rfl tb_iTal 0 (by decide) mk_Tal_9 rfl rfl md_Tal_tally_19 ?_
      refine xb_get (v := .int (M (1, 0) 0)) Z hw (fb_in1 n) (fb_e1 n ad cI cZ cS cA) rfl tb_iSiz 0 (by decide) mk_Tal_15 rfl rfl md_Tal_tally_22 ?_
      refine xi_re (show M (1, 0) 0 = nI (n) from h.1.1) ?_
      refine xi_icmp_ge (tgt := 50) Z md_Tal_tally_25 (by decide) (by omega) (by omega) (fun h25 => by exfalso; omega) (fun h25 => ?_)
      refine lv_aload_n Z.1 Z.2.1 md_Tal_tally_28 rfl (lv_at hl 3 rfl) ?_
      refine xb_get (v := .ref (ad (14, 2 * s + 0))) Z hw (fb_in13 n hs (by decide)) (fb_e13 n ad cI cZ cS cA (2 * s + 0)) rfl tb_iTal 1 (by decide) mk_Tal_21 rfl rfl md_Tal_tally_29 ?_
      refine lv_iload_n Z.1 Z.2.1 md_Tal_tally_32 rfl (lv_at hl 2 rfl) ?_
      refine lv_iload Z.1 Z.2.1 md_Tal_tally_33 (lv_at hl 0 rfl) ?_
      refine xi_add Z md_Tal_tally_35 ?_
      refine xw_iald Z hw (fb_in14 n hs (by decide)) (fb_e14 n ad cI cZ cS cA (2 * s + 0)) 0 rfl (r * n + i) rfl (by have h1 : r * n ≤ 12 * n := Nat.mul_le_mul_right n hr12; omega) (by omega) md_Tal_tally_36 ?_
      refine xi_re (show M (14, 2 * s + 0) (r * n + i) = nI (S.2 s 5 r i) from (fr_v h hs hr12 (show i < n by omega)).1) ?_
      refine lv_iload_n Z.1 Z.2.1 md_Tal_tally_37 rfl (lv_at hl 5 rfl) ?_
      have hbi := hb i (by omega)
      refine xi_icmp_ne (tgt := 44) Z md_Tal_tally_38 (by decide) (by omega) (by omega) (fun h38 => ?_) (fun h38 => ?_)
      · refine lv_iinc Z.1 Z.2.1 md_Tal_tally_44 hl (k := 0) rfl (xi_inc1 (i)) (by decide) rfl (fun ls hl => ?_)
        have hl : lv_has ls 6 [(5, .int (nI (i + 1))), (4, .int (nI (pz_sm i (fun a => if S.2 s 5 r a = v then 1 else 0)))), (3, .int (nI (r * n))), (0, .ref (ad (13, 2 * s + 0))), (1, .int (nI (r))), (2, .int (nI (v)))] := hl
        refine lv_goto (tgt := 16) Z.1 Z.2.1 md_Tal_tally_47 (by decide) ?_
        refine ih (i + 1) _ _ ls (by omega) hw ?_
        first | (rw [show pz_sm (i + 1) (fun a => if S.2 s 5 r a = v then 1 else 0) = pz_sm i (fun a => if S.2 s 5 r a = v then 1 else 0) + 1 from by simp only [pz_sm]; rw [if_pos h38]]; exact lv_sub hl [0, 1, 2, 3, 4, 5] rfl) | (rw [show pz_sm (i + 1) (fun a => if S.2 s 5 r a = v then 1 else 0) = pz_sm i (fun a => if S.2 s 5 r a = v then 1 else 0) from by simp only [pz_sm]; rw [if_neg h38]; rfl]; exact lv_sub hl [0, 1, 2, 3, 4, 5] rfl)
      · refine lv_iinc Z.1 Z.2.1 md_Tal_tally_41 hl (k := 1) rfl (xi_inc1 (pz_sm i (fun a => if S.2 s 5 r a = v then 1 else 0))) (by decide) rfl (fun ls hl => ?_)
        have hl : lv_has ls 6 [(4, .int (nI ((pz_sm i (fun a => if S.2 s 5 r a = v then 1 else 0)) + 1))), (5, .int (nI (i))), (3, .int (nI (r * n))), (0, .ref (ad (13, 2 * s + 0))), (1, .int (nI (r))), (2, .int (nI (v)))] := hl
        refine lv_iinc Z.1 Z.2.1 md_Tal_tally_44 hl (k := 1) rfl (xi_inc1 (i)) (by decide) rfl (fun ls hl => ?_)
        have hl : lv_has ls 6 [(5, .int (nI (i + 1))), (4, .int (nI ((pz_sm i (fun a => if S.2 s 5 r a = v then 1 else 0)) + 1))), (3, .int (nI (r * n))), (0, .ref (ad (13, 2 * s + 0))), (1, .int (nI (r))), (2, .int (nI (v)))] := hl
        refine lv_goto (tgt := 16) Z.1 Z.2.1 md_Tal_tally_47 (by decide) ?_
        refine ih (i + 1) _ _ ls (by omega) hw ?_
        first | (rw [show pz_sm (i + 1) (fun a => if S.2 s 5 r a = v then 1 else 0) = pz_sm i (fun a => if S.2 s 5 r a = v then 1 else 0) + 1 from by simp only [pz_sm]; rw [if_pos h38]]; exact lv_sub hl [0, 1, 2, 3, 4, 5] rfl) | (rw [show pz_sm (i + 1) (fun a => if S.2 s 5 r a = v then 1 else 0) = pz_sm i (fun a => if S.2 s 5 r a = v then 1 else 0) from by simp only [pz_sm]; rw [if_neg h38]; rfl]; exact lv_sub hl [0, 1, 2, 3, 4, 5] rfl)
  exact loop16 n (0) _ _ ls (by omega) hw (lv_sub hl [0, 1, 2, 3, 4, 5] rfl)
set_option maxHeartbeats 4000000 in
theorem k_tally1 (l : Launch) (D : va_G) {n : Nat} (ad : Nat × Nat → Nat) (cI cZ cS cA : ClassId) {M : fr_M} {q f : Nat} {S : pz_T} {ex : Nat → Nat → Prop} {s r v : Nat} (hn : n ≤ 5) (h : fr_R n q f S ex M) (hs : s < 3) (hr12 : r ≤ 12) (hv : v < 2 ^ 31) (hb : ∀ a, a < n → S.2 s 6 r a < 2 ^ 31) : fb_C l D n ad cI cZ cS cA my_Tal_tally mb_Tal_tally 6 (some .int) 0 0 M [.ref (ad (13, 2 * s + 1)), .int (nI (r)), .int (nI (v))] (some (.int (nI (pz_sm n (fun a => if S.2 s 6 r a = v then 1 else 0))))) (fun M' => M' = M) := by
  refine xw_start [.ref (ad (13, 2 * s + 1)), .int (nI (r)), .int (nI (v))] (by decide) (Nat.le_of_ble_eq_true rfl) ?_
  intro p e st m below meth cd0 ls Z hml hr hlk hN hl hw
  have hl : lv_has ls 6 [(0, .ref (ad (13, 2 * s + 1))), (1, .int (nI (r))), (2, .int (nI (v)))] := hl
  refine lv_iload_n Z.1 Z.2.1 md_Tal_tally_0 rfl (lv_at hl 1 rfl) ?_
  refine lv_aload_n Z.1 Z.2.1 md_Tal_tally_1 rfl (lv_at hl 0 rfl) ?_
  refine xb_get (v := .ref (ad (1, 0))) Z hw (fb_in13 n hs (by decide)) (fb_e13 n ad cI cZ cS cA (2 * s + 1)) rfl tb_iTal 0 (by decide) mk_Tal_9 rfl rfl md_Tal_tally_2 ?_
  refine xb_get (v := .int (M (1, 0) 0)) Z hw (fb_in1 n) (fb_e1 n ad cI cZ cS cA) rfl tb_iSiz 0 (by decide) mk_Tal_15 rfl rfl md_Tal_tally_5 ?_
  refine xi_re (show M (1, 0) 0 = nI (n) from h.1.1) ?_
  refine xi_mul Z md_Tal_tally_8 ?_
  refine lv_istore_n Z.1 Z.2.1 md_Tal_tally_9 rfl hl (by decide) rfl (fun ls hl => ?_)
  have hl : lv_has ls 6 [(3, .int (nI (r * n))), (0, .ref (ad (13, 2 * s + 1))), (1, .int (nI (r))), (2, .int (nI (v)))] := hl
  refine lv_iconst (v := nI 0) Z.1 Z.2.1 md_Tal_tally_10 (by decide) ?_
  refine lv_istore Z.1 Z.2.1 md_Tal_tally_11 hl (by decide) rfl (fun ls hl => ?_)
  have hl : lv_has ls 6 [(4, .int (nI (0))), (3, .int (nI (r * n))), (0, .ref (ad (13, 2 * s + 1))), (1, .int (nI (r))), (2, .int (nI (v)))] := hl
  refine lv_iconst (v := nI 0) Z.1 Z.2.1 md_Tal_tally_13 (by decide) ?_
  refine lv_istore Z.1 Z.2.1 md_Tal_tally_14 hl (by decide) rfl (fun ls hl => ?_)
  have hl : lv_has ls 6 [(5, .int (nI (0))), (4, .int (nI (0))), (3, .int (nI (r * n))), (0, .ref (ad (13, 2 * s + 1))), (1, .int (nI (r))), (2, .int (nI (v)))] := hl
  have loop16 : ∀ (d i : Nat) (Hi : Heap) (Li : List Loc) (ls : Array Slot), i + d = n → xw_H D tb_cl (xw_A (fb_ids n) ad) st.heap (fb_ids n) ad (xw_M (fb_k n ad cI cZ cS cA) M) Hi Li → lv_has ls 6 [(5, .int (nI (i))), (4, .int (nI (pz_sm i (fun a => if S.2 s 6 r a = v then 1 else 0)))), (3, .int (nI (r * n))), (0, .ref (ad (13, 2 * s + 1))), (1, .int (nI (r))), (2, .int (nI (v)))] → W p l e { frames := 0, cells := 0, slots := 0, locals := 0 } st m [.ref (ad (13, 2 * s + 1)), .int (nI (r)), .int (nI (v))].toArray below meth cd0 Hi Li 0 0 (MQ below (xw_Qc D tb_cl (fb_ids n) ad (fb_k n ad cI cZ cS cA) (some (.int (nI (pz_sm n (fun a => if S.2 s 6 r a = v then 1 else 0))))) (fun M' => M' = M)) [.ref (ad (13, 2 * s + 1)), .int (nI (r)), .int (nI (v))].toArray st 0 0 (xw_A (fb_ids n) ad)) (F0 m 16 ls []) := by
    intro d
    induction d with
    | zero =>
      intro i Hi Li ls hi hw hl
      refine lv_iload Z.1 Z.2.1 md_Tal_tally_16 (lv_at hl 0 rfl) ?_
      refine lv_aload_n Z.1 Z.2.1 md_Tal_tally_18 rfl (lv_at hl 3 rfl) ?_
      refine xb_get (v := .ref (ad (1, 0))) Z hw (fb_in13 n hs (by decide)) (fb_e13 n ad cI cZ cS cA (2 * s + 1)) rfl tb_iTal 0 (by decide) mk_Tal_9 rfl rfl md_Tal_tally_19 ?_
      refine xb_get (v := .int (M (1, 0) 0)) Z hw (fb_in1 n) (fb_e1 n ad cI cZ cS cA) rfl tb_iSiz 0 (by decide) mk_Tal_15 rfl rfl md_Tal_tally_22 ?_
      refine xi_re (show M (1, 0) 0 = nI (n) from h.1.1) ?_
      refine xi_icmp_ge (tgt := 50) Z md_Tal_tally_25 (by decide) (by omega) (by omega) (fun h25 => ?_) (fun h25 => by exfalso; omega)
      refine lv_iload Z.1 Z.2.1 md_Tal_tally_50 (lv_at hl 1 rfl) ?_
      exact xw_iret Z hr hlk hw md_Tal_tally_52 (by rw [show i = n by omega]) rfl
    | succ d ih =>
      intro i Hi Li ls hi hw hl
      refine lv_iload Z.1 Z.2.1 md_Tal_tally_16 (lv_at hl 0 rfl) ?_
      refine lv_aload_n Z.1 Z.2.1 md_Tal_tally_18 rfl (lv_at hl 3 rfl) ?_
      refine xb_get (v := .ref (ad (1, 0))) Z hw (fb_in13 n hs (by decide)) (fb_e13 n ad cI cZ cS cA (2 * s + 1)) rfl tb_iTal 0 (by decide) mk_Tal_9 rfl rfl md_Tal_tally_19 ?_
      refine xb_get (v := .int (M (1, 0) 0)) Z hw (fb_in1 n) (fb_e1 n ad cI cZ cS cA) rfl tb_iSiz 0 (by decide) mk_Tal_15 rfl rfl md_Tal_tally_22 ?_
      refine xi_re (show M (1, 0) 0 = nI (n) from h.1.1) ?_
      refine xi_icmp_ge (tgt := 50) Z md_Tal_tally_25 (by decide) (by omega) (by omega) (fun h25 => by exfalso; omega) (fun h25 => ?_)
      refine lv_aload_n Z.1 Z.2.1 md_Tal_tally_28 rfl (lv_at hl 3 rfl) ?_
      refine xb_get (v := .ref (ad (14, 2 * s + 1))) Z hw (fb_in13 n hs (by decide)) (fb_e13 n ad cI cZ cS cA (2 * s + 1)) rfl tb_iTal 1 (by decide) mk_Tal_21 rfl rfl md_Tal_tally_29 ?_
      refine lv_iload_n Z.1 Z.2.1 md_Tal_tally_32 rfl (lv_at hl 2 rfl) ?_
      refine lv_iload Z.1 Z.2.1 md_Tal_tally_33 (lv_at hl 0 rfl) ?_
      refine xi_add Z md_Tal_tally_35 ?_
      refine xw_iald Z hw (fb_in14 n hs (by decide)) (fb_e14 n ad cI cZ cS cA (2 * s + 1)) 0 rfl (r * n + i) rfl (by have h1 : r * n ≤ 12 * n := Nat.mul_le_mul_right n hr12; omega) (by omega) md_Tal_tally_36 ?_
      refine xi_re (show M (14, 2 * s + 1) (r * n + i) = nI (S.2 s 6 r i) from (fr_v h hs hr12 (show i < n by omega)).2) ?_
      refine lv_iload_n Z.1 Z.2.1 md_Tal_tally_37 rfl (lv_at hl 5 rfl) ?_
      have hbi := hb i (by omega)
      refine xi_icmp_ne (tgt := 44) Z md_Tal_tally_38 (by decide) (by omega) (by omega) (fun h38 => ?_) (fun h38 => ?_)
      · refine lv_iinc Z.1 Z.2.1 md_Tal_tally_44 hl (k := 0) rfl (xi_inc1 (i)) (by decide) rfl (fun ls hl => ?_)
        have hl : lv_has ls 6 [(5, .int (nI (i + 1))), (4, .int (nI (pz_sm i (fun a => if S.2 s 6 r a = v then 1 else 0)))), (3, .int (nI (r * n))), (0, .ref (ad (13, 2 * s + 1))), (1, .int (nI (r))), (2, .int (nI (v)))] := hl
        refine lv_goto (tgt := 16) Z.1 Z.2.1 md_Tal_tally_47 (by decide) ?_
        refine ih (i + 1) _ _ ls (by omega) hw ?_
        first | (rw [show pz_sm (i + 1) (fun a => if S.2 s 6 r a = v then 1 else 0) = pz_sm i (fun a => if S.2 s 6 r a = v then 1 else 0) + 1 from by simp only [pz_sm]; rw [if_pos h38]]; exact lv_sub hl [0, 1, 2, 3, 4, 5] rfl) | (rw [show pz_sm (i + 1) (fun a => if S.2 s 6 r a = v then 1 else 0) = pz_sm i (fun a => if S.2 s 6 r a = v then 1 else 0) from by simp only [pz_sm]; rw [if_neg h38]; rfl]; exact lv_sub hl [0, 1, 2, 3, 4, 5] rfl)
      · refine lv_iinc Z.1 Z.2.1 md_Tal_tally_41 hl (k := 1) rfl (xi_inc1 (pz_sm i (fun a => if S.2 s 6 r a = v then 1 else 0))) (by decide) rfl (fun ls hl => ?_)
        have hl : lv_has ls 6 [(4, .int (nI ((pz_sm i (fun a => if S.2 s 6 r a = v then 1 else 0)) + 1))), (5, .int (nI (i))), (3, .int (nI (r * n))), (0, .ref (ad (13, 2 * s + 1))), (1, .int (nI (r))), (2, .int (nI (v)))] := hl
        refine lv_iinc Z.1 Z.2.1 md_Tal_tally_44 hl (k := 1) rfl (xi_inc1 (i)) (by decide) rfl (fun ls hl => ?_)
        have hl : lv_has ls 6 [(5, .int (nI (i + 1))), (4, .int (nI ((pz_sm i (fun a => if S.2 s 6 r a = v then 1 else 0)) + 1))), (3, .int (nI (r * n))), (0, .ref (ad (13, 2 * s + 1))), (1, .int (nI (r))), (2, .int (nI (v)))] := hl
        refine lv_goto (tgt := 16) Z.1 Z.2.1 md_Tal_tally_47 (by decide) ?_
        refine ih (i + 1) _ _ ls (by omega) hw ?_
        first | (rw [show pz_sm (i + 1) (fun a => if S.2 s 6 r a = v then 1 else 0) = pz_sm i (fun a => if S.2 s 6 r a = v then 1 else 0) + 1 from by simp only [pz_sm]; rw [if_pos h38]]; exact lv_sub hl [0, 1, 2, 3, 4, 5] rfl) | (rw [show pz_sm (i + 1) (fun a => if S.2 s 6 r a = v then 1 else 0) = pz_sm i (fun a => if S.2 s 6 r a = v then 1 else 0) from by simp only [pz_sm]; rw [if_neg h38]; rfl]; exact lv_sub hl [0, 1, 2, 3, 4, 5] rfl)
  exact loop16 n (0) _ _ ls (by omega) hw (lv_sub hl [0, 1, 2, 3, 4, 5] rfl)
end
section
/-! A vote in a tally; the acceptors. -/
theorem md_Acc_hear_0 : decode mb_Acc_hear 0 = .ok (.aload_n 1, 1) := by decide +kernel
theorem md_Acc_hear_1 : decode mb_Acc_hear 1 = .ok (.getfield 26, 3) := by decide +kernel
theorem md_Acc_hear_4 : decode mb_Acc_hear 4 = .ok (.tableswitch 69 1 4 #[32, 43, 69, 54], 32) := by decide +kernel
theorem md_Acc_hear_36 : decode mb_Acc_hear 36 = .ok (.aload_n 0, 1) := by decide +kernel
theorem md_Acc_hear_37 : decode mb_Acc_hear 37 = .ok (.aload_n 1, 1) := by decide +kernel
theorem md_Acc_hear_38 : decode mb_Acc_hear 38 = .ok (.getfield 31, 3) := by decide +kernel
theorem md_Acc_hear_41 : decode mb_Acc_hear 41 = .ok (.invokevirtual 34, 3) := by decide +kernel
theorem md_Acc_hear_44 : decode mb_Acc_hear 44 = .ok (.goto 29, 3) := by decide +kernel
theorem md_Acc_hear_47 : decode mb_Acc_hear 47 = .ok (.aload_n 0, 1) := by decide +kernel
theorem md_Acc_hear_48 : decode mb_Acc_hear 48 = .ok (.aload_n 1, 1) := by decide +kernel
theorem md_Acc_hear_49 : decode mb_Acc_hear 49 = .ok (.getfield 38, 3) := by decide +kernel
theorem md_Acc_hear_52 : decode mb_Acc_hear 52 = .ok (.invokevirtual 41, 3) := by decide +kernel
theorem md_Acc_hear_55 : decode mb_Acc_hear 55 = .ok (.goto 18, 3) := by decide +kernel
theorem md_Acc_hear_58 : decode mb_Acc_hear 58 = .ok (.aload_n 0, 1) := by decide +kernel
theorem md_Acc_hear_59 : decode mb_Acc_hear 59 = .ok (.aload_n 1, 1) := by decide +kernel
theorem md_Acc_hear_60 : decode mb_Acc_hear 60 = .ok (.getfield 38, 3) := by decide +kernel
theorem md_Acc_hear_63 : decode mb_Acc_hear 63 = .ok (.aload_n 1, 1) := by decide +kernel
theorem md_Acc_hear_64 : decode mb_Acc_hear 64 = .ok (.getfield 31, 3) := by decide +kernel
theorem md_Acc_hear_67 : decode mb_Acc_hear 67 = .ok (.invokevirtual 44, 3) := by decide +kernel
theorem md_Acc_hear_70 : decode mb_Acc_hear 70 = .ok (.goto 3, 3) := by decide +kernel
theorem md_Acc_hear_73 : decode mb_Acc_hear 73 = .ok (.return_, 1) := by decide +kernel
theorem md_Acc_hearProposal_0 : decode mb_Acc_hearProposal 0 = .ok (.aload_n 0, 1) := by decide +kernel
theorem md_Acc_hearProposal_1 : decode mb_Acc_hearProposal 1 = .ok (.getfield 48, 3) := by decide +kernel
theorem md_Acc_hearProposal_4 : decode mb_Acc_hearProposal 4 = .ok (.ifCond .eq 4, 3) := by decide +kernel
theorem md_Acc_hearProposal_7 : decode mb_Acc_hearProposal 7 = .ok (.return_, 1) := by decide +kernel
theorem md_Acc_hearProposal_8 : decode mb_Acc_hearProposal 8 = .ok (.aload_n 0, 1) := by decide +kernel
theorem md_Acc_hearProposal_9 : decode mb_Acc_hearProposal 9 = .ok (.iload_n 1, 1) := by decide +kernel
theorem md_Acc_hearProposal_10 : decode mb_Acc_hearProposal 10 = .ok (.putfield 48, 3) := by decide +kernel
theorem md_Acc_hearProposal_13 : decode mb_Acc_hearProposal 13 = .ok (.aload_n 0, 1) := by decide +kernel
theorem md_Acc_hearProposal_14 : decode mb_Acc_hearProposal 14 = .ok (.invokevirtual 51, 3) := by decide +kernel
theorem md_Acc_hearProposal_17 : decode mb_Acc_hearProposal 17 = .ok (.ifCond .eq 23, 3) := by decide +kernel
theorem md_Acc_hearProposal_20 : decode mb_Acc_hearProposal 20 = .ok (.aload_n 0, 1) := by decide +kernel
theorem md_Acc_hearProposal_21 : decode mb_Acc_hearProposal 21 = .ok (.getfield 55, 3) := by decide +kernel
theorem md_Acc_hearProposal_24 : decode mb_Acc_hearProposal 24 = .ok (.aload_n 0, 1) := by decide +kernel
theorem md_Acc_hearProposal_25 : decode mb_Acc_hearProposal 25 = .ok (.getfield 58, 3) := by decide +kernel
theorem md_Acc_hearProposal_28 : decode mb_Acc_hearProposal 28 = .ok (.if_icmp .eq 12, 3) := by decide +kernel
theorem md_Acc_hearProposal_31 : decode mb_Acc_hearProposal 31 = .ok (.aload_n 0, 1) := by decide +kernel
theorem md_Acc_hearProposal_32 : decode mb_Acc_hearProposal 32 = .ok (.aload_n 0, 1) := by decide +kernel
theorem md_Acc_hearProposal_33 : decode mb_Acc_hearProposal 33 = .ok (.getfield 58, 3) := by decide +kernel
theorem md_Acc_hearProposal_36 : decode mb_Acc_hearProposal 36 = .ok (.iload_n 1, 1) := by decide +kernel
theorem md_Acc_hearProposal_37 : decode mb_Acc_hearProposal 37 = .ok (.invokevirtual 61, 3) := by decide +kernel
theorem md_Acc_hearProposal_40 : decode mb_Acc_hearProposal 40 = .ok (.return_, 1) := by decide +kernel
theorem md_Acc_isOpenNow_0 : decode mb_Acc_isOpenNow 0 = .ok (.aload_n 0, 1) := by decide +kernel
theorem md_Acc_isOpenNow_1 : decode mb_Acc_isOpenNow 1 = .ok (.getfield 64, 3) := by decide +kernel
theorem md_Acc_isOpenNow_4 : decode mb_Acc_isOpenNow 4 = .ok (.ifCond .eq 18, 3) := by decide +kernel
theorem md_Acc_isOpenNow_7 : decode mb_Acc_isOpenNow 7 = .ok (.aload_n 0, 1) := by decide +kernel
theorem md_Acc_isOpenNow_8 : decode mb_Acc_isOpenNow 8 = .ok (.getfield 64, 3) := by decide +kernel
theorem md_Acc_isOpenNow_11 : decode mb_Acc_isOpenNow 11 = .ok (.aload_n 0, 1) := by decide +kernel
theorem md_Acc_isOpenNow_12 : decode mb_Acc_isOpenNow 12 = .ok (.getfield 58, 3) := by decide +kernel
theorem md_Acc_isOpenNow_15 : decode mb_Acc_isOpenNow 15 = .ok (.if_icmp .ne 7, 3) := by decide +kernel
theorem md_Acc_isOpenNow_18 : decode mb_Acc_isOpenNow 18 = .ok (.iconst 1, 1) := by decide +kernel
theorem md_Acc_isOpenNow_19 : decode mb_Acc_isOpenNow 19 = .ok (.goto 4, 3) := by decide +kernel
theorem md_Acc_isOpenNow_22 : decode mb_Acc_isOpenNow 22 = .ok (.iconst 0, 1) := by decide +kernel
theorem md_Acc_isOpenNow_23 : decode mb_Acc_isOpenNow 23 = .ok (.ireturn, 1) := by decide +kernel
theorem md_Acc_hearAsk_0 : decode mb_Acc_hearAsk 0 = .ok (.iload_n 1, 1) := by decide +kernel
theorem md_Acc_hearAsk_1 : decode mb_Acc_hearAsk 1 = .ok (.aload_n 0, 1) := by decide +kernel
theorem md_Acc_hearAsk_2 : decode mb_Acc_hearAsk 2 = .ok (.getfield 58, 3) := by decide +kernel
theorem md_Acc_hearAsk_5 : decode mb_Acc_hearAsk 5 = .ok (.if_icmp .gt 4, 3) := by decide +kernel
theorem md_Acc_hearAsk_8 : decode mb_Acc_hearAsk 8 = .ok (.return_, 1) := by decide +kernel
theorem md_Acc_hearAsk_9 : decode mb_Acc_hearAsk 9 = .ok (.aload_n 0, 1) := by decide +kernel
theorem md_Acc_hearAsk_10 : decode mb_Acc_hearAsk 10 = .ok (.iload_n 1, 1) := by decide +kernel
theorem md_Acc_hearAsk_11 : decode mb_Acc_hearAsk 11 = .ok (.putfield 58, 3) := by decide +kernel
theorem md_Acc_hearAsk_14 : decode mb_Acc_hearAsk 14 = .ok (.aload_n 0, 1) := by decide +kernel
theorem md_Acc_hearAsk_15 : decode mb_Acc_hearAsk 15 = .ok (.getfield 18, 3) := by decide +kernel
theorem md_Acc_hearAsk_18 : decode mb_Acc_hearAsk 18 = .ok (.iconst 3, 1) := by decide +kernel
theorem md_Acc_hearAsk_19 : decode mb_Acc_hearAsk 19 = .ok (.aload_n 0, 1) := by decide +kernel
theorem md_Acc_hearAsk_20 : decode mb_Acc_hearAsk 20 = .ok (.getfield 15, 3) := by decide +kernel
theorem md_Acc_hearAsk_23 : decode mb_Acc_hearAsk 23 = .ok (.iload_n 1, 1) := by decide +kernel
theorem md_Acc_hearAsk_24 : decode mb_Acc_hearAsk 24 = .ok (.aload_n 0, 1) := by decide +kernel
theorem md_Acc_hearAsk_25 : decode mb_Acc_hearAsk 25 = .ok (.getfield 9, 3) := by decide +kernel
theorem md_Acc_hearAsk_28 : decode mb_Acc_hearAsk 28 = .ok (.iload_n 1, 1) := by decide +kernel
theorem md_Acc_hearAsk_29 : decode mb_Acc_hearAsk 29 = .ok (.invokestatic 67, 3) := by decide +kernel
theorem md_Acc_hearAsk_32 : decode mb_Acc_hearAsk 32 = .ok (.aload_n 0, 1) := by decide +kernel
theorem md_Acc_hearAsk_33 : decode mb_Acc_hearAsk 33 = .ok (.getfield 71, 3) := by decide +kernel
theorem md_Acc_hearAsk_36 : decode mb_Acc_hearAsk 36 = .ok (.aload_n 0, 1) := by decide +kernel
theorem md_Acc_hearAsk_37 : decode mb_Acc_hearAsk 37 = .ok (.getfield 55, 3) := by decide +kernel
theorem md_Acc_hearAsk_40 : decode mb_Acc_hearAsk 40 = .ok (.invokevirtual 74, 3) := by decide +kernel
theorem md_Acc_hearAsk_43 : decode mb_Acc_hearAsk 43 = .ok (.return_, 1) := by decide +kernel
theorem md_Acc_hearVoteFor_0 : decode mb_Acc_hearVoteFor 0 = .ok (.iload_n 1, 1) := by decide +kernel
theorem md_Acc_hearVoteFor_1 : decode mb_Acc_hearVoteFor 1 = .ok (.aload_n 0, 1) := by decide +kernel
theorem md_Acc_hearVoteFor_2 : decode mb_Acc_hearVoteFor 2 = .ok (.getfield 58, 3) := by decide +kernel
theorem md_Acc_hearVoteFor_5 : decode mb_Acc_hearVoteFor 5 = .ok (.if_icmp .lt 11, 3) := by decide +kernel
theorem md_Acc_hearVoteFor_8 : decode mb_Acc_hearVoteFor 8 = .ok (.iload_n 1, 1) := by decide +kernel
theorem md_Acc_hearVoteFor_9 : decode mb_Acc_hearVoteFor 9 = .ok (.aload_n 0, 1) := by decide +kernel
theorem md_Acc_hearVoteFor_10 : decode mb_Acc_hearVoteFor 10 = .ok (.getfield 55, 3) := by decide +kernel
theorem md_Acc_hearVoteFor_13 : decode mb_Acc_hearVoteFor 13 = .ok (.if_icmp .gt 4, 3) := by decide +kernel
theorem md_Acc_hearVoteFor_16 : decode mb_Acc_hearVoteFor 16 = .ok (.return_, 1) := by decide +kernel
theorem md_Acc_hearVoteFor_17 : decode mb_Acc_hearVoteFor 17 = .ok (.aload_n 0, 1) := by decide +kernel
theorem md_Acc_hearVoteFor_18 : decode mb_Acc_hearVoteFor 18 = .ok (.iload_n 1, 1) := by decide +kernel
theorem md_Acc_hearVoteFor_19 : decode mb_Acc_hearVoteFor 19 = .ok (.putfield 58, 3) := by decide +kernel
theorem md_Acc_hearVoteFor_22 : decode mb_Acc_hearVoteFor 22 = .ok (.iload_n 2, 1) := by decide +kernel
theorem md_Acc_hearVoteFor_23 : decode mb_Acc_hearVoteFor 23 = .ok (.ifCond .eq 10, 3) := by decide +kernel
theorem md_Acc_hearVoteFor_26 : decode mb_Acc_hearVoteFor 26 = .ok (.aload_n 0, 1) := by decide +kernel
theorem md_Acc_hearVoteFor_27 : decode mb_Acc_hearVoteFor 27 = .ok (.iload_n 1, 1) := by decide +kernel
theorem md_Acc_hearVoteFor_28 : decode mb_Acc_hearVoteFor 28 = .ok (.iload_n 2, 1) := by decide +kernel
theorem md_Acc_hearVoteFor_29 : decode mb_Acc_hearVoteFor 29 = .ok (.invokevirtual 61, 3) := by decide +kernel
theorem md_Acc_hearVoteFor_32 : decode mb_Acc_hearVoteFor 32 = .ok (.return_, 1) := by decide +kernel
theorem md_Acc_hearVoteFor_33 : decode mb_Acc_hearVoteFor 33 = .ok (.aload_n 0, 1) := by decide +kernel
theorem md_Acc_hearVoteFor_34 : decode mb_Acc_hearVoteFor 34 = .ok (.iload_n 1, 1) := by decide +kernel
theorem md_Acc_hearVoteFor_35 : decode mb_Acc_hearVoteFor 35 = .ok (.putfield 64, 3) := by decide +kernel
theorem md_Acc_hearVoteFor_38 : decode mb_Acc_hearVoteFor 38 = .ok (.aload_n 0, 1) := by decide +kernel
theorem md_Acc_hearVoteFor_39 : decode mb_Acc_hearVoteFor 39 = .ok (.getfield 48, 3) := by decide +kernel
theorem md_Acc_hearVoteFor_42 : decode mb_Acc_hearVoteFor 42 = .ok (.ifCond .eq 12, 3) := by decide +kernel
theorem md_Acc_hearVoteFor_45 : decode mb_Acc_hearVoteFor 45 = .ok (.aload_n 0, 1) := by decide +kernel
theorem md_Acc_hearVoteFor_46 : decode mb_Acc_hearVoteFor 46 = .ok (.iload_n 1, 1) := by decide +kernel
theorem md_Acc_hearVoteFor_47 : decode mb_Acc_hearVoteFor 47 = .ok (.aload_n 0, 1) := by decide +kernel
theorem md_Acc_hearVoteFor_48 : decode mb_Acc_hearVoteFor 48 = .ok (.getfield 48, 3) := by decide +kernel
theorem md_Acc_hearVoteFor_51 : decode mb_Acc_hearVoteFor 51 = .ok (.invokevirtual 61, 3) := by decide +kernel
theorem md_Acc_hearVoteFor_54 : decode mb_Acc_hearVoteFor 54 = .ok (.return_, 1) := by decide +kernel
theorem md_Acc_castVote_0 : decode mb_Acc_castVote 0 = .ok (.aload_n 0, 1) := by decide +kernel
theorem md_Acc_castVote_1 : decode mb_Acc_castVote 1 = .ok (.iload_n 2, 1) := by decide +kernel
theorem md_Acc_castVote_2 : decode mb_Acc_castVote 2 = .ok (.putfield 71, 3) := by decide +kernel
theorem md_Acc_castVote_5 : decode mb_Acc_castVote 5 = .ok (.aload_n 0, 1) := by decide +kernel
theorem md_Acc_castVote_6 : decode mb_Acc_castVote 6 = .ok (.iload_n 1, 1) := by decide +kernel
theorem md_Acc_castVote_7 : decode mb_Acc_castVote 7 = .ok (.putfield 55, 3) := by decide +kernel
theorem md_Acc_castVote_10 : decode mb_Acc_castVote 10 = .ok (.aload_n 0, 1) := by decide +kernel
theorem md_Acc_castVote_11 : decode mb_Acc_castVote 11 = .ok (.getfield 22, 3) := by decide +kernel
theorem md_Acc_castVote_14 : decode mb_Acc_castVote 14 = .ok (.iload_n 1, 1) := by decide +kernel
theorem md_Acc_castVote_15 : decode mb_Acc_castVote 15 = .ok (.aload_n 0, 1) := by decide +kernel
theorem md_Acc_castVote_16 : decode mb_Acc_castVote 16 = .ok (.getfield 9, 3) := by decide +kernel
theorem md_Acc_castVote_19 : decode mb_Acc_castVote 19 = .ok (.iload_n 2, 1) := by decide +kernel
theorem md_Acc_castVote_20 : decode mb_Acc_castVote 20 = .ok (.invokevirtual 80, 3) := by decide +kernel
theorem md_Acc_castVote_23 : decode mb_Acc_castVote 23 = .ok (.aload_n 0, 1) := by decide +kernel
theorem md_Acc_castVote_24 : decode mb_Acc_castVote 24 = .ok (.getfield 18, 3) := by decide +kernel
theorem md_Acc_castVote_27 : decode mb_Acc_castVote 27 = .ok (.iconst 5, 1) := by decide +kernel
theorem md_Acc_castVote_28 : decode mb_Acc_castVote 28 = .ok (.aload_n 0, 1) := by decide +kernel
theorem md_Acc_castVote_29 : decode mb_Acc_castVote 29 = .ok (.getfield 15, 3) := by decide +kernel
theorem md_Acc_castVote_32 : decode mb_Acc_castVote 32 = .ok (.iload_n 1, 1) := by decide +kernel
theorem md_Acc_castVote_33 : decode mb_Acc_castVote 33 = .ok (.aload_n 0, 1) := by decide +kernel
theorem md_Acc_castVote_34 : decode mb_Acc_castVote 34 = .ok (.getfield 9, 3) := by decide +kernel
theorem md_Acc_castVote_37 : decode mb_Acc_castVote 37 = .ok (.iload_n 1, 1) := by decide +kernel
theorem md_Acc_castVote_38 : decode mb_Acc_castVote 38 = .ok (.invokestatic 67, 3) := by decide +kernel
theorem md_Acc_castVote_41 : decode mb_Acc_castVote 41 = .ok (.iload_n 2, 1) := by decide +kernel
theorem md_Acc_castVote_42 : decode mb_Acc_castVote 42 = .ok (.iconst 0, 1) := by decide +kernel
theorem md_Acc_castVote_43 : decode mb_Acc_castVote 43 = .ok (.invokevirtual 74, 3) := by decide +kernel
theorem md_Acc_castVote_46 : decode mb_Acc_castVote 46 = .ok (.aload_n 0, 1) := by decide +kernel
theorem md_Acc_castVote_47 : decode mb_Acc_castVote 47 = .ok (.getfield 18, 3) := by decide +kernel
theorem md_Acc_castVote_50 : decode mb_Acc_castVote 50 = .ok (.iconst 5, 1) := by decide +kernel
theorem md_Acc_castVote_51 : decode mb_Acc_castVote 51 = .ok (.aload_n 0, 1) := by decide +kernel
theorem md_Acc_castVote_52 : decode mb_Acc_castVote 52 = .ok (.getfield 15, 3) := by decide +kernel
theorem md_Acc_castVote_55 : decode mb_Acc_castVote 55 = .ok (.iload_n 1, 1) := by decide +kernel
theorem md_Acc_castVote_56 : decode mb_Acc_castVote 56 = .ok (.aload_n 0, 1) := by decide +kernel
theorem md_Acc_castVote_57 : decode mb_Acc_castVote 57 = .ok (.getfield 9, 3) := by decide +kernel
theorem md_Acc_castVote_60 : decode mb_Acc_castVote 60 = .ok (.bipush 10, 2) := by decide +kernel
theorem md_Acc_castVote_62 : decode mb_Acc_castVote 62 = .ok (.iload_n 2, 1) := by decide +kernel
theorem md_Acc_castVote_63 : decode mb_Acc_castVote 63 = .ok (.iconst 0, 1) := by decide +kernel
theorem md_Acc_castVote_64 : decode mb_Acc_castVote 64 = .ok (.invokevirtual 74, 3) := by decide +kernel
theorem md_Acc_castVote_67 : decode mb_Acc_castVote 67 = .ok (.return_, 1) := by decide +kernel
theorem fr_ix {n r a r' a' : Nat} (ha : a < n) (ha' : a' < n) (h : r' * n + a' = r * n + a) : r' = r ∧ a' = a := by
  rcases Nat.lt_trichotomy r' r with z | z | z
  · have h1 := Nat.mul_le_mul_right n (show r' + 1 ≤ r from z)
    rw [Nat.succ_mul] at h1
    omega
  · subst z; exact ⟨rfl, by omega⟩
  · have h1 := Nat.mul_le_mul_right n (show r + 1 ≤ r' from z)
    rw [Nat.succ_mul] at h1
    omega
theorem pz_u_id (p : pz_P) (k x y : Nat) : pz_u p k x y (p k x y) = p := by
  funext k' x' y'
  unfold pz_u
  split
  · rename_i h; rw [h.1, h.2.1, h.2.2]
  · rfl
set_option maxHeartbeats 4000000 in
theorem k_record0 (l : Launch) (D : va_G) {n : Nat} (ad : Nat × Nat → Nat) (cI cZ cS cA : ClassId) {M : fr_M} {q f : Nat} {S : pz_T} {ex : Nat → Nat → Prop} {s r a v : Nat} (hn : n ≤ 5) (hq : q ≤ 5) (hf : f ≤ 5) (h : fr_R n q f S ex M) (hs : s < 3) (hr12 : r ≤ 12) (ha : a < n) (hv : v < 2 ^ 31) (hb : ∀ b, b < n → S.2 s 5 r b < 2 ^ 31) (hse : S.2 s 16 0 0 < 2 ^ 31) : fb_C l D n ad cI cZ cS cA my_Tal_record mb_Tal_record 4 none 2 41 M [.ref (ad (13, 2 * s + 0)), .int (nI (r)), .int (nI (a)), .int (nI (v))] (none) (fr_K n q f (pz_pw S s (pz_u (pz_u (S.2 s) 5 r a v) 16 0 0 (if S.2 s 16 0 0 = 0 ∧ pz_en q f r ≤ pz_cv (pz_u (S.2 s) 5 r a v) n r v then v else S.2 s 16 0 0))) ex M) := by
  unfold fr_K
  refine xw_start [.ref (ad (13, 2 * s + 0)), .int (nI (r)), .int (nI (a)), .int (nI (v))] (by decide) (Nat.le_of_ble_eq_true rfl) ?_
  intro p e st m below meth cd0 ls Z hml hr hlk hN hl hw
  have hl : lv_has ls 4 [(0, .ref (ad (13, 2 * s + 0))), (1, .int (nI (r))), (2, .int (nI (a))), (3, .int (nI (v)))] := hl
  refine lv_aload_n Z.1 Z.2.1 md_Tal_record_0 rfl (lv_at hl 0 rfl) ?_
  refine xb_get (v := .ref (ad (14, 2 * s + 0))) Z hw (fb_in13 n hs (by decide)) (fb_e13 n ad cI cZ cS cA (2 * s + 0)) rfl tb_iTal 1 (by decide) mk_Tal_21 rfl rfl md_Tal_record_1 ?_
  refine lv_iload_n Z.1 Z.2.1 md_Tal_record_4 rfl (lv_at hl 1 rfl) ?_
  refine lv_aload_n Z.1 Z.2.1 md_Tal_record_5 rfl (lv_at hl 0 rfl) ?_
  refine xb_get (v := .ref (ad (1, 0))) Z hw (fb_in13 n hs (by decide)) (fb_e13 n ad cI cZ cS cA (2 * s + 0)) rfl tb_iTal 0 (by decide) mk_Tal_9 rfl rfl md_Tal_record_6 ?_
  refine xb_get (v := .int (M (1, 0) 0)) Z hw (fb_in1 n) (fb_e1 n ad cI cZ cS cA) rfl tb_iSiz 0 (by decide) mk_Tal_15 rfl rfl md_Tal_record_9 ?_
  refine xi_re (show M (1, 0) 0 = nI (n) from h.1.1) ?_
  refine xi_mul Z md_Tal_record_12 ?_
  refine lv_iload_n Z.1 Z.2.1 md_Tal_record_13 rfl (lv_at hl 2 rfl) ?_
  refine xi_add Z md_Tal_record_14 ?_
  refine lv_iload_n Z.1 Z.2.1 md_Tal_record_15 rfl (lv_at hl 3 rfl) ?_
  refine xb_iast Z hw (fb_in14 n hs (by decide)) (fb_e14 n ad cI cZ cS cA (2 * s + 0)) 0 rfl (r * n + a) rfl (by have h1 : r * n ≤ 12 * n := Nat.mul_le_mul_right n hr12; omega) (by omega) md_Tal_record_16 (fun M1 H1 locs1 e1 hw => ?_)
  have m1 : ∀ k, k ≠ (14, 2 * s + 0) → M1 k = M k := fun k hk => by rw [e1, xw_mw_n hk]
  have h1 : fr_R n q f (pz_pw S s (pz_u (S.2 s) 5 r a v)) ex M1 := by
    refine fr_tal (w := 0) h hs (by decide) (fun k _ h14 => m1 k h14) (fun k x y hk => pz_u_k hk.1) ⟨?_, ?_⟩ (fun x b hx hb2 => ⟨?_, ?_⟩)
    · rw [m1 _ (fr_pair (by decide)), pz_u_k (by decide)]; exact (fr_s h hs).1
    · rw [m1 _ (fr_pair (by decide)), pz_u_k (by decide)]; exact (fr_s h hs).2
    · rw [show M1 (14, 2 * s) = upd (M (14, 2 * s)) (r * n + a) (nI v) from by rw [e1]; exact xw_mw_s _ _ _]
      unfold upd pz_u
      by_cases z : x = r ∧ b = a
      · rw [z.1, z.2, if_pos rfl, if_pos ⟨rfl, rfl, rfl⟩]
      · rw [if_neg (fun y => z (fr_ix ha hb2 y)), if_neg (fun y => z ⟨y.2.1, y.2.2⟩)]; exact (fr_v h hs hx hb2).1
    · rw [m1 _ (fr_pair2 (by omega)), pz_u_k (by decide)]; exact (fr_v h hs hx hb2).2
  have hb1 : ∀ b, b < n → (pz_pw S s (pz_u (S.2 s) 5 r a v)).2 s 5 r b < 2 ^ 31 := fun b hb2 => by rw [pz_pw_s]; unfold pz_u; split <;> first | exact hv | exact hb b hb2
  have g6 : M1 (6, 0) = M (6, 0) := m1 _ (fr_pair (by decide))
  refine lv_aload_n Z.1 Z.2.1 md_Tal_record_17 rfl (lv_at hl 0 rfl) ?_
  refine xb_get (v := .int (M1 (13, 2 * s + 0) 2)) Z hw (fb_in13 n hs (by decide)) (fb_e13 n ad cI cZ cS cA (2 * s + 0)) rfl tb_iTal 2 (by decide) mk_Tal_25 rfl rfl md_Tal_record_18 ?_
  refine xi_re (show M1 (13, 2 * s + 0) 2 = nI (S.2 s 16 0 0) from (by rw [m1 _ (fr_pair (by decide))]; exact (fr_s h hs).1)) ?_
  refine xi_if_ne (tgt := 46) Z md_Tal_record_21 (by decide) (by omega) (fun h21 => ?_) (fun h21 => ?_)
  · exact xw_vret Z hr hlk hw md_Tal_record_46 ⟨by rw [if_neg (fun y => by omega), show S.2 s 16 0 0 = (pz_u (S.2 s) 5 r a v) 16 0 0 from (pz_u_k (by decide)).symm, pz_u_id]; exact h1, g6⟩
  · refine lv_aload_n Z.1 Z.2.1 md_Tal_record_24 rfl (lv_at hl 0 rfl) ?_
    refine lv_iload_n Z.1 Z.2.1 md_Tal_record_25 rfl (lv_at hl 1 rfl) ?_
    refine lv_iload_n Z.1 Z.2.1 md_Tal_record_26 rfl (lv_at hl 3 rfl) ?_
    refine xw_cV (n := 2) (rest := []) Z hml hl.1 hN hw (k_tally0 (S := pz_pw S s (pz_u (S.2 s) 5 r a v)) l D ad cI cZ cS cA hn h1 hs hr12 hv hb1) tb_g mc_Tal_tally mk_Tal_28 mi_Tal_tally ms_Tal_tally mz_Tal ⟨by decide, by decide, by decide +kernel⟩ ⟨Nat.le_of_ble_eq_true rfl, Nat.le_of_ble_eq_true rfl⟩ (fb_in13 n hs (by decide)) (fb_e13 n ad cI cZ cS cA (2 * s + 0) _) rfl rfl rfl rfl (Nat.le_of_ble_eq_true rfl) ⟨Nat.le_refl _, Nat.le_refl _⟩ md_Tal_record_27 (fun M2 H2 locs2 e2 hw => ?_)
    have ey2 := e2.symm
    subst ey2
    refine W.eq (g2 := F0 m 30 ls [.int (nI (pz_sm n (fun a_1 => if (pz_pw S s (pz_u (S.2 s) 5 r a v)).2 s 5 r a_1 = v then 1 else 0)))]) rfl ?_
    refine xi_re (show _ = nI (pz_cv (pz_u (S.2 s) 5 r a v) n r v) from (by rw [pz_pw_s]; rfl)) ?_
    refine lv_aload_n Z.1 Z.2.1 md_Tal_record_30 rfl (lv_at hl 0 rfl) ?_
    refine xb_get (v := .ref (ad (1, 0))) Z hw (fb_in13 n hs (by decide)) (fb_e13 n ad cI cZ cS cA (2 * s + 0)) rfl tb_iTal 0 (by decide) mk_Tal_9 rfl rfl md_Tal_record_31 ?_
    refine lv_iload_n Z.1 Z.2.1 md_Tal_record_34 rfl (lv_at hl 1 rfl) ?_
    refine xw_cV (n := 1) (rest := [.int (nI (pz_cv (pz_u (S.2 s) 5 r a v) n r v))]) Z hml hl.1 hN hw (k_quorumOf l D ad cI cZ cS cA h1.1 (by omega)) tb_g mc_Siz_quorumOf mk_Tal_32 mi_Siz_quorumOf ms_Siz_quorumOf mz_Siz ⟨by decide, by decide, by decide +kernel⟩ ⟨Nat.le_of_ble_eq_true rfl, Nat.le_of_ble_eq_true rfl⟩ (fb_in1 n) (fb_e1 n ad cI cZ cS cA _) rfl rfl rfl rfl (Nat.le_of_ble_eq_true rfl) ⟨Nat.le_refl _, Nat.le_refl _⟩ md_Tal_record_35 (fun M3 H3 locs3 e3 hw => ?_)
    have ey3 := e3.symm
    subst ey3
    refine W.eq (g2 := F0 m 38 ls [.int (nI (pz_en q f r)), .int (nI (pz_cv (pz_u (S.2 s) 5 r a v) n r v))]) rfl ?_
    have l1 : pz_en q f r < 2 ^ 31 := by unfold pz_en; split <;> omega
    have l2 : pz_cv (pz_u (S.2 s) 5 r a v) n r v ≤ n := Nat.le_trans (pz_sm_le n (h := fun _ => 1) (fun b _ => by split <;> omega)) (by rw [pz_sm_const]; omega)
    refine xi_icmp_lt (tgt := 46) Z md_Tal_record_38 (by decide) (by omega) (by omega) (fun h38 => ?_) (fun h38 => ?_)
    · exact xw_vret Z hr hlk hw md_Tal_record_46 ⟨by rw [if_neg (fun y => by omega), show S.2 s 16 0 0 = (pz_u (S.2 s) 5 r a v) 16 0 0 from (pz_u_k (by decide)).symm, pz_u_id]; exact h1, g6⟩
    · refine lv_aload_n Z.1 Z.2.1 md_Tal_record_41 rfl (lv_at hl 0 rfl) ?_
      refine lv_iload_n Z.1 Z.2.1 md_Tal_record_42 rfl (lv_at hl 3 rfl) ?_
      refine xb_put Z hw (fb_in13 n hs (by decide)) (fb_e13 n ad cI cZ cS cA (2 * s + 0)) rfl tb_iTal tb_tTal tb_yTal tb_nTal 2 (by decide) mk_Tal_25 rfl rfl rfl (fb_s13_2 ad (2 * s + 0) _) md_Tal_record_43 (fun M4 H4 locs4 e4 hw => ?_)
      rw [if_pos ⟨h21, h38⟩]
      have m2 : ∀ k, k ≠ (13, 2 * s + 0) → M4 k = M1 k := fun k hk => by rw [e4, xw_mw_n hk]
      have hX := fr_tal (w := 0) (p' := pz_u (pz_u (S.2 s) 5 r a v) 16 0 0 v) h1 hs (by decide) (fun k h13 _ => m2 k h13) (fun k x y hk => by rw [pz_pw_s]; exact pz_u_k hk.2.2.2) ⟨?_, ?_⟩ (fun x b hx hb2 => ⟨?_, ?_⟩)
      · rw [pz_pw_pw] at hX
        exact xw_vret Z hr hlk hw md_Tal_record_46 ⟨hX, by rw [m2 _ (fr_pair (by decide))]; exact g6⟩
      · rw [show M4 (13, 2 * s) = upd (M1 (13, 2 * s)) 2 (nI v) from by rw [e4]; exact xw_mw_s _ _ _, pz_u_s]; simp [upd]
      · rw [m2 _ (fr_pair2 (by omega)), pz_u_k (by decide)]; have := (fr_s h1 hs).2; rw [pz_pw_s] at this; exact this
      · rw [m2 _ (fr_pair (by decide)), pz_u_k (by decide)]; have := (fr_v h1 hs hx hb2).1; rw [pz_pw_s] at this; exact this
      · rw [m2 _ (fr_pair (by decide)), pz_u_k (by decide)]; have := (fr_v h1 hs hx hb2).2; rw [pz_pw_s] at this; exact this
set_option maxHeartbeats 4000000 in
theorem k_record1 (l : Launch) (D : va_G) {n : Nat} (ad : Nat × Nat → Nat) (cI cZ cS cA : ClassId) {M : fr_M} {q f : Nat} {S : pz_T} {ex : Nat → Nat → Prop} {s r a v : Nat} (hn : n ≤ 5) (hq : q ≤ 5) (hf : f ≤ 5) (h : fr_R n q f S ex M) (hs : s < 3) (hr12 : r ≤ 12) (ha : a < n) (hv : v < 2 ^ 31) (hb : ∀ b, b < n → S.2 s 6 r b < 2 ^ 31) (hse : S.2 s 7 0 0 < 2 ^ 31) : fb_C l D n ad cI cZ cS cA my_Tal_record mb_Tal_record 4 none 2 41 M [.ref (ad (13, 2 * s + 1)), .int (nI (r)), .int (nI (a)), .int (nI (v))] (none) (fr_K n q f (pz_pw S s (pz_u (pz_u (S.2 s) 6 r a v) 7 0 0 (if S.2 s 7 0 0 = 0 ∧ pz_en q f r ≤ pz_hv (pz_u (S.2 s) 6 r a v) n r v then v else S.2 s 7 0 0))) ex M) := by
  unfold fr_K
  refine xw_start [.ref (ad (13, 2 * s + 1)), .int (nI (r)), .int (nI (a)), .int (nI (v))] (by decide) (Nat.le_of_ble_eq_true rfl) ?_
  intro p e st m below meth cd0 ls Z hml hr hlk hN hl hw
  have hl : lv_has ls 4 [(0, .ref (ad (13, 2 * s + 1))), (1, .int (nI (r))), (2, .int (nI (a))), (3, .int (nI (v)))] := hl
  refine lv_aload_n Z.1 Z.2.1 md_Tal_record_0 rfl (lv_at hl 0 rfl) ?_
  refine xb_get (v := .ref (ad (14, 2 * s + 1))) Z hw (fb_in13 n hs (by decide)) (fb_e13 n ad cI cZ cS cA (2 * s + 1)) rfl tb_iTal 1 (by decide) mk_Tal_21 rfl rfl md_Tal_record_1 ?_
  refine lv_iload_n Z.1 Z.2.1 md_Tal_record_4 rfl (lv_at hl 1 rfl) ?_
  refine lv_aload_n Z.1 Z.2.1 md_Tal_record_5 rfl (lv_at hl 0 rfl) ?_
  refine xb_get (v := .ref (ad (1, 0))) Z hw (fb_in13 n hs (by decide)) (fb_e13 n ad cI cZ cS cA (2 * s + 1)) rfl tb_iTal 0 (by decide) mk_Tal_9 rfl rfl md_Tal_record_6 ?_
  refine xb_get (v := .int (M (1, 0) 0)) Z hw (fb_in1 n) (fb_e1 n ad cI cZ cS cA) rfl tb_iSiz 0 (by decide) mk_Tal_15 rfl rfl md_Tal_record_9 ?_
  refine xi_re (show M (1, 0) 0 = nI (n) from h.1.1) ?_
  refine xi_mul Z md_Tal_record_12 ?_
  refine lv_iload_n Z.1 Z.2.1 md_Tal_record_13 rfl (lv_at hl 2 rfl) ?_
  refine xi_add Z md_Tal_record_14 ?_
  refine lv_iload_n Z.1 Z.2.1 md_Tal_record_15 rfl (lv_at hl 3 rfl) ?_
  refine xb_iast Z hw (fb_in14 n hs (by decide)) (fb_e14 n ad cI cZ cS cA (2 * s + 1)) 0 rfl (r * n + a) rfl (by have h1 : r * n ≤ 12 * n := Nat.mul_le_mul_right n hr12; omega) (by omega) md_Tal_record_16 (fun M1 H1 locs1 e1 hw => ?_)
  have m1 : ∀ k, k ≠ (14, 2 * s + 1) → M1 k = M k := fun k hk => by rw [e1, xw_mw_n hk]
  have h1 : fr_R n q f (pz_pw S s (pz_u (S.2 s) 6 r a v)) ex M1 := by
    refine fr_tal (w := 1) h hs (by decide) (fun k _ h14 => m1 k h14) (fun k x y hk => pz_u_k hk.2.1) ⟨?_, ?_⟩ (fun x b hx hb2 => ⟨?_, ?_⟩)
    · rw [m1 _ (fr_pair (by decide)), pz_u_k (by decide)]; exact (fr_s h hs).1
    · rw [m1 _ (fr_pair (by decide)), pz_u_k (by decide)]; exact (fr_s h hs).2
    · rw [m1 _ (fr_pair2 (by omega)), pz_u_k (by decide)]; exact (fr_v h hs hx hb2).1
    · rw [show M1 (14, 2 * s + 1) = upd (M (14, 2 * s + 1)) (r * n + a) (nI v) from by rw [e1]; exact xw_mw_s _ _ _]
      unfold upd pz_u
      by_cases z : x = r ∧ b = a
      · rw [z.1, z.2, if_pos rfl, if_pos ⟨rfl, rfl, rfl⟩]
      · rw [if_neg (fun y => z (fr_ix ha hb2 y)), if_neg (fun y => z ⟨y.2.1, y.2.2⟩)]; exact (fr_v h hs hx hb2).2
  have hb1 : ∀ b, b < n → (pz_pw S s (pz_u (S.2 s) 6 r a v)).2 s 6 r b < 2 ^ 31 := fun b hb2 => by rw [pz_pw_s]; unfold pz_u; split <;> first | exact hv | exact hb b hb2
  have g6 : M1 (6, 0) = M (6, 0) := m1 _ (fr_pair (by decide))
  refine lv_aload_n Z.1 Z.2.1 md_Tal_record_17 rfl (lv_at hl 0 rfl) ?_
  refine xb_get (v := .int (M1 (13, 2 * s + 1) 2)) Z hw (fb_in13 n hs (by decide)) (fb_e13 n ad cI cZ cS cA (2 * s + 1)) rfl tb_iTal 2 (by decide) mk_Tal_25 rfl rfl md_Tal_record_18 ?_
  refine xi_re (show M1 (13, 2 * s + 1) 2 = nI (S.2 s 7 0 0) from (by rw [m1 _ (fr_pair (by decide))]; exact (fr_s h hs).2)) ?_
  refine xi_if_ne (tgt := 46) Z md_Tal_record_21 (by decide) (by omega) (fun h21 => ?_) (fun h21 => ?_)
  · exact xw_vret Z hr hlk hw md_Tal_record_46 ⟨by rw [if_neg (fun y => by omega), show S.2 s 7 0 0 = (pz_u (S.2 s) 6 r a v) 7 0 0 from (pz_u_k (by decide)).symm, pz_u_id]; exact h1, g6⟩
  · refine lv_aload_n Z.1 Z.2.1 md_Tal_record_24 rfl (lv_at hl 0 rfl) ?_
    refine lv_iload_n Z.1 Z.2.1 md_Tal_record_25 rfl (lv_at hl 1 rfl) ?_
    refine lv_iload_n Z.1 Z.2.1 md_Tal_record_26 rfl (lv_at hl 3 rfl) ?_
    refine xw_cV (n := 2) (rest := []) Z hml hl.1 hN hw (k_tally1 (S := pz_pw S s (pz_u (S.2 s) 6 r a v)) l D ad cI cZ cS cA hn h1 hs hr12 hv hb1) tb_g mc_Tal_tally mk_Tal_28 mi_Tal_tally ms_Tal_tally mz_Tal ⟨by decide, by decide, by decide +kernel⟩ ⟨Nat.le_of_ble_eq_true rfl, Nat.le_of_ble_eq_true rfl⟩ (fb_in13 n hs (by decide)) (fb_e13 n ad cI cZ cS cA (2 * s + 1) _) rfl rfl rfl rfl (Nat.le_of_ble_eq_true rfl) ⟨Nat.le_refl _, Nat.le_refl _⟩ md_Tal_record_27 (fun M2 H2 locs2 e2 hw => ?_)
    have ey2 := e2.symm
    subst ey2
    refine W.eq (g2 := F0 m 30 ls [.int (nI (pz_sm n (fun a_1 => if (pz_pw S s (pz_u (S.2 s) 6 r a v)).2 s 6 r a_1 = v then 1 else 0)))]) rfl ?_
    refine xi_re (show _ = nI (pz_hv (pz_u (S.2 s) 6 r a v) n r v) from (by rw [pz_pw_s]; rfl)) ?_
    refine lv_aload_n Z.1 Z.2.1 md_Tal_record_30 rfl (lv_at hl 0 rfl) ?_
    refine xb_get (v := .ref (ad (1, 0))) Z hw (fb_in13 n hs (by decide)) (fb_e13 n ad cI cZ cS cA (2 * s + 1)) rfl tb_iTal 0 (by decide) mk_Tal_9 rfl rfl md_Tal_record_31 ?_
    refine lv_iload_n Z.1 Z.2.1 md_Tal_record_34 rfl (lv_at hl 1 rfl) ?_
    refine xw_cV (n := 1) (rest := [.int (nI (pz_hv (pz_u (S.2 s) 6 r a v) n r v))]) Z hml hl.1 hN hw (k_quorumOf l D ad cI cZ cS cA h1.1 (by omega)) tb_g mc_Siz_quorumOf mk_Tal_32 mi_Siz_quorumOf ms_Siz_quorumOf mz_Siz ⟨by decide, by decide, by decide +kernel⟩ ⟨Nat.le_of_ble_eq_true rfl, Nat.le_of_ble_eq_true rfl⟩ (fb_in1 n) (fb_e1 n ad cI cZ cS cA _) rfl rfl rfl rfl (Nat.le_of_ble_eq_true rfl) ⟨Nat.le_refl _, Nat.le_refl _⟩ md_Tal_record_35 (fun M3 H3 locs3 e3 hw => ?_)
    have ey3 := e3.symm
    subst ey3
    refine W.eq (g2 := F0 m 38 ls [.int (nI (pz_en q f r)), .int (nI (pz_hv (pz_u (S.2 s) 6 r a v) n r v))]) rfl ?_
    have l1 : pz_en q f r < 2 ^ 31 := by unfold pz_en; split <;> omega
    have l2 : pz_hv (pz_u (S.2 s) 6 r a v) n r v ≤ n := Nat.le_trans (pz_sm_le n (h := fun _ => 1) (fun b _ => by split <;> omega)) (by rw [pz_sm_const]; omega)
    refine xi_icmp_lt (tgt := 46) Z md_Tal_record_38 (by decide) (by omega) (by omega) (fun h38 => ?_) (fun h38 => ?_)
    · exact xw_vret Z hr hlk hw md_Tal_record_46 ⟨by rw [if_neg (fun y => by omega), show S.2 s 7 0 0 = (pz_u (S.2 s) 6 r a v) 7 0 0 from (pz_u_k (by decide)).symm, pz_u_id]; exact h1, g6⟩
    · refine lv_aload_n Z.1 Z.2.1 md_Tal_record_41 rfl (lv_at hl 0 rfl) ?_
      refine lv_iload_n Z.1 Z.2.1 md_Tal_record_42 rfl (lv_at hl 3 rfl) ?_
      refine xb_put Z hw (fb_in13 n hs (by decide)) (fb_e13 n ad cI cZ cS cA (2 * s + 1)) rfl tb_iTal tb_tTal tb_yTal tb_nTal 2 (by decide) mk_Tal_25 rfl rfl rfl (fb_s13_2 ad (2 * s + 1) _) md_Tal_record_43 (fun M4 H4 locs4 e4 hw => ?_)
      rw [if_pos ⟨h21, h38⟩]
      have m2 : ∀ k, k ≠ (13, 2 * s + 1) → M4 k = M1 k := fun k hk => by rw [e4, xw_mw_n hk]
      have hX := fr_tal (w := 1) (p' := pz_u (pz_u (S.2 s) 6 r a v) 7 0 0 v) h1 hs (by decide) (fun k h13 _ => m2 k h13) (fun k x y hk => by rw [pz_pw_s]; exact pz_u_k hk.2.2.1) ⟨?_, ?_⟩ (fun x b hx hb2 => ⟨?_, ?_⟩)
      · rw [pz_pw_pw] at hX
        exact xw_vret Z hr hlk hw md_Tal_record_46 ⟨hX, by rw [m2 _ (fr_pair (by decide))]; exact g6⟩
      · rw [m2 _ (fr_pair2 (by omega)), pz_u_k (by decide)]; have := (fr_s h1 hs).1; rw [pz_pw_s] at this; exact this
      · rw [show M4 (13, 2 * s + 1) = upd (M1 (13, 2 * s + 1)) 2 (nI v) from by rw [e4]; exact xw_mw_s _ _ _, pz_u_s]; simp [upd]
      · rw [m2 _ (fr_pair (by decide)), pz_u_k (by decide)]; have := (fr_v h1 hs hx hb2).1; rw [pz_pw_s] at this; exact this
      · rw [m2 _ (fr_pair (by decide)), pz_u_k (by decide)]; have := (fr_v h1 hs hx hb2).2; rw [pz_pw_s] at this; exact this
set_option maxHeartbeats 4000000 in
theorem k_isOpenNow (l : Launch) (D : va_G) {n : Nat} (ad : Nat × Nat → Nat) (cI cZ cS cA : ClassId) {M : fr_M} {q f : Nat} {S : pz_T} {ex : Nat → Nat → Prop} {s a : Nat} (hn : n ≤ 5) (h : fr_R n q f S ex M) (hs : s < 3) (ha : a < n) (b4 : S.2 s 4 a 0 < 2 ^ 31) (b0 : S.2 s 0 a 0 < 2 ^ 31) : fb_C l D n ad cI cZ cS cA my_Acc_isOpenNow mb_Acc_isOpenNow 1 (some .boolean) 0 0 M [.ref (ad (15, 5 * s + a))] (some (.int (nI (if S.2 s 4 a 0 ≠ 0 ∧ S.2 s 4 a 0 = S.2 s 0 a 0 then 1 else 0)))) (fun M' => M' = M) := by
  refine xw_start [.ref (ad (15, 5 * s + a))] (by decide) (Nat.le_of_ble_eq_true rfl) ?_
  intro p e st m below meth cd0 ls Z hml hr hlk hN hl hw
  have hl : lv_has ls 1 [(0, .ref (ad (15, 5 * s + a)))] := hl
  refine lv_aload_n Z.1 Z.2.1 md_Acc_isOpenNow_0 rfl (lv_at hl 0 rfl) ?_
  refine xb_get (v := .int (M (15, 5 * s + a) 8)) Z hw (fb_in15 hn hs ha) (fb_e15 n ad cI cZ cS cA (5 * s + a)) rfl tb_iAcc 8 (by decide) mk_Acc_64 rfl rfl md_Acc_isOpenNow_1 ?_
  refine xi_re (show M (15, 5 * s + a) 8 = nI (S.2 s 4 a 0) from (fr_a h hs ha).2.2.2.2.2.2) ?_
  refine xi_if_eq (tgt := 22) Z md_Acc_isOpenNow_4 (by decide) (by omega) (fun h4 => ?_) (fun h4 => ?_)
  · refine lv_iconst (v := nI 0) Z.1 Z.2.1 md_Acc_isOpenNow_22 (by decide) ?_
    exact xw_zret Z hr hlk hw md_Acc_isOpenNow_23 (by first | rw [if_pos ⟨by omega, by omega⟩] | rw [if_neg (fun y => by omega)]) rfl rfl
  · refine lv_aload_n Z.1 Z.2.1 md_Acc_isOpenNow_7 rfl (lv_at hl 0 rfl) ?_
    refine xb_get (v := .int (M (15, 5 * s + a) 8)) Z hw (fb_in15 hn hs ha) (fb_e15 n ad cI cZ cS cA (5 * s + a)) rfl tb_iAcc 8 (by decide) mk_Acc_64 rfl rfl md_Acc_isOpenNow_8 ?_
    refine xi_re (show M (15, 5 * s + a) 8 = nI (S.2 s 4 a 0) from (fr_a h hs ha).2.2.2.2.2.2) ?_
    refine lv_aload_n Z.1 Z.2.1 md_Acc_isOpenNow_11 rfl (lv_at hl 0 rfl) ?_
    refine xb_get (v := .int (M (15, 5 * s + a) 4)) Z hw (fb_in15 hn hs ha) (fb_e15 n ad cI cZ cS cA (5 * s + a)) rfl tb_iAcc 4 (by decide) mk_Acc_58 rfl rfl md_Acc_isOpenNow_12 ?_
    refine xi_re (show M (15, 5 * s + a) 4 = nI (S.2 s 0 a 0) from (fr_a h hs ha).2.2.1) ?_
    refine xi_icmp_ne (tgt := 22) Z md_Acc_isOpenNow_15 (by decide) (by omega) (by omega) (fun h15 => ?_) (fun h15 => ?_)
    · refine lv_iconst (v := nI 0) Z.1 Z.2.1 md_Acc_isOpenNow_22 (by decide) ?_
      exact xw_zret Z hr hlk hw md_Acc_isOpenNow_23 (by first | rw [if_pos ⟨by omega, by omega⟩] | rw [if_neg (fun y => by omega)]) rfl rfl
    · refine lv_iconst (v := nI 1) Z.1 Z.2.1 md_Acc_isOpenNow_18 (by decide) ?_
      refine lv_goto (tgt := 23) Z.1 Z.2.1 md_Acc_isOpenNow_19 (by decide) ?_
      exact xw_zret Z hr hlk hw md_Acc_isOpenNow_23 (by first | rw [if_pos ⟨by omega, by omega⟩] | rw [if_neg (fun y => by omega)]) rfl rfl
set_option maxHeartbeats 4000000 in
theorem k_castVote (l : Launch) (D : va_G) {n : Nat} (ad : Nat × Nat → Nat) (cI cZ cS cA : ClassId) {M : fr_M} {q f : Nat} {S : pz_T} {ex : Nat → Nat → Prop} {s a r v : Nat} (hn : n ≤ 5) (hq : q ≤ 5) (hf : f ≤ 5) (h : fr_R n q f S ex M) (h60 : S.1.length ≤ 60) (hs : s < 3) (ha : a < n) (hr1 : 1 ≤ r) (hr12 : r ≤ 12) (hv : v < 2 ^ 31) (hb : ∀ b, b < n → S.2 s 5 r b < 2 ^ 31) (hse : S.2 s 16 0 0 < 2 ^ 31) : fb_C l D n ad cI cZ cS cA my_Acc_castVote mb_Acc_castVote 3 none 3 64 M [.ref (ad (15, 5 * s + a)), .int (nI (r)), .int (nI (v))] (none) (fr_K n q f (pz_cast n q f S s a r v) ex M) := by
  refine xw_start [.ref (ad (15, 5 * s + a)), .int (nI (r)), .int (nI (v))] (by decide) (Nat.le_of_ble_eq_true rfl) ?_
  intro p e st m below meth cd0 ls Z hml hr hlk hN hl hw
  have hl : lv_has ls 3 [(0, .ref (ad (15, 5 * s + a))), (1, .int (nI (r))), (2, .int (nI (v)))] := hl
  refine lv_aload_n Z.1 Z.2.1 md_Acc_castVote_0 rfl (lv_at hl 0 rfl) ?_
  refine lv_iload_n Z.1 Z.2.1 md_Acc_castVote_1 rfl (lv_at hl 2 rfl) ?_
  refine xb_put Z hw (fb_in15 hn hs ha) (fb_e15 n ad cI cZ cS cA (5 * s + a)) rfl tb_iAcc tb_tAcc tb_yAcc tb_nAcc 5 (by decide) mk_Acc_71 rfl rfl rfl (fb_s15_5 ad (5 * s + a) _) md_Acc_castVote_2 (fun M1 H1 locs1 e1 hw => ?_)
  refine lv_aload_n Z.1 Z.2.1 md_Acc_castVote_5 rfl (lv_at hl 0 rfl) ?_
  refine lv_iload_n Z.1 Z.2.1 md_Acc_castVote_6 rfl (lv_at hl 1 rfl) ?_
  refine xb_put Z hw (fb_in15 hn hs ha) (fb_e15 n ad cI cZ cS cA (5 * s + a)) rfl tb_iAcc tb_tAcc tb_yAcc tb_nAcc 6 (by decide) mk_Acc_55 rfl rfl rfl (fb_s15_6 ad (5 * s + a) _) md_Acc_castVote_7 (fun M2 H2 locs2 e2 hw => ?_)
  have h2c : M2 (15, 5 * s + a) = upd (upd (M (15, 5 * s + a)) 5 (nI v)) 6 (nI r) := by rw [e2, xw_mw_s, e1, xw_mw_s]
  have h2m : ∀ k, k ≠ (15, 5 * s + a) → M2 k = M k := fun k hk => by rw [e2, xw_mw_n hk, e1, xw_mw_n hk]
  have h2 : fr_R n q f (pz_pw S s (pz_u (pz_u (S.2 s) 1 a 0 v) 2 a 0 r)) ex M2 := by
    have k := fr_a h hs ha
    refine fr_acc hn h hs ha h2m (fun k x y h5 => by simp only [pz_u]; repeat rw [if_neg (fun y => by omega)]) (fun k b hk4 hb => by simp only [pz_u]; repeat rw [if_neg (fun y => by omega)]) ?_
    rw [h2c]
    refine ⟨?_, ?_, ?_, ?_, ?_, ?_, ?_⟩ <;> (simp only [upd, pz_u]; try simp) <;> first | exact k.1 | exact k.2.1 | exact k.2.2.1 | exact k.2.2.2.1 | exact k.2.2.2.2.1 | exact k.2.2.2.2.2.1 | exact k.2.2.2.2.2.2
  refine lv_aload_n Z.1 Z.2.1 md_Acc_castVote_10 rfl (lv_at hl 0 rfl) ?_
  refine xb_get (v := .ref (ad (13, 2 * s + 0))) Z hw (fb_in15 hn hs ha) (fb_e15 n ad cI cZ cS cA (5 * s + a)) rfl tb_iAcc 3 (by decide) mk_Acc_22 rfl (by show some (Value.ref (ad (13, 2 * ((5 * s + a) / 5) + 0))) = _; rw [show (5 * s + a) / 5 = s by omega]) md_Acc_castVote_11 ?_
  refine lv_iload_n Z.1 Z.2.1 md_Acc_castVote_14 rfl (lv_at hl 1 rfl) ?_
  refine lv_aload_n Z.1 Z.2.1 md_Acc_castVote_15 rfl (lv_at hl 0 rfl) ?_
  refine xb_get (v := .int (M2 (15, 5 * s + a) 0)) Z hw (fb_in15 hn hs ha) (fb_e15 n ad cI cZ cS cA (5 * s + a)) rfl tb_iAcc 0 (by decide) mk_Acc_9 rfl rfl md_Acc_castVote_16 ?_
  refine xi_re (show M2 (15, 5 * s + a) 0 = nI (a) from (fr_a h2 hs ha).1) ?_
  refine lv_iload_n Z.1 Z.2.1 md_Acc_castVote_19 rfl (lv_at hl 2 rfl) ?_
  refine xw_cV (n := 3) (rest := []) Z hml hl.1 hN hw (k_record0 (S := pz_pw S s (pz_u (pz_u (S.2 s) 1 a 0 v) 2 a 0 r)) l D ad cI cZ cS cA hn hq hf h2 hs hr12 ha hv (fun b hb2 => by rw [pz_pw_s, pz_u_k (by decide), pz_u_k (by decide)]; exact hb b hb2) (by rw [pz_pw_s, pz_u_k (by decide), pz_u_k (by decide)]; exact hse)) tb_g mc_Tal_record mk_Acc_80 mi_Tal_record ms_Tal_record mz_Tal ⟨by decide, by decide, by decide +kernel⟩ ⟨Nat.le_of_ble_eq_true rfl, Nat.le_of_ble_eq_true rfl⟩ (fb_in13 n hs (by decide)) (fb_e13 n ad cI cZ cS cA (2 * s + 0) _) rfl rfl rfl rfl (Nat.le_of_ble_eq_true rfl) ⟨Nat.le_refl _, Nat.le_refl _⟩ md_Acc_castVote_20 (fun M3 H3 locs3 h3 hw => ?_)
  refine W.eq (g2 := F0 m 23 ls []) rfl ?_
  have h3r : fr_R n q f (pz_pw S s (pz_v2 n q f (S.2 s) a r v)) ex M3 := by
    have z := h3.1
    rw [pz_pw_s, pz_pw_pw] at z
    exact z
  refine lv_aload_n Z.1 Z.2.1 md_Acc_castVote_23 rfl (lv_at hl 0 rfl) ?_
  refine xb_get (v := .ref (ad (2, 0))) Z hw (fb_in15 hn hs ha) (fb_e15 n ad cI cZ cS cA (5 * s + a)) rfl tb_iAcc 2 (by decide) mk_Acc_18 rfl rfl md_Acc_castVote_24 ?_
  refine lv_iconst (v := nI 5) Z.1 Z.2.1 md_Acc_castVote_27 (by decide) ?_
  refine lv_aload_n Z.1 Z.2.1 md_Acc_castVote_28 rfl (lv_at hl 0 rfl) ?_
  refine xb_get (v := .int (M3 (15, 5 * s + a) 1)) Z hw (fb_in15 hn hs ha) (fb_e15 n ad cI cZ cS cA (5 * s + a)) rfl tb_iAcc 1 (by decide) mk_Acc_15 rfl rfl md_Acc_castVote_29 ?_
  refine xi_re (show M3 (15, 5 * s + a) 1 = nI (s) from (fr_a h3r hs ha).2.1) ?_
  refine lv_iload_n Z.1 Z.2.1 md_Acc_castVote_32 rfl (lv_at hl 1 rfl) ?_
  refine lv_aload_n Z.1 Z.2.1 md_Acc_castVote_33 rfl (lv_at hl 0 rfl) ?_
  refine xb_get (v := .int (M3 (15, 5 * s + a) 0)) Z hw (fb_in15 hn hs ha) (fb_e15 n ad cI cZ cS cA (5 * s + a)) rfl tb_iAcc 0 (by decide) mk_Acc_9 rfl rfl md_Acc_castVote_34 ?_
  refine xi_re (show M3 (15, 5 * s + a) 0 = nI (a) from (fr_a h3r hs ha).1) ?_
  refine lv_iload_n Z.1 Z.2.1 md_Acc_castVote_37 rfl (lv_at hl 1 rfl) ?_
  refine xw_cN (n := 1) (rest := [.int (nI (a)), .int (nI (r)), .int (nI (s)), .int (nI (5)), .ref (ad (2, 0))]) Z hml hl.1 hN hw (k_coordinatorOf l D ad cI cZ cS cA (M := M3) hr1 (by omega)) tb_g mc_FB_coordinatorOf (host := "FastBallots") (List.mem_of_getElem? (i := 4) rfl) mt_FB_coordinatorOf mz_FB ⟨by decide, by decide, by decide +kernel⟩ ⟨Nat.le_of_ble_eq_true rfl, Nat.le_of_ble_eq_true rfl⟩ rfl rfl (Nat.le_of_ble_eq_true rfl) ⟨Nat.le_refl _, Nat.le_refl _⟩ md_Acc_castVote_38 (fun M4 H4 locs4 e4 hw => ?_)
  have ey4 := e4.symm
  subst ey4
  refine W.eq (g2 := F0 m 41 ls [.int (nI (8 + pz_ci r)), .int (nI (a)), .int (nI (r)), .int (nI (s)), .int (nI (5)), .ref (ad (2, 0))]) rfl ?_
  refine lv_iload_n Z.1 Z.2.1 md_Acc_castVote_41 rfl (lv_at hl 2 rfl) ?_
  refine lv_iconst (v := nI 0) Z.1 Z.2.1 md_Acc_castVote_42 (by decide) ?_
  refine xw_cV (n := 7) (rest := []) Z hml hl.1 hN hw (k_send (g := (pz_mg 5 s r a (8 + pz_ci r) v 0)) (x := nI a) l D ad cI cZ cS cA h3r h60 (fun _ => rfl)) tb_g mc_Mail_send mk_Acc_74 mi_Mail_send ms_Mail_send mz_Mail ⟨by decide, by decide, by decide +kernel⟩ ⟨Nat.le_of_ble_eq_true rfl, Nat.le_of_ble_eq_true rfl⟩ (fb_in2 n) (fb_e2 n ad cI cZ cS cA _) rfl rfl rfl rfl (Nat.le_of_ble_eq_true rfl) ⟨Nat.le_refl _, Nat.le_refl _⟩ md_Acc_castVote_43 (fun M5 H5 locs5 h5 hw => ?_)
  refine W.eq (g2 := F0 m 46 ls []) rfl ?_
  refine lv_aload_n Z.1 Z.2.1 md_Acc_castVote_46 rfl (lv_at hl 0 rfl) ?_
  refine xb_get (v := .ref (ad (2, 0))) Z hw (fb_in15 hn hs ha) (fb_e15 n ad cI cZ cS cA (5 * s + a)) rfl tb_iAcc 2 (by decide) mk_Acc_18 rfl rfl md_Acc_castVote_47 ?_
  refine lv_iconst (v := nI 5) Z.1 Z.2.1 md_Acc_castVote_50 (by decide) ?_
  refine lv_aload_n Z.1 Z.2.1 md_Acc_castVote_51 rfl (lv_at hl 0 rfl) ?_
  refine xb_get (v := .int (M5 (15, 5 * s + a) 1)) Z hw (fb_in15 hn hs ha) (fb_e15 n ad cI cZ cS cA (5 * s + a)) rfl tb_iAcc 1 (by decide) mk_Acc_15 rfl rfl md_Acc_castVote_52 ?_
  refine xi_re (show M5 (15, 5 * s + a) 1 = nI (s) from (fr_a h5.1 hs ha).2.1) ?_
  refine lv_iload_n Z.1 Z.2.1 md_Acc_castVote_55 rfl (lv_at hl 1 rfl) ?_
  refine lv_aload_n Z.1 Z.2.1 md_Acc_castVote_56 rfl (lv_at hl 0 rfl) ?_
  refine xb_get (v := .int (M5 (15, 5 * s + a) 0)) Z hw (fb_in15 hn hs ha) (fb_e15 n ad cI cZ cS cA (5 * s + a)) rfl tb_iAcc 0 (by decide) mk_Acc_9 rfl rfl md_Acc_castVote_57 ?_
  refine xi_re (show M5 (15, 5 * s + a) 0 = nI (a) from (fr_a h5.1 hs ha).1) ?_
  refine lv_bipush (v := nI 10) Z.1 Z.2.1 md_Acc_castVote_60 (by decide) ?_
  refine lv_iload_n Z.1 Z.2.1 md_Acc_castVote_62 rfl (lv_at hl 2 rfl) ?_
  refine lv_iconst (v := nI 0) Z.1 Z.2.1 md_Acc_castVote_63 (by decide) ?_
  refine xw_cV (n := 7) (rest := []) Z hml hl.1 hN hw (k_send (g := (pz_mg 5 s r a 10 v 0)) (x := nI a) l D ad cI cZ cS cA h5.1 (fr_sd_len h60) (fun _ => rfl)) tb_g mc_Mail_send mk_Acc_74 mi_Mail_send ms_Mail_send mz_Mail ⟨by decide, by decide, by decide +kernel⟩ ⟨Nat.le_of_ble_eq_true rfl, Nat.le_of_ble_eq_true rfl⟩ (fb_in2 n) (fb_e2 n ad cI cZ cS cA _) rfl rfl rfl rfl (Nat.le_of_ble_eq_true rfl) ⟨Nat.le_refl _, Nat.le_refl _⟩ md_Acc_castVote_64 (fun M6 H6 locs6 h6 hw => ?_)
  refine W.eq (g2 := F0 m 67 ls []) rfl ?_
  exact xw_vret Z hr hlk hw md_Acc_castVote_67 ⟨h6.1, by rw [h6.2, h5.2, h3.2, h2m _ (fr_pair (by decide))]⟩
set_option maxHeartbeats 4000000 in
theorem k_hearAsk (l : Launch) (D : va_G) {n : Nat} (ad : Nat × Nat → Nat) (cI cZ cS cA : ClassId) {M : fr_M} {q f : Nat} {S : pz_T} {ex : Nat → Nat → Prop} {s a r v : Nat} (hn : n ≤ 5) (hq : q ≤ 5) (hf : f ≤ 5) (h : fr_R n q f S ex M) (h60 : S.1.length ≤ 60) (I : pz_IV n q f (S.2 s)) (hs : s < 3) (ha : a < n) (hr1 : 1 ≤ r) (hr12 : r ≤ 12) : fb_C l D n ad cI cZ cS cA my_Acc_hearAsk mb_Acc_hearAsk 2 none 1 28 M [.ref (ad (15, 5 * s + a)), .int (nI (r))] (none) (fr_K n q f (pz_accept n q f S s a 2 r v) ex M) := by
  have iA := I.1 a ha
  have iO := I.2.1 a ha
  have iZ := I.2.2.2.2.2.2.1
  have iV : ∀ x b, b < n → S.2 s 5 x b < 2 ^ 31 := fun x b hb => by
    by_cases z : S.2 s 5 x b = 0
    · omega
    · have := ((I.1 b hb).2.2.1 x z).2.2
      omega
  have iS : S.2 s 16 0 0 < 2 ^ 31 := by have := iZ.2.2.2; omega
  obtain ⟨iA1, iA2, -, iA4⟩ := iA
  obtain ⟨iO1, iO2, iO3⟩ := iO
  refine xw_start [.ref (ad (15, 5 * s + a)), .int (nI (r))] (by decide) (Nat.le_of_ble_eq_true rfl) ?_
  intro p e st m below meth cd0 ls Z hml hr hlk hN hl hw
  have hl : lv_has ls 2 [(0, .ref (ad (15, 5 * s + a))), (1, .int (nI (r)))] := hl
  refine lv_iload_n Z.1 Z.2.1 md_Acc_hearAsk_0 rfl (lv_at hl 1 rfl) ?_
  refine lv_aload_n Z.1 Z.2.1 md_Acc_hearAsk_1 rfl (lv_at hl 0 rfl) ?_
  refine xb_get (v := .int (M (15, 5 * s + a) 4)) Z hw (fb_in15 hn hs ha) (fb_e15 n ad cI cZ cS cA (5 * s + a)) rfl tb_iAcc 4 (by decide) mk_Acc_58 rfl rfl md_Acc_hearAsk_2 ?_
  refine xi_re (show M (15, 5 * s + a) 4 = nI (S.2 s 0 a 0) from (fr_a h hs ha).2.2.1) ?_
  refine xi_icmp_gt (tgt := 9) Z md_Acc_hearAsk_5 (by decide) (by omega) (by omega) (fun h5 => ?_) (fun h5 => ?_)
  · have h5c := h5
    refine lv_aload_n Z.1 Z.2.1 md_Acc_hearAsk_9 rfl (lv_at hl 0 rfl) ?_
    refine lv_iload_n Z.1 Z.2.1 md_Acc_hearAsk_10 rfl (lv_at hl 1 rfl) ?_
    refine xb_put Z hw (fb_in15 hn hs ha) (fb_e15 n ad cI cZ cS cA (5 * s + a)) rfl tb_iAcc tb_tAcc tb_yAcc tb_nAcc 4 (by decide) mk_Acc_58 rfl rfl rfl (fb_s15_4 ad (5 * s + a) _) md_Acc_hearAsk_11 (fun M1 H1 locs1 e1 hw => ?_)
    have h1c : M1 (15, 5 * s + a) = upd (M (15, 5 * s + a)) 4 (nI r) := by rw [e1, xw_mw_s]
    have h1m : ∀ k, k ≠ (15, 5 * s + a) → M1 k = M k := fun k hk => by rw [e1, xw_mw_n hk]
    have h1 : fr_R n q f (pz_pw S s (pz_u (S.2 s) 0 a 0 r)) ex M1 := by
      have k := fr_a h hs ha
      refine fr_acc hn h hs ha h1m (fun k x y h5 => by simp only [pz_u]; repeat rw [if_neg (fun y => by omega)]) (fun k b hk4 hb => by simp only [pz_u]; repeat rw [if_neg (fun y => by omega)]) ?_
      rw [h1c]
      refine ⟨?_, ?_, ?_, ?_, ?_, ?_, ?_⟩ <;> (simp only [upd, pz_u]; try simp) <;> first | exact k.1 | exact k.2.1 | exact k.2.2.1 | exact k.2.2.2.1 | exact k.2.2.2.2.1 | exact k.2.2.2.2.2.1 | exact k.2.2.2.2.2.2
    refine lv_aload_n Z.1 Z.2.1 md_Acc_hearAsk_14 rfl (lv_at hl 0 rfl) ?_
    refine xb_get (v := .ref (ad (2, 0))) Z hw (fb_in15 hn hs ha) (fb_e15 n ad cI cZ cS cA (5 * s + a)) rfl tb_iAcc 2 (by decide) mk_Acc_18 rfl rfl md_Acc_hearAsk_15 ?_
    refine lv_iconst (v := nI 3) Z.1 Z.2.1 md_Acc_hearAsk_18 (by decide) ?_
    refine lv_aload_n Z.1 Z.2.1 md_Acc_hearAsk_19 rfl (lv_at hl 0 rfl) ?_
    refine xb_get (v := .int (M1 (15, 5 * s + a) 1)) Z hw (fb_in15 hn hs ha) (fb_e15 n ad cI cZ cS cA (5 * s + a)) rfl tb_iAcc 1 (by decide) mk_Acc_15 rfl rfl md_Acc_hearAsk_20 ?_
    refine xi_re (show M1 (15, 5 * s + a) 1 = nI (s) from (fr_a h1 hs ha).2.1) ?_
    refine lv_iload_n Z.1 Z.2.1 md_Acc_hearAsk_23 rfl (lv_at hl 1 rfl) ?_
    refine lv_aload_n Z.1 Z.2.1 md_Acc_hearAsk_24 rfl (lv_at hl 0 rfl) ?_
    refine xb_get (v := .int (M1 (15, 5 * s + a) 0)) Z hw (fb_in15 hn hs ha) (fb_e15 n ad cI cZ cS cA (5 * s + a)) rfl tb_iAcc 0 (by decide) mk_Acc_9 rfl rfl md_Acc_hearAsk_25 ?_
    refine xi_re (show M1 (15, 5 * s + a) 0 = nI (a) from (fr_a h1 hs ha).1) ?_
    refine lv_iload_n Z.1 Z.2.1 md_Acc_hearAsk_28 rfl (lv_at hl 1 rfl) ?_
    refine xw_cN (n := 1) (rest := [.int (nI (a)), .int (nI (r)), .int (nI (s)), .int (nI (3)), .ref (ad (2, 0))]) Z hml hl.1 hN hw (k_coordinatorOf l D ad cI cZ cS cA (M := M1) hr1 (by omega)) tb_g mc_FB_coordinatorOf (host := "FastBallots") (List.mem_of_getElem? (i := 4) rfl) mt_FB_coordinatorOf mz_FB ⟨by decide, by decide, by decide +kernel⟩ ⟨Nat.le_of_ble_eq_true rfl, Nat.le_of_ble_eq_true rfl⟩ rfl rfl (Nat.le_of_ble_eq_true rfl) ⟨Nat.le_refl _, Nat.le_refl _⟩ md_Acc_hearAsk_29 (fun M2 H2 locs2 e2 hw => ?_)
    have ey2 := e2.symm
    subst ey2
    refine W.eq (g2 := F0 m 32 ls [.int (nI (8 + pz_ci r)), .int (nI (a)), .int (nI (r)), .int (nI (s)), .int (nI (3)), .ref (ad (2, 0))]) rfl ?_
    refine lv_aload_n Z.1 Z.2.1 md_Acc_hearAsk_32 rfl (lv_at hl 0 rfl) ?_
    refine xb_get (v := .int (M1 (15, 5 * s + a) 5)) Z hw (fb_in15 hn hs ha) (fb_e15 n ad cI cZ cS cA (5 * s + a)) rfl tb_iAcc 5 (by decide) mk_Acc_71 rfl rfl md_Acc_hearAsk_33 ?_
    refine xi_re (show M1 (15, 5 * s + a) 5 = nI (S.2 s 1 a 0) from (by have z := (fr_a h1 hs ha).2.2.2.1; rw [pz_pw_s, pz_u_k (by decide)] at z; exact z)) ?_
    refine lv_aload_n Z.1 Z.2.1 md_Acc_hearAsk_36 rfl (lv_at hl 0 rfl) ?_
    refine xb_get (v := .int (M1 (15, 5 * s + a) 6)) Z hw (fb_in15 hn hs ha) (fb_e15 n ad cI cZ cS cA (5 * s + a)) rfl tb_iAcc 6 (by decide) mk_Acc_55 rfl rfl md_Acc_hearAsk_37 ?_
    refine xi_re (show M1 (15, 5 * s + a) 6 = nI (S.2 s 2 a 0) from (by have z := (fr_a h1 hs ha).2.2.2.2.1; rw [pz_pw_s, pz_u_k (by decide)] at z; exact z)) ?_
    refine xw_cV (n := 7) (rest := []) Z hml hl.1 hN hw (k_send (g := pz_mg 3 s r a (8 + pz_ci r) (S.2 s 1 a 0) (S.2 s 2 a 0)) (x := nI a) l D ad cI cZ cS cA h1 h60 (fun _ => rfl)) tb_g mc_Mail_send mk_Acc_74 mi_Mail_send ms_Mail_send mz_Mail ⟨by decide, by decide, by decide +kernel⟩ ⟨Nat.le_of_ble_eq_true rfl, Nat.le_of_ble_eq_true rfl⟩ (fb_in2 n) (fb_e2 n ad cI cZ cS cA _) rfl rfl rfl rfl (Nat.le_of_ble_eq_true rfl) ⟨Nat.le_refl _, Nat.le_refl _⟩ md_Acc_hearAsk_40 (fun M3 H3 locs3 h5 hw => ?_)
    refine W.eq (g2 := F0 m 43 ls []) rfl ?_
    refine xw_vret Z hr hlk hw md_Acc_hearAsk_43 ⟨?_, by rw [h5.2, h1m _ (fr_pair (by decide))]⟩
    unfold pz_accept
    rw [if_pos rfl, if_pos h5c]
    exact h5.1
  · refine xw_vret Z hr hlk hw md_Acc_hearAsk_8 ⟨?_, rfl⟩
    unfold pz_accept
    rw [if_pos rfl, if_neg (by omega)]
    exact h
set_option maxHeartbeats 4000000 in
theorem k_hearVoteFor (l : Launch) (D : va_G) {n : Nat} (ad : Nat × Nat → Nat) (cI cZ cS cA : ClassId) {M : fr_M} {q f : Nat} {S : pz_T} {ex : Nat → Nat → Prop} {s a r v : Nat} (hn : n ≤ 5) (hq : q ≤ 5) (hf : f ≤ 5) (h : fr_R n q f S ex M) (h60 : S.1.length ≤ 60) (I : pz_IV n q f (S.2 s)) (hs : s < 3) (ha : a < n) (hr1 : 1 ≤ r) (hr12 : r ≤ 12) (hv : v < 2 ^ 31) : fb_C l D n ad cI cZ cS cA my_Acc_hearVoteFor mb_Acc_hearVoteFor 3 none 4 86 M [.ref (ad (15, 5 * s + a)), .int (nI (r)), .int (nI (v))] (none) (fr_K n q f (pz_accept n q f S s a 4 r v) ex M) := by
  have iA := I.1 a ha
  have iO := I.2.1 a ha
  have iZ := I.2.2.2.2.2.2.1
  have iV : ∀ x b, b < n → S.2 s 5 x b < 2 ^ 31 := fun x b hb => by
    by_cases z : S.2 s 5 x b = 0
    · omega
    · have := ((I.1 b hb).2.2.1 x z).2.2
      omega
  have iS : S.2 s 16 0 0 < 2 ^ 31 := by have := iZ.2.2.2; omega
  obtain ⟨iA1, iA2, -, iA4⟩ := iA
  obtain ⟨iO1, iO2, iO3⟩ := iO
  refine xw_start [.ref (ad (15, 5 * s + a)), .int (nI (r)), .int (nI (v))] (by decide) (Nat.le_of_ble_eq_true rfl) ?_
  intro p e st m below meth cd0 ls Z hml hr hlk hN hl hw
  have hl : lv_has ls 3 [(0, .ref (ad (15, 5 * s + a))), (1, .int (nI (r))), (2, .int (nI (v)))] := hl
  refine lv_iload_n Z.1 Z.2.1 md_Acc_hearVoteFor_0 rfl (lv_at hl 1 rfl) ?_
  refine lv_aload_n Z.1 Z.2.1 md_Acc_hearVoteFor_1 rfl (lv_at hl 0 rfl) ?_
  refine xb_get (v := .int (M (15, 5 * s + a) 4)) Z hw (fb_in15 hn hs ha) (fb_e15 n ad cI cZ cS cA (5 * s + a)) rfl tb_iAcc 4 (by decide) mk_Acc_58 rfl rfl md_Acc_hearVoteFor_2 ?_
  refine xi_re (show M (15, 5 * s + a) 4 = nI (S.2 s 0 a 0) from (fr_a h hs ha).2.2.1) ?_
  refine xi_icmp_lt (tgt := 16) Z md_Acc_hearVoteFor_5 (by decide) (by omega) (by omega) (fun h5 => ?_) (fun h5 => ?_)
  · refine xw_vret Z hr hlk hw md_Acc_hearVoteFor_16 ⟨?_, rfl⟩
    unfold pz_accept
    rw [if_neg (by decide), if_pos rfl, if_neg (fun y => by omega)]
    exact h
  · refine lv_iload_n Z.1 Z.2.1 md_Acc_hearVoteFor_8 rfl (lv_at hl 1 rfl) ?_
    refine lv_aload_n Z.1 Z.2.1 md_Acc_hearVoteFor_9 rfl (lv_at hl 0 rfl) ?_
    refine xb_get (v := .int (M (15, 5 * s + a) 6)) Z hw (fb_in15 hn hs ha) (fb_e15 n ad cI cZ cS cA (5 * s + a)) rfl tb_iAcc 6 (by decide) mk_Acc_55 rfl rfl md_Acc_hearVoteFor_10 ?_
    refine xi_re (show M (15, 5 * s + a) 6 = nI (S.2 s 2 a 0) from (fr_a h hs ha).2.2.2.2.1) ?_
    refine xi_icmp_gt (tgt := 17) Z md_Acc_hearVoteFor_13 (by decide) (by omega) (by omega) (fun h13 => ?_) (fun h13 => ?_)
    · refine lv_aload_n Z.1 Z.2.1 md_Acc_hearVoteFor_17 rfl (lv_at hl 0 rfl) ?_
      refine lv_iload_n Z.1 Z.2.1 md_Acc_hearVoteFor_18 rfl (lv_at hl 1 rfl) ?_
      refine xb_put Z hw (fb_in15 hn hs ha) (fb_e15 n ad cI cZ cS cA (5 * s + a)) rfl tb_iAcc tb_tAcc tb_yAcc tb_nAcc 4 (by decide) mk_Acc_58 rfl rfl rfl (fb_s15_4 ad (5 * s + a) _) md_Acc_hearVoteFor_19 (fun M1 H1 locs1 e1 hw => ?_)
      have h1c : M1 (15, 5 * s + a) = upd (M (15, 5 * s + a)) 4 (nI r) := by rw [e1, xw_mw_s]
      have h1m : ∀ k, k ≠ (15, 5 * s + a) → M1 k = M k := fun k hk => by rw [e1, xw_mw_n hk]
      have h1 : fr_R n q f (pz_pw S s (pz_u (S.2 s) 0 a 0 r)) ex M1 := by
        have k := fr_a h hs ha
        refine fr_acc hn h hs ha h1m (fun k x y h5 => by simp only [pz_u]; repeat rw [if_neg (fun y => by omega)]) (fun k b hk4 hb => by simp only [pz_u]; repeat rw [if_neg (fun y => by omega)]) ?_
        rw [h1c]
        refine ⟨?_, ?_, ?_, ?_, ?_, ?_, ?_⟩ <;> (simp only [upd, pz_u]; try simp) <;> first | exact k.1 | exact k.2.1 | exact k.2.2.1 | exact k.2.2.2.1 | exact k.2.2.2.2.1 | exact k.2.2.2.2.2.1 | exact k.2.2.2.2.2.2
      refine lv_iload_n Z.1 Z.2.1 md_Acc_hearVoteFor_22 rfl (lv_at hl 2 rfl) ?_
      refine xi_if_eq (tgt := 33) Z md_Acc_hearVoteFor_23 (by decide) (by omega) (fun h23 => ?_) (fun h23 => ?_)
      · refine lv_aload_n Z.1 Z.2.1 md_Acc_hearVoteFor_33 rfl (lv_at hl 0 rfl) ?_
        refine lv_iload_n Z.1 Z.2.1 md_Acc_hearVoteFor_34 rfl (lv_at hl 1 rfl) ?_
        refine xb_put Z hw (fb_in15 hn hs ha) (fb_e15 n ad cI cZ cS cA (5 * s + a)) rfl tb_iAcc tb_tAcc tb_yAcc tb_nAcc 8 (by decide) mk_Acc_64 rfl rfl rfl (fb_s15_8 ad (5 * s + a) _) md_Acc_hearVoteFor_35 (fun M2 H2 locs2 e2 hw => ?_)
        have h3c : M2 (15, 5 * s + a) = upd (upd (M (15, 5 * s + a)) 4 (nI r)) 8 (nI r) := by rw [e2, xw_mw_s, e1, xw_mw_s]
        have h3m : ∀ k, k ≠ (15, 5 * s + a) → M2 k = M k := fun k hk => by rw [e2, xw_mw_n hk, e1, xw_mw_n hk]
        have h3 : fr_R n q f (pz_pw S s (pz_u (pz_u (S.2 s) 0 a 0 r) 4 a 0 r)) ex M2 := by
          have k := fr_a h hs ha
          refine fr_acc hn h hs ha h3m (fun k x y h5 => by simp only [pz_u]; repeat rw [if_neg (fun y => by omega)]) (fun k b hk4 hb => by simp only [pz_u]; repeat rw [if_neg (fun y => by omega)]) ?_
          rw [h3c]
          refine ⟨?_, ?_, ?_, ?_, ?_, ?_, ?_⟩ <;> (simp only [upd, pz_u]; try simp) <;> first | exact k.1 | exact k.2.1 | exact k.2.2.1 | exact k.2.2.2.1 | exact k.2.2.2.2.1 | exact k.2.2.2.2.2.1 | exact k.2.2.2.2.2.2
        refine lv_aload_n Z.1 Z.2.1 md_Acc_hearVoteFor_38 rfl (lv_at hl 0 rfl) ?_
        refine xb_get (v := .int (M2 (15, 5 * s + a) 7)) Z hw (fb_in15 hn hs ha) (fb_e15 n ad cI cZ cS cA (5 * s + a)) rfl tb_iAcc 7 (by decide) mk_Acc_48 rfl rfl md_Acc_hearVoteFor_39 ?_
        refine xi_re (show M2 (15, 5 * s + a) 7 = nI (S.2 s 3 a 0) from (by have z := (fr_a h3 hs ha).2.2.2.2.2.1; rw [pz_pw_s, pz_u_k (by decide), pz_u_k (by decide)] at z; exact z)) ?_
        refine xi_if_eq (tgt := 54) Z md_Acc_hearVoteFor_42 (by decide) (by omega) (fun h42 => ?_) (fun h42 => ?_)
        · refine xw_vret Z hr hlk hw md_Acc_hearVoteFor_54 ⟨?_, by rw [h3m _ (fr_pair (by decide))]⟩
          unfold pz_accept
          rw [if_neg (by decide), if_pos rfl, if_pos ⟨by omega, by omega⟩, if_neg (fun y => y h23), if_neg (fun y => y h42)]
          exact h3
        · refine lv_aload_n Z.1 Z.2.1 md_Acc_hearVoteFor_45 rfl (lv_at hl 0 rfl) ?_
          refine lv_iload_n Z.1 Z.2.1 md_Acc_hearVoteFor_46 rfl (lv_at hl 1 rfl) ?_
          refine lv_aload_n Z.1 Z.2.1 md_Acc_hearVoteFor_47 rfl (lv_at hl 0 rfl) ?_
          refine xb_get (v := .int (M2 (15, 5 * s + a) 7)) Z hw (fb_in15 hn hs ha) (fb_e15 n ad cI cZ cS cA (5 * s + a)) rfl tb_iAcc 7 (by decide) mk_Acc_48 rfl rfl md_Acc_hearVoteFor_48 ?_
          refine xi_re (show M2 (15, 5 * s + a) 7 = nI (S.2 s 3 a 0) from (by have z := (fr_a h3 hs ha).2.2.2.2.2.1; rw [pz_pw_s, pz_u_k (by decide), pz_u_k (by decide)] at z; exact z)) ?_
          refine xw_cV (n := 2) (rest := []) Z hml hl.1 hN hw (k_castVote (S := pz_pw S s (pz_u (pz_u (S.2 s) 0 a 0 r) 4 a 0 r)) l D ad cI cZ cS cA hn hq hf h3 h60 hs ha hr1 hr12 (by omega) (fun b hb2 => by rw [pz_pw_s, pz_u_k (by decide), pz_u_k (by decide)]; exact iV r b hb2) (by rw [pz_pw_s, pz_u_k (by decide), pz_u_k (by decide)]; exact iS)) tb_g mc_Acc_castVote mk_Acc_61 mi_Acc_castVote ms_Acc_castVote mz_Acc ⟨by decide, by decide, by decide +kernel⟩ ⟨Nat.le_of_ble_eq_true rfl, Nat.le_of_ble_eq_true rfl⟩ (fb_in15 hn hs ha) (fb_e15 n ad cI cZ cS cA (5 * s + a) _) rfl rfl rfl rfl (Nat.le_of_ble_eq_true rfl) ⟨Nat.le_refl _, Nat.le_refl _⟩ md_Acc_hearVoteFor_51 (fun M3 H3 locs3 h9 hw => ?_)
          refine W.eq (g2 := F0 m 54 ls []) rfl ?_
          refine xw_vret Z hr hlk hw md_Acc_hearVoteFor_54 ⟨?_, by rw [h9.2, h3m _ (fr_pair (by decide))]⟩
          unfold pz_accept
          rw [if_neg (by decide), if_pos rfl, if_pos ⟨by omega, by omega⟩, if_neg (fun y => y h23), if_pos h42]
          exact h9.1
      · refine lv_aload_n Z.1 Z.2.1 md_Acc_hearVoteFor_26 rfl (lv_at hl 0 rfl) ?_
        refine lv_iload_n Z.1 Z.2.1 md_Acc_hearVoteFor_27 rfl (lv_at hl 1 rfl) ?_
        refine lv_iload_n Z.1 Z.2.1 md_Acc_hearVoteFor_28 rfl (lv_at hl 2 rfl) ?_
        refine xw_cV (n := 2) (rest := []) Z hml hl.1 hN hw (k_castVote (S := pz_pw S s (pz_u (S.2 s) 0 a 0 r)) l D ad cI cZ cS cA hn hq hf h1 h60 hs ha hr1 hr12 hv (fun b hb2 => by rw [pz_pw_s, pz_u_k (by decide)]; exact iV r b hb2) (by rw [pz_pw_s, pz_u_k (by decide)]; exact iS)) tb_g mc_Acc_castVote mk_Acc_61 mi_Acc_castVote ms_Acc_castVote mz_Acc ⟨by decide, by decide, by decide +kernel⟩ ⟨Nat.le_of_ble_eq_true rfl, Nat.le_of_ble_eq_true rfl⟩ (fb_in15 hn hs ha) (fb_e15 n ad cI cZ cS cA (5 * s + a) _) rfl rfl rfl rfl (Nat.le_of_ble_eq_true rfl) ⟨Nat.le_refl _, Nat.le_refl _⟩ md_Acc_hearVoteFor_29 (fun M4 H4 locs4 h9 hw => ?_)
        refine W.eq (g2 := F0 m 32 ls []) rfl ?_
        refine xw_vret Z hr hlk hw md_Acc_hearVoteFor_32 ⟨?_, by rw [h9.2, h1m _ (fr_pair (by decide))]⟩
        unfold pz_accept
        rw [if_neg (by decide), if_pos rfl, if_pos ⟨by omega, by omega⟩, if_pos h23]
        exact h9.1
    · refine xw_vret Z hr hlk hw md_Acc_hearVoteFor_16 ⟨?_, rfl⟩
      unfold pz_accept
      rw [if_neg (by decide), if_pos rfl, if_neg (fun y => by omega)]
      exact h
set_option maxHeartbeats 4000000 in
theorem k_AhearProposal (l : Launch) (D : va_G) {n : Nat} (ad : Nat × Nat → Nat) (cI cZ cS cA : ClassId) {M : fr_M} {q f : Nat} {S : pz_T} {ex : Nat → Nat → Prop} {s a r v : Nat} (hn : n ≤ 5) (hq : q ≤ 5) (hf : f ≤ 5) (h : fr_R n q f S ex M) (h60 : S.1.length ≤ 60) (I : pz_IV n q f (S.2 s)) (hs : s < 3) (ha : a < n) (hv : v < 2 ^ 31) : fb_C l D n ad cI cZ cS cA my_Acc_hearProposal mb_Acc_hearProposal 2 none 4 86 M [.ref (ad (15, 5 * s + a)), .int (nI (v))] (none) (fr_K n q f (pz_accept n q f S s a 1 r v) ex M) := by
  have iA := I.1 a ha
  have iO := I.2.1 a ha
  have iZ := I.2.2.2.2.2.2.1
  have iV : ∀ x b, b < n → S.2 s 5 x b < 2 ^ 31 := fun x b hb => by
    by_cases z : S.2 s 5 x b = 0
    · omega
    · have := ((I.1 b hb).2.2.1 x z).2.2
      omega
  have iS : S.2 s 16 0 0 < 2 ^ 31 := by have := iZ.2.2.2; omega
  obtain ⟨iA1, iA2, -, iA4⟩ := iA
  obtain ⟨iO1, iO2, iO3⟩ := iO
  refine xw_start [.ref (ad (15, 5 * s + a)), .int (nI (v))] (by decide) (Nat.le_of_ble_eq_true rfl) ?_
  intro p e st m below meth cd0 ls Z hml hr hlk hN hl hw
  have hl : lv_has ls 2 [(0, .ref (ad (15, 5 * s + a))), (1, .int (nI (v)))] := hl
  refine lv_aload_n Z.1 Z.2.1 md_Acc_hearProposal_0 rfl (lv_at hl 0 rfl) ?_
  refine xb_get (v := .int (M (15, 5 * s + a) 7)) Z hw (fb_in15 hn hs ha) (fb_e15 n ad cI cZ cS cA (5 * s + a)) rfl tb_iAcc 7 (by decide) mk_Acc_48 rfl rfl md_Acc_hearProposal_1 ?_
  refine xi_re (show M (15, 5 * s + a) 7 = nI (S.2 s 3 a 0) from (fr_a h hs ha).2.2.2.2.2.1) ?_
  refine xi_if_eq (tgt := 8) Z md_Acc_hearProposal_4 (by decide) (by omega) (fun h4 => ?_) (fun h4 => ?_)
  · refine lv_aload_n Z.1 Z.2.1 md_Acc_hearProposal_8 rfl (lv_at hl 0 rfl) ?_
    refine lv_iload_n Z.1 Z.2.1 md_Acc_hearProposal_9 rfl (lv_at hl 1 rfl) ?_
    refine xb_put Z hw (fb_in15 hn hs ha) (fb_e15 n ad cI cZ cS cA (5 * s + a)) rfl tb_iAcc tb_tAcc tb_yAcc tb_nAcc 7 (by decide) mk_Acc_48 rfl rfl rfl (fb_s15_7 ad (5 * s + a) _) md_Acc_hearProposal_10 (fun M1 H1 locs1 e1 hw => ?_)
    have h1c : M1 (15, 5 * s + a) = upd (M (15, 5 * s + a)) 7 (nI v) := by rw [e1, xw_mw_s]
    have h1m : ∀ k, k ≠ (15, 5 * s + a) → M1 k = M k := fun k hk => by rw [e1, xw_mw_n hk]
    have h1 : fr_R n q f (pz_pw S s (pz_u (S.2 s) 3 a 0 v)) ex M1 := by
      have k := fr_a h hs ha
      refine fr_acc hn h hs ha h1m (fun k x y h5 => by simp only [pz_u]; repeat rw [if_neg (fun y => by omega)]) (fun k b hk4 hb => by simp only [pz_u]; repeat rw [if_neg (fun y => by omega)]) ?_
      rw [h1c]
      refine ⟨?_, ?_, ?_, ?_, ?_, ?_, ?_⟩ <;> (simp only [upd, pz_u]; try simp) <;> first | exact k.1 | exact k.2.1 | exact k.2.2.1 | exact k.2.2.2.1 | exact k.2.2.2.2.1 | exact k.2.2.2.2.2.1 | exact k.2.2.2.2.2.2
    refine lv_aload_n Z.1 Z.2.1 md_Acc_hearProposal_13 rfl (lv_at hl 0 rfl) ?_
    refine xw_cV (n := 0) (rest := []) Z hml hl.1 hN hw (k_isOpenNow (S := pz_pw S s (pz_u (S.2 s) 3 a 0 v)) l D ad cI cZ cS cA hn h1 hs ha (by rw [pz_pw_s, pz_u_k (by decide)]; omega) (by rw [pz_pw_s, pz_u_k (by decide)]; omega)) tb_g mc_Acc_isOpenNow mk_Acc_51 mi_Acc_isOpenNow ms_Acc_isOpenNow mz_Acc ⟨by decide, by decide, by decide +kernel⟩ ⟨Nat.le_of_ble_eq_true rfl, Nat.le_of_ble_eq_true rfl⟩ (fb_in15 hn hs ha) (fb_e15 n ad cI cZ cS cA (5 * s + a) _) rfl rfl rfl rfl (Nat.le_of_ble_eq_true rfl) ⟨Nat.le_refl _, Nat.le_refl _⟩ md_Acc_hearProposal_14 (fun M2 H2 locs2 e2 hw => ?_)
    have ey2 := e2.symm
    subst ey2
    refine W.eq (g2 := F0 m 17 ls [.int (nI (if (pz_pw S s (pz_u (S.2 s) 3 a 0 v)).2 s 4 a 0 ≠ 0 ∧ (pz_pw S s (pz_u (S.2 s) 3 a 0 v)).2 s 4 a 0 = (pz_pw S s (pz_u (S.2 s) 3 a 0 v)).2 s 0 a 0 then 1 else 0))]) rfl ?_
    refine xi_re (show _ = nI ((if S.2 s 4 a 0 ≠ 0 ∧ S.2 s 4 a 0 = S.2 s 0 a 0 then 1 else 0)) from (by rw [pz_pw_s, pz_u_k (by decide), pz_u_k (by decide)])) ?_
    have lO : (if S.2 s 4 a 0 ≠ 0 ∧ S.2 s 4 a 0 = S.2 s 0 a 0 then 1 else 0) < 2 := by split <;> omega
    refine xi_if_eq (tgt := 40) Z md_Acc_hearProposal_17 (by decide) (by omega) (fun h17 => ?_) (fun h17 => ?_)
    · try have h17n : ¬ (S.2 s 4 a 0 ≠ 0 ∧ S.2 s 4 a 0 = S.2 s 0 a 0) := (fun y => by rw [if_pos y] at h17; exact absurd h17 (by decide))
      refine xw_vret Z hr hlk hw md_Acc_hearProposal_40 ⟨?_, by rw [h1m _ (fr_pair (by decide))]⟩
      unfold pz_accept
      rw [if_neg (by decide), if_neg (by decide), if_pos rfl, if_pos h4, if_neg (fun y => by omega)]
      exact h1
    · have h17o : S.2 s 4 a 0 ≠ 0 ∧ S.2 s 4 a 0 = S.2 s 0 a 0 := by
        by_cases z : S.2 s 4 a 0 ≠ 0 ∧ S.2 s 4 a 0 = S.2 s 0 a 0
        · exact z
        · rw [if_neg z] at h17; exact absurd rfl h17
      refine lv_aload_n Z.1 Z.2.1 md_Acc_hearProposal_20 rfl (lv_at hl 0 rfl) ?_
      refine xb_get (v := .int (M1 (15, 5 * s + a) 6)) Z hw (fb_in15 hn hs ha) (fb_e15 n ad cI cZ cS cA (5 * s + a)) rfl tb_iAcc 6 (by decide) mk_Acc_55 rfl rfl md_Acc_hearProposal_21 ?_
      refine xi_re (show M1 (15, 5 * s + a) 6 = nI (S.2 s 2 a 0) from (by have z := (fr_a h1 hs ha).2.2.2.2.1; rw [pz_pw_s, pz_u_k (by decide)] at z; exact z)) ?_
      refine lv_aload_n Z.1 Z.2.1 md_Acc_hearProposal_24 rfl (lv_at hl 0 rfl) ?_
      refine xb_get (v := .int (M1 (15, 5 * s + a) 4)) Z hw (fb_in15 hn hs ha) (fb_e15 n ad cI cZ cS cA (5 * s + a)) rfl tb_iAcc 4 (by decide) mk_Acc_58 rfl rfl md_Acc_hearProposal_25 ?_
      refine xi_re (show M1 (15, 5 * s + a) 4 = nI (S.2 s 0 a 0) from (by have z := (fr_a h1 hs ha).2.2.1; rw [pz_pw_s, pz_u_k (by decide)] at z; exact z)) ?_
      refine xi_icmp_eq (tgt := 40) Z md_Acc_hearProposal_28 (by decide) (by omega) (by omega) (fun h28 => ?_) (fun h28 => ?_)
      · try have h17n : ¬ (S.2 s 4 a 0 ≠ 0 ∧ S.2 s 4 a 0 = S.2 s 0 a 0) := (fun y => by rw [if_pos y] at h17; exact absurd h17 (by decide))
        refine xw_vret Z hr hlk hw md_Acc_hearProposal_40 ⟨?_, by rw [h1m _ (fr_pair (by decide))]⟩
        unfold pz_accept
        rw [if_neg (by decide), if_neg (by decide), if_pos rfl, if_pos h4, if_neg (fun y => by omega)]
        exact h1
      · refine lv_aload_n Z.1 Z.2.1 md_Acc_hearProposal_31 rfl (lv_at hl 0 rfl) ?_
        refine lv_aload_n Z.1 Z.2.1 md_Acc_hearProposal_32 rfl (lv_at hl 0 rfl) ?_
        refine xb_get (v := .int (M1 (15, 5 * s + a) 4)) Z hw (fb_in15 hn hs ha) (fb_e15 n ad cI cZ cS cA (5 * s + a)) rfl tb_iAcc 4 (by decide) mk_Acc_58 rfl rfl md_Acc_hearProposal_33 ?_
        refine xi_re (show M1 (15, 5 * s + a) 4 = nI (S.2 s 0 a 0) from (by have z := (fr_a h1 hs ha).2.2.1; rw [pz_pw_s, pz_u_k (by decide)] at z; exact z)) ?_
        refine lv_iload_n Z.1 Z.2.1 md_Acc_hearProposal_36 rfl (lv_at hl 1 rfl) ?_
        refine xw_cV (n := 2) (rest := []) Z hml hl.1 hN hw (k_castVote (S := pz_pw S s (pz_u (S.2 s) 3 a 0 v)) (r := S.2 s 0 a 0) l D ad cI cZ cS cA hn hq hf h1 h60 hs ha (by omega) (by omega) hv (fun b hb2 => by rw [pz_pw_s, pz_u_k (by decide)]; exact iV _ b hb2) (by rw [pz_pw_s, pz_u_k (by decide)]; exact iS)) tb_g mc_Acc_castVote mk_Acc_61 mi_Acc_castVote ms_Acc_castVote mz_Acc ⟨by decide, by decide, by decide +kernel⟩ ⟨Nat.le_of_ble_eq_true rfl, Nat.le_of_ble_eq_true rfl⟩ (fb_in15 hn hs ha) (fb_e15 n ad cI cZ cS cA (5 * s + a) _) rfl rfl rfl rfl (Nat.le_of_ble_eq_true rfl) ⟨Nat.le_refl _, Nat.le_refl _⟩ md_Acc_hearProposal_37 (fun M3 H3 locs3 h9 hw => ?_)
        refine W.eq (g2 := F0 m 40 ls []) rfl ?_
        refine xw_vret Z hr hlk hw md_Acc_hearProposal_40 ⟨?_, by rw [h9.2, h1m _ (fr_pair (by decide))]⟩
        unfold pz_accept
        rw [if_neg (by decide), if_neg (by decide), if_pos rfl, if_pos h4, if_pos ⟨by omega, by omega, by omega⟩]
        exact h9.1
  · refine xw_vret Z hr hlk hw md_Acc_hearProposal_7 ⟨?_, rfl⟩
    unfold pz_accept
    rw [if_neg (by decide), if_neg (by decide), if_pos rfl, if_neg h4]
    exact h
set_option maxHeartbeats 4000000 in
theorem k_Ahear1 (l : Launch) (D : va_G) {n : Nat} (ad : Nat × Nat → Nat) (cI cZ cS cA : ClassId) {M : fr_M} {q f : Nat} {S : pz_T} {ex : Nat → Nat → Prop} {s a : Nat} {g : pz_M} (hn : n ≤ 5) (hq : q ≤ 5) (hf : f ≤ 5) (h : fr_R n q f S ex M) (h60 : S.1.length ≤ 60) (I : pz_IV n q f (S.2 s)) (hs : s < 3) (ha : a < n) (hg : fr_row g (M (6, 0))) (hk : g 0 = 1) (hv : g 5 < 2 ^ 31) : fb_C l D n ad cI cZ cS cA my_Acc_hear mb_Acc_hear 2 none 5 107 M [.ref (ad (15, 5 * s + a)), .ref (ad (6, 0))] (none) (fr_K n q f (pz_accept n q f S s a (g 0) (g 2) (g 5)) ex M) := by
  refine xw_start [.ref (ad (15, 5 * s + a)), .ref (ad (6, 0))] (by decide) (Nat.le_of_ble_eq_true rfl) ?_
  intro p e st m below meth cd0 ls Z hml hr hlk hN hl hw
  have hl : lv_has ls 2 [(0, .ref (ad (15, 5 * s + a))), (1, .ref (ad (6, 0)))] := hl
  refine lv_aload_n Z.1 Z.2.1 md_Acc_hear_0 rfl (lv_at hl 1 rfl) ?_
  refine xb_get (v := .int (M (6, 0) 0)) Z hw (fb_in6 n) (fb_e6 n ad cI cZ cS cA) rfl tb_iMsg 0 (by decide) mk_Acc_26 rfl rfl md_Acc_hear_1 ?_
  refine xi_re (show M (6, 0) 0 = nI (1) from (by rw [hg.1, hk])) ?_
  refine lv_tableIn (tgt := 36) Z.1 Z.2.1 md_Acc_hear_4 (by decide) (by decide) rfl (by decide) ?_
  refine lv_aload_n Z.1 Z.2.1 md_Acc_hear_36 rfl (lv_at hl 0 rfl) ?_
  refine lv_aload_n Z.1 Z.2.1 md_Acc_hear_37 rfl (lv_at hl 1 rfl) ?_
  refine xb_get (v := .int (M (6, 0) 5)) Z hw (fb_in6 n) (fb_e6 n ad cI cZ cS cA) rfl tb_iMsg 5 (by decide) mk_Acc_31 rfl rfl md_Acc_hear_38 ?_
  refine xi_re (show M (6, 0) 5 = nI (g 5) from hg.2.2.2.2.2.1) ?_
  refine xw_cV (n := 1) (rest := []) Z hml hl.1 hN hw (k_AhearProposal (r := g 2) (v := g 5) l D ad cI cZ cS cA hn hq hf h h60 I hs ha hv) tb_g mc_Acc_hearProposal mk_Acc_34 mi_Acc_hearProposal ms_Acc_hearProposal mz_Acc ⟨by decide, by decide, by decide +kernel⟩ ⟨Nat.le_of_ble_eq_true rfl, Nat.le_of_ble_eq_true rfl⟩ (fb_in15 hn hs ha) (fb_e15 n ad cI cZ cS cA (5 * s + a) _) rfl rfl rfl rfl (Nat.le_of_ble_eq_true rfl) ⟨Nat.le_refl _, Nat.le_refl _⟩ md_Acc_hear_41 (fun M1 H1 locs1 h9 hw => ?_)
  refine W.eq (g2 := F0 m 44 ls []) rfl ?_
  refine lv_goto (tgt := 73) Z.1 Z.2.1 md_Acc_hear_44 (by decide) ?_
  exact xw_vret Z hr hlk hw md_Acc_hear_73 (by rw [hk]; exact h9)
set_option maxHeartbeats 4000000 in
theorem k_Ahear2 (l : Launch) (D : va_G) {n : Nat} (ad : Nat × Nat → Nat) (cI cZ cS cA : ClassId) {M : fr_M} {q f : Nat} {S : pz_T} {ex : Nat → Nat → Prop} {s a : Nat} {g : pz_M} (hn : n ≤ 5) (hq : q ≤ 5) (hf : f ≤ 5) (h : fr_R n q f S ex M) (h60 : S.1.length ≤ 60) (I : pz_IV n q f (S.2 s)) (hs : s < 3) (ha : a < n) (hg : fr_row g (M (6, 0))) (hk : g 0 = 2) (hr1 : 1 ≤ g 2) (hr12 : g 2 ≤ 12) : fb_C l D n ad cI cZ cS cA my_Acc_hear mb_Acc_hear 2 none 2 49 M [.ref (ad (15, 5 * s + a)), .ref (ad (6, 0))] (none) (fr_K n q f (pz_accept n q f S s a (g 0) (g 2) (g 5)) ex M) := by
  refine xw_start [.ref (ad (15, 5 * s + a)), .ref (ad (6, 0))] (by decide) (Nat.le_of_ble_eq_true rfl) ?_
  intro p e st m below meth cd0 ls Z hml hr hlk hN hl hw
  have hl : lv_has ls 2 [(0, .ref (ad (15, 5 * s + a))), (1, .ref (ad (6, 0)))] := hl
  refine lv_aload_n Z.1 Z.2.1 md_Acc_hear_0 rfl (lv_at hl 1 rfl) ?_
  refine xb_get (v := .int (M (6, 0) 0)) Z hw (fb_in6 n) (fb_e6 n ad cI cZ cS cA) rfl tb_iMsg 0 (by decide) mk_Acc_26 rfl rfl md_Acc_hear_1 ?_
  refine xi_re (show M (6, 0) 0 = nI (2) from (by rw [hg.1, hk])) ?_
  refine lv_tableIn (tgt := 47) Z.1 Z.2.1 md_Acc_hear_4 (by decide) (by decide) rfl (by decide) ?_
  refine lv_aload_n Z.1 Z.2.1 md_Acc_hear_47 rfl (lv_at hl 0 rfl) ?_
  refine lv_aload_n Z.1 Z.2.1 md_Acc_hear_48 rfl (lv_at hl 1 rfl) ?_
  refine xb_get (v := .int (M (6, 0) 2)) Z hw (fb_in6 n) (fb_e6 n ad cI cZ cS cA) rfl tb_iMsg 2 (by decide) mk_Acc_38 rfl rfl md_Acc_hear_49 ?_
  refine xi_re (show M (6, 0) 2 = nI (g 2) from hg.2.2.1) ?_
  refine xw_cV (n := 1) (rest := []) Z hml hl.1 hN hw (k_hearAsk (r := g 2) (v := g 5) l D ad cI cZ cS cA hn hq hf h h60 I hs ha hr1 hr12) tb_g mc_Acc_hearAsk mk_Acc_41 mi_Acc_hearAsk ms_Acc_hearAsk mz_Acc ⟨by decide, by decide, by decide +kernel⟩ ⟨Nat.le_of_ble_eq_true rfl, Nat.le_of_ble_eq_true rfl⟩ (fb_in15 hn hs ha) (fb_e15 n ad cI cZ cS cA (5 * s + a) _) rfl rfl rfl rfl (Nat.le_of_ble_eq_true rfl) ⟨Nat.le_refl _, Nat.le_refl _⟩ md_Acc_hear_52 (fun M1 H1 locs1 h9 hw => ?_)
  refine W.eq (g2 := F0 m 55 ls []) rfl ?_
  refine lv_goto (tgt := 73) Z.1 Z.2.1 md_Acc_hear_55 (by decide) ?_
  exact xw_vret Z hr hlk hw md_Acc_hear_73 (by rw [hk]; exact h9)
set_option maxHeartbeats 4000000 in
theorem k_Ahear4 (l : Launch) (D : va_G) {n : Nat} (ad : Nat × Nat → Nat) (cI cZ cS cA : ClassId) {M : fr_M} {q f : Nat} {S : pz_T} {ex : Nat → Nat → Prop} {s a : Nat} {g : pz_M} (hn : n ≤ 5) (hq : q ≤ 5) (hf : f ≤ 5) (h : fr_R n q f S ex M) (h60 : S.1.length ≤ 60) (I : pz_IV n q f (S.2 s)) (hs : s < 3) (ha : a < n) (hg : fr_row g (M (6, 0))) (hk : g 0 = 4) (hr1 : 1 ≤ g 2) (hr12 : g 2 ≤ 12) (hv : g 5 < 2 ^ 31) : fb_C l D n ad cI cZ cS cA my_Acc_hear mb_Acc_hear 2 none 5 108 M [.ref (ad (15, 5 * s + a)), .ref (ad (6, 0))] (none) (fr_K n q f (pz_accept n q f S s a (g 0) (g 2) (g 5)) ex M) := by
  refine xw_start [.ref (ad (15, 5 * s + a)), .ref (ad (6, 0))] (by decide) (Nat.le_of_ble_eq_true rfl) ?_
  intro p e st m below meth cd0 ls Z hml hr hlk hN hl hw
  have hl : lv_has ls 2 [(0, .ref (ad (15, 5 * s + a))), (1, .ref (ad (6, 0)))] := hl
  refine lv_aload_n Z.1 Z.2.1 md_Acc_hear_0 rfl (lv_at hl 1 rfl) ?_
  refine xb_get (v := .int (M (6, 0) 0)) Z hw (fb_in6 n) (fb_e6 n ad cI cZ cS cA) rfl tb_iMsg 0 (by decide) mk_Acc_26 rfl rfl md_Acc_hear_1 ?_
  refine xi_re (show M (6, 0) 0 = nI (4) from (by rw [hg.1, hk])) ?_
  refine lv_tableIn (tgt := 58) Z.1 Z.2.1 md_Acc_hear_4 (by decide) (by decide) rfl (by decide) ?_
  refine lv_aload_n Z.1 Z.2.1 md_Acc_hear_58 rfl (lv_at hl 0 rfl) ?_
  refine lv_aload_n Z.1 Z.2.1 md_Acc_hear_59 rfl (lv_at hl 1 rfl) ?_
  refine xb_get (v := .int (M (6, 0) 2)) Z hw (fb_in6 n) (fb_e6 n ad cI cZ cS cA) rfl tb_iMsg 2 (by decide) mk_Acc_38 rfl rfl md_Acc_hear_60 ?_
  refine xi_re (show M (6, 0) 2 = nI (g 2) from hg.2.2.1) ?_
  refine lv_aload_n Z.1 Z.2.1 md_Acc_hear_63 rfl (lv_at hl 1 rfl) ?_
  refine xb_get (v := .int (M (6, 0) 5)) Z hw (fb_in6 n) (fb_e6 n ad cI cZ cS cA) rfl tb_iMsg 5 (by decide) mk_Acc_31 rfl rfl md_Acc_hear_64 ?_
  refine xi_re (show M (6, 0) 5 = nI (g 5) from hg.2.2.2.2.2.1) ?_
  refine xw_cV (n := 2) (rest := []) Z hml hl.1 hN hw (k_hearVoteFor (r := g 2) (v := g 5) l D ad cI cZ cS cA hn hq hf h h60 I hs ha hr1 hr12 hv) tb_g mc_Acc_hearVoteFor mk_Acc_44 mi_Acc_hearVoteFor ms_Acc_hearVoteFor mz_Acc ⟨by decide, by decide, by decide +kernel⟩ ⟨Nat.le_of_ble_eq_true rfl, Nat.le_of_ble_eq_true rfl⟩ (fb_in15 hn hs ha) (fb_e15 n ad cI cZ cS cA (5 * s + a) _) rfl rfl rfl rfl (Nat.le_of_ble_eq_true rfl) ⟨Nat.le_refl _, Nat.le_refl _⟩ md_Acc_hear_67 (fun M1 H1 locs1 h9 hw => ?_)
  refine W.eq (g2 := F0 m 70 ls []) rfl ?_
  refine lv_goto (tgt := 73) Z.1 Z.2.1 md_Acc_hear_70 (by decide) ?_
  exact xw_vret Z hr hlk hw md_Acc_hear_73 (by rw [hk]; exact h9)
end
section
/-! What a coordinator's own methods compute, and that it is what the state's steps say. -/
def pz_cl (p : pz_P) (c : Nat) : pz_P := fun k x y => if k = 11 ∧ x = c then 0 else p k x y
def pz_sv (n : Nat) (S : pz_T) (s c v : Nat) : pz_T := pz_sa 4 s (S.2 s 8 c 0) v n (pz_pw S s (pz_cl (pz_u (S.2 s) 9 c 0 3) c))
def pz_mc (n f : Nat) (p : pz_P) (c r : Nat) : Nat → Nat → Nat
  | 0, _ => 0
  | d + 1, i => if p 11 c i ≠ 0 ∧ p 13 c i = r ∧ pz_te n p c - (n - f) ≤ pz_tf n p c r (p 12 c i) then p 12 c i else pz_mc n f p c r d (i + 1)
def pz_mo (n : Nat) (p : pz_P) (c r : Nat) : Nat := pz_mx n (fun a => if p 11 c a ≠ 0 ∧ p 13 c a = r then pz_tf n p c r (p 12 c a) else 0)
def pz_pkC (n f : Nat) (p : pz_P) (c : Nat) : Nat :=
  if pz_kk n p c = 0 then 0 else if pz_kk n p c % 2 = 1 ∧ pz_mc n f p c (pz_kk n p c) n 0 ≠ 0 then pz_mc n f p c (pz_kk n p c) n 0 else pz_ls p c (pz_kk n p c) n
def pz_gw (n : Nat) (S : pz_T) (s c x : Nat) : pz_T :=
  if x ≠ 0 then pz_sv n S s c x else if S.2 s 8 c 0 % 2 = 1 then pz_sv n S s c 0 else if S.2 s 10 c 0 ≠ 0 then pz_sv n S s c (S.2 s 10 c 0) else pz_pw S s (pz_u (S.2 s) 9 c 0 2)
theorem pz_mx_eq {g h : Nat → Nat} : ∀ n : Nat, (∀ a, a < n → g a = h a) → pz_mx n g = pz_mx n h
  | 0, _ => rfl
  | k + 1, H => by simp only [pz_mx]; rw [pz_mx_eq k (fun a ha => H a (by omega)), H k (by omega)]
theorem pz_mo_be {n : Nat} {p : pz_P} {c r : Nat} (h : ∀ a, a < n → p 11 c a ≠ 0 → p 13 c a = r) : pz_mo n p c r = pz_be n p c r := by
  refine pz_mx_eq n (fun a ha => ?_)
  by_cases z : p 11 c a ≠ 0
  · rw [if_pos ⟨z, h a ha z⟩, if_pos z]
  · rw [if_neg (fun y => z y.1), if_neg z]
theorem pz_mc_ex {n f : Nat} {p : pz_P} {c r : Nat} : ∀ d i : Nat, pz_mc n f p c r d i = 0 ∨ ∃ b, i ≤ b ∧ b < i + d ∧ p 11 c b ≠ 0 ∧ p 13 c b = r ∧ pz_te n p c - (n - f) ≤ pz_tf n p c r (p 12 c b) ∧ p 12 c b = pz_mc n f p c r d i
  | 0, _ => Or.inl rfl
  | d + 1, i => by
    simp only [pz_mc]
    by_cases e : p 11 c i ≠ 0 ∧ p 13 c i = r ∧ pz_te n p c - (n - f) ≤ pz_tf n p c r (p 12 c i)
    · rw [if_pos e]; exact Or.inr ⟨i, Nat.le_refl _, by omega, e.1, e.2.1, e.2.2, rfl⟩
    · rw [if_neg e]
      rcases pz_mc_ex (n := n) (f := f) (p := p) (c := c) (r := r) d (i + 1) with h | ⟨b, h1, h2, h3⟩
      · exact Or.inl h
      · exact Or.inr ⟨b, by omega, by omega, h3⟩
theorem pz_mc_no {n f : Nat} {p : pz_P} {c r : Nat} : ∀ d i : Nat, (∀ b, i ≤ b → b < i + d → p 11 c b ≠ 0 → p 13 c b = r → p 12 c b ≠ 0) → pz_mc n f p c r d i = 0 → ∀ b, i ≤ b → b < i + d → p 11 c b ≠ 0 → p 13 c b = r → ¬ pz_te n p c - (n - f) ≤ pz_tf n p c r (p 12 c b)
  | 0, i, _, _, b, h1, h2, _, _ => by omega
  | d + 1, i, H, hz, b, h1, h2, h3, h4 => by
    simp only [pz_mc] at hz
    by_cases e : p 11 c i ≠ 0 ∧ p 13 c i = r ∧ pz_te n p c - (n - f) ≤ pz_tf n p c r (p 12 c i)
    · rw [if_pos e] at hz
      exact absurd hz (H i (Nat.le_refl _) (by omega) e.1 e.2.1)
    · rw [if_neg e] at hz
      by_cases eb : b = i
      · subst eb
        intro z
        exact e ⟨h3, h4, z⟩
      · exact pz_mc_no d (i + 1) (fun b hb hb2 => H b (by omega) (by omega)) hz b (by omega) (by omega) h3 h4
/-- the program's pick is the state's -/
theorem pz_pkC_eq {n q f : Nat} {p p1 : pz_P} {c r : Nat} (Q : pz_Q n q f) (I : pz_IV n q f p) (h11 : ∀ a, p1 11 c a ≤ 1) (hT : pz_te n p1 c = q) (hF : ∀ a, a < n → p1 11 c a ≠ 0 → pz_PF p r a (p1 12 c a) (p1 13 c a)) : pz_pkC n f p1 c = pz_pk n f p1 c := by
  unfold pz_pkC pz_pk
  by_cases k0 : pz_kk n p1 c = 0
  · rw [if_pos k0, if_pos k0]
  · rw [if_neg k0, if_neg k0]
    obtain ⟨q1, q2, q3, q4, q5, q6, q7, q8⟩ := Q
    have nz : ∀ b, b < n → p1 11 c b ≠ 0 → p1 13 c b = pz_kk n p1 c → p1 12 c b ≠ 0 := fun b hb t e => by
      rcases (hF b hb t).2.2.2 with ⟨z, -⟩ | ⟨-, -, z⟩
      · omega
      · exact z
    by_cases odd : pz_kk n p1 c % 2 = 1
    · by_cases m0 : pz_mc n f p1 c (pz_kk n p1 c) n 0 = 0
      · rw [if_neg (fun y => y.2 m0)]
        have h0 : pz_hl n f p1 c (pz_kk n p1 c) n = 0 := by
          rcases pz_hl_ex n f p1 c (pz_kk n p1 c) n with z | ⟨b, b1, b2, b3, b4, b5⟩
          · exact z
          · exfalso
            have := pz_mc_no n 0 (fun b _ hb t e => nz b (by omega) t e) m0 b (by omega) (by omega) b2 b3
            omega
        rw [if_neg (fun y => y h0)]
      · rw [if_pos ⟨odd, m0⟩]
        rcases pz_mc_ex (n := n) (f := f) (p := p1) (c := c) (r := pz_kk n p1 c) n 0 with z | ⟨b, -, b1, b2, b3, b4, b5⟩
        · exact absurd z m0
        · have hne : pz_hl n f p1 c (pz_kk n p1 c) n ≠ 0 := fun z => pz_hl_no n nz z b (by omega) b2 b3 (Or.inr (by omega))
          rw [if_pos hne]
          rcases pz_hl_ex n f p1 c (pz_kk n p1 c) n with z | ⟨d, d1, d2, d3, d4, d5⟩
          · exact absurd z hne
          · rw [← b5, ← d5]
            by_cases e : p1 12 c b = p1 12 c d
            · exact e
            · exfalso
              have two : pz_tf n p1 c (pz_kk n p1 c) (p1 12 c b) + pz_tf n p1 c (pz_kk n p1 c) (p1 12 c d) ≤ pz_te n p1 c := by
                unfold pz_tf pz_te
                refine pz_count2 (fun a ha => ?_)
                have h1 := h11 a
                by_cases z : p1 11 c a ≠ 0
                · by_cases z2 : p1 12 c a = p1 12 c b
                  · rw [if_neg (c := p1 11 c a ≠ 0 ∧ p1 13 c a = pz_kk n p1 c ∧ p1 12 c a = p1 12 c d) (fun y => e (z2.symm.trans y.2.2))]
                    split <;> omega
                  · rw [if_neg (fun y => z2 y.2.2)]
                    split <;> omega
                · rw [if_neg (fun y => z y.1), if_neg (fun y => z y.1)]; exact Nat.zero_le _
              rw [hT] at two b4 d4
              omega
    · rw [if_neg (fun y => odd y.1)]
      obtain ⟨b, hb, eb⟩ := pz_mx_ex n k0
      have tb : p1 11 c b ≠ 0 := fun z => k0 (by rw [if_neg (fun y => y z)] at eb; exact eb.symm)
      rw [if_pos tb] at eb
      have eb : p1 13 c b = pz_kk n p1 c := eb
      have val : ∀ d, d < n → p1 11 c d ≠ 0 → p1 13 c d = pz_kk n p1 c → p 17 (pz_kk n p1 c) 0 = p1 12 c d + 1 := fun d hd t e => by
        rcases (hF d hd t).2.2.2 with ⟨z, -⟩ | ⟨-, z1, z2⟩
        · omega
        · rw [e] at z1
          have g := I.2.2.2.1 (pz_kk n p1 c) d hd (by rw [z1]; exact z2)
          rw [z1] at g
          rcases g with g | g
          · have := (I.2.2.1 (pz_kk n p1 c) (by omega)).2.2.2.2.2 g
            omega
          · exact g
      have hne : pz_hl n f p1 c (pz_kk n p1 c) n ≠ 0 := fun z => pz_hl_no n nz z b hb tb eb (Or.inl (by omega))
      rw [if_pos hne]
      rcases pz_hl_ex n f p1 c (pz_kk n p1 c) n with z | ⟨d, d1, d2, d3, d4, d5⟩
      · exact absurd z hne
      · rcases pz_ls_ex p1 c (pz_kk n p1 c) n with z | ⟨a, a1, a2, a3, a4⟩
        · exact absurd z (pz_ls_ne n nz ⟨b, hb, tb, eb⟩)
        · have v1 := val d d1 d2 d3
          have v2 := val a a1 a2 a3
          omega
/-- the same but for what was asked for -/
def pz_E (S S' : pz_T) : Prop := S'.1 = S.1 ∧ ∀ s k x y, k ≠ 17 → S'.2 s k x y = S.2 s k x y
theorem pz_E_sd {S S' : pz_T} (h : pz_E S S') (g : pz_M) : pz_E (pz_sd S g) (pz_sd S' g) := by
  obtain ⟨h1, h2⟩ := h
  unfold pz_sd
  rw [h1]
  split
  · exact ⟨rfl, h2⟩
  · refine ⟨rfl, fun s k x y hk => ?_⟩
    show pz_w S'.2 3 _ s k x y = pz_w S.2 3 _ s k x y
    unfold pz_w
    split
    · unfold pz_u
      rw [h2 3 15 0 0 (by omega), h2 3 k x y hk]
    · exact h2 s k x y hk
theorem pz_E_sa {S S' : pz_T} (h : pz_E S S') (kd s r v : Nat) : ∀ i, pz_E (pz_sa kd s r v i S) (pz_sa kd s r v i S')
  | 0 => h
  | i + 1 => pz_E_sd (pz_E_sa h kd s r v i) _
theorem pz_E_pw {S : pz_T} {s : Nat} {p p' : pz_P} (h : ∀ k x y, k ≠ 17 → p' k x y = p k x y) : pz_E (pz_pw S s p) (pz_pw S s p') := by
  refine ⟨rfl, fun z k x y hk => ?_⟩
  show pz_w S.2 s p' z k x y = pz_w S.2 s p z k x y
  unfold pz_w
  split
  · exact h k x y hk
  · rfl
theorem fr_E {n q f : Nat} {S S' : pz_T} {ex : Nat → Nat → Prop} {M : fr_M} (h : fr_R n q f S ex M) (e : pz_E S S') : fr_R n q f S' ex M := fr_eq h e.1 e.2 (fun _ _ z => z)
/-- to vote: the program's way and the state's -/
theorem pz_sv_vf {n s c v : Nat} {S : pz_T} {p2 : pz_P} (h2 : ∀ k x y, k ≠ 17 → (k = 9 ∧ x = c ∧ y = 0 ∨ p2 k x y = pz_cl (S.2 s) c k x y)) (h8 : p2 8 c 0 = S.2 s 8 c 0) : pz_E (pz_sv n S s c v) (pz_vf n (pz_pw S s p2) s c v) := by
  rw [pz_vf_eq]
  unfold pz_sv
  rw [h8]
  refine pz_E_sa (pz_E_pw (fun k x y hk => ?_)) _ _ _ _ _
  rw [pz_u_k hk]
  by_cases z : k = 9 ∧ x = c ∧ y = 0
  · obtain ⟨rfl, rfl, rfl⟩ := z
    rw [pz_u_s]
    unfold pz_cl
    rw [if_neg (by omega), pz_u_s]
  · rcases h2 k x y hk with y1 | y1
    · exact absurd y1 z
    · have e1 : pz_u p2 9 c 0 3 k x y = p2 k x y := by unfold pz_u; rw [if_neg z]
      rw [e1, y1]
      unfold pz_cl
      by_cases w : k = 11 ∧ x = c
      · rw [if_pos w, if_pos w]
      · rw [if_neg w, if_neg w]
        unfold pz_u; rw [if_neg z]
theorem fr_ex {n q f : Nat} {S : pz_T} {ex ex' : Nat → Nat → Prop} {M : fr_M} (h : fr_R n q f S ex M) (hex : ∀ s c, s < 3 → c < 2 → ¬ ex' s c → ¬ ex s c) : fr_R n q f S ex' M := by
  obtain ⟨a1, a2, a4, a5, a9, a10, a13, a14, a15⟩ := h
  exact ⟨a1, a2, a4, a5, a9, fun s c hs hc hx => a10 s c hs hc (hex s c hs hc hx), a13, a14, a15⟩
theorem fr_sa_len {kd s r v : Nat} {S : pz_T} (h : S.1.length ≤ 60) : ∀ i, (pz_sa kd s r v i S).1.length ≤ 60
  | 0 => h
  | i + 1 => fr_sd_len (fr_sa_len h i)
theorem pz_te_tll {n : Nat} {p : pz_P} {c a v k : Nat} (h : p 11 c a = 0) : ∀ m, a < m → pz_sm m (fun b => pz_tll p c a v k 11 c b) = pz_sm m (fun b => p 11 c b) + 1
  | 0, h => absurd h (Nat.not_lt_zero a)
  | m + 1, hm => by
    simp only [pz_sm]
    by_cases e : m = a
    · subst e
      rw [pz_tll_11, h, pz_sm_eq m (fun b hb => pz_tll_y (show b ≠ m by omega))]
    · rw [pz_te_tll (n := n) h m (by omega), pz_tll_y e]; omega
theorem pz_te_le {n : Nat} {p : pz_P} {c : Nat} (h : ∀ a, a < n → p 11 c a ≤ 1) : pz_te n p c ≤ n := by
  have := pz_sm_le (g := fun a => p 11 c a) (h := fun _ => 1) n h
  rw [pz_sm_const] at this
  unfold pz_te
  omega
theorem pz_tf_le {n : Nat} {p : pz_P} {c r v : Nat} : pz_tf n p c r v ≤ n := by
  have := pz_sm_le (g := fun a => if p 11 c a ≠ 0 ∧ p 13 c a = r ∧ p 12 c a = v then 1 else 0) (h := fun _ => 1) n (fun a _ => by split <;> omega)
  rw [pz_sm_const] at this
  unfold pz_tf
  omega
theorem pz_mx_le {g : Nat → Nat} {b : Nat} : ∀ n : Nat, (∀ a, a < n → g a ≤ b) → pz_mx n g ≤ b
  | 0, _ => Nat.zero_le _
  | k + 1, H => by
    simp only [pz_mx]
    have h1 := pz_mx_le k (fun a ha => H a (by omega))
    have h2 := H k (by omega)
    split <;> assumption
theorem xi_max {a b : Nat} (ha : a < 2 ^ 31) (hb : b < 2 ^ 31) : (if nI a < nI b then nI b else nI a) = nI (if a < b then b else a) := by
  by_cases h : a < b
  · rw [if_pos h, if_pos ((nI_ltI ha hb).mpr h)]
  · rw [if_neg h, if_neg (fun y => h ((nI_ltI ha hb).mp y))]
end
section
/-! The coordinators: what they look up. -/
theorem md_Cor_votedIn_0 : decode mb_Cor_votedIn 0 = .ok (.aload_n 0, 1) := by decide +kernel
theorem md_Cor_votedIn_1 : decode mb_Cor_votedIn 1 = .ok (.getfield 28, 3) := by decide +kernel
theorem md_Cor_votedIn_4 : decode mb_Cor_votedIn 4 = .ok (.iload_n 1, 1) := by decide +kernel
theorem md_Cor_votedIn_5 : decode mb_Cor_votedIn 5 = .ok (.baload, 1) := by decide +kernel
theorem md_Cor_votedIn_6 : decode mb_Cor_votedIn 6 = .ok (.ifCond .eq 17, 3) := by decide +kernel
theorem md_Cor_votedIn_9 : decode mb_Cor_votedIn 9 = .ok (.aload_n 0, 1) := by decide +kernel
theorem md_Cor_votedIn_10 : decode mb_Cor_votedIn 10 = .ok (.getfield 36, 3) := by decide +kernel
theorem md_Cor_votedIn_13 : decode mb_Cor_votedIn 13 = .ok (.iload_n 1, 1) := by decide +kernel
theorem md_Cor_votedIn_14 : decode mb_Cor_votedIn 14 = .ok (.iaload, 1) := by decide +kernel
theorem md_Cor_votedIn_15 : decode mb_Cor_votedIn 15 = .ok (.iload_n 2, 1) := by decide +kernel
theorem md_Cor_votedIn_16 : decode mb_Cor_votedIn 16 = .ok (.if_icmp .ne 7, 3) := by decide +kernel
theorem md_Cor_votedIn_19 : decode mb_Cor_votedIn 19 = .ok (.iconst 1, 1) := by decide +kernel
theorem md_Cor_votedIn_20 : decode mb_Cor_votedIn 20 = .ok (.goto 4, 3) := by decide +kernel
theorem md_Cor_votedIn_23 : decode mb_Cor_votedIn 23 = .ok (.iconst 0, 1) := by decide +kernel
theorem md_Cor_votedIn_24 : decode mb_Cor_votedIn 24 = .ok (.ireturn, 1) := by decide +kernel
theorem md_Cor_tallyIn_0 : decode mb_Cor_tallyIn 0 = .ok (.iconst 0, 1) := by decide +kernel
theorem md_Cor_tallyIn_1 : decode mb_Cor_tallyIn 1 = .ok (.istore_n 3, 1) := by decide +kernel
theorem md_Cor_tallyIn_2 : decode mb_Cor_tallyIn 2 = .ok (.iconst 0, 1) := by decide +kernel
theorem md_Cor_tallyIn_3 : decode mb_Cor_tallyIn 3 = .ok (.istore 4, 2) := by decide +kernel
theorem md_Cor_tallyIn_5 : decode mb_Cor_tallyIn 5 = .ok (.iload 4, 2) := by decide +kernel
theorem md_Cor_tallyIn_7 : decode mb_Cor_tallyIn 7 = .ok (.aload_n 0, 1) := by decide +kernel
theorem md_Cor_tallyIn_8 : decode mb_Cor_tallyIn 8 = .ok (.getfield 15, 3) := by decide +kernel
theorem md_Cor_tallyIn_11 : decode mb_Cor_tallyIn 11 = .ok (.getfield 23, 3) := by decide +kernel
theorem md_Cor_tallyIn_14 : decode mb_Cor_tallyIn 14 = .ok (.if_icmp .ge 33, 3) := by decide +kernel
theorem md_Cor_tallyIn_17 : decode mb_Cor_tallyIn 17 = .ok (.aload_n 0, 1) := by decide +kernel
theorem md_Cor_tallyIn_18 : decode mb_Cor_tallyIn 18 = .ok (.iload 4, 2) := by decide +kernel
theorem md_Cor_tallyIn_20 : decode mb_Cor_tallyIn 20 = .ok (.iload_n 1, 1) := by decide +kernel
theorem md_Cor_tallyIn_21 : decode mb_Cor_tallyIn 21 = .ok (.invokevirtual 127, 3) := by decide +kernel
theorem md_Cor_tallyIn_24 : decode mb_Cor_tallyIn 24 = .ok (.ifCond .eq 17, 3) := by decide +kernel
theorem md_Cor_tallyIn_27 : decode mb_Cor_tallyIn 27 = .ok (.aload_n 0, 1) := by decide +kernel
theorem md_Cor_tallyIn_28 : decode mb_Cor_tallyIn 28 = .ok (.getfield 32, 3) := by decide +kernel
theorem md_Cor_tallyIn_31 : decode mb_Cor_tallyIn 31 = .ok (.iload 4, 2) := by decide +kernel
theorem md_Cor_tallyIn_33 : decode mb_Cor_tallyIn 33 = .ok (.iaload, 1) := by decide +kernel
theorem md_Cor_tallyIn_34 : decode mb_Cor_tallyIn 34 = .ok (.iload_n 2, 1) := by decide +kernel
theorem md_Cor_tallyIn_35 : decode mb_Cor_tallyIn 35 = .ok (.if_icmp .ne 6, 3) := by decide +kernel
theorem md_Cor_tallyIn_38 : decode mb_Cor_tallyIn 38 = .ok (.iinc 3 1, 3) := by decide +kernel
theorem md_Cor_tallyIn_41 : decode mb_Cor_tallyIn 41 = .ok (.iinc 4 1, 3) := by decide +kernel
theorem md_Cor_tallyIn_44 : decode mb_Cor_tallyIn 44 = .ok (.goto (-39), 3) := by decide +kernel
theorem md_Cor_tallyIn_47 : decode mb_Cor_tallyIn 47 = .ok (.iload_n 3, 1) := by decide +kernel
theorem md_Cor_tallyIn_48 : decode mb_Cor_tallyIn 48 = .ok (.ireturn, 1) := by decide +kernel
theorem md_Cor_latestRound_0 : decode mb_Cor_latestRound 0 = .ok (.iconst 0, 1) := by decide +kernel
theorem md_Cor_latestRound_1 : decode mb_Cor_latestRound 1 = .ok (.istore_n 1, 1) := by decide +kernel
theorem md_Cor_latestRound_2 : decode mb_Cor_latestRound 2 = .ok (.iconst 0, 1) := by decide +kernel
theorem md_Cor_latestRound_3 : decode mb_Cor_latestRound 3 = .ok (.istore_n 2, 1) := by decide +kernel
theorem md_Cor_latestRound_4 : decode mb_Cor_latestRound 4 = .ok (.iload_n 2, 1) := by decide +kernel
theorem md_Cor_latestRound_5 : decode mb_Cor_latestRound 5 = .ok (.aload_n 0, 1) := by decide +kernel
theorem md_Cor_latestRound_6 : decode mb_Cor_latestRound 6 = .ok (.getfield 15, 3) := by decide +kernel
theorem md_Cor_latestRound_9 : decode mb_Cor_latestRound 9 = .ok (.getfield 23, 3) := by decide +kernel
theorem md_Cor_latestRound_12 : decode mb_Cor_latestRound 12 = .ok (.if_icmp .ge 29, 3) := by decide +kernel
theorem md_Cor_latestRound_15 : decode mb_Cor_latestRound 15 = .ok (.aload_n 0, 1) := by decide +kernel
theorem md_Cor_latestRound_16 : decode mb_Cor_latestRound 16 = .ok (.getfield 28, 3) := by decide +kernel
theorem md_Cor_latestRound_19 : decode mb_Cor_latestRound 19 = .ok (.iload_n 2, 1) := by decide +kernel
theorem md_Cor_latestRound_20 : decode mb_Cor_latestRound 20 = .ok (.baload, 1) := by decide +kernel
theorem md_Cor_latestRound_21 : decode mb_Cor_latestRound 21 = .ok (.ifCond .eq 14, 3) := by decide +kernel
theorem md_Cor_latestRound_24 : decode mb_Cor_latestRound 24 = .ok (.iload_n 1, 1) := by decide +kernel
theorem md_Cor_latestRound_25 : decode mb_Cor_latestRound 25 = .ok (.aload_n 0, 1) := by decide +kernel
theorem md_Cor_latestRound_26 : decode mb_Cor_latestRound 26 = .ok (.getfield 36, 3) := by decide +kernel
theorem md_Cor_latestRound_29 : decode mb_Cor_latestRound 29 = .ok (.iload_n 2, 1) := by decide +kernel
theorem md_Cor_latestRound_30 : decode mb_Cor_latestRound 30 = .ok (.iaload, 1) := by decide +kernel
theorem md_Cor_latestRound_31 : decode mb_Cor_latestRound 31 = .ok (.invokestatic 135, 3) := by decide +kernel
theorem md_Cor_latestRound_34 : decode mb_Cor_latestRound 34 = .ok (.istore_n 1, 1) := by decide +kernel
theorem md_Cor_latestRound_35 : decode mb_Cor_latestRound 35 = .ok (.iinc 2 1, 3) := by decide +kernel
theorem md_Cor_latestRound_38 : decode mb_Cor_latestRound 38 = .ok (.goto (-34), 3) := by decide +kernel
theorem md_Cor_latestRound_41 : decode mb_Cor_latestRound 41 = .ok (.iload_n 1, 1) := by decide +kernel
theorem md_Cor_latestRound_42 : decode mb_Cor_latestRound 42 = .ok (.ireturn, 1) := by decide +kernel
theorem md_Cor_leastIn_0 : decode mb_Cor_leastIn 0 = .ok (.iconst 0, 1) := by decide +kernel
theorem md_Cor_leastIn_1 : decode mb_Cor_leastIn 1 = .ok (.istore_n 2, 1) := by decide +kernel
theorem md_Cor_leastIn_2 : decode mb_Cor_leastIn 2 = .ok (.iconst 0, 1) := by decide +kernel
theorem md_Cor_leastIn_3 : decode mb_Cor_leastIn 3 = .ok (.istore_n 3, 1) := by decide +kernel
theorem md_Cor_leastIn_4 : decode mb_Cor_leastIn 4 = .ok (.iload_n 3, 1) := by decide +kernel
theorem md_Cor_leastIn_5 : decode mb_Cor_leastIn 5 = .ok (.aload_n 0, 1) := by decide +kernel
theorem md_Cor_leastIn_6 : decode mb_Cor_leastIn 6 = .ok (.getfield 15, 3) := by decide +kernel
theorem md_Cor_leastIn_9 : decode mb_Cor_leastIn 9 = .ok (.getfield 23, 3) := by decide +kernel
theorem md_Cor_leastIn_12 : decode mb_Cor_leastIn 12 = .ok (.if_icmp .ge 39, 3) := by decide +kernel
theorem md_Cor_leastIn_15 : decode mb_Cor_leastIn 15 = .ok (.aload_n 0, 1) := by decide +kernel
theorem md_Cor_leastIn_16 : decode mb_Cor_leastIn 16 = .ok (.iload_n 3, 1) := by decide +kernel
theorem md_Cor_leastIn_17 : decode mb_Cor_leastIn 17 = .ok (.iload_n 1, 1) := by decide +kernel
theorem md_Cor_leastIn_18 : decode mb_Cor_leastIn 18 = .ok (.invokevirtual 127, 3) := by decide +kernel
theorem md_Cor_leastIn_21 : decode mb_Cor_leastIn 21 = .ok (.ifCond .eq 24, 3) := by decide +kernel
theorem md_Cor_leastIn_24 : decode mb_Cor_leastIn 24 = .ok (.iload_n 2, 1) := by decide +kernel
theorem md_Cor_leastIn_25 : decode mb_Cor_leastIn 25 = .ok (.ifCond .eq 13, 3) := by decide +kernel
theorem md_Cor_leastIn_28 : decode mb_Cor_leastIn 28 = .ok (.aload_n 0, 1) := by decide +kernel
theorem md_Cor_leastIn_29 : decode mb_Cor_leastIn 29 = .ok (.getfield 32, 3) := by decide +kernel
theorem md_Cor_leastIn_32 : decode mb_Cor_leastIn 32 = .ok (.iload_n 3, 1) := by decide +kernel
theorem md_Cor_leastIn_33 : decode mb_Cor_leastIn 33 = .ok (.iaload, 1) := by decide +kernel
theorem md_Cor_leastIn_34 : decode mb_Cor_leastIn 34 = .ok (.iload_n 2, 1) := by decide +kernel
theorem md_Cor_leastIn_35 : decode mb_Cor_leastIn 35 = .ok (.if_icmp .ge 10, 3) := by decide +kernel
theorem md_Cor_leastIn_38 : decode mb_Cor_leastIn 38 = .ok (.aload_n 0, 1) := by decide +kernel
theorem md_Cor_leastIn_39 : decode mb_Cor_leastIn 39 = .ok (.getfield 32, 3) := by decide +kernel
theorem md_Cor_leastIn_42 : decode mb_Cor_leastIn 42 = .ok (.iload_n 3, 1) := by decide +kernel
theorem md_Cor_leastIn_43 : decode mb_Cor_leastIn 43 = .ok (.iaload, 1) := by decide +kernel
theorem md_Cor_leastIn_44 : decode mb_Cor_leastIn 44 = .ok (.istore_n 2, 1) := by decide +kernel
theorem md_Cor_leastIn_45 : decode mb_Cor_leastIn 45 = .ok (.iinc 3 1, 3) := by decide +kernel
theorem md_Cor_leastIn_48 : decode mb_Cor_leastIn 48 = .ok (.goto (-44), 3) := by decide +kernel
theorem md_Cor_leastIn_51 : decode mb_Cor_leastIn 51 = .ok (.iload_n 2, 1) := by decide +kernel
theorem md_Cor_leastIn_52 : decode mb_Cor_leastIn 52 = .ok (.ireturn, 1) := by decide +kernel
theorem md_Cor_mostIn_0 : decode mb_Cor_mostIn 0 = .ok (.iconst 0, 1) := by decide +kernel
theorem md_Cor_mostIn_1 : decode mb_Cor_mostIn 1 = .ok (.istore_n 2, 1) := by decide +kernel
theorem md_Cor_mostIn_2 : decode mb_Cor_mostIn 2 = .ok (.iconst 0, 1) := by decide +kernel
theorem md_Cor_mostIn_3 : decode mb_Cor_mostIn 3 = .ok (.istore_n 3, 1) := by decide +kernel
theorem md_Cor_mostIn_4 : decode mb_Cor_mostIn 4 = .ok (.iload_n 3, 1) := by decide +kernel
theorem md_Cor_mostIn_5 : decode mb_Cor_mostIn 5 = .ok (.aload_n 0, 1) := by decide +kernel
theorem md_Cor_mostIn_6 : decode mb_Cor_mostIn 6 = .ok (.getfield 15, 3) := by decide +kernel
theorem md_Cor_mostIn_9 : decode mb_Cor_mostIn 9 = .ok (.getfield 23, 3) := by decide +kernel
theorem md_Cor_mostIn_12 : decode mb_Cor_mostIn 12 = .ok (.if_icmp .ge 34, 3) := by decide +kernel
theorem md_Cor_mostIn_15 : decode mb_Cor_mostIn 15 = .ok (.aload_n 0, 1) := by decide +kernel
theorem md_Cor_mostIn_16 : decode mb_Cor_mostIn 16 = .ok (.iload_n 3, 1) := by decide +kernel
theorem md_Cor_mostIn_17 : decode mb_Cor_mostIn 17 = .ok (.iload_n 1, 1) := by decide +kernel
theorem md_Cor_mostIn_18 : decode mb_Cor_mostIn 18 = .ok (.invokevirtual 127, 3) := by decide +kernel
theorem md_Cor_mostIn_21 : decode mb_Cor_mostIn 21 = .ok (.ifCond .eq 19, 3) := by decide +kernel
theorem md_Cor_mostIn_24 : decode mb_Cor_mostIn 24 = .ok (.iload_n 2, 1) := by decide +kernel
theorem md_Cor_mostIn_25 : decode mb_Cor_mostIn 25 = .ok (.aload_n 0, 1) := by decide +kernel
theorem md_Cor_mostIn_26 : decode mb_Cor_mostIn 26 = .ok (.iload_n 1, 1) := by decide +kernel
theorem md_Cor_mostIn_27 : decode mb_Cor_mostIn 27 = .ok (.aload_n 0, 1) := by decide +kernel
theorem md_Cor_mostIn_28 : decode mb_Cor_mostIn 28 = .ok (.getfield 32, 3) := by decide +kernel
theorem md_Cor_mostIn_31 : decode mb_Cor_mostIn 31 = .ok (.iload_n 3, 1) := by decide +kernel
theorem md_Cor_mostIn_32 : decode mb_Cor_mostIn 32 = .ok (.iaload, 1) := by decide +kernel
theorem md_Cor_mostIn_33 : decode mb_Cor_mostIn 33 = .ok (.invokevirtual 131, 3) := by decide +kernel
theorem md_Cor_mostIn_36 : decode mb_Cor_mostIn 36 = .ok (.invokestatic 135, 3) := by decide +kernel
theorem md_Cor_mostIn_39 : decode mb_Cor_mostIn 39 = .ok (.istore_n 2, 1) := by decide +kernel
theorem md_Cor_mostIn_40 : decode mb_Cor_mostIn 40 = .ok (.iinc 3 1, 3) := by decide +kernel
theorem md_Cor_mostIn_43 : decode mb_Cor_mostIn 43 = .ok (.goto (-39), 3) := by decide +kernel
theorem md_Cor_mostIn_46 : decode mb_Cor_mostIn 46 = .ok (.iload_n 2, 1) := by decide +kernel
theorem md_Cor_mostIn_47 : decode mb_Cor_mostIn 47 = .ok (.ireturn, 1) := by decide +kernel
theorem md_Cor_canStillBeChosen_0 : decode mb_Cor_canStillBeChosen 0 = .ok (.aload_n 0, 1) := by decide +kernel
theorem md_Cor_canStillBeChosen_1 : decode mb_Cor_canStillBeChosen 1 = .ok (.getfield 15, 3) := by decide +kernel
theorem md_Cor_canStillBeChosen_4 : decode mb_Cor_canStillBeChosen 4 = .ok (.getfield 23, 3) := by decide +kernel
theorem md_Cor_canStillBeChosen_7 : decode mb_Cor_canStillBeChosen 7 = .ok (.aload_n 0, 1) := by decide +kernel
theorem md_Cor_canStillBeChosen_8 : decode mb_Cor_canStillBeChosen 8 = .ok (.getfield 90, 3) := by decide +kernel
theorem md_Cor_canStillBeChosen_11 : decode mb_Cor_canStillBeChosen 11 = .ok (.isub, 1) := by decide +kernel
theorem md_Cor_canStillBeChosen_12 : decode mb_Cor_canStillBeChosen 12 = .ok (.istore_n 1, 1) := by decide +kernel
theorem md_Cor_canStillBeChosen_13 : decode mb_Cor_canStillBeChosen 13 = .ok (.aload_n 0, 1) := by decide +kernel
theorem md_Cor_canStillBeChosen_14 : decode mb_Cor_canStillBeChosen 14 = .ok (.aload_n 0, 1) := by decide +kernel
theorem md_Cor_canStillBeChosen_15 : decode mb_Cor_canStillBeChosen 15 = .ok (.getfield 39, 3) := by decide +kernel
theorem md_Cor_canStillBeChosen_18 : decode mb_Cor_canStillBeChosen 18 = .ok (.invokevirtual 115, 3) := by decide +kernel
theorem md_Cor_canStillBeChosen_21 : decode mb_Cor_canStillBeChosen 21 = .ok (.iload_n 1, 1) := by decide +kernel
theorem md_Cor_canStillBeChosen_22 : decode mb_Cor_canStillBeChosen 22 = .ok (.iadd, 1) := by decide +kernel
theorem md_Cor_canStillBeChosen_23 : decode mb_Cor_canStillBeChosen 23 = .ok (.aload_n 0, 1) := by decide +kernel
theorem md_Cor_canStillBeChosen_24 : decode mb_Cor_canStillBeChosen 24 = .ok (.getfield 15, 3) := by decide +kernel
theorem md_Cor_canStillBeChosen_27 : decode mb_Cor_canStillBeChosen 27 = .ok (.getfield 118, 3) := by decide +kernel
theorem md_Cor_canStillBeChosen_30 : decode mb_Cor_canStillBeChosen 30 = .ok (.if_icmp .lt 7, 3) := by decide +kernel
theorem md_Cor_canStillBeChosen_33 : decode mb_Cor_canStillBeChosen 33 = .ok (.iconst 1, 1) := by decide +kernel
theorem md_Cor_canStillBeChosen_34 : decode mb_Cor_canStillBeChosen 34 = .ok (.goto 4, 3) := by decide +kernel
theorem md_Cor_canStillBeChosen_37 : decode mb_Cor_canStillBeChosen 37 = .ok (.iconst 0, 1) := by decide +kernel
theorem md_Cor_canStillBeChosen_38 : decode mb_Cor_canStillBeChosen 38 = .ok (.ireturn, 1) := by decide +kernel
theorem md_Cor_maybeChosenIn_0 : decode mb_Cor_maybeChosenIn 0 = .ok (.aload_n 0, 1) := by decide +kernel
theorem md_Cor_maybeChosenIn_1 : decode mb_Cor_maybeChosenIn 1 = .ok (.getfield 90, 3) := by decide +kernel
theorem md_Cor_maybeChosenIn_4 : decode mb_Cor_maybeChosenIn 4 = .ok (.aload_n 0, 1) := by decide +kernel
theorem md_Cor_maybeChosenIn_5 : decode mb_Cor_maybeChosenIn 5 = .ok (.getfield 15, 3) := by decide +kernel
theorem md_Cor_maybeChosenIn_8 : decode mb_Cor_maybeChosenIn 8 = .ok (.getfield 23, 3) := by decide +kernel
theorem md_Cor_maybeChosenIn_11 : decode mb_Cor_maybeChosenIn 11 = .ok (.aload_n 0, 1) := by decide +kernel
theorem md_Cor_maybeChosenIn_12 : decode mb_Cor_maybeChosenIn 12 = .ok (.getfield 15, 3) := by decide +kernel
theorem md_Cor_maybeChosenIn_15 : decode mb_Cor_maybeChosenIn 15 = .ok (.getfield 118, 3) := by decide +kernel
theorem md_Cor_maybeChosenIn_18 : decode mb_Cor_maybeChosenIn 18 = .ok (.isub, 1) := by decide +kernel
theorem md_Cor_maybeChosenIn_19 : decode mb_Cor_maybeChosenIn 19 = .ok (.isub, 1) := by decide +kernel
theorem md_Cor_maybeChosenIn_20 : decode mb_Cor_maybeChosenIn 20 = .ok (.istore_n 2, 1) := by decide +kernel
theorem md_Cor_maybeChosenIn_21 : decode mb_Cor_maybeChosenIn 21 = .ok (.iconst 0, 1) := by decide +kernel
theorem md_Cor_maybeChosenIn_22 : decode mb_Cor_maybeChosenIn 22 = .ok (.istore_n 3, 1) := by decide +kernel
theorem md_Cor_maybeChosenIn_23 : decode mb_Cor_maybeChosenIn 23 = .ok (.iload_n 3, 1) := by decide +kernel
theorem md_Cor_maybeChosenIn_24 : decode mb_Cor_maybeChosenIn 24 = .ok (.aload_n 0, 1) := by decide +kernel
theorem md_Cor_maybeChosenIn_25 : decode mb_Cor_maybeChosenIn 25 = .ok (.getfield 15, 3) := by decide +kernel
theorem md_Cor_maybeChosenIn_28 : decode mb_Cor_maybeChosenIn 28 = .ok (.getfield 23, 3) := by decide +kernel
theorem md_Cor_maybeChosenIn_31 : decode mb_Cor_maybeChosenIn 31 = .ok (.if_icmp .ge 40, 3) := by decide +kernel
theorem md_Cor_maybeChosenIn_34 : decode mb_Cor_maybeChosenIn 34 = .ok (.aload_n 0, 1) := by decide +kernel
theorem md_Cor_maybeChosenIn_35 : decode mb_Cor_maybeChosenIn 35 = .ok (.iload_n 3, 1) := by decide +kernel
theorem md_Cor_maybeChosenIn_36 : decode mb_Cor_maybeChosenIn 36 = .ok (.iload_n 1, 1) := by decide +kernel
theorem md_Cor_maybeChosenIn_37 : decode mb_Cor_maybeChosenIn 37 = .ok (.invokevirtual 127, 3) := by decide +kernel
theorem md_Cor_maybeChosenIn_40 : decode mb_Cor_maybeChosenIn 40 = .ok (.ifCond .eq 25, 3) := by decide +kernel
theorem md_Cor_maybeChosenIn_43 : decode mb_Cor_maybeChosenIn 43 = .ok (.aload_n 0, 1) := by decide +kernel
theorem md_Cor_maybeChosenIn_44 : decode mb_Cor_maybeChosenIn 44 = .ok (.iload_n 1, 1) := by decide +kernel
theorem md_Cor_maybeChosenIn_45 : decode mb_Cor_maybeChosenIn 45 = .ok (.aload_n 0, 1) := by decide +kernel
theorem md_Cor_maybeChosenIn_46 : decode mb_Cor_maybeChosenIn 46 = .ok (.getfield 32, 3) := by decide +kernel
theorem md_Cor_maybeChosenIn_49 : decode mb_Cor_maybeChosenIn 49 = .ok (.iload_n 3, 1) := by decide +kernel
theorem md_Cor_maybeChosenIn_50 : decode mb_Cor_maybeChosenIn 50 = .ok (.iaload, 1) := by decide +kernel
theorem md_Cor_maybeChosenIn_51 : decode mb_Cor_maybeChosenIn 51 = .ok (.invokevirtual 131, 3) := by decide +kernel
theorem md_Cor_maybeChosenIn_54 : decode mb_Cor_maybeChosenIn 54 = .ok (.iload_n 2, 1) := by decide +kernel
theorem md_Cor_maybeChosenIn_55 : decode mb_Cor_maybeChosenIn 55 = .ok (.if_icmp .lt 10, 3) := by decide +kernel
theorem md_Cor_maybeChosenIn_58 : decode mb_Cor_maybeChosenIn 58 = .ok (.aload_n 0, 1) := by decide +kernel
theorem md_Cor_maybeChosenIn_59 : decode mb_Cor_maybeChosenIn 59 = .ok (.getfield 32, 3) := by decide +kernel
theorem md_Cor_maybeChosenIn_62 : decode mb_Cor_maybeChosenIn 62 = .ok (.iload_n 3, 1) := by decide +kernel
theorem md_Cor_maybeChosenIn_63 : decode mb_Cor_maybeChosenIn 63 = .ok (.iaload, 1) := by decide +kernel
theorem md_Cor_maybeChosenIn_64 : decode mb_Cor_maybeChosenIn 64 = .ok (.ireturn, 1) := by decide +kernel
theorem md_Cor_maybeChosenIn_65 : decode mb_Cor_maybeChosenIn 65 = .ok (.iinc 3 1, 3) := by decide +kernel
theorem md_Cor_maybeChosenIn_68 : decode mb_Cor_maybeChosenIn 68 = .ok (.goto (-45), 3) := by decide +kernel
theorem md_Cor_maybeChosenIn_71 : decode mb_Cor_maybeChosenIn 71 = .ok (.iconst 0, 1) := by decide +kernel
theorem md_Cor_maybeChosenIn_72 : decode mb_Cor_maybeChosenIn 72 = .ok (.ireturn, 1) := by decide +kernel
theorem md_Cor_pick_0 : decode mb_Cor_pick 0 = .ok (.aload_n 0, 1) := by decide +kernel
theorem md_Cor_pick_1 : decode mb_Cor_pick 1 = .ok (.invokevirtual 121, 3) := by decide +kernel
theorem md_Cor_pick_4 : decode mb_Cor_pick 4 = .ok (.istore_n 1, 1) := by decide +kernel
theorem md_Cor_pick_5 : decode mb_Cor_pick 5 = .ok (.iload_n 1, 1) := by decide +kernel
theorem md_Cor_pick_6 : decode mb_Cor_pick 6 = .ok (.ifCond .ne 5, 3) := by decide +kernel
theorem md_Cor_pick_9 : decode mb_Cor_pick 9 = .ok (.iconst 0, 1) := by decide +kernel
theorem md_Cor_pick_10 : decode mb_Cor_pick 10 = .ok (.ireturn, 1) := by decide +kernel
theorem md_Cor_pick_11 : decode mb_Cor_pick 11 = .ok (.iload_n 1, 1) := by decide +kernel
theorem md_Cor_pick_12 : decode mb_Cor_pick 12 = .ok (.invokestatic 103, 3) := by decide +kernel
theorem md_Cor_pick_15 : decode mb_Cor_pick 15 = .ok (.ifCond .eq 15, 3) := by decide +kernel
theorem md_Cor_pick_18 : decode mb_Cor_pick 18 = .ok (.aload_n 0, 1) := by decide +kernel
theorem md_Cor_pick_19 : decode mb_Cor_pick 19 = .ok (.iload_n 1, 1) := by decide +kernel
theorem md_Cor_pick_20 : decode mb_Cor_pick 20 = .ok (.invokevirtual 124, 3) := by decide +kernel
theorem md_Cor_pick_23 : decode mb_Cor_pick 23 = .ok (.istore_n 2, 1) := by decide +kernel
theorem md_Cor_pick_24 : decode mb_Cor_pick 24 = .ok (.iload_n 2, 1) := by decide +kernel
theorem md_Cor_pick_25 : decode mb_Cor_pick 25 = .ok (.ifCond .eq 5, 3) := by decide +kernel
theorem md_Cor_pick_28 : decode mb_Cor_pick 28 = .ok (.iload_n 2, 1) := by decide +kernel
theorem md_Cor_pick_29 : decode mb_Cor_pick 29 = .ok (.ireturn, 1) := by decide +kernel
theorem md_Cor_pick_30 : decode mb_Cor_pick 30 = .ok (.aload_n 0, 1) := by decide +kernel
theorem md_Cor_pick_31 : decode mb_Cor_pick 31 = .ok (.iload_n 1, 1) := by decide +kernel
theorem md_Cor_pick_32 : decode mb_Cor_pick 32 = .ok (.invokevirtual 111, 3) := by decide +kernel
theorem md_Cor_pick_35 : decode mb_Cor_pick 35 = .ok (.ireturn, 1) := by decide +kernel
def fr_TB (n : Nat) (p : pz_P) (c : Nat) : Prop := ∀ a, a < n → p 11 c a ≤ 1 ∧ (p 11 c a ≠ 0 → p 12 c a < 2 ^ 31 ∧ p 13 c a < 2 ^ 31)
theorem fr_ls_lt {n : Nat} {p : pz_P} {c r : Nat} (T : fr_TB n p c) {i : Nat} (hi : i ≤ n) : pz_ls p c r i < 2 ^ 31 := by
  rcases pz_ls_ex p c r i with z | ⟨b, b1, b2, b3, b4⟩
  · omega
  · rw [← b4]; exact ((T b (by omega)).2 b2).1
theorem fr_kk_lt {n : Nat} {p : pz_P} {c : Nat} (T : fr_TB n p c) {i : Nat} (hi : i ≤ n) : pz_mx i (fun a => if p 11 c a ≠ 0 then p 13 c a else 0) < 2 ^ 31 := by
  have := pz_mx_le (g := fun a => if p 11 c a ≠ 0 then p 13 c a else 0) (b := 2 ^ 31 - 1) i (fun a ha => by
    split
    · rename_i z; have := ((T a (by omega)).2 z).2; omega
    · omega)
  omega
set_option maxHeartbeats 4000000 in
theorem k_votedIn (l : Launch) (D : va_G) {n : Nat} (ad : Nat × Nat → Nat) (cI cZ cS cA : ClassId) {M : fr_M} {q f : Nat} {S : pz_T} {ex : Nat → Nat → Prop} {s c : Nat} (hn : n ≤ 5) (h : fr_R n q f S ex M) (hs : s < 3) (hc : c < 2) (hx : ¬ ex s c) (T : fr_TB n (S.2 s) c) {a r : Nat} (ha : a < n) (hr2 : r < 2 ^ 31) : fb_C l D n ad cI cZ cS cA my_Cor_votedIn mb_Cor_votedIn 3 (some .boolean) 0 0 M [.ref (ad (9, 2 * s + c)), .int (nI (a)), .int (nI (r))] (some (.int (nI (if S.2 s 11 c a ≠ 0 ∧ S.2 s 13 c a = r then 1 else 0)))) (fun M' => M' = M) := by
  have t1 := (T a ha).1
  refine xw_start [.ref (ad (9, 2 * s + c)), .int (nI (a)), .int (nI (r))] (by decide) (Nat.le_of_ble_eq_true rfl) ?_
  intro p e st m below meth cd0 ls Z hml hr hlk hN hl hw
  have hl : lv_has ls 3 [(0, .ref (ad (9, 2 * s + c))), (1, .int (nI (a))), (2, .int (nI (r)))] := hl
  refine lv_aload_n Z.1 Z.2.1 md_Cor_votedIn_0 rfl (lv_at hl 0 rfl) ?_
  refine xb_get (v := .ref (ad (10, 2 * s + c))) Z hw (fb_in9 n hs hc) (fb_e9 n ad cI cZ cS cA (2 * s + c)) rfl tb_iCor 6 (by decide) mk_Cor_28 rfl rfl md_Cor_votedIn_1 ?_
  refine lv_iload_n Z.1 Z.2.1 md_Cor_votedIn_4 rfl (lv_at hl 1 rfl) ?_
  refine xw_zald Z hw (fb_in10 n hs hc) (fb_e10 n ad cI cZ cS cA (2 * s + c)) 1 rfl (a) rfl ha (by omega) md_Cor_votedIn_5 ?_
  refine xi_re (show M (10, 2 * s + c) (a) = nI (S.2 s 11 c a) from ((fr_t h hs hc hx).2 a ha).1) ?_
  refine xi_if_eq (tgt := 23) Z md_Cor_votedIn_6 (by decide) (by omega) (fun h6 => ?_) (fun h6 => ?_)
  · refine lv_iconst (v := nI 0) Z.1 Z.2.1 md_Cor_votedIn_23 (by decide) ?_
    exact xw_zret Z hr hlk hw md_Cor_votedIn_24 (by first | rw [if_pos (by omega)] | rw [if_neg (by omega)]) rfl rfl
  · have t2 := (T a ha).2 h6
    refine lv_aload_n Z.1 Z.2.1 md_Cor_votedIn_9 rfl (lv_at hl 0 rfl) ?_
    refine xb_get (v := .ref (ad (12, 2 * s + c))) Z hw (fb_in9 n hs hc) (fb_e9 n ad cI cZ cS cA (2 * s + c)) rfl tb_iCor 8 (by decide) mk_Cor_36 rfl rfl md_Cor_votedIn_10 ?_
    refine lv_iload_n Z.1 Z.2.1 md_Cor_votedIn_13 rfl (lv_at hl 1 rfl) ?_
    refine xw_iald Z hw (fb_in12 n hs hc) (fb_e12 n ad cI cZ cS cA (2 * s + c)) 0 rfl (a) rfl ha (by omega) md_Cor_votedIn_14 ?_
    refine xi_re (show M (12, 2 * s + c) (a) = nI (S.2 s 13 c a) from (((fr_t h hs hc hx).2 a ha).2 h6).2) ?_
    refine lv_iload_n Z.1 Z.2.1 md_Cor_votedIn_15 rfl (lv_at hl 2 rfl) ?_
    refine xi_icmp_ne (tgt := 23) Z md_Cor_votedIn_16 (by decide) (by omega) (by omega) (fun h16 => ?_) (fun h16 => ?_)
    · refine lv_iconst (v := nI 0) Z.1 Z.2.1 md_Cor_votedIn_23 (by decide) ?_
      exact xw_zret Z hr hlk hw md_Cor_votedIn_24 (by first | rw [if_pos (by omega)] | rw [if_neg (by omega)]) rfl rfl
    · refine lv_iconst (v := nI 1) Z.1 Z.2.1 md_Cor_votedIn_19 (by decide) ?_
      refine lv_goto (tgt := 24) Z.1 Z.2.1 md_Cor_votedIn_20 (by decide) ?_
      exact xw_zret Z hr hlk hw md_Cor_votedIn_24 (by first | rw [if_pos (by omega)] | rw [if_neg (by omega)]) rfl rfl
set_option maxHeartbeats 4000000 in
theorem k_tallyIn (l : Launch) (D : va_G) {n : Nat} (ad : Nat × Nat → Nat) (cI cZ cS cA : ClassId) {M : fr_M} {q f : Nat} {S : pz_T} {ex : Nat → Nat → Prop} {s c : Nat} (hn : n ≤ 5) (h : fr_R n q f S ex M) (hs : s < 3) (hc : c < 2) (hx : ¬ ex s c) (T : fr_TB n (S.2 s) c) {r v : Nat} (hr2 : r < 2 ^ 31) (hv : v < 2 ^ 31) : fb_C l D n ad cI cZ cS cA my_Cor_tallyIn mb_Cor_tallyIn 5 (some .int) 1 22 M [.ref (ad (9, 2 * s + c)), .int (nI (r)), .int (nI (v))] (some (.int (nI (pz_tf n (S.2 s) c r v)))) (fun M' => M' = M) := by
  refine xw_start [.ref (ad (9, 2 * s + c)), .int (nI (r)), .int (nI (v))] (by decide) (Nat.le_of_ble_eq_true rfl) ?_
  intro p e st m below meth cd0 ls Z hml hr hlk hN hl hw
  have hl : lv_has ls 5 [(0, .ref (ad (9, 2 * s + c))), (1, .int (nI (r))), (2, .int (nI (v)))] := hl
  refine lv_iconst (v := nI 0) Z.1 Z.2.1 md_Cor_tallyIn_0 (by decide) ?_
  refine lv_istore_n Z.1 Z.2.1 md_Cor_tallyIn_1 rfl hl (by decide) rfl (fun ls hl => ?_)
  have hl : lv_has ls 5 [(3, .int (nI (0))), (0, .ref (ad (9, 2 * s + c))), (1, .int (nI (r))), (2, .int (nI (v)))] := hl
  refine lv_iconst (v := nI 0) Z.1 Z.2.1 md_Cor_tallyIn_2 (by decide) ?_
  refine lv_istore Z.1 Z.2.1 md_Cor_tallyIn_3 hl (by decide) rfl (fun ls hl => ?_)
  have hl : lv_has ls 5 [(4, .int (nI (0))), (3, .int (nI (0))), (0, .ref (ad (9, 2 * s + c))), (1, .int (nI (r))), (2, .int (nI (v)))] := hl
  have loop5 : ∀ (d i : Nat) (Hi : Heap) (Li : List Loc) (ls : Array Slot), i + d = n → xw_H D tb_cl (xw_A (fb_ids n) ad) st.heap (fb_ids n) ad (xw_M (fb_k n ad cI cZ cS cA) M) Hi Li → lv_has ls 5 [(4, .int (nI (i))), (3, .int (nI (pz_sm i (fun a => if S.2 s 11 c a ≠ 0 ∧ S.2 s 13 c a = r ∧ S.2 s 12 c a = v then 1 else 0)))), (0, .ref (ad (9, 2 * s + c))), (1, .int (nI (r))), (2, .int (nI (v)))] → W p l e { frames := 1, cells := 0, slots := 0, locals := 22 } st m [.ref (ad (9, 2 * s + c)), .int (nI (r)), .int (nI (v))].toArray below meth cd0 Hi Li 0 0 (MQ below (xw_Qc D tb_cl (fb_ids n) ad (fb_k n ad cI cZ cS cA) (some (.int (nI (pz_tf n (S.2 s) c r v)))) (fun M' => M' = M)) [.ref (ad (9, 2 * s + c)), .int (nI (r)), .int (nI (v))].toArray st 0 0 (xw_A (fb_ids n) ad)) (F0 m 5 ls []) := by
    intro d
    induction d with
    | zero =>
      intro i Hi Li ls hi hw hl
      refine lv_iload Z.1 Z.2.1 md_Cor_tallyIn_5 (lv_at hl 0 rfl) ?_
      refine lv_aload_n Z.1 Z.2.1 md_Cor_tallyIn_7 rfl (lv_at hl 2 rfl) ?_
      refine xb_get (v := .ref (ad (1, 0))) Z hw (fb_in9 n hs hc) (fb_e9 n ad cI cZ cS cA (2 * s + c)) rfl tb_iCor 1 (by decide) mk_Cor_15 rfl rfl md_Cor_tallyIn_8 ?_
      refine xb_get (v := .int (M (1, 0) 0)) Z hw (fb_in1 n) (fb_e1 n ad cI cZ cS cA) rfl tb_iSiz 0 (by decide) mk_Cor_23 rfl rfl md_Cor_tallyIn_11 ?_
      refine xi_re (show M (1, 0) 0 = nI (n) from h.1.1) ?_
      refine xi_icmp_ge (tgt := 47) Z md_Cor_tallyIn_14 (by decide) (by omega) (by omega) (fun h14 => ?_) (fun h14 => by exfalso; omega)
      refine lv_iload_n Z.1 Z.2.1 md_Cor_tallyIn_47 rfl (lv_at hl 1 rfl) ?_
      exact xw_iret Z hr hlk hw md_Cor_tallyIn_48 (by rw [show i = n by omega]; rfl) rfl
    | succ d ih =>
      intro i Hi Li ls hi hw hl
      refine lv_iload Z.1 Z.2.1 md_Cor_tallyIn_5 (lv_at hl 0 rfl) ?_
      refine lv_aload_n Z.1 Z.2.1 md_Cor_tallyIn_7 rfl (lv_at hl 2 rfl) ?_
      refine xb_get (v := .ref (ad (1, 0))) Z hw (fb_in9 n hs hc) (fb_e9 n ad cI cZ cS cA (2 * s + c)) rfl tb_iCor 1 (by decide) mk_Cor_15 rfl rfl md_Cor_tallyIn_8 ?_
      refine xb_get (v := .int (M (1, 0) 0)) Z hw (fb_in1 n) (fb_e1 n ad cI cZ cS cA) rfl tb_iSiz 0 (by decide) mk_Cor_23 rfl rfl md_Cor_tallyIn_11 ?_
      refine xi_re (show M (1, 0) 0 = nI (n) from h.1.1) ?_
      refine xi_icmp_ge (tgt := 47) Z md_Cor_tallyIn_14 (by decide) (by omega) (by omega) (fun h14 => by exfalso; omega) (fun h14 => ?_)
      refine lv_aload_n Z.1 Z.2.1 md_Cor_tallyIn_17 rfl (lv_at hl 2 rfl) ?_
      refine lv_iload Z.1 Z.2.1 md_Cor_tallyIn_18 (lv_at hl 0 rfl) ?_
      refine lv_iload_n Z.1 Z.2.1 md_Cor_tallyIn_20 rfl (lv_at hl 3 rfl) ?_
      refine xw_cV (n := 2) (rest := []) Z hml hl.1 hN hw (k_votedIn (a := i) (r := r) l D ad cI cZ cS cA hn h hs hc hx T (by omega) hr2) tb_g mc_Cor_votedIn mk_Cor_127 mi_Cor_votedIn ms_Cor_votedIn mz_Cor ⟨by decide, by decide, by decide +kernel⟩ ⟨Nat.le_of_ble_eq_true rfl, Nat.le_of_ble_eq_true rfl⟩ (fb_in9 n hs hc) (fb_e9 n ad cI cZ cS cA (2 * s + c) _) rfl rfl rfl rfl (Nat.le_of_ble_eq_true rfl) ⟨Nat.le_refl _, Nat.le_refl _⟩ md_Cor_tallyIn_21 (fun M1 H1 locs1 e1 hw => ?_)
      have ey1 := e1.symm
      subst ey1
      refine W.eq (g2 := F0 m 24 ls [.int (nI (if S.2 s 11 c i ≠ 0 ∧ S.2 s 13 c i = r then 1 else 0))]) rfl ?_
      have lv : (if S.2 s 11 c i ≠ 0 ∧ S.2 s 13 c i = r then 1 else 0) < 2 := by split <;> omega
      refine xi_if_eq (tgt := 41) Z md_Cor_tallyIn_24 (by decide) (by omega) (fun h24 => ?_) (fun h24 => ?_)
      · refine lv_iinc Z.1 Z.2.1 md_Cor_tallyIn_41 hl (k := 0) rfl (xi_inc1 (i)) (by decide) rfl (fun ls hl => ?_)
        have hl : lv_has ls 5 [(4, .int (nI (i + 1))), (3, .int (nI (pz_sm i (fun a => if S.2 s 11 c a ≠ 0 ∧ S.2 s 13 c a = r ∧ S.2 s 12 c a = v then 1 else 0)))), (0, .ref (ad (9, 2 * s + c))), (1, .int (nI (r))), (2, .int (nI (v)))] := hl
        refine lv_goto (tgt := 5) Z.1 Z.2.1 md_Cor_tallyIn_44 (by decide) ?_
        try have vn : ¬ (S.2 s 11 c i ≠ 0 ∧ S.2 s 13 c i = r) := (fun y => by rw [if_pos y] at h24; exact absurd h24 (by decide))
        refine ih (i + 1) _ _ ls (by omega) hw ?_
        first | (rw [show pz_sm (i + 1) (fun a => if S.2 s 11 c a ≠ 0 ∧ S.2 s 13 c a = r ∧ S.2 s 12 c a = v then 1 else 0) = pz_sm i (fun a => if S.2 s 11 c a ≠ 0 ∧ S.2 s 13 c a = r ∧ S.2 s 12 c a = v then 1 else 0) + 1 from by simp only [pz_sm]; rw [if_pos (by omega)]]; exact lv_sub hl [0, 1, 2, 3, 4] rfl) | (rw [show pz_sm (i + 1) (fun a => if S.2 s 11 c a ≠ 0 ∧ S.2 s 13 c a = r ∧ S.2 s 12 c a = v then 1 else 0) = pz_sm i (fun a => if S.2 s 11 c a ≠ 0 ∧ S.2 s 13 c a = r ∧ S.2 s 12 c a = v then 1 else 0) from by simp only [pz_sm]; rw [if_neg (by omega)]; rfl]; exact lv_sub hl [0, 1, 2, 3, 4] rfl)
      · have vi : S.2 s 11 c i ≠ 0 ∧ S.2 s 13 c i = r := by
          by_cases z : S.2 s 11 c i ≠ 0 ∧ S.2 s 13 c i = r
          · exact z
          · rw [if_neg z] at h24; exact absurd rfl h24
        have t2 := (T i (by omega)).2 vi.1
        refine lv_aload_n Z.1 Z.2.1 md_Cor_tallyIn_27 rfl (lv_at hl 2 rfl) ?_
        refine xb_get (v := .ref (ad (11, 2 * s + c))) Z hw (fb_in9 n hs hc) (fb_e9 n ad cI cZ cS cA (2 * s + c)) rfl tb_iCor 7 (by decide) mk_Cor_32 rfl rfl md_Cor_tallyIn_28 ?_
        refine lv_iload Z.1 Z.2.1 md_Cor_tallyIn_31 (lv_at hl 0 rfl) ?_
        refine xw_iald Z hw (fb_in11 n hs hc) (fb_e11 n ad cI cZ cS cA (2 * s + c)) 0 rfl (i) rfl (by omega) (by omega) md_Cor_tallyIn_33 ?_
        refine xi_re (show M (11, 2 * s + c) (i) = nI (S.2 s 12 c i) from ((fr_t h hs hc hx).2 i (by omega)).2 vi.1 |>.1) ?_
        refine lv_iload_n Z.1 Z.2.1 md_Cor_tallyIn_34 rfl (lv_at hl 4 rfl) ?_
        refine xi_icmp_ne (tgt := 41) Z md_Cor_tallyIn_35 (by decide) (by omega) (by omega) (fun h35 => ?_) (fun h35 => ?_)
        · refine lv_iinc Z.1 Z.2.1 md_Cor_tallyIn_41 hl (k := 0) rfl (xi_inc1 (i)) (by decide) rfl (fun ls hl => ?_)
          have hl : lv_has ls 5 [(4, .int (nI (i + 1))), (3, .int (nI (pz_sm i (fun a => if S.2 s 11 c a ≠ 0 ∧ S.2 s 13 c a = r ∧ S.2 s 12 c a = v then 1 else 0)))), (0, .ref (ad (9, 2 * s + c))), (1, .int (nI (r))), (2, .int (nI (v)))] := hl
          refine lv_goto (tgt := 5) Z.1 Z.2.1 md_Cor_tallyIn_44 (by decide) ?_
          try have vn : ¬ (S.2 s 11 c i ≠ 0 ∧ S.2 s 13 c i = r) := (fun y => by rw [if_pos y] at h24; exact absurd h24 (by decide))
          refine ih (i + 1) _ _ ls (by omega) hw ?_
          first | (rw [show pz_sm (i + 1) (fun a => if S.2 s 11 c a ≠ 0 ∧ S.2 s 13 c a = r ∧ S.2 s 12 c a = v then 1 else 0) = pz_sm i (fun a => if S.2 s 11 c a ≠ 0 ∧ S.2 s 13 c a = r ∧ S.2 s 12 c a = v then 1 else 0) + 1 from by simp only [pz_sm]; rw [if_pos (by omega)]]; exact lv_sub hl [0, 1, 2, 3, 4] rfl) | (rw [show pz_sm (i + 1) (fun a => if S.2 s 11 c a ≠ 0 ∧ S.2 s 13 c a = r ∧ S.2 s 12 c a = v then 1 else 0) = pz_sm i (fun a => if S.2 s 11 c a ≠ 0 ∧ S.2 s 13 c a = r ∧ S.2 s 12 c a = v then 1 else 0) from by simp only [pz_sm]; rw [if_neg (by omega)]; rfl]; exact lv_sub hl [0, 1, 2, 3, 4] rfl)
        · refine lv_iinc Z.1 Z.2.1 md_Cor_tallyIn_38 hl (k := 1) rfl (xi_inc1 (pz_sm i (fun a => if S.2 s 11 c a ≠ 0 ∧ S.2 s 13 c a = r ∧ S.2 s 12 c a = v then 1 else 0))) (by decide) rfl (fun ls hl => ?_)
          have hl : lv_has ls 5 [(3, .int (nI ((pz_sm i (fun a => if S.2 s 11 c a ≠ 0 ∧ S.2 s 13 c a = r ∧ S.2 s 12 c a = v then 1 else 0)) + 1))), (4, .int (nI (i))), (0, .ref (ad (9, 2 * s + c))), (1, .int (nI (r))), (2, .int (nI (v)))] := hl
          refine lv_iinc Z.1 Z.2.1 md_Cor_tallyIn_41 hl (k := 1) rfl (xi_inc1 (i)) (by decide) rfl (fun ls hl => ?_)
          have hl : lv_has ls 5 [(4, .int (nI (i + 1))), (3, .int (nI ((pz_sm i (fun a => if S.2 s 11 c a ≠ 0 ∧ S.2 s 13 c a = r ∧ S.2 s 12 c a = v then 1 else 0)) + 1))), (0, .ref (ad (9, 2 * s + c))), (1, .int (nI (r))), (2, .int (nI (v)))] := hl
          refine lv_goto (tgt := 5) Z.1 Z.2.1 md_Cor_tallyIn_44 (by decide) ?_
          try have vn : ¬ (S.2 s 11 c i ≠ 0 ∧ S.2 s 13 c i = r) := (fun y => by rw [if_pos y] at h24; exact absurd h24 (by decide))
          refine ih (i + 1) _ _ ls (by omega) hw ?_
          first | (rw [show pz_sm (i + 1) (fun a => if S.2 s 11 c a ≠ 0 ∧ S.2 s 13 c a = r ∧ S.2 s 12 c a = v then 1 else 0) = pz_sm i (fun a => if S.2 s 11 c a ≠ 0 ∧ S.2 s 13 c a = r ∧ S.2 s 12 c a = v then 1 else 0) + 1 from by simp only [pz_sm]; rw [if_pos (by omega)]]; exact lv_sub hl [0, 1, 2, 3, 4] rfl) | (rw [show pz_sm (i + 1) (fun a => if S.2 s 11 c a ≠ 0 ∧ S.2 s 13 c a = r ∧ S.2 s 12 c a = v then 1 else 0) = pz_sm i (fun a => if S.2 s 11 c a ≠ 0 ∧ S.2 s 13 c a = r ∧ S.2 s 12 c a = v then 1 else 0) from by simp only [pz_sm]; rw [if_neg (by omega)]; rfl]; exact lv_sub hl [0, 1, 2, 3, 4] rfl)
  exact loop5 n (0) _ _ ls (by omega) hw (lv_sub hl [0, 1, 2, 3, 4] rfl)
set_option maxHeartbeats 4000000 in
theorem k_latestRound (l : Launch) (D : va_G) {n : Nat} (ad : Nat × Nat → Nat) (cI cZ cS cA : ClassId) {M : fr_M} {q f : Nat} {S : pz_T} {ex : Nat → Nat → Prop} {s c : Nat} (hn : n ≤ 5) (h : fr_R n q f S ex M) (hs : s < 3) (hc : c < 2) (hx : ¬ ex s c) (T : fr_TB n (S.2 s) c) : fb_C l D n ad cI cZ cS cA my_Cor_latestRound mb_Cor_latestRound 3 (some .int) 1 13 M [.ref (ad (9, 2 * s + c))] (some (.int (nI (pz_kk n (S.2 s) c)))) (fun M' => M' = M) := by
  refine xw_start [.ref (ad (9, 2 * s + c))] (by decide) (Nat.le_of_ble_eq_true rfl) ?_
  intro p e st m below meth cd0 ls Z hml hr hlk hN hl hw
  have hl : lv_has ls 3 [(0, .ref (ad (9, 2 * s + c)))] := hl
  refine lv_iconst (v := nI 0) Z.1 Z.2.1 md_Cor_latestRound_0 (by decide) ?_
  refine lv_istore_n Z.1 Z.2.1 md_Cor_latestRound_1 rfl hl (by decide) rfl (fun ls hl => ?_)
  have hl : lv_has ls 3 [(1, .int (nI (0))), (0, .ref (ad (9, 2 * s + c)))] := hl
  refine lv_iconst (v := nI 0) Z.1 Z.2.1 md_Cor_latestRound_2 (by decide) ?_
  refine lv_istore_n Z.1 Z.2.1 md_Cor_latestRound_3 rfl hl (by decide) rfl (fun ls hl => ?_)
  have hl : lv_has ls 3 [(2, .int (nI (0))), (1, .int (nI (0))), (0, .ref (ad (9, 2 * s + c)))] := hl
  have loop4 : ∀ (d i : Nat) (Hi : Heap) (Li : List Loc) (ls : Array Slot), i + d = n → xw_H D tb_cl (xw_A (fb_ids n) ad) st.heap (fb_ids n) ad (xw_M (fb_k n ad cI cZ cS cA) M) Hi Li → lv_has ls 3 [(2, .int (nI (i))), (1, .int (nI (pz_mx i (fun a => if S.2 s 11 c a ≠ 0 then S.2 s 13 c a else 0)))), (0, .ref (ad (9, 2 * s + c)))] → W p l e { frames := 1, cells := 0, slots := 0, locals := 13 } st m [.ref (ad (9, 2 * s + c))].toArray below meth cd0 Hi Li 0 0 (MQ below (xw_Qc D tb_cl (fb_ids n) ad (fb_k n ad cI cZ cS cA) (some (.int (nI (pz_kk n (S.2 s) c)))) (fun M' => M' = M)) [.ref (ad (9, 2 * s + c))].toArray st 0 0 (xw_A (fb_ids n) ad)) (F0 m 4 ls []) := by
    intro d
    induction d with
    | zero =>
      intro i Hi Li ls hi hw hl
      refine lv_iload_n Z.1 Z.2.1 md_Cor_latestRound_4 rfl (lv_at hl 0 rfl) ?_
      refine lv_aload_n Z.1 Z.2.1 md_Cor_latestRound_5 rfl (lv_at hl 2 rfl) ?_
      refine xb_get (v := .ref (ad (1, 0))) Z hw (fb_in9 n hs hc) (fb_e9 n ad cI cZ cS cA (2 * s + c)) rfl tb_iCor 1 (by decide) mk_Cor_15 rfl rfl md_Cor_latestRound_6 ?_
      refine xb_get (v := .int (M (1, 0) 0)) Z hw (fb_in1 n) (fb_e1 n ad cI cZ cS cA) rfl tb_iSiz 0 (by decide) mk_Cor_23 rfl rfl md_Cor_latestRound_9 ?_
      refine xi_re (show M (1, 0) 0 = nI (n) from h.1.1) ?_
      refine xi_icmp_ge (tgt := 41) Z md_Cor_latestRound_12 (by decide) (by omega) (by omega) (fun h12 => ?_) (fun h12 => by exfalso; omega)
      refine lv_iload_n Z.1 Z.2.1 md_Cor_latestRound_41 rfl (lv_at hl 1 rfl) ?_
      exact xw_iret Z hr hlk hw md_Cor_latestRound_42 (by rw [show i = n by omega]; rfl) rfl
    | succ d ih =>
      intro i Hi Li ls hi hw hl
      refine lv_iload_n Z.1 Z.2.1 md_Cor_latestRound_4 rfl (lv_at hl 0 rfl) ?_
      refine lv_aload_n Z.1 Z.2.1 md_Cor_latestRound_5 rfl (lv_at hl 2 rfl) ?_
      refine xb_get (v := .ref (ad (1, 0))) Z hw (fb_in9 n hs hc) (fb_e9 n ad cI cZ cS cA (2 * s + c)) rfl tb_iCor 1 (by decide) mk_Cor_15 rfl rfl md_Cor_latestRound_6 ?_
      refine xb_get (v := .int (M (1, 0) 0)) Z hw (fb_in1 n) (fb_e1 n ad cI cZ cS cA) rfl tb_iSiz 0 (by decide) mk_Cor_23 rfl rfl md_Cor_latestRound_9 ?_
      refine xi_re (show M (1, 0) 0 = nI (n) from h.1.1) ?_
      refine xi_icmp_ge (tgt := 41) Z md_Cor_latestRound_12 (by decide) (by omega) (by omega) (fun h12 => by exfalso; omega) (fun h12 => ?_)
      refine lv_aload_n Z.1 Z.2.1 md_Cor_latestRound_15 rfl (lv_at hl 2 rfl) ?_
      refine xb_get (v := .ref (ad (10, 2 * s + c))) Z hw (fb_in9 n hs hc) (fb_e9 n ad cI cZ cS cA (2 * s + c)) rfl tb_iCor 6 (by decide) mk_Cor_28 rfl rfl md_Cor_latestRound_16 ?_
      refine lv_iload_n Z.1 Z.2.1 md_Cor_latestRound_19 rfl (lv_at hl 0 rfl) ?_
      refine xw_zald Z hw (fb_in10 n hs hc) (fb_e10 n ad cI cZ cS cA (2 * s + c)) 1 rfl (i) rfl (by omega) (by omega) md_Cor_latestRound_20 ?_
      refine xi_re (show M (10, 2 * s + c) (i) = nI (S.2 s 11 c i) from ((fr_t h hs hc hx).2 i (by omega)).1) ?_
      have t1 := (T i (by omega)).1
      refine xi_if_eq (tgt := 35) Z md_Cor_latestRound_21 (by decide) (by omega) (fun h21 => ?_) (fun h21 => ?_)
      · refine lv_iinc Z.1 Z.2.1 md_Cor_latestRound_35 hl (k := 0) rfl (xi_inc1 (i)) (by decide) rfl (fun ls hl => ?_)
        have hl : lv_has ls 3 [(2, .int (nI (i + 1))), (1, .int (nI (pz_mx i (fun a => if S.2 s 11 c a ≠ 0 then S.2 s 13 c a else 0)))), (0, .ref (ad (9, 2 * s + c)))] := hl
        refine lv_goto (tgt := 4) Z.1 Z.2.1 md_Cor_latestRound_38 (by decide) ?_
        refine ih (i + 1) _ _ ls (by omega) hw ?_
        first | (rw [show pz_mx (i + 1) (fun a => if S.2 s 11 c a ≠ 0 then S.2 s 13 c a else 0) = if pz_mx i (fun a => if S.2 s 11 c a ≠ 0 then S.2 s 13 c a else 0) < S.2 s 13 c i then S.2 s 13 c i else pz_mx i (fun a => if S.2 s 11 c a ≠ 0 then S.2 s 13 c a else 0) from by simp only [pz_mx]; rw [if_pos (c := S.2 s 11 c i ≠ 0) (by omega)]]; exact lv_sub hl [0, 1, 2] rfl) | (rw [show pz_mx (i + 1) (fun a => if S.2 s 11 c a ≠ 0 then S.2 s 13 c a else 0) = pz_mx i (fun a => if S.2 s 11 c a ≠ 0 then S.2 s 13 c a else 0) from by simp only [pz_mx]; rw [if_neg (c := S.2 s 11 c i ≠ 0) (by omega), if_neg (Nat.not_lt_zero _)]]; exact lv_sub hl [0, 1, 2] rfl)
      · have t2 := (T i (by omega)).2 h21
        have lk := fr_kk_lt T (show i ≤ n by omega)
        refine lv_iload_n Z.1 Z.2.1 md_Cor_latestRound_24 rfl (lv_at hl 1 rfl) ?_
        refine lv_aload_n Z.1 Z.2.1 md_Cor_latestRound_25 rfl (lv_at hl 2 rfl) ?_
        refine xb_get (v := .ref (ad (12, 2 * s + c))) Z hw (fb_in9 n hs hc) (fb_e9 n ad cI cZ cS cA (2 * s + c)) rfl tb_iCor 8 (by decide) mk_Cor_36 rfl rfl md_Cor_latestRound_26 ?_
        refine lv_iload_n Z.1 Z.2.1 md_Cor_latestRound_29 rfl (lv_at hl 0 rfl) ?_
        refine xw_iald Z hw (fb_in12 n hs hc) (fb_e12 n ad cI cZ cS cA (2 * s + c)) 0 rfl (i) rfl (by omega) (by omega) md_Cor_latestRound_30 ?_
        refine xi_re (show M (12, 2 * s + c) (i) = nI (S.2 s 13 c i) from (((fr_t h hs hc hx).2 i (by omega)).2 h21).2) ?_
        refine va_mmax Z.1 Z.2.1 (hml.trans hl.1.symm) Z.2.2.2.1 (Z.2.2.1 _ (List.mem_cons_of_mem _ mk_Cor_135)) (Z.2.2.1 _ (List.mem_cons_of_mem _ mt_max)) (Z.2.2.1 _ (List.mem_cons_of_mem _ mz_Math)) (Z.2.2.1 _ (List.mem_cons_of_mem _ mc_max)) (Nat.le_of_ble_eq_true rfl) (Nat.le_of_ble_eq_true rfl) (Nat.le_refl _) (Nat.le_refl _) md_Cor_latestRound_31 ?_
        refine xi_re (show _ = nI (if pz_mx i (fun a => if S.2 s 11 c a ≠ 0 then S.2 s 13 c a else 0) < S.2 s 13 c i then S.2 s 13 c i else pz_mx i (fun a => if S.2 s 11 c a ≠ 0 then S.2 s 13 c a else 0)) from xi_max lk t2.2) ?_
        refine lv_istore_n Z.1 Z.2.1 md_Cor_latestRound_34 rfl hl (by decide) rfl (fun ls hl => ?_)
        have hl : lv_has ls 3 [(1, .int (nI (if pz_mx i (fun a => if S.2 s 11 c a ≠ 0 then S.2 s 13 c a else 0) < S.2 s 13 c i then S.2 s 13 c i else pz_mx i (fun a => if S.2 s 11 c a ≠ 0 then S.2 s 13 c a else 0)))), (2, .int (nI (i))), (0, .ref (ad (9, 2 * s + c)))] := hl
        refine lv_iinc Z.1 Z.2.1 md_Cor_latestRound_35 hl (k := 1) rfl (xi_inc1 (i)) (by decide) rfl (fun ls hl => ?_)
        have hl : lv_has ls 3 [(2, .int (nI (i + 1))), (1, .int (nI (if pz_mx i (fun a => if S.2 s 11 c a ≠ 0 then S.2 s 13 c a else 0) < S.2 s 13 c i then S.2 s 13 c i else pz_mx i (fun a => if S.2 s 11 c a ≠ 0 then S.2 s 13 c a else 0)))), (0, .ref (ad (9, 2 * s + c)))] := hl
        refine lv_goto (tgt := 4) Z.1 Z.2.1 md_Cor_latestRound_38 (by decide) ?_
        refine ih (i + 1) _ _ ls (by omega) hw ?_
        first | (rw [show pz_mx (i + 1) (fun a => if S.2 s 11 c a ≠ 0 then S.2 s 13 c a else 0) = if pz_mx i (fun a => if S.2 s 11 c a ≠ 0 then S.2 s 13 c a else 0) < S.2 s 13 c i then S.2 s 13 c i else pz_mx i (fun a => if S.2 s 11 c a ≠ 0 then S.2 s 13 c a else 0) from by simp only [pz_mx]; rw [if_pos (c := S.2 s 11 c i ≠ 0) (by omega)]]; exact lv_sub hl [0, 1, 2] rfl) | (rw [show pz_mx (i + 1) (fun a => if S.2 s 11 c a ≠ 0 then S.2 s 13 c a else 0) = pz_mx i (fun a => if S.2 s 11 c a ≠ 0 then S.2 s 13 c a else 0) from by simp only [pz_mx]; rw [if_neg (c := S.2 s 11 c i ≠ 0) (by omega), if_neg (Nat.not_lt_zero _)]]; exact lv_sub hl [0, 1, 2] rfl)
  exact loop4 n (0) _ _ ls (by omega) hw (lv_sub hl [0, 1, 2] rfl)
set_option maxHeartbeats 4000000 in
theorem k_leastIn (l : Launch) (D : va_G) {n : Nat} (ad : Nat × Nat → Nat) (cI cZ cS cA : ClassId) {M : fr_M} {q f : Nat} {S : pz_T} {ex : Nat → Nat → Prop} {s c : Nat} (hn : n ≤ 5) (h : fr_R n q f S ex M) (hs : s < 3) (hc : c < 2) (hx : ¬ ex s c) (T : fr_TB n (S.2 s) c) {r : Nat} (hr2 : r < 2 ^ 31) : fb_C l D n ad cI cZ cS cA my_Cor_leastIn mb_Cor_leastIn 4 (some .int) 1 22 M [.ref (ad (9, 2 * s + c)), .int (nI (r))] (some (.int (nI (pz_ls (S.2 s) c r n)))) (fun M' => M' = M) := by
  refine xw_start [.ref (ad (9, 2 * s + c)), .int (nI (r))] (by decide) (Nat.le_of_ble_eq_true rfl) ?_
  intro p e st m below meth cd0 ls Z hml hr hlk hN hl hw
  have hl : lv_has ls 4 [(0, .ref (ad (9, 2 * s + c))), (1, .int (nI (r)))] := hl
  refine lv_iconst (v := nI 0) Z.1 Z.2.1 md_Cor_leastIn_0 (by decide) ?_
  refine lv_istore_n Z.1 Z.2.1 md_Cor_leastIn_1 rfl hl (by decide) rfl (fun ls hl => ?_)
  have hl : lv_has ls 4 [(2, .int (nI (0))), (0, .ref (ad (9, 2 * s + c))), (1, .int (nI (r)))] := hl
  refine lv_iconst (v := nI 0) Z.1 Z.2.1 md_Cor_leastIn_2 (by decide) ?_
  refine lv_istore_n Z.1 Z.2.1 md_Cor_leastIn_3 rfl hl (by decide) rfl (fun ls hl => ?_)
  have hl : lv_has ls 4 [(3, .int (nI (0))), (2, .int (nI (0))), (0, .ref (ad (9, 2 * s + c))), (1, .int (nI (r)))] := hl
  have loop4 : ∀ (d i : Nat) (Hi : Heap) (Li : List Loc) (ls : Array Slot), i + d = n → xw_H D tb_cl (xw_A (fb_ids n) ad) st.heap (fb_ids n) ad (xw_M (fb_k n ad cI cZ cS cA) M) Hi Li → lv_has ls 4 [(3, .int (nI (i))), (2, .int (nI (pz_ls (S.2 s) c r i))), (0, .ref (ad (9, 2 * s + c))), (1, .int (nI (r)))] → W p l e { frames := 1, cells := 0, slots := 0, locals := 22 } st m [.ref (ad (9, 2 * s + c)), .int (nI (r))].toArray below meth cd0 Hi Li 0 0 (MQ below (xw_Qc D tb_cl (fb_ids n) ad (fb_k n ad cI cZ cS cA) (some (.int (nI (pz_ls (S.2 s) c r n)))) (fun M' => M' = M)) [.ref (ad (9, 2 * s + c)), .int (nI (r))].toArray st 0 0 (xw_A (fb_ids n) ad)) (F0 m 4 ls []) := by
    intro d
    induction d with
    | zero =>
      intro i Hi Li ls hi hw hl
      refine lv_iload_n Z.1 Z.2.1 md_Cor_leastIn_4 rfl (lv_at hl 0 rfl) ?_
      refine lv_aload_n Z.1 Z.2.1 md_Cor_leastIn_5 rfl (lv_at hl 2 rfl) ?_
      refine xb_get (v := .ref (ad (1, 0))) Z hw (fb_in9 n hs hc) (fb_e9 n ad cI cZ cS cA (2 * s + c)) rfl tb_iCor 1 (by decide) mk_Cor_15 rfl rfl md_Cor_leastIn_6 ?_
      refine xb_get (v := .int (M (1, 0) 0)) Z hw (fb_in1 n) (fb_e1 n ad cI cZ cS cA) rfl tb_iSiz 0 (by decide) mk_Cor_23 rfl rfl md_Cor_leastIn_9 ?_
      refine xi_re (show M (1, 0) 0 = nI (n) from h.1.1) ?_
      refine xi_icmp_ge (tgt := 51) Z md_Cor_leastIn_12 (by decide) (by omega) (by omega) (fun h12 => ?_) (fun h12 => by exfalso; omega)
      refine lv_iload_n Z.1 Z.2.1 md_Cor_leastIn_51 rfl (lv_at hl 1 rfl) ?_
      exact xw_iret Z hr hlk hw md_Cor_leastIn_52 (by rw [show i = n by omega]) rfl
    | succ d ih =>
      intro i Hi Li ls hi hw hl
      refine lv_iload_n Z.1 Z.2.1 md_Cor_leastIn_4 rfl (lv_at hl 0 rfl) ?_
      refine lv_aload_n Z.1 Z.2.1 md_Cor_leastIn_5 rfl (lv_at hl 2 rfl) ?_
      refine xb_get (v := .ref (ad (1, 0))) Z hw (fb_in9 n hs hc) (fb_e9 n ad cI cZ cS cA (2 * s + c)) rfl tb_iCor 1 (by decide) mk_Cor_15 rfl rfl md_Cor_leastIn_6 ?_
      refine xb_get (v := .int (M (1, 0) 0)) Z hw (fb_in1 n) (fb_e1 n ad cI cZ cS cA) rfl tb_iSiz 0 (by decide) mk_Cor_23 rfl rfl md_Cor_leastIn_9 ?_
      refine xi_re (show M (1, 0) 0 = nI (n) from h.1.1) ?_
      refine xi_icmp_ge (tgt := 51) Z md_Cor_leastIn_12 (by decide) (by omega) (by omega) (fun h12 => by exfalso; omega) (fun h12 => ?_)
      refine lv_aload_n Z.1 Z.2.1 md_Cor_leastIn_15 rfl (lv_at hl 2 rfl) ?_
      refine lv_iload_n Z.1 Z.2.1 md_Cor_leastIn_16 rfl (lv_at hl 0 rfl) ?_
      refine lv_iload_n Z.1 Z.2.1 md_Cor_leastIn_17 rfl (lv_at hl 3 rfl) ?_
      refine xw_cV (n := 2) (rest := []) Z hml hl.1 hN hw (k_votedIn (a := i) (r := r) l D ad cI cZ cS cA hn h hs hc hx T (by omega) hr2) tb_g mc_Cor_votedIn mk_Cor_127 mi_Cor_votedIn ms_Cor_votedIn mz_Cor ⟨by decide, by decide, by decide +kernel⟩ ⟨Nat.le_of_ble_eq_true rfl, Nat.le_of_ble_eq_true rfl⟩ (fb_in9 n hs hc) (fb_e9 n ad cI cZ cS cA (2 * s + c) _) rfl rfl rfl rfl (Nat.le_of_ble_eq_true rfl) ⟨Nat.le_refl _, Nat.le_refl _⟩ md_Cor_leastIn_18 (fun M1 H1 locs1 e1 hw => ?_)
      have ey1 := e1.symm
      subst ey1
      refine W.eq (g2 := F0 m 21 ls [.int (nI (if S.2 s 11 c i ≠ 0 ∧ S.2 s 13 c i = r then 1 else 0))]) rfl ?_
      have lv : (if S.2 s 11 c i ≠ 0 ∧ S.2 s 13 c i = r then 1 else 0) < 2 := by split <;> omega
      have ll := fr_ls_lt (r := r) T (show i ≤ n by omega)
      refine xi_if_eq (tgt := 45) Z md_Cor_leastIn_21 (by decide) (by omega) (fun h21 => ?_) (fun h21 => ?_)
      · refine lv_iinc Z.1 Z.2.1 md_Cor_leastIn_45 hl (k := 0) rfl (xi_inc1 (i)) (by decide) rfl (fun ls hl => ?_)
        have hl : lv_has ls 4 [(3, .int (nI (i + 1))), (2, .int (nI (pz_ls (S.2 s) c r i))), (0, .ref (ad (9, 2 * s + c))), (1, .int (nI (r)))] := hl
        refine lv_goto (tgt := 4) Z.1 Z.2.1 md_Cor_leastIn_48 (by decide) ?_
        try have vn : ¬ (S.2 s 11 c i ≠ 0 ∧ S.2 s 13 c i = r) := (fun y => by rw [if_pos y] at h21; exact absurd h21 (by decide))
        refine ih (i + 1) _ _ ls (by omega) hw ?_
        first | (rw [show pz_ls (S.2 s) c r (i + 1) = S.2 s 12 c i from by simp only [pz_ls]; rw [if_pos (by omega)]]; exact lv_sub hl [0, 1, 2, 3] rfl) | (rw [show pz_ls (S.2 s) c r (i + 1) = pz_ls (S.2 s) c r i from by simp only [pz_ls]; rw [if_neg (by omega)]]; exact lv_sub hl [0, 1, 2, 3] rfl)
      · have vi : S.2 s 11 c i ≠ 0 ∧ S.2 s 13 c i = r := by
          by_cases z : S.2 s 11 c i ≠ 0 ∧ S.2 s 13 c i = r
          · exact z
          · rw [if_neg z] at h21; exact absurd rfl h21
        have t2 := (T i (by omega)).2 vi.1
        refine lv_iload_n Z.1 Z.2.1 md_Cor_leastIn_24 rfl (lv_at hl 1 rfl) ?_
        refine xi_if_eq (tgt := 38) Z md_Cor_leastIn_25 (by decide) (by omega) (fun h25 => ?_) (fun h25 => ?_)
        · refine lv_aload_n Z.1 Z.2.1 md_Cor_leastIn_38 rfl (lv_at hl 2 rfl) ?_
          refine xb_get (v := .ref (ad (11, 2 * s + c))) Z hw (fb_in9 n hs hc) (fb_e9 n ad cI cZ cS cA (2 * s + c)) rfl tb_iCor 7 (by decide) mk_Cor_32 rfl rfl md_Cor_leastIn_39 ?_
          refine lv_iload_n Z.1 Z.2.1 md_Cor_leastIn_42 rfl (lv_at hl 0 rfl) ?_
          refine xw_iald Z hw (fb_in11 n hs hc) (fb_e11 n ad cI cZ cS cA (2 * s + c)) 0 rfl (i) rfl (by omega) (by omega) md_Cor_leastIn_43 ?_
          refine xi_re (show M (11, 2 * s + c) (i) = nI (S.2 s 12 c i) from ((fr_t h hs hc hx).2 i (by omega)).2 vi.1 |>.1) ?_
          refine lv_istore_n Z.1 Z.2.1 md_Cor_leastIn_44 rfl hl (by decide) rfl (fun ls hl => ?_)
          have hl : lv_has ls 4 [(2, .int (nI (S.2 s 12 c i))), (3, .int (nI (i))), (0, .ref (ad (9, 2 * s + c))), (1, .int (nI (r)))] := hl
          refine lv_iinc Z.1 Z.2.1 md_Cor_leastIn_45 hl (k := 1) rfl (xi_inc1 (i)) (by decide) rfl (fun ls hl => ?_)
          have hl : lv_has ls 4 [(3, .int (nI (i + 1))), (2, .int (nI (S.2 s 12 c i))), (0, .ref (ad (9, 2 * s + c))), (1, .int (nI (r)))] := hl
          refine lv_goto (tgt := 4) Z.1 Z.2.1 md_Cor_leastIn_48 (by decide) ?_
          try have vn : ¬ (S.2 s 11 c i ≠ 0 ∧ S.2 s 13 c i = r) := (fun y => by rw [if_pos y] at h21; exact absurd h21 (by decide))
          refine ih (i + 1) _ _ ls (by omega) hw ?_
          first | (rw [show pz_ls (S.2 s) c r (i + 1) = S.2 s 12 c i from by simp only [pz_ls]; rw [if_pos (by omega)]]; exact lv_sub hl [0, 1, 2, 3] rfl) | (rw [show pz_ls (S.2 s) c r (i + 1) = pz_ls (S.2 s) c r i from by simp only [pz_ls]; rw [if_neg (by omega)]]; exact lv_sub hl [0, 1, 2, 3] rfl)
        · refine lv_aload_n Z.1 Z.2.1 md_Cor_leastIn_28 rfl (lv_at hl 2 rfl) ?_
          refine xb_get (v := .ref (ad (11, 2 * s + c))) Z hw (fb_in9 n hs hc) (fb_e9 n ad cI cZ cS cA (2 * s + c)) rfl tb_iCor 7 (by decide) mk_Cor_32 rfl rfl md_Cor_leastIn_29 ?_
          refine lv_iload_n Z.1 Z.2.1 md_Cor_leastIn_32 rfl (lv_at hl 0 rfl) ?_
          refine xw_iald Z hw (fb_in11 n hs hc) (fb_e11 n ad cI cZ cS cA (2 * s + c)) 0 rfl (i) rfl (by omega) (by omega) md_Cor_leastIn_33 ?_
          refine xi_re (show M (11, 2 * s + c) (i) = nI (S.2 s 12 c i) from ((fr_t h hs hc hx).2 i (by omega)).2 vi.1 |>.1) ?_
          refine lv_iload_n Z.1 Z.2.1 md_Cor_leastIn_34 rfl (lv_at hl 1 rfl) ?_
          refine xi_icmp_ge (tgt := 45) Z md_Cor_leastIn_35 (by decide) (by omega) (by omega) (fun h35 => ?_) (fun h35 => ?_)
          · refine lv_iinc Z.1 Z.2.1 md_Cor_leastIn_45 hl (k := 0) rfl (xi_inc1 (i)) (by decide) rfl (fun ls hl => ?_)
            have hl : lv_has ls 4 [(3, .int (nI (i + 1))), (2, .int (nI (pz_ls (S.2 s) c r i))), (0, .ref (ad (9, 2 * s + c))), (1, .int (nI (r)))] := hl
            refine lv_goto (tgt := 4) Z.1 Z.2.1 md_Cor_leastIn_48 (by decide) ?_
            try have vn : ¬ (S.2 s 11 c i ≠ 0 ∧ S.2 s 13 c i = r) := (fun y => by rw [if_pos y] at h21; exact absurd h21 (by decide))
            refine ih (i + 1) _ _ ls (by omega) hw ?_
            first | (rw [show pz_ls (S.2 s) c r (i + 1) = S.2 s 12 c i from by simp only [pz_ls]; rw [if_pos (by omega)]]; exact lv_sub hl [0, 1, 2, 3] rfl) | (rw [show pz_ls (S.2 s) c r (i + 1) = pz_ls (S.2 s) c r i from by simp only [pz_ls]; rw [if_neg (by omega)]]; exact lv_sub hl [0, 1, 2, 3] rfl)
          · refine lv_aload_n Z.1 Z.2.1 md_Cor_leastIn_38 rfl (lv_at hl 2 rfl) ?_
            refine xb_get (v := .ref (ad (11, 2 * s + c))) Z hw (fb_in9 n hs hc) (fb_e9 n ad cI cZ cS cA (2 * s + c)) rfl tb_iCor 7 (by decide) mk_Cor_32 rfl rfl md_Cor_leastIn_39 ?_
            refine lv_iload_n Z.1 Z.2.1 md_Cor_leastIn_42 rfl (lv_at hl 0 rfl) ?_
            refine xw_iald Z hw (fb_in11 n hs hc) (fb_e11 n ad cI cZ cS cA (2 * s + c)) 0 rfl (i) rfl (by omega) (by omega) md_Cor_leastIn_43 ?_
            refine xi_re (show M (11, 2 * s + c) (i) = nI (S.2 s 12 c i) from ((fr_t h hs hc hx).2 i (by omega)).2 vi.1 |>.1) ?_
            refine lv_istore_n Z.1 Z.2.1 md_Cor_leastIn_44 rfl hl (by decide) rfl (fun ls hl => ?_)
            have hl : lv_has ls 4 [(2, .int (nI (S.2 s 12 c i))), (3, .int (nI (i))), (0, .ref (ad (9, 2 * s + c))), (1, .int (nI (r)))] := hl
            refine lv_iinc Z.1 Z.2.1 md_Cor_leastIn_45 hl (k := 1) rfl (xi_inc1 (i)) (by decide) rfl (fun ls hl => ?_)
            have hl : lv_has ls 4 [(3, .int (nI (i + 1))), (2, .int (nI (S.2 s 12 c i))), (0, .ref (ad (9, 2 * s + c))), (1, .int (nI (r)))] := hl
            refine lv_goto (tgt := 4) Z.1 Z.2.1 md_Cor_leastIn_48 (by decide) ?_
            try have vn : ¬ (S.2 s 11 c i ≠ 0 ∧ S.2 s 13 c i = r) := (fun y => by rw [if_pos y] at h21; exact absurd h21 (by decide))
            refine ih (i + 1) _ _ ls (by omega) hw ?_
            first | (rw [show pz_ls (S.2 s) c r (i + 1) = S.2 s 12 c i from by simp only [pz_ls]; rw [if_pos (by omega)]]; exact lv_sub hl [0, 1, 2, 3] rfl) | (rw [show pz_ls (S.2 s) c r (i + 1) = pz_ls (S.2 s) c r i from by simp only [pz_ls]; rw [if_neg (by omega)]]; exact lv_sub hl [0, 1, 2, 3] rfl)
  exact loop4 n (0) _ _ ls (by omega) hw (lv_sub hl [0, 1, 2, 3] rfl)
set_option maxHeartbeats 4000000 in
theorem k_mostIn (l : Launch) (D : va_G) {n : Nat} (ad : Nat × Nat → Nat) (cI cZ cS cA : ClassId) {M : fr_M} {q f : Nat} {S : pz_T} {ex : Nat → Nat → Prop} {s c : Nat} (hn : n ≤ 5) (h : fr_R n q f S ex M) (hs : s < 3) (hc : c < 2) (hx : ¬ ex s c) (T : fr_TB n (S.2 s) c) {r : Nat} (hr2 : r < 2 ^ 31) : fb_C l D n ad cI cZ cS cA my_Cor_mostIn mb_Cor_mostIn 4 (some .int) 2 46 M [.ref (ad (9, 2 * s + c)), .int (nI (r))] (some (.int (nI (pz_mo n (S.2 s) c r)))) (fun M' => M' = M) := by
  refine xw_start [.ref (ad (9, 2 * s + c)), .int (nI (r))] (by decide) (Nat.le_of_ble_eq_true rfl) ?_
  intro p e st m below meth cd0 ls Z hml hr hlk hN hl hw
  have hl : lv_has ls 4 [(0, .ref (ad (9, 2 * s + c))), (1, .int (nI (r)))] := hl
  refine lv_iconst (v := nI 0) Z.1 Z.2.1 md_Cor_mostIn_0 (by decide) ?_
  refine lv_istore_n Z.1 Z.2.1 md_Cor_mostIn_1 rfl hl (by decide) rfl (fun ls hl => ?_)
  have hl : lv_has ls 4 [(2, .int (nI (0))), (0, .ref (ad (9, 2 * s + c))), (1, .int (nI (r)))] := hl
  refine lv_iconst (v := nI 0) Z.1 Z.2.1 md_Cor_mostIn_2 (by decide) ?_
  refine lv_istore_n Z.1 Z.2.1 md_Cor_mostIn_3 rfl hl (by decide) rfl (fun ls hl => ?_)
  have hl : lv_has ls 4 [(3, .int (nI (0))), (2, .int (nI (0))), (0, .ref (ad (9, 2 * s + c))), (1, .int (nI (r)))] := hl
  have loop4 : ∀ (d i : Nat) (Hi : Heap) (Li : List Loc) (ls : Array Slot), i + d = n → xw_H D tb_cl (xw_A (fb_ids n) ad) st.heap (fb_ids n) ad (xw_M (fb_k n ad cI cZ cS cA) M) Hi Li → lv_has ls 4 [(3, .int (nI (i))), (2, .int (nI (pz_mx i (fun a => if S.2 s 11 c a ≠ 0 ∧ S.2 s 13 c a = r then pz_tf n (S.2 s) c r (S.2 s 12 c a) else 0)))), (0, .ref (ad (9, 2 * s + c))), (1, .int (nI (r)))] → W p l e { frames := 2, cells := 0, slots := 0, locals := 46 } st m [.ref (ad (9, 2 * s + c)), .int (nI (r))].toArray below meth cd0 Hi Li 0 0 (MQ below (xw_Qc D tb_cl (fb_ids n) ad (fb_k n ad cI cZ cS cA) (some (.int (nI (pz_mo n (S.2 s) c r)))) (fun M' => M' = M)) [.ref (ad (9, 2 * s + c)), .int (nI (r))].toArray st 0 0 (xw_A (fb_ids n) ad)) (F0 m 4 ls []) := by
    intro d
    induction d with
    | zero =>
      intro i Hi Li ls hi hw hl
      refine lv_iload_n Z.1 Z.2.1 md_Cor_mostIn_4 rfl (lv_at hl 0 rfl) ?_
      refine lv_aload_n Z.1 Z.2.1 md_Cor_mostIn_5 rfl (lv_at hl 2 rfl) ?_
      refine xb_get (v := .ref (ad (1, 0))) Z hw (fb_in9 n hs hc) (fb_e9 n ad cI cZ cS cA (2 * s + c)) rfl tb_iCor 1 (by decide) mk_Cor_15 rfl rfl md_Cor_mostIn_6 ?_
      refine xb_get (v := .int (M (1, 0) 0)) Z hw (fb_in1 n) (fb_e1 n ad cI cZ cS cA) rfl tb_iSiz 0 (by decide) mk_Cor_23 rfl rfl md_Cor_mostIn_9 ?_
      refine xi_re (show M (1, 0) 0 = nI (n) from h.1.1) ?_
      refine xi_icmp_ge (tgt := 46) Z md_Cor_mostIn_12 (by decide) (by omega) (by omega) (fun h12 => ?_) (fun h12 => by exfalso; omega)
      refine lv_iload_n Z.1 Z.2.1 md_Cor_mostIn_46 rfl (lv_at hl 1 rfl) ?_
      exact xw_iret Z hr hlk hw md_Cor_mostIn_47 (by rw [show i = n by omega]; rfl) rfl
    | succ d ih =>
      intro i Hi Li ls hi hw hl
      refine lv_iload_n Z.1 Z.2.1 md_Cor_mostIn_4 rfl (lv_at hl 0 rfl) ?_
      refine lv_aload_n Z.1 Z.2.1 md_Cor_mostIn_5 rfl (lv_at hl 2 rfl) ?_
      refine xb_get (v := .ref (ad (1, 0))) Z hw (fb_in9 n hs hc) (fb_e9 n ad cI cZ cS cA (2 * s + c)) rfl tb_iCor 1 (by decide) mk_Cor_15 rfl rfl md_Cor_mostIn_6 ?_
      refine xb_get (v := .int (M (1, 0) 0)) Z hw (fb_in1 n) (fb_e1 n ad cI cZ cS cA) rfl tb_iSiz 0 (by decide) mk_Cor_23 rfl rfl md_Cor_mostIn_9 ?_
      refine xi_re (show M (1, 0) 0 = nI (n) from h.1.1) ?_
      refine xi_icmp_ge (tgt := 46) Z md_Cor_mostIn_12 (by decide) (by omega) (by omega) (fun h12 => by exfalso; omega) (fun h12 => ?_)
      refine lv_aload_n Z.1 Z.2.1 md_Cor_mostIn_15 rfl (lv_at hl 2 rfl) ?_
      refine lv_iload_n Z.1 Z.2.1 md_Cor_mostIn_16 rfl (lv_at hl 0 rfl) ?_
      refine lv_iload_n Z.1 Z.2.1 md_Cor_mostIn_17 rfl (lv_at hl 3 rfl) ?_
      refine xw_cV (n := 2) (rest := []) Z hml hl.1 hN hw (k_votedIn (a := i) (r := r) l D ad cI cZ cS cA hn h hs hc hx T (by omega) hr2) tb_g mc_Cor_votedIn mk_Cor_127 mi_Cor_votedIn ms_Cor_votedIn mz_Cor ⟨by decide, by decide, by decide +kernel⟩ ⟨Nat.le_of_ble_eq_true rfl, Nat.le_of_ble_eq_true rfl⟩ (fb_in9 n hs hc) (fb_e9 n ad cI cZ cS cA (2 * s + c) _) rfl rfl rfl rfl (Nat.le_of_ble_eq_true rfl) ⟨Nat.le_refl _, Nat.le_refl _⟩ md_Cor_mostIn_18 (fun M1 H1 locs1 e1 hw => ?_)
      have ey1 := e1.symm
      subst ey1
      refine W.eq (g2 := F0 m 21 ls [.int (nI (if S.2 s 11 c i ≠ 0 ∧ S.2 s 13 c i = r then 1 else 0))]) rfl ?_
      have lv : (if S.2 s 11 c i ≠ 0 ∧ S.2 s 13 c i = r then 1 else 0) < 2 := by split <;> omega
      refine xi_if_eq (tgt := 40) Z md_Cor_mostIn_21 (by decide) (by omega) (fun h21 => ?_) (fun h21 => ?_)
      · refine lv_iinc Z.1 Z.2.1 md_Cor_mostIn_40 hl (k := 0) rfl (xi_inc1 (i)) (by decide) rfl (fun ls hl => ?_)
        have hl : lv_has ls 4 [(3, .int (nI (i + 1))), (2, .int (nI (pz_mx i (fun a => if S.2 s 11 c a ≠ 0 ∧ S.2 s 13 c a = r then pz_tf n (S.2 s) c r (S.2 s 12 c a) else 0)))), (0, .ref (ad (9, 2 * s + c))), (1, .int (nI (r)))] := hl
        refine lv_goto (tgt := 4) Z.1 Z.2.1 md_Cor_mostIn_43 (by decide) ?_
        try have vn : ¬ (S.2 s 11 c i ≠ 0 ∧ S.2 s 13 c i = r) := (fun y => by rw [if_pos y] at h21; exact absurd h21 (by decide))
        refine ih (i + 1) _ _ ls (by omega) hw ?_
        first | (rw [show pz_mx (i + 1) (fun a => if S.2 s 11 c a ≠ 0 ∧ S.2 s 13 c a = r then pz_tf n (S.2 s) c r (S.2 s 12 c a) else 0) = if pz_mx i (fun a => if S.2 s 11 c a ≠ 0 ∧ S.2 s 13 c a = r then pz_tf n (S.2 s) c r (S.2 s 12 c a) else 0) < pz_tf n (S.2 s) c r (S.2 s 12 c i) then pz_tf n (S.2 s) c r (S.2 s 12 c i) else pz_mx i (fun a => if S.2 s 11 c a ≠ 0 ∧ S.2 s 13 c a = r then pz_tf n (S.2 s) c r (S.2 s 12 c a) else 0) from by simp only [pz_mx]; rw [if_pos (c := S.2 s 11 c i ≠ 0 ∧ S.2 s 13 c i = r) (by omega)]]; exact lv_sub hl [0, 1, 2, 3] rfl) | (rw [show pz_mx (i + 1) (fun a => if S.2 s 11 c a ≠ 0 ∧ S.2 s 13 c a = r then pz_tf n (S.2 s) c r (S.2 s 12 c a) else 0) = pz_mx i (fun a => if S.2 s 11 c a ≠ 0 ∧ S.2 s 13 c a = r then pz_tf n (S.2 s) c r (S.2 s 12 c a) else 0) from by simp only [pz_mx]; rw [if_neg (c := S.2 s 11 c i ≠ 0 ∧ S.2 s 13 c i = r) (by omega), if_neg (Nat.not_lt_zero _)]]; exact lv_sub hl [0, 1, 2, 3] rfl)
      · have vi : S.2 s 11 c i ≠ 0 ∧ S.2 s 13 c i = r := by
          by_cases z : S.2 s 11 c i ≠ 0 ∧ S.2 s 13 c i = r
          · exact z
          · rw [if_neg z] at h21; exact absurd rfl h21
        have t2 := (T i (by omega)).2 vi.1
        refine lv_iload_n Z.1 Z.2.1 md_Cor_mostIn_24 rfl (lv_at hl 1 rfl) ?_
        refine lv_aload_n Z.1 Z.2.1 md_Cor_mostIn_25 rfl (lv_at hl 2 rfl) ?_
        refine lv_iload_n Z.1 Z.2.1 md_Cor_mostIn_26 rfl (lv_at hl 3 rfl) ?_
        refine lv_aload_n Z.1 Z.2.1 md_Cor_mostIn_27 rfl (lv_at hl 2 rfl) ?_
        refine xb_get (v := .ref (ad (11, 2 * s + c))) Z hw (fb_in9 n hs hc) (fb_e9 n ad cI cZ cS cA (2 * s + c)) rfl tb_iCor 7 (by decide) mk_Cor_32 rfl rfl md_Cor_mostIn_28 ?_
        refine lv_iload_n Z.1 Z.2.1 md_Cor_mostIn_31 rfl (lv_at hl 0 rfl) ?_
        refine xw_iald Z hw (fb_in11 n hs hc) (fb_e11 n ad cI cZ cS cA (2 * s + c)) 0 rfl (i) rfl (by omega) (by omega) md_Cor_mostIn_32 ?_
        refine xi_re (show M (11, 2 * s + c) (i) = nI (S.2 s 12 c i) from ((fr_t h hs hc hx).2 i (by omega)).2 vi.1 |>.1) ?_
        refine xw_cV (n := 2) (rest := [.int (nI (pz_mx i (fun a => if S.2 s 11 c a ≠ 0 ∧ S.2 s 13 c a = r then pz_tf n (S.2 s) c r (S.2 s 12 c a) else 0)))]) Z hml hl.1 hN hw (k_tallyIn (r := r) (v := S.2 s 12 c i) l D ad cI cZ cS cA hn h hs hc hx T hr2 t2.1) tb_g mc_Cor_tallyIn mk_Cor_131 mi_Cor_tallyIn ms_Cor_tallyIn mz_Cor ⟨by decide, by decide, by decide +kernel⟩ ⟨Nat.le_of_ble_eq_true rfl, Nat.le_of_ble_eq_true rfl⟩ (fb_in9 n hs hc) (fb_e9 n ad cI cZ cS cA (2 * s + c) _) rfl rfl rfl rfl (Nat.le_of_ble_eq_true rfl) ⟨Nat.le_refl _, Nat.le_refl _⟩ md_Cor_mostIn_33 (fun M2 H2 locs2 e2 hw => ?_)
        have ey2 := e2.symm
        subst ey2
        refine W.eq (g2 := F0 m 36 ls [.int (nI (pz_tf n (S.2 s) c r (S.2 s 12 c i))), .int (nI (pz_mx i (fun a => if S.2 s 11 c a ≠ 0 ∧ S.2 s 13 c a = r then pz_tf n (S.2 s) c r (S.2 s 12 c a) else 0)))]) rfl ?_
        refine va_mmax Z.1 Z.2.1 (hml.trans hl.1.symm) Z.2.2.2.1 (Z.2.2.1 _ (List.mem_cons_of_mem _ mk_Cor_135)) (Z.2.2.1 _ (List.mem_cons_of_mem _ mt_max)) (Z.2.2.1 _ (List.mem_cons_of_mem _ mz_Math)) (Z.2.2.1 _ (List.mem_cons_of_mem _ mc_max)) (Nat.le_of_ble_eq_true rfl) (Nat.le_of_ble_eq_true rfl) (Nat.le_refl _) (Nat.le_refl _) md_Cor_mostIn_36 ?_
        refine xi_re (show _ = nI (if pz_mx i (fun a => if S.2 s 11 c a ≠ 0 ∧ S.2 s 13 c a = r then pz_tf n (S.2 s) c r (S.2 s 12 c a) else 0) < pz_tf n (S.2 s) c r (S.2 s 12 c i) then pz_tf n (S.2 s) c r (S.2 s 12 c i) else pz_mx i (fun a => if S.2 s 11 c a ≠ 0 ∧ S.2 s 13 c a = r then pz_tf n (S.2 s) c r (S.2 s 12 c a) else 0)) from xi_max (Nat.lt_of_le_of_lt (pz_mx_le (b := n) i (fun a _ => by split <;> first | exact pz_tf_le | omega)) (by omega)) (Nat.lt_of_le_of_lt pz_tf_le (by omega))) ?_
        refine lv_istore_n Z.1 Z.2.1 md_Cor_mostIn_39 rfl hl (by decide) rfl (fun ls hl => ?_)
        have hl : lv_has ls 4 [(2, .int (nI (if pz_mx i (fun a => if S.2 s 11 c a ≠ 0 ∧ S.2 s 13 c a = r then pz_tf n (S.2 s) c r (S.2 s 12 c a) else 0) < pz_tf n (S.2 s) c r (S.2 s 12 c i) then pz_tf n (S.2 s) c r (S.2 s 12 c i) else pz_mx i (fun a => if S.2 s 11 c a ≠ 0 ∧ S.2 s 13 c a = r then pz_tf n (S.2 s) c r (S.2 s 12 c a) else 0)))), (3, .int (nI (i))), (0, .ref (ad (9, 2 * s + c))), (1, .int (nI (r)))] := hl
        refine lv_iinc Z.1 Z.2.1 md_Cor_mostIn_40 hl (k := 1) rfl (xi_inc1 (i)) (by decide) rfl (fun ls hl => ?_)
        have hl : lv_has ls 4 [(3, .int (nI (i + 1))), (2, .int (nI (if pz_mx i (fun a => if S.2 s 11 c a ≠ 0 ∧ S.2 s 13 c a = r then pz_tf n (S.2 s) c r (S.2 s 12 c a) else 0) < pz_tf n (S.2 s) c r (S.2 s 12 c i) then pz_tf n (S.2 s) c r (S.2 s 12 c i) else pz_mx i (fun a => if S.2 s 11 c a ≠ 0 ∧ S.2 s 13 c a = r then pz_tf n (S.2 s) c r (S.2 s 12 c a) else 0)))), (0, .ref (ad (9, 2 * s + c))), (1, .int (nI (r)))] := hl
        refine lv_goto (tgt := 4) Z.1 Z.2.1 md_Cor_mostIn_43 (by decide) ?_
        try have vn : ¬ (S.2 s 11 c i ≠ 0 ∧ S.2 s 13 c i = r) := (fun y => by rw [if_pos y] at h21; exact absurd h21 (by decide))
        refine ih (i + 1) _ _ ls (by omega) hw ?_
        first | (rw [show pz_mx (i + 1) (fun a => if S.2 s 11 c a ≠ 0 ∧ S.2 s 13 c a = r then pz_tf n (S.2 s) c r (S.2 s 12 c a) else 0) = if pz_mx i (fun a => if S.2 s 11 c a ≠ 0 ∧ S.2 s 13 c a = r then pz_tf n (S.2 s) c r (S.2 s 12 c a) else 0) < pz_tf n (S.2 s) c r (S.2 s 12 c i) then pz_tf n (S.2 s) c r (S.2 s 12 c i) else pz_mx i (fun a => if S.2 s 11 c a ≠ 0 ∧ S.2 s 13 c a = r then pz_tf n (S.2 s) c r (S.2 s 12 c a) else 0) from by simp only [pz_mx]; rw [if_pos (c := S.2 s 11 c i ≠ 0 ∧ S.2 s 13 c i = r) (by omega)]]; exact lv_sub hl [0, 1, 2, 3] rfl) | (rw [show pz_mx (i + 1) (fun a => if S.2 s 11 c a ≠ 0 ∧ S.2 s 13 c a = r then pz_tf n (S.2 s) c r (S.2 s 12 c a) else 0) = pz_mx i (fun a => if S.2 s 11 c a ≠ 0 ∧ S.2 s 13 c a = r then pz_tf n (S.2 s) c r (S.2 s 12 c a) else 0) from by simp only [pz_mx]; rw [if_neg (c := S.2 s 11 c i ≠ 0 ∧ S.2 s 13 c i = r) (by omega), if_neg (Nat.not_lt_zero _)]]; exact lv_sub hl [0, 1, 2, 3] rfl)
  exact loop4 n (0) _ _ ls (by omega) hw (lv_sub hl [0, 1, 2, 3] rfl)
set_option maxHeartbeats 4000000 in
theorem k_canStill (l : Launch) (D : va_G) {n : Nat} (ad : Nat × Nat → Nat) (cI cZ cS cA : ClassId) {M : fr_M} {q f : Nat} {S : pz_T} {ex : Nat → Nat → Prop} {s c : Nat} (hn : n ≤ 5) (h : fr_R n q f S ex M) (hs : s < 3) (hc : c < 2) (hx : ¬ ex s c) (T : fr_TB n (S.2 s) c) (hf5 : f ≤ 5) (h8 : S.2 s 8 c 0 < 2 ^ 31) : fb_C l D n ad cI cZ cS cA my_Cor_canStillBeChosen mb_Cor_canStillBeChosen 2 (some .boolean) 3 69 M [.ref (ad (9, 2 * s + c))] (some (.int (nI (if f + pz_te n (S.2 s) c ≤ pz_mo n (S.2 s) c (S.2 s 8 c 0) + n then 1 else 0)))) (fun M' => M' = M) := by
  have lt := pz_te_le (fun a ha => (T a ha).1)
  refine xw_start [.ref (ad (9, 2 * s + c))] (by decide) (Nat.le_of_ble_eq_true rfl) ?_
  intro p e st m below meth cd0 ls Z hml hr hlk hN hl hw
  have hl : lv_has ls 2 [(0, .ref (ad (9, 2 * s + c)))] := hl
  refine lv_aload_n Z.1 Z.2.1 md_Cor_canStillBeChosen_0 rfl (lv_at hl 0 rfl) ?_
  refine xb_get (v := .ref (ad (1, 0))) Z hw (fb_in9 n hs hc) (fb_e9 n ad cI cZ cS cA (2 * s + c)) rfl tb_iCor 1 (by decide) mk_Cor_15 rfl rfl md_Cor_canStillBeChosen_1 ?_
  refine xb_get (v := .int (M (1, 0) 0)) Z hw (fb_in1 n) (fb_e1 n ad cI cZ cS cA) rfl tb_iSiz 0 (by decide) mk_Cor_23 rfl rfl md_Cor_canStillBeChosen_4 ?_
  refine xi_re (show M (1, 0) 0 = nI (n) from h.1.1) ?_
  refine lv_aload_n Z.1 Z.2.1 md_Cor_canStillBeChosen_7 rfl (lv_at hl 0 rfl) ?_
  refine xb_get (v := .int (M (9, 2 * s + c) 9)) Z hw (fb_in9 n hs hc) (fb_e9 n ad cI cZ cS cA (2 * s + c)) rfl tb_iCor 9 (by decide) mk_Cor_90 rfl rfl md_Cor_canStillBeChosen_8 ?_
  refine xi_re (show M (9, 2 * s + c) 9 = nI (pz_te n (S.2 s) c) from (fr_t h hs hc hx).1) ?_
  refine xi_sub Z md_Cor_canStillBeChosen_11 (by omega) ?_
  refine lv_istore_n Z.1 Z.2.1 md_Cor_canStillBeChosen_12 rfl hl (by decide) rfl (fun ls hl => ?_)
  have hl : lv_has ls 2 [(1, .int (nI (n - (pz_te n (S.2 s) c)))), (0, .ref (ad (9, 2 * s + c)))] := hl
  refine lv_aload_n Z.1 Z.2.1 md_Cor_canStillBeChosen_13 rfl (lv_at hl 1 rfl) ?_
  refine lv_aload_n Z.1 Z.2.1 md_Cor_canStillBeChosen_14 rfl (lv_at hl 1 rfl) ?_
  refine xb_get (v := .int (M (9, 2 * s + c) 3)) Z hw (fb_in9 n hs hc) (fb_e9 n ad cI cZ cS cA (2 * s + c)) rfl tb_iCor 3 (by decide) mk_Cor_39 rfl rfl md_Cor_canStillBeChosen_15 ?_
  refine xi_re (show M (9, 2 * s + c) 3 = nI (S.2 s 8 c 0) from (fr_c h hs hc).2.1) ?_
  refine xw_cV (n := 1) (rest := []) Z hml hl.1 hN hw (k_mostIn (r := S.2 s 8 c 0) l D ad cI cZ cS cA hn h hs hc hx T h8) tb_g mc_Cor_mostIn mk_Cor_115 mi_Cor_mostIn ms_Cor_mostIn mz_Cor ⟨by decide, by decide, by decide +kernel⟩ ⟨Nat.le_of_ble_eq_true rfl, Nat.le_of_ble_eq_true rfl⟩ (fb_in9 n hs hc) (fb_e9 n ad cI cZ cS cA (2 * s + c) _) rfl rfl rfl rfl (Nat.le_of_ble_eq_true rfl) ⟨Nat.le_refl _, Nat.le_refl _⟩ md_Cor_canStillBeChosen_18 (fun M1 H1 locs1 e1 hw => ?_)
  have ey1 := e1.symm
  subst ey1
  refine W.eq (g2 := F0 m 21 ls [.int (nI (pz_mo n (S.2 s) c (S.2 s 8 c 0)))]) rfl ?_
  refine lv_iload_n Z.1 Z.2.1 md_Cor_canStillBeChosen_21 rfl (lv_at hl 0 rfl) ?_
  refine xi_add Z md_Cor_canStillBeChosen_22 ?_
  refine lv_aload_n Z.1 Z.2.1 md_Cor_canStillBeChosen_23 rfl (lv_at hl 1 rfl) ?_
  refine xb_get (v := .ref (ad (1, 0))) Z hw (fb_in9 n hs hc) (fb_e9 n ad cI cZ cS cA (2 * s + c)) rfl tb_iCor 1 (by decide) mk_Cor_15 rfl rfl md_Cor_canStillBeChosen_24 ?_
  refine xb_get (v := .int (M (1, 0) 2)) Z hw (fb_in1 n) (fb_e1 n ad cI cZ cS cA) rfl tb_iSiz 2 (by decide) mk_Cor_118 rfl rfl md_Cor_canStillBeChosen_27 ?_
  refine xi_re (show M (1, 0) 2 = nI (f) from h.1.2.2) ?_
  have lm : pz_mo n (S.2 s) c (S.2 s 8 c 0) ≤ n := pz_mx_le n (fun a _ => by split <;> first | exact pz_tf_le | omega)
  refine xi_icmp_lt (tgt := 37) Z md_Cor_canStillBeChosen_30 (by decide) (by omega) (by omega) (fun h30 => ?_) (fun h30 => ?_)
  · refine lv_iconst (v := nI 0) Z.1 Z.2.1 md_Cor_canStillBeChosen_37 (by decide) ?_
    exact xw_zret Z hr hlk hw md_Cor_canStillBeChosen_38 (by first | rw [if_pos (by omega)] | rw [if_neg (by omega)]) rfl rfl
  · refine lv_iconst (v := nI 1) Z.1 Z.2.1 md_Cor_canStillBeChosen_33 (by decide) ?_
    refine lv_goto (tgt := 38) Z.1 Z.2.1 md_Cor_canStillBeChosen_34 (by decide) ?_
    exact xw_zret Z hr hlk hw md_Cor_canStillBeChosen_38 (by first | rw [if_pos (by omega)] | rw [if_neg (by omega)]) rfl rfl
set_option maxHeartbeats 4000000 in
theorem k_maybeChosen (l : Launch) (D : va_G) {n : Nat} (ad : Nat × Nat → Nat) (cI cZ cS cA : ClassId) {M : fr_M} {q f : Nat} {S : pz_T} {ex : Nat → Nat → Prop} {s c : Nat} (hn : n ≤ 5) (h : fr_R n q f S ex M) (hs : s < 3) (hc : c < 2) (hx : ¬ ex s c) (T : fr_TB n (S.2 s) c) {r : Nat} (hr2 : r < 2 ^ 31) (hfn : f ≤ n) (hte : n - f ≤ pz_te n (S.2 s) c) : fb_C l D n ad cI cZ cS cA my_Cor_maybeChosenIn mb_Cor_maybeChosenIn 4 (some .int) 2 46 M [.ref (ad (9, 2 * s + c)), .int (nI (r))] (some (.int (nI (pz_mc n f (S.2 s) c r (n) (0))))) (fun M' => M' = M) := by
  have lt := pz_te_le (fun a ha => (T a ha).1)
  refine xw_start [.ref (ad (9, 2 * s + c)), .int (nI (r))] (by decide) (Nat.le_of_ble_eq_true rfl) ?_
  intro p e st m below meth cd0 ls Z hml hr hlk hN hl hw
  have hl : lv_has ls 4 [(0, .ref (ad (9, 2 * s + c))), (1, .int (nI (r)))] := hl
  refine lv_aload_n Z.1 Z.2.1 md_Cor_maybeChosenIn_0 rfl (lv_at hl 0 rfl) ?_
  refine xb_get (v := .int (M (9, 2 * s + c) 9)) Z hw (fb_in9 n hs hc) (fb_e9 n ad cI cZ cS cA (2 * s + c)) rfl tb_iCor 9 (by decide) mk_Cor_90 rfl rfl md_Cor_maybeChosenIn_1 ?_
  refine xi_re (show M (9, 2 * s + c) 9 = nI (pz_te n (S.2 s) c) from (fr_t h hs hc hx).1) ?_
  refine lv_aload_n Z.1 Z.2.1 md_Cor_maybeChosenIn_4 rfl (lv_at hl 0 rfl) ?_
  refine xb_get (v := .ref (ad (1, 0))) Z hw (fb_in9 n hs hc) (fb_e9 n ad cI cZ cS cA (2 * s + c)) rfl tb_iCor 1 (by decide) mk_Cor_15 rfl rfl md_Cor_maybeChosenIn_5 ?_
  refine xb_get (v := .int (M (1, 0) 0)) Z hw (fb_in1 n) (fb_e1 n ad cI cZ cS cA) rfl tb_iSiz 0 (by decide) mk_Cor_23 rfl rfl md_Cor_maybeChosenIn_8 ?_
  refine xi_re (show M (1, 0) 0 = nI (n) from h.1.1) ?_
  refine lv_aload_n Z.1 Z.2.1 md_Cor_maybeChosenIn_11 rfl (lv_at hl 0 rfl) ?_
  refine xb_get (v := .ref (ad (1, 0))) Z hw (fb_in9 n hs hc) (fb_e9 n ad cI cZ cS cA (2 * s + c)) rfl tb_iCor 1 (by decide) mk_Cor_15 rfl rfl md_Cor_maybeChosenIn_12 ?_
  refine xb_get (v := .int (M (1, 0) 2)) Z hw (fb_in1 n) (fb_e1 n ad cI cZ cS cA) rfl tb_iSiz 2 (by decide) mk_Cor_118 rfl rfl md_Cor_maybeChosenIn_15 ?_
  refine xi_re (show M (1, 0) 2 = nI (f) from h.1.2.2) ?_
  refine xi_sub Z md_Cor_maybeChosenIn_18 (by omega) ?_
  refine xi_sub Z md_Cor_maybeChosenIn_19 (by omega) ?_
  refine lv_istore_n Z.1 Z.2.1 md_Cor_maybeChosenIn_20 rfl hl (by decide) rfl (fun ls hl => ?_)
  have hl : lv_has ls 4 [(2, .int (nI ((pz_te n (S.2 s) c) - (n - f)))), (0, .ref (ad (9, 2 * s + c))), (1, .int (nI (r)))] := hl
  refine lv_iconst (v := nI 0) Z.1 Z.2.1 md_Cor_maybeChosenIn_21 (by decide) ?_
  refine lv_istore_n Z.1 Z.2.1 md_Cor_maybeChosenIn_22 rfl hl (by decide) rfl (fun ls hl => ?_)
  have hl : lv_has ls 4 [(3, .int (nI (0))), (2, .int (nI ((pz_te n (S.2 s) c) - (n - f)))), (0, .ref (ad (9, 2 * s + c))), (1, .int (nI (r)))] := hl
  have loop23 : ∀ (d i : Nat) (Hi : Heap) (Li : List Loc) (ls : Array Slot), i + d = n → (pz_mc n f (S.2 s) c r (n - i) (i) = pz_mc n f (S.2 s) c r (n) (0)) → xw_H D tb_cl (xw_A (fb_ids n) ad) st.heap (fb_ids n) ad (xw_M (fb_k n ad cI cZ cS cA) M) Hi Li → lv_has ls 4 [(3, .int (nI (i))), (2, .int (nI ((pz_te n (S.2 s) c) - (n - f)))), (0, .ref (ad (9, 2 * s + c))), (1, .int (nI (r)))] → W p l e { frames := 2, cells := 0, slots := 0, locals := 46 } st m [.ref (ad (9, 2 * s + c)), .int (nI (r))].toArray below meth cd0 Hi Li 0 0 (MQ below (xw_Qc D tb_cl (fb_ids n) ad (fb_k n ad cI cZ cS cA) (some (.int (nI (pz_mc n f (S.2 s) c r (n) (0))))) (fun M' => M' = M)) [.ref (ad (9, 2 * s + c)), .int (nI (r))].toArray st 0 0 (xw_A (fb_ids n) ad)) (F0 m 23 ls []) := by
    intro d
    induction d with
    | zero =>
      intro i Hi Li ls hi hinv hw hl
      refine lv_iload_n Z.1 Z.2.1 md_Cor_maybeChosenIn_23 rfl (lv_at hl 0 rfl) ?_
      refine lv_aload_n Z.1 Z.2.1 md_Cor_maybeChosenIn_24 rfl (lv_at hl 2 rfl) ?_
      refine xb_get (v := .ref (ad (1, 0))) Z hw (fb_in9 n hs hc) (fb_e9 n ad cI cZ cS cA (2 * s + c)) rfl tb_iCor 1 (by decide) mk_Cor_15 rfl rfl md_Cor_maybeChosenIn_25 ?_
      refine xb_get (v := .int (M (1, 0) 0)) Z hw (fb_in1 n) (fb_e1 n ad cI cZ cS cA) rfl tb_iSiz 0 (by decide) mk_Cor_23 rfl rfl md_Cor_maybeChosenIn_28 ?_
      refine xi_re (show M (1, 0) 0 = nI (n) from h.1.1) ?_
      refine xi_icmp_ge (tgt := 71) Z md_Cor_maybeChosenIn_31 (by decide) (by omega) (by omega) (fun h31 => ?_) (fun h31 => by exfalso; omega)
      refine lv_iconst (v := nI 0) Z.1 Z.2.1 md_Cor_maybeChosenIn_71 (by decide) ?_
      exact xw_iret Z hr hlk hw md_Cor_maybeChosenIn_72 (by rw [← hinv, show n - i = 0 by omega]; rfl) rfl
    | succ d ih =>
      intro i Hi Li ls hi hinv hw hl
      refine lv_iload_n Z.1 Z.2.1 md_Cor_maybeChosenIn_23 rfl (lv_at hl 0 rfl) ?_
      refine lv_aload_n Z.1 Z.2.1 md_Cor_maybeChosenIn_24 rfl (lv_at hl 2 rfl) ?_
      refine xb_get (v := .ref (ad (1, 0))) Z hw (fb_in9 n hs hc) (fb_e9 n ad cI cZ cS cA (2 * s + c)) rfl tb_iCor 1 (by decide) mk_Cor_15 rfl rfl md_Cor_maybeChosenIn_25 ?_
      refine xb_get (v := .int (M (1, 0) 0)) Z hw (fb_in1 n) (fb_e1 n ad cI cZ cS cA) rfl tb_iSiz 0 (by decide) mk_Cor_23 rfl rfl md_Cor_maybeChosenIn_28 ?_
      refine xi_re (show M (1, 0) 0 = nI (n) from h.1.1) ?_
      refine xi_icmp_ge (tgt := 71) Z md_Cor_maybeChosenIn_31 (by decide) (by omega) (by omega) (fun h31 => by exfalso; omega) (fun h31 => ?_)
      refine lv_aload_n Z.1 Z.2.1 md_Cor_maybeChosenIn_34 rfl (lv_at hl 2 rfl) ?_
      refine lv_iload_n Z.1 Z.2.1 md_Cor_maybeChosenIn_35 rfl (lv_at hl 0 rfl) ?_
      refine lv_iload_n Z.1 Z.2.1 md_Cor_maybeChosenIn_36 rfl (lv_at hl 3 rfl) ?_
      refine xw_cV (n := 2) (rest := []) Z hml hl.1 hN hw (k_votedIn (a := i) (r := r) l D ad cI cZ cS cA hn h hs hc hx T (by omega) hr2) tb_g mc_Cor_votedIn mk_Cor_127 mi_Cor_votedIn ms_Cor_votedIn mz_Cor ⟨by decide, by decide, by decide +kernel⟩ ⟨Nat.le_of_ble_eq_true rfl, Nat.le_of_ble_eq_true rfl⟩ (fb_in9 n hs hc) (fb_e9 n ad cI cZ cS cA (2 * s + c) _) rfl rfl rfl rfl (Nat.le_of_ble_eq_true rfl) ⟨Nat.le_refl _, Nat.le_refl _⟩ md_Cor_maybeChosenIn_37 (fun M1 H1 locs1 e1 hw => ?_)
      have ey1 := e1.symm
      subst ey1
      refine W.eq (g2 := F0 m 40 ls [.int (nI (if S.2 s 11 c i ≠ 0 ∧ S.2 s 13 c i = r then 1 else 0))]) rfl ?_
      have lv : (if S.2 s 11 c i ≠ 0 ∧ S.2 s 13 c i = r then 1 else 0) < 2 := by split <;> omega
      refine xi_if_eq (tgt := 65) Z md_Cor_maybeChosenIn_40 (by decide) (by omega) (fun h40 => ?_) (fun h40 => ?_)
      · refine lv_iinc Z.1 Z.2.1 md_Cor_maybeChosenIn_65 hl (k := 0) rfl (xi_inc1 (i)) (by decide) rfl (fun ls hl => ?_)
        have hl : lv_has ls 4 [(3, .int (nI (i + 1))), (2, .int (nI ((pz_te n (S.2 s) c) - (n - f)))), (0, .ref (ad (9, 2 * s + c))), (1, .int (nI (r)))] := hl
        refine lv_goto (tgt := 23) Z.1 Z.2.1 md_Cor_maybeChosenIn_68 (by decide) ?_
        try have vn : ¬ (S.2 s 11 c i ≠ 0 ∧ S.2 s 13 c i = r) := (fun y => by rw [if_pos y] at h40; exact absurd h40 (by decide))
        refine ih (i + 1) _ _ ls (by omega) ((by rw [← hinv, show n - i = (n - (i + 1)) + 1 by omega]; simp only [pz_mc]; rw [if_neg (by omega)])) hw ?_
        exact lv_sub hl [0, 1, 2, 3] rfl
      · have vi : S.2 s 11 c i ≠ 0 ∧ S.2 s 13 c i = r := by
          by_cases z : S.2 s 11 c i ≠ 0 ∧ S.2 s 13 c i = r
          · exact z
          · rw [if_neg z] at h40; exact absurd rfl h40
        have t2 := (T i (by omega)).2 vi.1
        refine lv_aload_n Z.1 Z.2.1 md_Cor_maybeChosenIn_43 rfl (lv_at hl 2 rfl) ?_
        refine lv_iload_n Z.1 Z.2.1 md_Cor_maybeChosenIn_44 rfl (lv_at hl 3 rfl) ?_
        refine lv_aload_n Z.1 Z.2.1 md_Cor_maybeChosenIn_45 rfl (lv_at hl 2 rfl) ?_
        refine xb_get (v := .ref (ad (11, 2 * s + c))) Z hw (fb_in9 n hs hc) (fb_e9 n ad cI cZ cS cA (2 * s + c)) rfl tb_iCor 7 (by decide) mk_Cor_32 rfl rfl md_Cor_maybeChosenIn_46 ?_
        refine lv_iload_n Z.1 Z.2.1 md_Cor_maybeChosenIn_49 rfl (lv_at hl 0 rfl) ?_
        refine xw_iald Z hw (fb_in11 n hs hc) (fb_e11 n ad cI cZ cS cA (2 * s + c)) 0 rfl (i) rfl (by omega) (by omega) md_Cor_maybeChosenIn_50 ?_
        refine xi_re (show M (11, 2 * s + c) (i) = nI (S.2 s 12 c i) from ((fr_t h hs hc hx).2 i (by omega)).2 vi.1 |>.1) ?_
        refine xw_cV (n := 2) (rest := []) Z hml hl.1 hN hw (k_tallyIn (r := r) (v := S.2 s 12 c i) l D ad cI cZ cS cA hn h hs hc hx T hr2 t2.1) tb_g mc_Cor_tallyIn mk_Cor_131 mi_Cor_tallyIn ms_Cor_tallyIn mz_Cor ⟨by decide, by decide, by decide +kernel⟩ ⟨Nat.le_of_ble_eq_true rfl, Nat.le_of_ble_eq_true rfl⟩ (fb_in9 n hs hc) (fb_e9 n ad cI cZ cS cA (2 * s + c) _) rfl rfl rfl rfl (Nat.le_of_ble_eq_true rfl) ⟨Nat.le_refl _, Nat.le_refl _⟩ md_Cor_maybeChosenIn_51 (fun M2 H2 locs2 e2 hw => ?_)
        have ey2 := e2.symm
        subst ey2
        refine W.eq (g2 := F0 m 54 ls [.int (nI (pz_tf n (S.2 s) c r (S.2 s 12 c i)))]) rfl ?_
        refine lv_iload_n Z.1 Z.2.1 md_Cor_maybeChosenIn_54 rfl (lv_at hl 1 rfl) ?_
        have ltf : pz_tf n (S.2 s) c r (S.2 s 12 c i) ≤ n := pz_tf_le
        refine xi_icmp_lt (tgt := 65) Z md_Cor_maybeChosenIn_55 (by decide) (by omega) (by omega) (fun h55 => ?_) (fun h55 => ?_)
        · refine lv_iinc Z.1 Z.2.1 md_Cor_maybeChosenIn_65 hl (k := 0) rfl (xi_inc1 (i)) (by decide) rfl (fun ls hl => ?_)
          have hl : lv_has ls 4 [(3, .int (nI (i + 1))), (2, .int (nI ((pz_te n (S.2 s) c) - (n - f)))), (0, .ref (ad (9, 2 * s + c))), (1, .int (nI (r)))] := hl
          refine lv_goto (tgt := 23) Z.1 Z.2.1 md_Cor_maybeChosenIn_68 (by decide) ?_
          try have vn : ¬ (S.2 s 11 c i ≠ 0 ∧ S.2 s 13 c i = r) := (fun y => by rw [if_pos y] at h40; exact absurd h40 (by decide))
          refine ih (i + 1) _ _ ls (by omega) ((by rw [← hinv, show n - i = (n - (i + 1)) + 1 by omega]; simp only [pz_mc]; rw [if_neg (by omega)])) hw ?_
          exact lv_sub hl [0, 1, 2, 3] rfl
        · refine lv_aload_n Z.1 Z.2.1 md_Cor_maybeChosenIn_58 rfl (lv_at hl 2 rfl) ?_
          refine xb_get (v := .ref (ad (11, 2 * s + c))) Z hw (fb_in9 n hs hc) (fb_e9 n ad cI cZ cS cA (2 * s + c)) rfl tb_iCor 7 (by decide) mk_Cor_32 rfl rfl md_Cor_maybeChosenIn_59 ?_
          refine lv_iload_n Z.1 Z.2.1 md_Cor_maybeChosenIn_62 rfl (lv_at hl 0 rfl) ?_
          refine xw_iald Z hw (fb_in11 n hs hc) (fb_e11 n ad cI cZ cS cA (2 * s + c)) 0 rfl (i) rfl (by omega) (by omega) md_Cor_maybeChosenIn_63 ?_
          refine xi_re (show M (11, 2 * s + c) (i) = nI (S.2 s 12 c i) from ((fr_t h hs hc hx).2 i (by omega)).2 vi.1 |>.1) ?_
          exact xw_iret Z hr hlk hw md_Cor_maybeChosenIn_64 (by rw [← hinv, show n - i = (n - i - 1) + 1 by omega]; simp only [pz_mc]; rw [if_pos (by omega)]) rfl
  exact loop23 n (0) _ _ ls (by omega) rfl hw (lv_sub hl [0, 1, 2, 3] rfl)
set_option maxHeartbeats 4000000 in
theorem k_pick (l : Launch) (D : va_G) {n : Nat} (ad : Nat × Nat → Nat) (cI cZ cS cA : ClassId) {M : fr_M} {q f : Nat} {S : pz_T} {ex : Nat → Nat → Prop} {s c : Nat} (hn : n ≤ 5) (h : fr_R n q f S ex M) (hs : s < 3) (hc : c < 2) (hx : ¬ ex s c) (T : fr_TB n (S.2 s) c) (hfn : f ≤ n) (hte : n - f ≤ pz_te n (S.2 s) c) : fb_C l D n ad cI cZ cS cA my_Cor_pick mb_Cor_pick 3 (some .int) 3 69 M [.ref (ad (9, 2 * s + c))] (some (.int (nI (pz_pkC n f (S.2 s) c)))) (fun M' => M' = M) := by
  refine xw_start [.ref (ad (9, 2 * s + c))] (by decide) (Nat.le_of_ble_eq_true rfl) ?_
  intro p e st m below meth cd0 ls Z hml hr hlk hN hl hw
  have hl : lv_has ls 3 [(0, .ref (ad (9, 2 * s + c)))] := hl
  refine lv_aload_n Z.1 Z.2.1 md_Cor_pick_0 rfl (lv_at hl 0 rfl) ?_
  refine xw_cV (n := 0) (rest := []) Z hml hl.1 hN hw (k_latestRound l D ad cI cZ cS cA hn h hs hc hx T) tb_g mc_Cor_latestRound mk_Cor_121 mi_Cor_latestRound ms_Cor_latestRound mz_Cor ⟨by decide, by decide, by decide +kernel⟩ ⟨Nat.le_of_ble_eq_true rfl, Nat.le_of_ble_eq_true rfl⟩ (fb_in9 n hs hc) (fb_e9 n ad cI cZ cS cA (2 * s + c) _) rfl rfl rfl rfl (Nat.le_of_ble_eq_true rfl) ⟨Nat.le_refl _, Nat.le_refl _⟩ md_Cor_pick_1 (fun M1 H1 locs1 e1 hw => ?_)
  have ey1 := e1.symm
  subst ey1
  refine W.eq (g2 := F0 m 4 ls [.int (nI (pz_kk n (S.2 s) c))]) rfl ?_
  refine lv_istore_n Z.1 Z.2.1 md_Cor_pick_4 rfl hl (by decide) rfl (fun ls hl => ?_)
  have hl : lv_has ls 3 [(1, .int (nI (pz_kk n (S.2 s) c))), (0, .ref (ad (9, 2 * s + c)))] := hl
  have lk : pz_kk n (S.2 s) c < 2 ^ 31 := fr_kk_lt T (Nat.le_refl n)
  refine lv_iload_n Z.1 Z.2.1 md_Cor_pick_5 rfl (lv_at hl 0 rfl) ?_
  refine xi_if_ne (tgt := 11) Z md_Cor_pick_6 (by decide) (by omega) (fun h6 => ?_) (fun h6 => ?_)
  · refine lv_iload_n Z.1 Z.2.1 md_Cor_pick_11 rfl (lv_at hl 0 rfl) ?_
    refine xw_cN (n := 1) (rest := []) Z hml hl.1 hN hw (k_isFast l D ad cI cZ cS cA (M := M) lk) tb_g mc_FB_isFast (host := "FastBallots") (List.mem_of_getElem? (i := 3) rfl) mt_FB_isFast mz_FB ⟨by decide, by decide, by decide +kernel⟩ ⟨Nat.le_of_ble_eq_true rfl, Nat.le_of_ble_eq_true rfl⟩ rfl rfl (Nat.le_of_ble_eq_true rfl) ⟨Nat.le_refl _, Nat.le_refl _⟩ md_Cor_pick_12 (fun M2 H2 locs2 e2 hw => ?_)
    have ey2 := e2.symm
    subst ey2
    refine W.eq (g2 := F0 m 15 ls [.int (nI (pz_kk n (S.2 s) c % 2))]) rfl ?_
    refine xi_if_eq (tgt := 30) Z md_Cor_pick_15 (by decide) (by omega) (fun h15 => ?_) (fun h15 => ?_)
    · refine lv_aload_n Z.1 Z.2.1 md_Cor_pick_30 rfl (lv_at hl 1 rfl) ?_
      refine lv_iload_n Z.1 Z.2.1 md_Cor_pick_31 rfl (lv_at hl 0 rfl) ?_
      refine xw_cV (n := 1) (rest := []) Z hml hl.1 hN hw (k_leastIn (r := pz_kk n (S.2 s) c) l D ad cI cZ cS cA hn h hs hc hx T lk) tb_g mc_Cor_leastIn mk_Cor_111 mi_Cor_leastIn ms_Cor_leastIn mz_Cor ⟨by decide, by decide, by decide +kernel⟩ ⟨Nat.le_of_ble_eq_true rfl, Nat.le_of_ble_eq_true rfl⟩ (fb_in9 n hs hc) (fb_e9 n ad cI cZ cS cA (2 * s + c) _) rfl rfl rfl rfl (Nat.le_of_ble_eq_true rfl) ⟨Nat.le_refl _, Nat.le_refl _⟩ md_Cor_pick_32 (fun M3 H3 locs3 e3 hw => ?_)
      have ey3 := e3.symm
      subst ey3
      refine W.eq (g2 := F0 m 35 ls [.int (nI (pz_ls (S.2 s) c (pz_kk n (S.2 s) c) n))]) rfl ?_
      exact xw_iret Z hr hlk hw md_Cor_pick_35 (by unfold pz_pkC; rw [if_neg h6, if_neg (by omega)]) rfl
    · refine lv_aload_n Z.1 Z.2.1 md_Cor_pick_18 rfl (lv_at hl 1 rfl) ?_
      refine lv_iload_n Z.1 Z.2.1 md_Cor_pick_19 rfl (lv_at hl 0 rfl) ?_
      refine xw_cV (n := 1) (rest := []) Z hml hl.1 hN hw (k_maybeChosen (r := pz_kk n (S.2 s) c) l D ad cI cZ cS cA hn h hs hc hx T lk hfn hte) tb_g mc_Cor_maybeChosenIn mk_Cor_124 mi_Cor_maybeChosenIn ms_Cor_maybeChosenIn mz_Cor ⟨by decide, by decide, by decide +kernel⟩ ⟨Nat.le_of_ble_eq_true rfl, Nat.le_of_ble_eq_true rfl⟩ (fb_in9 n hs hc) (fb_e9 n ad cI cZ cS cA (2 * s + c) _) rfl rfl rfl rfl (Nat.le_of_ble_eq_true rfl) ⟨Nat.le_refl _, Nat.le_refl _⟩ md_Cor_pick_20 (fun M4 H4 locs4 e4 hw => ?_)
      have ey4 := e4.symm
      subst ey4
      refine W.eq (g2 := F0 m 23 ls [.int (nI (pz_mc n f (S.2 s) c (pz_kk n (S.2 s) c) n 0))]) rfl ?_
      refine lv_istore_n Z.1 Z.2.1 md_Cor_pick_23 rfl hl (by decide) rfl (fun ls hl => ?_)
      have hl : lv_has ls 3 [(2, .int (nI (pz_mc n f (S.2 s) c (pz_kk n (S.2 s) c) n 0))), (1, .int (nI (pz_kk n (S.2 s) c))), (0, .ref (ad (9, 2 * s + c)))] := hl
      refine lv_iload_n Z.1 Z.2.1 md_Cor_pick_24 rfl (lv_at hl 0 rfl) ?_
      have lmc : pz_mc n f (S.2 s) c (pz_kk n (S.2 s) c) n 0 < 2 ^ 31 := by
        rcases pz_mc_ex (n := n) (f := f) (p := S.2 s) (c := c) (r := pz_kk n (S.2 s) c) n 0 with z | ⟨b, b1, b2, b3, b4, b5, b6⟩
        · omega
        · rw [← b6]; exact ((T b (by omega)).2 b3).1
      refine xi_if_eq (tgt := 30) Z md_Cor_pick_25 (by decide) (by omega) (fun h25 => ?_) (fun h25 => ?_)
      · refine lv_aload_n Z.1 Z.2.1 md_Cor_pick_30 rfl (lv_at hl 2 rfl) ?_
        refine lv_iload_n Z.1 Z.2.1 md_Cor_pick_31 rfl (lv_at hl 1 rfl) ?_
        refine xw_cV (n := 1) (rest := []) Z hml hl.1 hN hw (k_leastIn (r := pz_kk n (S.2 s) c) l D ad cI cZ cS cA hn h hs hc hx T lk) tb_g mc_Cor_leastIn mk_Cor_111 mi_Cor_leastIn ms_Cor_leastIn mz_Cor ⟨by decide, by decide, by decide +kernel⟩ ⟨Nat.le_of_ble_eq_true rfl, Nat.le_of_ble_eq_true rfl⟩ (fb_in9 n hs hc) (fb_e9 n ad cI cZ cS cA (2 * s + c) _) rfl rfl rfl rfl (Nat.le_of_ble_eq_true rfl) ⟨Nat.le_refl _, Nat.le_refl _⟩ md_Cor_pick_32 (fun M5 H5 locs5 e5 hw => ?_)
        have ey5 := e5.symm
        subst ey5
        refine W.eq (g2 := F0 m 35 ls [.int (nI (pz_ls (S.2 s) c (pz_kk n (S.2 s) c) n))]) rfl ?_
        exact xw_iret Z hr hlk hw md_Cor_pick_35 (by unfold pz_pkC; rw [if_neg h6, if_neg (by omega)]) rfl
      · refine lv_iload_n Z.1 Z.2.1 md_Cor_pick_28 rfl (lv_at hl 0 rfl) ?_
        exact xw_iret Z hr hlk hw md_Cor_pick_29 (by unfold pz_pkC; rw [if_neg h6, if_pos (by omega)]) rfl
  · refine lv_iconst (v := nI 0) Z.1 Z.2.1 md_Cor_pick_9 (by decide) ?_
    exact xw_iret Z hr hlk hw md_Cor_pick_10 (by unfold pz_pkC; rw [if_pos h6]) rfl
end
section
/-! The coordinators: what they keep, forget and send. -/
theorem md_Cor_keep_0 : decode mb_Cor_keep 0 = .ok (.aload_n 0, 1) := by decide +kernel
theorem md_Cor_keep_1 : decode mb_Cor_keep 1 = .ok (.getfield 28, 3) := by decide +kernel
theorem md_Cor_keep_4 : decode mb_Cor_keep 4 = .ok (.iload_n 1, 1) := by decide +kernel
theorem md_Cor_keep_5 : decode mb_Cor_keep 5 = .ok (.baload, 1) := by decide +kernel
theorem md_Cor_keep_6 : decode mb_Cor_keep 6 = .ok (.ifCond .eq 4, 3) := by decide +kernel
theorem md_Cor_keep_9 : decode mb_Cor_keep 9 = .ok (.return_, 1) := by decide +kernel
theorem md_Cor_keep_10 : decode mb_Cor_keep 10 = .ok (.aload_n 0, 1) := by decide +kernel
theorem md_Cor_keep_11 : decode mb_Cor_keep 11 = .ok (.getfield 28, 3) := by decide +kernel
theorem md_Cor_keep_14 : decode mb_Cor_keep 14 = .ok (.iload_n 1, 1) := by decide +kernel
theorem md_Cor_keep_15 : decode mb_Cor_keep 15 = .ok (.iconst 1, 1) := by decide +kernel
theorem md_Cor_keep_16 : decode mb_Cor_keep 16 = .ok (.bastore, 1) := by decide +kernel
theorem md_Cor_keep_17 : decode mb_Cor_keep 17 = .ok (.aload_n 0, 1) := by decide +kernel
theorem md_Cor_keep_18 : decode mb_Cor_keep 18 = .ok (.dup, 1) := by decide +kernel
theorem md_Cor_keep_19 : decode mb_Cor_keep 19 = .ok (.getfield 90, 3) := by decide +kernel
theorem md_Cor_keep_22 : decode mb_Cor_keep 22 = .ok (.iconst 1, 1) := by decide +kernel
theorem md_Cor_keep_23 : decode mb_Cor_keep 23 = .ok (.iadd, 1) := by decide +kernel
theorem md_Cor_keep_24 : decode mb_Cor_keep 24 = .ok (.putfield 90, 3) := by decide +kernel
theorem md_Cor_keep_27 : decode mb_Cor_keep 27 = .ok (.aload_n 0, 1) := by decide +kernel
theorem md_Cor_keep_28 : decode mb_Cor_keep 28 = .ok (.getfield 32, 3) := by decide +kernel
theorem md_Cor_keep_31 : decode mb_Cor_keep 31 = .ok (.iload_n 1, 1) := by decide +kernel
theorem md_Cor_keep_32 : decode mb_Cor_keep 32 = .ok (.iload_n 2, 1) := by decide +kernel
theorem md_Cor_keep_33 : decode mb_Cor_keep 33 = .ok (.iastore, 1) := by decide +kernel
theorem md_Cor_keep_34 : decode mb_Cor_keep 34 = .ok (.aload_n 0, 1) := by decide +kernel
theorem md_Cor_keep_35 : decode mb_Cor_keep 35 = .ok (.getfield 36, 3) := by decide +kernel
theorem md_Cor_keep_38 : decode mb_Cor_keep 38 = .ok (.iload_n 1, 1) := by decide +kernel
theorem md_Cor_keep_39 : decode mb_Cor_keep 39 = .ok (.iload_n 3, 1) := by decide +kernel
theorem md_Cor_keep_40 : decode mb_Cor_keep 40 = .ok (.iastore, 1) := by decide +kernel
theorem md_Cor_keep_41 : decode mb_Cor_keep 41 = .ok (.return_, 1) := by decide +kernel
theorem md_Cor_forget_0 : decode mb_Cor_forget 0 = .ok (.aload_n 0, 1) := by decide +kernel
theorem md_Cor_forget_1 : decode mb_Cor_forget 1 = .ok (.iconst 0, 1) := by decide +kernel
theorem md_Cor_forget_2 : decode mb_Cor_forget 2 = .ok (.putfield 90, 3) := by decide +kernel
theorem md_Cor_forget_5 : decode mb_Cor_forget 5 = .ok (.iconst 0, 1) := by decide +kernel
theorem md_Cor_forget_6 : decode mb_Cor_forget 6 = .ok (.istore_n 1, 1) := by decide +kernel
theorem md_Cor_forget_7 : decode mb_Cor_forget 7 = .ok (.iload_n 1, 1) := by decide +kernel
theorem md_Cor_forget_8 : decode mb_Cor_forget 8 = .ok (.aload_n 0, 1) := by decide +kernel
theorem md_Cor_forget_9 : decode mb_Cor_forget 9 = .ok (.getfield 15, 3) := by decide +kernel
theorem md_Cor_forget_12 : decode mb_Cor_forget 12 = .ok (.getfield 23, 3) := by decide +kernel
theorem md_Cor_forget_15 : decode mb_Cor_forget 15 = .ok (.if_icmp .ge 16, 3) := by decide +kernel
theorem md_Cor_forget_18 : decode mb_Cor_forget 18 = .ok (.aload_n 0, 1) := by decide +kernel
theorem md_Cor_forget_19 : decode mb_Cor_forget 19 = .ok (.getfield 28, 3) := by decide +kernel
theorem md_Cor_forget_22 : decode mb_Cor_forget 22 = .ok (.iload_n 1, 1) := by decide +kernel
theorem md_Cor_forget_23 : decode mb_Cor_forget 23 = .ok (.iconst 0, 1) := by decide +kernel
theorem md_Cor_forget_24 : decode mb_Cor_forget 24 = .ok (.bastore, 1) := by decide +kernel
theorem md_Cor_forget_25 : decode mb_Cor_forget 25 = .ok (.iinc 1 1, 3) := by decide +kernel
theorem md_Cor_forget_28 : decode mb_Cor_forget 28 = .ok (.goto (-21), 3) := by decide +kernel
theorem md_Cor_forget_31 : decode mb_Cor_forget 31 = .ok (.return_, 1) := by decide +kernel
theorem md_Cor_sendToAll_0 : decode mb_Cor_sendToAll 0 = .ok (.iconst 0, 1) := by decide +kernel
theorem md_Cor_sendToAll_1 : decode mb_Cor_sendToAll 1 = .ok (.istore_n 3, 1) := by decide +kernel
theorem md_Cor_sendToAll_2 : decode mb_Cor_sendToAll 2 = .ok (.iload_n 3, 1) := by decide +kernel
theorem md_Cor_sendToAll_3 : decode mb_Cor_sendToAll 3 = .ok (.aload_n 0, 1) := by decide +kernel
theorem md_Cor_sendToAll_4 : decode mb_Cor_sendToAll 4 = .ok (.getfield 15, 3) := by decide +kernel
theorem md_Cor_sendToAll_7 : decode mb_Cor_sendToAll 7 = .ok (.getfield 23, 3) := by decide +kernel
theorem md_Cor_sendToAll_10 : decode mb_Cor_sendToAll 10 = .ok (.if_icmp .ge 29, 3) := by decide +kernel
theorem md_Cor_sendToAll_13 : decode mb_Cor_sendToAll 13 = .ok (.aload_n 0, 1) := by decide +kernel
theorem md_Cor_sendToAll_14 : decode mb_Cor_sendToAll 14 = .ok (.getfield 19, 3) := by decide +kernel
theorem md_Cor_sendToAll_17 : decode mb_Cor_sendToAll 17 = .ok (.iload_n 1, 1) := by decide +kernel
theorem md_Cor_sendToAll_18 : decode mb_Cor_sendToAll 18 = .ok (.aload_n 0, 1) := by decide +kernel
theorem md_Cor_sendToAll_19 : decode mb_Cor_sendToAll 19 = .ok (.getfield 9, 3) := by decide +kernel
theorem md_Cor_sendToAll_22 : decode mb_Cor_sendToAll 22 = .ok (.aload_n 0, 1) := by decide +kernel
theorem md_Cor_sendToAll_23 : decode mb_Cor_sendToAll 23 = .ok (.getfield 39, 3) := by decide +kernel
theorem md_Cor_sendToAll_26 : decode mb_Cor_sendToAll 26 = .ok (.iconst (-1), 1) := by decide +kernel
theorem md_Cor_sendToAll_27 : decode mb_Cor_sendToAll 27 = .ok (.iload_n 3, 1) := by decide +kernel
theorem md_Cor_sendToAll_28 : decode mb_Cor_sendToAll 28 = .ok (.iload_n 2, 1) := by decide +kernel
theorem md_Cor_sendToAll_29 : decode mb_Cor_sendToAll 29 = .ok (.iconst 0, 1) := by decide +kernel
theorem md_Cor_sendToAll_30 : decode mb_Cor_sendToAll 30 = .ok (.invokevirtual 140, 3) := by decide +kernel
theorem md_Cor_sendToAll_33 : decode mb_Cor_sendToAll 33 = .ok (.iinc 3 1, 3) := by decide +kernel
theorem md_Cor_sendToAll_36 : decode mb_Cor_sendToAll 36 = .ok (.goto (-34), 3) := by decide +kernel
theorem md_Cor_sendToAll_39 : decode mb_Cor_sendToAll 39 = .ok (.return_, 1) := by decide +kernel
theorem md_Cor_startAsking_0 : decode mb_Cor_startAsking 0 = .ok (.aload_n 0, 1) := by decide +kernel
theorem md_Cor_startAsking_1 : decode mb_Cor_startAsking 1 = .ok (.iload_n 1, 1) := by decide +kernel
theorem md_Cor_startAsking_2 : decode mb_Cor_startAsking 2 = .ok (.putfield 39, 3) := by decide +kernel
theorem md_Cor_startAsking_5 : decode mb_Cor_startAsking 5 = .ok (.aload_n 0, 1) := by decide +kernel
theorem md_Cor_startAsking_6 : decode mb_Cor_startAsking 6 = .ok (.iconst 1, 1) := by decide +kernel
theorem md_Cor_startAsking_7 : decode mb_Cor_startAsking 7 = .ok (.putfield 42, 3) := by decide +kernel
theorem md_Cor_startAsking_10 : decode mb_Cor_startAsking 10 = .ok (.aload_n 0, 1) := by decide +kernel
theorem md_Cor_startAsking_11 : decode mb_Cor_startAsking 11 = .ok (.invokevirtual 45, 3) := by decide +kernel
theorem md_Cor_startAsking_14 : decode mb_Cor_startAsking 14 = .ok (.aload_n 0, 1) := by decide +kernel
theorem md_Cor_startAsking_15 : decode mb_Cor_startAsking 15 = .ok (.iconst 2, 1) := by decide +kernel
theorem md_Cor_startAsking_16 : decode mb_Cor_startAsking 16 = .ok (.iconst 0, 1) := by decide +kernel
theorem md_Cor_startAsking_17 : decode mb_Cor_startAsking 17 = .ok (.invokevirtual 48, 3) := by decide +kernel
theorem md_Cor_startAsking_20 : decode mb_Cor_startAsking 20 = .ok (.return_, 1) := by decide +kernel
theorem md_Cor_startVoting_0 : decode mb_Cor_startVoting 0 = .ok (.aload_n 0, 1) := by decide +kernel
theorem md_Cor_startVoting_1 : decode mb_Cor_startVoting 1 = .ok (.iconst 3, 1) := by decide +kernel
theorem md_Cor_startVoting_2 : decode mb_Cor_startVoting 2 = .ok (.putfield 42, 3) := by decide +kernel
theorem md_Cor_startVoting_5 : decode mb_Cor_startVoting 5 = .ok (.aload_n 0, 1) := by decide +kernel
theorem md_Cor_startVoting_6 : decode mb_Cor_startVoting 6 = .ok (.invokevirtual 45, 3) := by decide +kernel
theorem md_Cor_startVoting_9 : decode mb_Cor_startVoting 9 = .ok (.aload_n 0, 1) := by decide +kernel
theorem md_Cor_startVoting_10 : decode mb_Cor_startVoting 10 = .ok (.iconst 4, 1) := by decide +kernel
theorem md_Cor_startVoting_11 : decode mb_Cor_startVoting 11 = .ok (.iload_n 1, 1) := by decide +kernel
theorem md_Cor_startVoting_12 : decode mb_Cor_startVoting 12 = .ok (.invokevirtual 48, 3) := by decide +kernel
theorem md_Cor_startVoting_15 : decode mb_Cor_startVoting 15 = .ok (.return_, 1) := by decide +kernel
theorem md_Cor_goOnWith_0 : decode mb_Cor_goOnWith 0 = .ok (.iload_n 1, 1) := by decide +kernel
theorem md_Cor_goOnWith_1 : decode mb_Cor_goOnWith 1 = .ok (.ifCond .eq 11, 3) := by decide +kernel
theorem md_Cor_goOnWith_4 : decode mb_Cor_goOnWith 4 = .ok (.aload_n 0, 1) := by decide +kernel
theorem md_Cor_goOnWith_5 : decode mb_Cor_goOnWith 5 = .ok (.iload_n 1, 1) := by decide +kernel
theorem md_Cor_goOnWith_6 : decode mb_Cor_goOnWith 6 = .ok (.invokevirtual 74, 3) := by decide +kernel
theorem md_Cor_goOnWith_9 : decode mb_Cor_goOnWith 9 = .ok (.goto 44, 3) := by decide +kernel
theorem md_Cor_goOnWith_12 : decode mb_Cor_goOnWith 12 = .ok (.aload_n 0, 1) := by decide +kernel
theorem md_Cor_goOnWith_13 : decode mb_Cor_goOnWith 13 = .ok (.getfield 39, 3) := by decide +kernel
theorem md_Cor_goOnWith_16 : decode mb_Cor_goOnWith 16 = .ok (.invokestatic 103, 3) := by decide +kernel
theorem md_Cor_goOnWith_19 : decode mb_Cor_goOnWith 19 = .ok (.ifCond .eq 11, 3) := by decide +kernel
theorem md_Cor_goOnWith_22 : decode mb_Cor_goOnWith 22 = .ok (.aload_n 0, 1) := by decide +kernel
theorem md_Cor_goOnWith_23 : decode mb_Cor_goOnWith 23 = .ok (.iconst 0, 1) := by decide +kernel
theorem md_Cor_goOnWith_24 : decode mb_Cor_goOnWith 24 = .ok (.invokevirtual 74, 3) := by decide +kernel
theorem md_Cor_goOnWith_27 : decode mb_Cor_goOnWith 27 = .ok (.goto 26, 3) := by decide +kernel
theorem md_Cor_goOnWith_30 : decode mb_Cor_goOnWith 30 = .ok (.aload_n 0, 1) := by decide +kernel
theorem md_Cor_goOnWith_31 : decode mb_Cor_goOnWith 31 = .ok (.getfield 71, 3) := by decide +kernel
theorem md_Cor_goOnWith_34 : decode mb_Cor_goOnWith 34 = .ok (.ifCond .eq 14, 3) := by decide +kernel
theorem md_Cor_goOnWith_37 : decode mb_Cor_goOnWith 37 = .ok (.aload_n 0, 1) := by decide +kernel
theorem md_Cor_goOnWith_38 : decode mb_Cor_goOnWith 38 = .ok (.aload_n 0, 1) := by decide +kernel
theorem md_Cor_goOnWith_39 : decode mb_Cor_goOnWith 39 = .ok (.getfield 71, 3) := by decide +kernel
theorem md_Cor_goOnWith_42 : decode mb_Cor_goOnWith 42 = .ok (.invokevirtual 74, 3) := by decide +kernel
theorem md_Cor_goOnWith_45 : decode mb_Cor_goOnWith 45 = .ok (.goto 8, 3) := by decide +kernel
theorem md_Cor_goOnWith_48 : decode mb_Cor_goOnWith 48 = .ok (.aload_n 0, 1) := by decide +kernel
theorem md_Cor_goOnWith_49 : decode mb_Cor_goOnWith 49 = .ok (.iconst 2, 1) := by decide +kernel
theorem md_Cor_goOnWith_50 : decode mb_Cor_goOnWith 50 = .ok (.putfield 42, 3) := by decide +kernel
theorem md_Cor_goOnWith_53 : decode mb_Cor_goOnWith 53 = .ok (.return_, 1) := by decide +kernel
theorem pz_tll_id {p : pz_P} {c a v k : Nat} (h1 : p 11 c a = 1) (h2 : p 12 c a = v) (h3 : p 13 c a = k) : pz_tll p c a v k = p := by
  unfold pz_tll
  have e1 : pz_u p 11 c a 1 = p := by rw [← h1]; exact pz_u_id p 11 c a
  rw [e1]
  have e2 : pz_u p 12 c a v = p := by rw [← h2]; exact pz_u_id p 12 c a
  rw [e2, ← h3]
  exact pz_u_id p 13 c a
theorem pz_pw_id (S : pz_T) (s : Nat) : pz_pw S s (S.2 s) = S := by
  refine Prod.ext rfl ?_
  funext z
  show pz_w S.2 s (S.2 s) z = S.2 z
  unfold pz_w
  split
  · rename_i h; rw [h]
  · rfl
def fr_xs (ex : Nat → Nat → Prop) (s c : Nat) (b : Prop) : Nat → Nat → Prop := fun s' c' => (s' = s ∧ c' = c ∧ b) ∨ (¬ (s' = s ∧ c' = c) ∧ ex s' c')
theorem fr_xs_off {ex : Nat → Nat → Prop} {s c s' c' : Nat} {b : Prop} (h : ¬ (s' = s ∧ c' = c)) (hx : ¬ fr_xs ex s c b s' c') : ¬ ex s' c' := fun y => hx (Or.inr ⟨h, y⟩)
theorem fr_xs_w {n q f : Nat} {S : pz_T} {ex : Nat → Nat → Prop} {s c : Nat} {b : Prop} {M : fr_M} (h : fr_R n q f S (fr_xs ex s c False) M) : fr_R n q f S (fr_xs ex s c b) M := fr_ex h (fun s' c' _ _ hx y => by
  rcases y with y | y
  · exact y.2.2
  · exact hx (Or.inr y))
theorem fr_xs_t {n q f : Nat} {S : pz_T} {ex : Nat → Nat → Prop} {s c : Nat} {b : Prop} {M : fr_M} (h : fr_R n q f S ex M) (hb : b) : fr_R n q f S (fr_xs ex s c b) M := fr_ex h (fun s' c' _ _ hx => by
  by_cases z : s' = s ∧ c' = c
  · exact absurd (Or.inl ⟨z.1, z.2, hb⟩) hx
  · exact fr_xs_off z hx)
theorem pz_cl_ld (p : pz_P) (c r : Nat) : pz_cl (pz_u (pz_u p 8 c 0 r) 9 c 0 1) c = pz_ld p c r 1 := by
  funext k x y
  unfold pz_cl pz_ld pz_u
  by_cases h11 : k = 11 ∧ x = c
  · rw [if_pos h11, if_neg (fun z => by omega), if_neg (fun z => by omega), if_pos ⟨h11.2, h11.1⟩]
  · rw [if_neg h11]
    by_cases h8 : k = 8 ∧ x = c ∧ y = 0
    · rw [if_neg (fun z => by omega), if_pos h8, if_pos ⟨h8.2.1, h8.1, h8.2.2⟩]
    · by_cases h9 : k = 9 ∧ x = c ∧ y = 0
      · rw [if_pos h9, if_neg (fun z => by omega), if_pos ⟨h9.2.1, h9.1, h9.2.2⟩]
      · rw [if_neg h9, if_neg h8, if_neg (fun z => h8 ⟨z.2.1, z.1, z.2.2⟩), if_neg (fun z => h9 ⟨z.2.1, z.1, z.2.2⟩), if_neg (fun z => h11 ⟨z.2, z.1⟩)]
set_option maxHeartbeats 4000000 in
theorem k_keep (l : Launch) (D : va_G) {n : Nat} (ad : Nat × Nat → Nat) (cI cZ cS cA : ClassId) {M : fr_M} {q f : Nat} {S : pz_T} {ex : Nat → Nat → Prop} {s c : Nat} (hn : n ≤ 5) (h : fr_R n q f S ex M) (hs : s < 3) (hc : c < 2) {a v k : Nat} (hx : ¬ ex s c) (ha : a < n) (t1 : S.2 s 11 c a ≤ 1) (hsame : S.2 s 11 c a ≠ 0 → S.2 s 11 c a = 1 ∧ S.2 s 12 c a = v ∧ S.2 s 13 c a = k) : fb_C l D n ad cI cZ cS cA my_Cor_keep mb_Cor_keep 4 none 0 0 M [.ref (ad (9, 2 * s + c)), .int (nI (a)), .int (nI (v)), .int (nI (k))] (none) (fr_K n q f (pz_pw S s (pz_tll (S.2 s) c a v k)) ex M) := by
  refine xw_start [.ref (ad (9, 2 * s + c)), .int (nI (a)), .int (nI (v)), .int (nI (k))] (by decide) (Nat.le_of_ble_eq_true rfl) ?_
  intro p e st m below meth cd0 ls Z hml hr hlk hN hl hw
  have hl : lv_has ls 4 [(0, .ref (ad (9, 2 * s + c))), (1, .int (nI (a))), (2, .int (nI (v))), (3, .int (nI (k)))] := hl
  refine lv_aload_n Z.1 Z.2.1 md_Cor_keep_0 rfl (lv_at hl 0 rfl) ?_
  refine xb_get (v := .ref (ad (10, 2 * s + c))) Z hw (fb_in9 n hs hc) (fb_e9 n ad cI cZ cS cA (2 * s + c)) rfl tb_iCor 6 (by decide) mk_Cor_28 rfl rfl md_Cor_keep_1 ?_
  refine lv_iload_n Z.1 Z.2.1 md_Cor_keep_4 rfl (lv_at hl 1 rfl) ?_
  refine xw_zald Z hw (fb_in10 n hs hc) (fb_e10 n ad cI cZ cS cA (2 * s + c)) 1 rfl (a) rfl ha (by omega) md_Cor_keep_5 ?_
  refine xi_re (show M (10, 2 * s + c) (a) = nI (S.2 s 11 c a) from ((fr_t h hs hc hx).2 a ha).1) ?_
  refine xi_if_eq (tgt := 10) Z md_Cor_keep_6 (by decide) (by omega) (fun h6 => ?_) (fun h6 => ?_)
  · refine lv_aload_n Z.1 Z.2.1 md_Cor_keep_10 rfl (lv_at hl 0 rfl) ?_
    refine xb_get (v := .ref (ad (10, 2 * s + c))) Z hw (fb_in9 n hs hc) (fb_e9 n ad cI cZ cS cA (2 * s + c)) rfl tb_iCor 6 (by decide) mk_Cor_28 rfl rfl md_Cor_keep_11 ?_
    refine lv_iload_n Z.1 Z.2.1 md_Cor_keep_14 rfl (lv_at hl 1 rfl) ?_
    refine lv_iconst (v := nI 1) Z.1 Z.2.1 md_Cor_keep_15 (by decide) ?_
    refine xb_zast Z hw (fb_in10 n hs hc) (fb_e10 n ad cI cZ cS cA (2 * s + c)) 1 rfl xi_z1 (a) rfl ha (by omega) md_Cor_keep_16 (fun M1 H1 locs1 e1 hw => ?_)
    refine lv_aload_n Z.1 Z.2.1 md_Cor_keep_17 rfl (lv_at hl 0 rfl) ?_
    refine lv_dup Z.1 Z.2.1 md_Cor_keep_18 rfl ?_
    refine xb_get (v := .int (M1 (9, 2 * s + c) 9)) Z hw (fb_in9 n hs hc) (fb_e9 n ad cI cZ cS cA (2 * s + c)) rfl tb_iCor 9 (by decide) mk_Cor_90 rfl rfl md_Cor_keep_19 ?_
    refine xi_re (show M1 (9, 2 * s + c) 9 = nI (pz_te n (S.2 s) c) from (by rw [e1, xw_mw_n (fr_pair (by decide))]; exact (fr_t h hs hc hx).1)) ?_
    refine lv_iconst (v := nI 1) Z.1 Z.2.1 md_Cor_keep_22 (by decide) ?_
    refine xi_add Z md_Cor_keep_23 ?_
    refine xb_put Z hw (fb_in9 n hs hc) (fb_e9 n ad cI cZ cS cA (2 * s + c)) rfl tb_iCor tb_tCor tb_yCor tb_nCor 9 (by decide) mk_Cor_90 rfl rfl rfl (fb_s9_9 ad (2 * s + c) _) md_Cor_keep_24 (fun M2 H2 locs2 e2 hw => ?_)
    refine lv_aload_n Z.1 Z.2.1 md_Cor_keep_27 rfl (lv_at hl 0 rfl) ?_
    refine xb_get (v := .ref (ad (11, 2 * s + c))) Z hw (fb_in9 n hs hc) (fb_e9 n ad cI cZ cS cA (2 * s + c)) rfl tb_iCor 7 (by decide) mk_Cor_32 rfl rfl md_Cor_keep_28 ?_
    refine lv_iload_n Z.1 Z.2.1 md_Cor_keep_31 rfl (lv_at hl 1 rfl) ?_
    refine lv_iload_n Z.1 Z.2.1 md_Cor_keep_32 rfl (lv_at hl 2 rfl) ?_
    refine xb_iast Z hw (fb_in11 n hs hc) (fb_e11 n ad cI cZ cS cA (2 * s + c)) 0 rfl (a) rfl ha (by omega) md_Cor_keep_33 (fun M3 H3 locs3 e3 hw => ?_)
    refine lv_aload_n Z.1 Z.2.1 md_Cor_keep_34 rfl (lv_at hl 0 rfl) ?_
    refine xb_get (v := .ref (ad (12, 2 * s + c))) Z hw (fb_in9 n hs hc) (fb_e9 n ad cI cZ cS cA (2 * s + c)) rfl tb_iCor 8 (by decide) mk_Cor_36 rfl rfl md_Cor_keep_35 ?_
    refine lv_iload_n Z.1 Z.2.1 md_Cor_keep_38 rfl (lv_at hl 1 rfl) ?_
    refine lv_iload_n Z.1 Z.2.1 md_Cor_keep_39 rfl (lv_at hl 3 rfl) ?_
    refine xb_iast Z hw (fb_in12 n hs hc) (fb_e12 n ad cI cZ cS cA (2 * s + c)) 0 rfl (a) rfl ha (by omega) md_Cor_keep_40 (fun M4 H4 locs4 e4 hw => ?_)
    have m4 : ∀ z, z ≠ (9, 2 * s + c) → z ≠ (10, 2 * s + c) → z ≠ (11, 2 * s + c) → z ≠ (12, 2 * s + c) → M4 z = M z := fun z h9 h10 h11 h12 => by rw [e4, xw_mw_n h12, e3, xw_mw_n h11, e2, xw_mw_n h9, e1, xw_mw_n h10]
    have k9 : M4 (9, 2 * s + c) = upd (M (9, 2 * s + c)) 9 (nI (pz_te n (S.2 s) c + 1)) := by rw [e4, xw_mw_n (fr_pair (by decide)), e3, xw_mw_n (fr_pair (by decide)), e2, xw_mw_s, e1, xw_mw_n (fr_pair (by decide))]
    have k10 : M4 (10, 2 * s + c) = upd (M (10, 2 * s + c)) a (nI 1) := by rw [e4, xw_mw_n (fr_pair (by decide)), e3, xw_mw_n (fr_pair (by decide)), e2, xw_mw_n (fr_pair (by decide)), e1, xw_mw_s]
    have k11 : M4 (11, 2 * s + c) = upd (M (11, 2 * s + c)) a (nI v) := by rw [e4, xw_mw_n (fr_pair (by decide)), e3, xw_mw_s, e2, xw_mw_n (fr_pair (by decide)), e1, xw_mw_n (fr_pair (by decide))]
    have k12 : M4 (12, 2 * s + c) = upd (M (12, 2 * s + c)) a (nI k) := by rw [e4, xw_mw_s, e3, xw_mw_n (fr_pair (by decide)), e2, xw_mw_n (fr_pair (by decide)), e1, xw_mw_n (fr_pair (by decide))]
    refine xw_vret Z hr hlk hw md_Cor_keep_41 ⟨fr_tol h hs hc m4 (fun j hj => by rw [k9]; simp [upd, hj]) (fun _ _ _ y => y) (fun k x y hk => pz_tll_k hk) (fun k d b hd => pz_tll_x hd) (fun hx => ⟨?_, fun b hb => ?_⟩), m4 _ (fr_pair (by decide)) (fr_pair (by decide)) (fr_pair (by decide)) (fr_pair (by decide))⟩
    · rw [k9]; simp only [upd]; rw [if_pos trivial]; exact congrArg nI (pz_te_tll (n := n) h6 n ha).symm
    · rw [k10, k11, k12]
      unfold upd
      by_cases e : b = a
      · subst e
        rw [if_pos rfl, if_pos rfl, if_pos rfl, pz_tll_11, pz_tll_12, pz_tll_13]
        exact ⟨rfl, fun _ => ⟨rfl, rfl⟩⟩
      · rw [if_neg e, if_neg e, if_neg e, pz_tll_y e, pz_tll_y e, pz_tll_y e]
        exact (fr_t h hs hc hx).2 b hb
  · exact xw_vret Z hr hlk hw md_Cor_keep_9 ⟨by rw [pz_tll_id (hsame h6).1 (hsame h6).2.1 (hsame h6).2.2, pz_pw_id]; exact h, rfl⟩
set_option maxHeartbeats 4000000 in
theorem k_forget (l : Launch) (D : va_G) {n : Nat} (ad : Nat × Nat → Nat) (cI cZ cS cA : ClassId) {M : fr_M} {q f : Nat} {S : pz_T} {ex : Nat → Nat → Prop} {s c : Nat} (hn : n ≤ 5) (h : fr_R n q f S ex M) (hs : s < 3) (hc : c < 2) : fb_C l D n ad cI cZ cS cA my_Cor_forget mb_Cor_forget 2 none 0 0 M [.ref (ad (9, 2 * s + c))] (none) (fr_K n q f (pz_pw S s (pz_cl (S.2 s) c)) (fr_xs ex s c False) M) := by
  refine xw_start [.ref (ad (9, 2 * s + c))] (by decide) (Nat.le_of_ble_eq_true rfl) ?_
  intro p e st m below meth cd0 ls Z hml hr hlk hN hl hw
  have hl : lv_has ls 2 [(0, .ref (ad (9, 2 * s + c)))] := hl
  refine lv_aload_n Z.1 Z.2.1 md_Cor_forget_0 rfl (lv_at hl 0 rfl) ?_
  refine lv_iconst (v := nI 0) Z.1 Z.2.1 md_Cor_forget_1 (by decide) ?_
  refine xb_put Z hw (fb_in9 n hs hc) (fb_e9 n ad cI cZ cS cA (2 * s + c)) rfl tb_iCor tb_tCor tb_yCor tb_nCor 9 (by decide) mk_Cor_90 rfl rfl rfl (fb_s9_9 ad (2 * s + c) _) md_Cor_forget_2 (fun M1 H1 locs1 e1 hw => ?_)
  refine lv_iconst (v := nI 0) Z.1 Z.2.1 md_Cor_forget_5 (by decide) ?_
  refine lv_istore_n Z.1 Z.2.1 md_Cor_forget_6 rfl hl (by decide) rfl (fun ls hl => ?_)
  have hl : lv_has ls 2 [(1, .int (nI (0))), (0, .ref (ad (9, 2 * s + c)))] := hl
  have loop7 : ∀ (d i : Nat) (Mi : fr_M) (Hi : Heap) (Li : List Loc) (ls : Array Slot), i + d = n → ((∀ k, k ≠ (10, 2 * s + c) → Mi k = M1 k) ∧ ∀ j, j < i → Mi (10, 2 * s + c) j = nI 0) → xw_H D tb_cl (xw_A (fb_ids n) ad) st.heap (fb_ids n) ad (xw_M (fb_k n ad cI cZ cS cA) Mi) Hi Li → lv_has ls 2 [(1, .int (nI (i))), (0, .ref (ad (9, 2 * s + c)))] → W p l e { frames := 0, cells := 0, slots := 0, locals := 0 } st m [.ref (ad (9, 2 * s + c))].toArray below meth cd0 Hi Li 0 0 (MQ below (xw_Qc D tb_cl (fb_ids n) ad (fb_k n ad cI cZ cS cA) (none) (fr_K n q f (pz_pw S s (pz_cl (S.2 s) c)) (fr_xs ex s c False) M)) [.ref (ad (9, 2 * s + c))].toArray st 0 0 (xw_A (fb_ids n) ad)) (F0 m 7 ls []) := by
    intro d
    induction d with
    | zero =>
      intro i Mi Hi Li ls hi hinv hw hl
      refine lv_iload_n Z.1 Z.2.1 md_Cor_forget_7 rfl (lv_at hl 0 rfl) ?_
      refine lv_aload_n Z.1 Z.2.1 md_Cor_forget_8 rfl (lv_at hl 1 rfl) ?_
      refine xb_get (v := .ref (ad (1, 0))) Z hw (fb_in9 n hs hc) (fb_e9 n ad cI cZ cS cA (2 * s + c)) rfl tb_iCor 1 (by decide) mk_Cor_15 rfl rfl md_Cor_forget_9 ?_
      refine xb_get (v := .int (Mi (1, 0) 0)) Z hw (fb_in1 n) (fb_e1 n ad cI cZ cS cA) rfl tb_iSiz 0 (by decide) mk_Cor_23 rfl rfl md_Cor_forget_12 ?_
      refine xi_re (show Mi (1, 0) 0 = nI (n) from (by rw [hinv.1 _ (fr_pair (by decide)), e1, xw_mw_n (fr_pair (by decide))]; exact h.1.1)) ?_
      refine xi_icmp_ge (tgt := 31) Z md_Cor_forget_15 (by decide) (by omega) (by omega) (fun h15 => ?_) (fun h15 => by exfalso; omega)
      refine xw_vret Z hr hlk hw md_Cor_forget_31 ⟨fr_tol h hs hc (fun z h9 h10 _ _ => by rw [hinv.1 z h10, e1, xw_mw_n h9]) (fun j hj => by rw [hinv.1 _ (fr_pair (by decide)), e1, xw_mw_s]; simp [upd, hj]) (fun s' c' y hy => fr_xs_off y hy) (fun k x y hk => by unfold pz_cl; rw [if_neg (fun z => hk.1 z.1)]) (fun k d b hd => by unfold pz_cl; rw [if_neg (fun z => hd z.2)]) (fun _ => ⟨?_, fun b hb => ?_⟩), by rw [hinv.1 _ (fr_pair (by decide)), e1, xw_mw_n (fr_pair (by decide))]⟩
      · rw [hinv.1 _ (fr_pair (by decide)), e1, xw_mw_s]
        simp only [upd]
        rw [if_pos trivial]
        exact congrArg nI (pz_sm_zero n (fun a _ => by unfold pz_cl; rw [if_pos ⟨rfl, rfl⟩])).symm
      · have z0 : pz_cl (S.2 s) c 11 c b = 0 := by unfold pz_cl; rw [if_pos ⟨rfl, rfl⟩]
        rw [z0]
        exact ⟨hinv.2 b (by omega), fun y => absurd rfl y⟩
    | succ d ih =>
      intro i Mi Hi Li ls hi hinv hw hl
      refine lv_iload_n Z.1 Z.2.1 md_Cor_forget_7 rfl (lv_at hl 0 rfl) ?_
      refine lv_aload_n Z.1 Z.2.1 md_Cor_forget_8 rfl (lv_at hl 1 rfl) ?_
      refine xb_get (v := .ref (ad (1, 0))) Z hw (fb_in9 n hs hc) (fb_e9 n ad cI cZ cS cA (2 * s + c)) rfl tb_iCor 1 (by decide) mk_Cor_15 rfl rfl md_Cor_forget_9 ?_
      refine xb_get (v := .int (Mi (1, 0) 0)) Z hw (fb_in1 n) (fb_e1 n ad cI cZ cS cA) rfl tb_iSiz 0 (by decide) mk_Cor_23 rfl rfl md_Cor_forget_12 ?_
      refine xi_re (show Mi (1, 0) 0 = nI (n) from (by rw [hinv.1 _ (fr_pair (by decide)), e1, xw_mw_n (fr_pair (by decide))]; exact h.1.1)) ?_
      refine xi_icmp_ge (tgt := 31) Z md_Cor_forget_15 (by decide) (by omega) (by omega) (fun h15 => by exfalso; omega) (fun h15 => ?_)
      refine lv_aload_n Z.1 Z.2.1 md_Cor_forget_18 rfl (lv_at hl 1 rfl) ?_
      refine xb_get (v := .ref (ad (10, 2 * s + c))) Z hw (fb_in9 n hs hc) (fb_e9 n ad cI cZ cS cA (2 * s + c)) rfl tb_iCor 6 (by decide) mk_Cor_28 rfl rfl md_Cor_forget_19 ?_
      refine lv_iload_n Z.1 Z.2.1 md_Cor_forget_22 rfl (lv_at hl 0 rfl) ?_
      refine lv_iconst (v := nI 0) Z.1 Z.2.1 md_Cor_forget_23 (by decide) ?_
      refine xb_zast Z hw (fb_in10 n hs hc) (fb_e10 n ad cI cZ cS cA (2 * s + c)) 1 rfl xi_z0 (i) rfl (by omega) (by omega) md_Cor_forget_24 (fun M2 H2 locs2 e2 hw => ?_)
      refine lv_iinc Z.1 Z.2.1 md_Cor_forget_25 hl (k := 0) rfl (xi_inc1 (i)) (by decide) rfl (fun ls hl => ?_)
      have hl : lv_has ls 2 [(1, .int (nI (i + 1))), (0, .ref (ad (9, 2 * s + c)))] := hl
      refine lv_goto (tgt := 7) Z.1 Z.2.1 md_Cor_forget_28 (by decide) ?_
      have eq_ := e2
      refine ih (i + 1) M2 _ _ ls (by omega) (⟨fun k hk => by rw [eq_, xw_mw_n hk]; exact hinv.1 k hk, fun j hj => by rw [eq_, xw_mw_s]; unfold upd; split; rfl; exact hinv.2 j (by omega)⟩) hw ?_
      exact lv_sub hl [0, 1] rfl
  exact loop7 n (0) M1 _ _ ls (by omega) ⟨fun _ _ => rfl, fun j hj => absurd hj (Nat.not_lt_zero j)⟩ hw (lv_sub hl [0, 1] rfl)
set_option maxHeartbeats 4000000 in
theorem k_sendToAll (l : Launch) (D : va_G) {n : Nat} (ad : Nat × Nat → Nat) (cI cZ cS cA : ClassId) {M : fr_M} {q f : Nat} {S : pz_T} {ex : Nat → Nat → Prop} {s c : Nat} (hn : n ≤ 5) (h : fr_R n q f S ex M) (hs : s < 3) (hc : c < 2) {kd v : Nat} (h60 : S.1.length ≤ 60) (hk3 : kd ≠ 3) (hk5 : kd ≠ 5) : fb_C l D n ad cI cZ cS cA my_Cor_sendToAll mb_Cor_sendToAll 4 none 1 28 M [.ref (ad (9, 2 * s + c)), .int (nI (kd)), .int (nI (v))] (none) (fr_K n q f (pz_sa kd s (S.2 s 8 c 0) v n S) ex M) := by
  refine xw_start [.ref (ad (9, 2 * s + c)), .int (nI (kd)), .int (nI (v))] (by decide) (Nat.le_of_ble_eq_true rfl) ?_
  intro p e st m below meth cd0 ls Z hml hr hlk hN hl hw
  have hl : lv_has ls 4 [(0, .ref (ad (9, 2 * s + c))), (1, .int (nI (kd))), (2, .int (nI (v)))] := hl
  refine lv_iconst (v := nI 0) Z.1 Z.2.1 md_Cor_sendToAll_0 (by decide) ?_
  refine lv_istore_n Z.1 Z.2.1 md_Cor_sendToAll_1 rfl hl (by decide) rfl (fun ls hl => ?_)
  have hl : lv_has ls 4 [(3, .int (nI (0))), (0, .ref (ad (9, 2 * s + c))), (1, .int (nI (kd))), (2, .int (nI (v)))] := hl
  have loop2 : ∀ (d i : Nat) (Mi : fr_M) (Hi : Heap) (Li : List Loc) (ls : Array Slot), i + d = n → (fr_K n q f (pz_sa kd s (S.2 s 8 c 0) v i S) ex M Mi) → xw_H D tb_cl (xw_A (fb_ids n) ad) st.heap (fb_ids n) ad (xw_M (fb_k n ad cI cZ cS cA) Mi) Hi Li → lv_has ls 4 [(3, .int (nI (i))), (0, .ref (ad (9, 2 * s + c))), (1, .int (nI (kd))), (2, .int (nI (v)))] → W p l e { frames := 1, cells := 0, slots := 0, locals := 28 } st m [.ref (ad (9, 2 * s + c)), .int (nI (kd)), .int (nI (v))].toArray below meth cd0 Hi Li 0 0 (MQ below (xw_Qc D tb_cl (fb_ids n) ad (fb_k n ad cI cZ cS cA) (none) (fr_K n q f (pz_sa kd s (S.2 s 8 c 0) v n S) ex M)) [.ref (ad (9, 2 * s + c)), .int (nI (kd)), .int (nI (v))].toArray st 0 0 (xw_A (fb_ids n) ad)) (F0 m 2 ls []) := by
    intro d
    induction d with
    | zero =>
      intro i Mi Hi Li ls hi hinv hw hl
      refine lv_iload_n Z.1 Z.2.1 md_Cor_sendToAll_2 rfl (lv_at hl 0 rfl) ?_
      refine lv_aload_n Z.1 Z.2.1 md_Cor_sendToAll_3 rfl (lv_at hl 1 rfl) ?_
      refine xb_get (v := .ref (ad (1, 0))) Z hw (fb_in9 n hs hc) (fb_e9 n ad cI cZ cS cA (2 * s + c)) rfl tb_iCor 1 (by decide) mk_Cor_15 rfl rfl md_Cor_sendToAll_4 ?_
      refine xb_get (v := .int (Mi (1, 0) 0)) Z hw (fb_in1 n) (fb_e1 n ad cI cZ cS cA) rfl tb_iSiz 0 (by decide) mk_Cor_23 rfl rfl md_Cor_sendToAll_7 ?_
      refine xi_re (show Mi (1, 0) 0 = nI (n) from hinv.1.1.1) ?_
      refine xi_icmp_ge (tgt := 39) Z md_Cor_sendToAll_10 (by decide) (by omega) (by omega) (fun h10 => ?_) (fun h10 => by exfalso; omega)
      exact xw_vret Z hr hlk hw md_Cor_sendToAll_39 (by rw [show i = n by omega] at hinv; exact hinv)
    | succ d ih =>
      intro i Mi Hi Li ls hi hinv hw hl
      refine lv_iload_n Z.1 Z.2.1 md_Cor_sendToAll_2 rfl (lv_at hl 0 rfl) ?_
      refine lv_aload_n Z.1 Z.2.1 md_Cor_sendToAll_3 rfl (lv_at hl 1 rfl) ?_
      refine xb_get (v := .ref (ad (1, 0))) Z hw (fb_in9 n hs hc) (fb_e9 n ad cI cZ cS cA (2 * s + c)) rfl tb_iCor 1 (by decide) mk_Cor_15 rfl rfl md_Cor_sendToAll_4 ?_
      refine xb_get (v := .int (Mi (1, 0) 0)) Z hw (fb_in1 n) (fb_e1 n ad cI cZ cS cA) rfl tb_iSiz 0 (by decide) mk_Cor_23 rfl rfl md_Cor_sendToAll_7 ?_
      refine xi_re (show Mi (1, 0) 0 = nI (n) from hinv.1.1.1) ?_
      refine xi_icmp_ge (tgt := 39) Z md_Cor_sendToAll_10 (by decide) (by omega) (by omega) (fun h10 => by exfalso; omega) (fun h10 => ?_)
      refine lv_aload_n Z.1 Z.2.1 md_Cor_sendToAll_13 rfl (lv_at hl 1 rfl) ?_
      refine xb_get (v := .ref (ad (2, 0))) Z hw (fb_in9 n hs hc) (fb_e9 n ad cI cZ cS cA (2 * s + c)) rfl tb_iCor 2 (by decide) mk_Cor_19 rfl rfl md_Cor_sendToAll_14 ?_
      refine lv_iload_n Z.1 Z.2.1 md_Cor_sendToAll_17 rfl (lv_at hl 2 rfl) ?_
      refine lv_aload_n Z.1 Z.2.1 md_Cor_sendToAll_18 rfl (lv_at hl 1 rfl) ?_
      refine xb_get (v := .int (Mi (9, 2 * s + c) 0)) Z hw (fb_in9 n hs hc) (fb_e9 n ad cI cZ cS cA (2 * s + c)) rfl tb_iCor 0 (by decide) mk_Cor_9 rfl rfl md_Cor_sendToAll_19 ?_
      refine xi_re (show Mi (9, 2 * s + c) 0 = nI (s) from (fr_c hinv.1 hs hc).1) ?_
      refine lv_aload_n Z.1 Z.2.1 md_Cor_sendToAll_22 rfl (lv_at hl 1 rfl) ?_
      refine xb_get (v := .int (Mi (9, 2 * s + c) 3)) Z hw (fb_in9 n hs hc) (fb_e9 n ad cI cZ cS cA (2 * s + c)) rfl tb_iCor 3 (by decide) mk_Cor_39 rfl rfl md_Cor_sendToAll_23 ?_
      refine xi_re (show Mi (9, 2 * s + c) 3 = nI (S.2 s 8 c 0) from (by have z := (fr_c hinv.1 hs hc).2.1; rw [pz_sa_2 _ _ _ _ _ hs] at z; exact z)) ?_
      refine lv_iconst (v := -1) Z.1 Z.2.1 md_Cor_sendToAll_26 (by decide) ?_
      refine lv_iload_n Z.1 Z.2.1 md_Cor_sendToAll_27 rfl (lv_at hl 0 rfl) ?_
      refine lv_iload_n Z.1 Z.2.1 md_Cor_sendToAll_28 rfl (lv_at hl 3 rfl) ?_
      refine lv_iconst (v := nI 0) Z.1 Z.2.1 md_Cor_sendToAll_29 (by decide) ?_
      refine xw_cV (n := 7) (rest := []) Z hml hl.1 hN hw (k_send (g := pz_mg kd s (S.2 s 8 c 0) 0 i v 0) (x := -1) l D ad cI cZ cS cA hinv.1 (fr_sa_len h60 i) (fun z => absurd z (by show ¬ (kd = 3 ∨ kd = 5); omega))) tb_g mc_Mail_send mk_Cor_140 mi_Mail_send ms_Mail_send mz_Mail ⟨by decide, by decide, by decide +kernel⟩ ⟨Nat.le_of_ble_eq_true rfl, Nat.le_of_ble_eq_true rfl⟩ (fb_in2 n) (fb_e2 n ad cI cZ cS cA _) rfl rfl rfl rfl (Nat.le_of_ble_eq_true rfl) ⟨Nat.le_refl _, Nat.le_refl _⟩ md_Cor_sendToAll_30 (fun M1 H1 locs1 hp hw => ?_)
      refine W.eq (g2 := F0 m 33 ls []) rfl ?_
      refine lv_iinc Z.1 Z.2.1 md_Cor_sendToAll_33 hl (k := 0) rfl (xi_inc1 (i)) (by decide) rfl (fun ls hl => ?_)
      have hl : lv_has ls 4 [(3, .int (nI (i + 1))), (0, .ref (ad (9, 2 * s + c))), (1, .int (nI (kd))), (2, .int (nI (v)))] := hl
      refine lv_goto (tgt := 2) Z.1 Z.2.1 md_Cor_sendToAll_36 (by decide) ?_
      refine ih (i + 1) M1 _ _ ls (by omega) (⟨hp.1, by rw [hp.2]; exact hinv.2⟩) hw ?_
      exact lv_sub hl [0, 1, 2, 3] rfl
  exact loop2 n (0) M _ _ ls (by omega) ⟨h, rfl⟩ hw (lv_sub hl [0, 1, 2, 3] rfl)
set_option maxHeartbeats 4000000 in
theorem k_startAsking (l : Launch) (D : va_G) {n : Nat} (ad : Nat × Nat → Nat) (cI cZ cS cA : ClassId) {M : fr_M} {q f : Nat} {S : pz_T} {ex : Nat → Nat → Prop} {s c : Nat} (hn : n ≤ 5) (h : fr_R n q f S ex M) (hs : s < 3) (hc : c < 2) {r : Nat} (h60 : S.1.length ≤ 60) (hci : pz_ci r = c) : fb_C l D n ad cI cZ cS cA my_Cor_startAsking mb_Cor_startAsking 2 none 2 51 M [.ref (ad (9, 2 * s + c)), .int (nI (r))] (none) (fr_K n q f (pz_begin n S s r) (fr_xs ex s c False) M) := by
  refine xw_start [.ref (ad (9, 2 * s + c)), .int (nI (r))] (by decide) (Nat.le_of_ble_eq_true rfl) ?_
  intro p e st m below meth cd0 ls Z hml hr hlk hN hl hw
  have hl : lv_has ls 2 [(0, .ref (ad (9, 2 * s + c))), (1, .int (nI (r)))] := hl
  refine lv_aload_n Z.1 Z.2.1 md_Cor_startAsking_0 rfl (lv_at hl 0 rfl) ?_
  refine lv_iload_n Z.1 Z.2.1 md_Cor_startAsking_1 rfl (lv_at hl 1 rfl) ?_
  refine xb_put Z hw (fb_in9 n hs hc) (fb_e9 n ad cI cZ cS cA (2 * s + c)) rfl tb_iCor tb_tCor tb_yCor tb_nCor 3 (by decide) mk_Cor_39 rfl rfl rfl (fb_s9_3 ad (2 * s + c) _) md_Cor_startAsking_2 (fun M1 H1 locs1 e1 hw => ?_)
  refine lv_aload_n Z.1 Z.2.1 md_Cor_startAsking_5 rfl (lv_at hl 0 rfl) ?_
  refine lv_iconst (v := nI 1) Z.1 Z.2.1 md_Cor_startAsking_6 (by decide) ?_
  refine xb_put Z hw (fb_in9 n hs hc) (fb_e9 n ad cI cZ cS cA (2 * s + c)) rfl tb_iCor tb_tCor tb_yCor tb_nCor 4 (by decide) mk_Cor_42 rfl rfl rfl (fb_s9_4 ad (2 * s + c) _) md_Cor_startAsking_7 (fun M2 H2 locs2 e2 hw => ?_)
  have h2c : M2 (9, 2 * s + c) = upd (upd (M (9, 2 * s + c)) 3 (nI r)) 4 (nI 1) := by rw [e2, xw_mw_s, e1, xw_mw_s]
  have h2m : ∀ k, k ≠ (9, 2 * s + c) → M2 k = M k := fun k hk => by rw [e2, xw_mw_n hk, e1, xw_mw_n hk]
  have h2 : fr_R n q f (pz_pw S s (pz_u (pz_u (S.2 s) 8 c 0 r) 9 c 0 1)) ex M2 := by
    have k := fr_c h hs hc
    refine fr_cor h hs hc h2m (fun _ _ y => y) (fun k x y hk => by simp only [pz_u]; repeat rw [if_neg (fun y => by omega)]) (fun k d hd h8 h10 => by simp only [pz_u]; repeat rw [if_neg (fun y => by omega)]) ?_ ?_
    · rw [h2c]
      refine ⟨?_, ?_, ?_, ?_⟩ <;> (simp only [upd, pz_u]; try simp) <;> first | exact k.1 | exact k.2.1 | exact k.2.2.1 | exact k.2.2.2
    · rw [h2c]; simp [upd]
  refine lv_aload_n Z.1 Z.2.1 md_Cor_startAsking_10 rfl (lv_at hl 0 rfl) ?_
  refine xw_cV (n := 0) (rest := []) Z hml hl.1 hN hw (k_forget l D ad cI cZ cS cA hn h2 hs hc) tb_g mc_Cor_forget mk_Cor_45 mi_Cor_forget ms_Cor_forget mz_Cor ⟨by decide, by decide, by decide +kernel⟩ ⟨Nat.le_of_ble_eq_true rfl, Nat.le_of_ble_eq_true rfl⟩ (fb_in9 n hs hc) (fb_e9 n ad cI cZ cS cA (2 * s + c) _) rfl rfl rfl rfl (Nat.le_of_ble_eq_true rfl) ⟨Nat.le_refl _, Nat.le_refl _⟩ md_Cor_startAsking_11 (fun M3 H3 locs3 h3 hw => ?_)
  refine W.eq (g2 := F0 m 14 ls []) rfl ?_
  have h3r : fr_R n q f (pz_pw S s (pz_ld (S.2 s) c r 1)) (fr_xs ex s c False) M3 := by
    have z := h3.1
    rw [pz_pw_s, pz_pw_pw, pz_cl_ld] at z
    exact z
  refine lv_aload_n Z.1 Z.2.1 md_Cor_startAsking_14 rfl (lv_at hl 0 rfl) ?_
  refine lv_iconst (v := nI 2) Z.1 Z.2.1 md_Cor_startAsking_15 (by decide) ?_
  refine lv_iconst (v := nI 0) Z.1 Z.2.1 md_Cor_startAsking_16 (by decide) ?_
  refine xw_cV (n := 2) (rest := []) Z hml hl.1 hN hw (k_sendToAll (kd := 2) (v := 0) l D ad cI cZ cS cA hn h3r hs hc h60 (by decide) (by decide)) tb_g mc_Cor_sendToAll mk_Cor_48 mi_Cor_sendToAll ms_Cor_sendToAll mz_Cor ⟨by decide, by decide, by decide +kernel⟩ ⟨Nat.le_of_ble_eq_true rfl, Nat.le_of_ble_eq_true rfl⟩ (fb_in9 n hs hc) (fb_e9 n ad cI cZ cS cA (2 * s + c) _) rfl rfl rfl rfl (Nat.le_of_ble_eq_true rfl) ⟨Nat.le_refl _, Nat.le_refl _⟩ md_Cor_startAsking_17 (fun M4 H4 locs4 h4 hw => ?_)
  refine W.eq (g2 := F0 m 20 ls []) rfl ?_
  refine xw_vret Z hr hlk hw md_Cor_startAsking_20 ⟨?_, by rw [h4.2, h3.2, h2m _ (fr_pair (by decide))]⟩
  have z := h4.1
  rw [pz_pw_s, pz_ld_8] at z
  unfold pz_begin
  rw [hci]
  exact z
set_option maxHeartbeats 4000000 in
theorem k_startVoting (l : Launch) (D : va_G) {n : Nat} (ad : Nat × Nat → Nat) (cI cZ cS cA : ClassId) {M : fr_M} {q f : Nat} {S : pz_T} {ex : Nat → Nat → Prop} {s c : Nat} (hn : n ≤ 5) (h : fr_R n q f S ex M) (hs : s < 3) (hc : c < 2) {v : Nat} (h60 : S.1.length ≤ 60) : fb_C l D n ad cI cZ cS cA my_Cor_startVoting mb_Cor_startVoting 2 none 2 51 M [.ref (ad (9, 2 * s + c)), .int (nI (v))] (none) (fr_K n q f (pz_sv n S s c v) (fr_xs ex s c False) M) := by
  refine xw_start [.ref (ad (9, 2 * s + c)), .int (nI (v))] (by decide) (Nat.le_of_ble_eq_true rfl) ?_
  intro p e st m below meth cd0 ls Z hml hr hlk hN hl hw
  have hl : lv_has ls 2 [(0, .ref (ad (9, 2 * s + c))), (1, .int (nI (v)))] := hl
  refine lv_aload_n Z.1 Z.2.1 md_Cor_startVoting_0 rfl (lv_at hl 0 rfl) ?_
  refine lv_iconst (v := nI 3) Z.1 Z.2.1 md_Cor_startVoting_1 (by decide) ?_
  refine xb_put Z hw (fb_in9 n hs hc) (fb_e9 n ad cI cZ cS cA (2 * s + c)) rfl tb_iCor tb_tCor tb_yCor tb_nCor 4 (by decide) mk_Cor_42 rfl rfl rfl (fb_s9_4 ad (2 * s + c) _) md_Cor_startVoting_2 (fun M1 H1 locs1 e1 hw => ?_)
  have h2c : M1 (9, 2 * s + c) = upd (M (9, 2 * s + c)) 4 (nI 3) := by rw [e1, xw_mw_s]
  have h2m : ∀ k, k ≠ (9, 2 * s + c) → M1 k = M k := fun k hk => by rw [e1, xw_mw_n hk]
  have h2 : fr_R n q f (pz_pw S s (pz_u (S.2 s) 9 c 0 3)) ex M1 := by
    have k := fr_c h hs hc
    refine fr_cor h hs hc h2m (fun _ _ y => y) (fun k x y hk => by simp only [pz_u]; repeat rw [if_neg (fun y => by omega)]) (fun k d hd h8 h10 => by simp only [pz_u]; repeat rw [if_neg (fun y => by omega)]) ?_ ?_
    · rw [h2c]
      refine ⟨?_, ?_, ?_, ?_⟩ <;> (simp only [upd, pz_u]; try simp) <;> first | exact k.1 | exact k.2.1 | exact k.2.2.1 | exact k.2.2.2
    · rw [h2c]; simp [upd]
  refine lv_aload_n Z.1 Z.2.1 md_Cor_startVoting_5 rfl (lv_at hl 0 rfl) ?_
  refine xw_cV (n := 0) (rest := []) Z hml hl.1 hN hw (k_forget l D ad cI cZ cS cA hn h2 hs hc) tb_g mc_Cor_forget mk_Cor_45 mi_Cor_forget ms_Cor_forget mz_Cor ⟨by decide, by decide, by decide +kernel⟩ ⟨Nat.le_of_ble_eq_true rfl, Nat.le_of_ble_eq_true rfl⟩ (fb_in9 n hs hc) (fb_e9 n ad cI cZ cS cA (2 * s + c) _) rfl rfl rfl rfl (Nat.le_of_ble_eq_true rfl) ⟨Nat.le_refl _, Nat.le_refl _⟩ md_Cor_startVoting_6 (fun M2 H2 locs2 h3 hw => ?_)
  refine W.eq (g2 := F0 m 9 ls []) rfl ?_
  have h3r : fr_R n q f (pz_pw S s (pz_cl (pz_u (S.2 s) 9 c 0 3) c)) (fr_xs ex s c False) M2 := by
    have z := h3.1
    rw [pz_pw_s, pz_pw_pw] at z
    exact z
  refine lv_aload_n Z.1 Z.2.1 md_Cor_startVoting_9 rfl (lv_at hl 0 rfl) ?_
  refine lv_iconst (v := nI 4) Z.1 Z.2.1 md_Cor_startVoting_10 (by decide) ?_
  refine lv_iload_n Z.1 Z.2.1 md_Cor_startVoting_11 rfl (lv_at hl 1 rfl) ?_
  refine xw_cV (n := 2) (rest := []) Z hml hl.1 hN hw (k_sendToAll (kd := 4) (v := v) l D ad cI cZ cS cA hn h3r hs hc h60 (by decide) (by decide)) tb_g mc_Cor_sendToAll mk_Cor_48 mi_Cor_sendToAll ms_Cor_sendToAll mz_Cor ⟨by decide, by decide, by decide +kernel⟩ ⟨Nat.le_of_ble_eq_true rfl, Nat.le_of_ble_eq_true rfl⟩ (fb_in9 n hs hc) (fb_e9 n ad cI cZ cS cA (2 * s + c) _) rfl rfl rfl rfl (Nat.le_of_ble_eq_true rfl) ⟨Nat.le_refl _, Nat.le_refl _⟩ md_Cor_startVoting_12 (fun M3 H3 locs3 h4 hw => ?_)
  refine W.eq (g2 := F0 m 15 ls []) rfl ?_
  refine xw_vret Z hr hlk hw md_Cor_startVoting_15 ⟨?_, by rw [h4.2, h3.2, h2m _ (fr_pair (by decide))]⟩
  have z := h4.1
  rw [pz_pw_s, show pz_cl (pz_u (S.2 s) 9 c 0 3) c 8 c 0 = S.2 s 8 c 0 from by unfold pz_cl; rw [if_neg (by omega), pz_u_k (by decide)]] at z
  exact z
set_option maxHeartbeats 4000000 in
theorem k_goOnWith (l : Launch) (D : va_G) {n : Nat} (ad : Nat × Nat → Nat) (cI cZ cS cA : ClassId) {M : fr_M} {q f : Nat} {S : pz_T} {ex : Nat → Nat → Prop} {s c : Nat} (hn : n ≤ 5) (h : fr_R n q f S ex M) (hs : s < 3) (hc : c < 2) {x : Nat} (h60 : S.1.length ≤ 60) (hx : x < 2 ^ 31) (h8 : S.2 s 8 c 0 < 2 ^ 31) (h10 : S.2 s 10 c 0 < 2 ^ 31) : fb_C l D n ad cI cZ cS cA my_Cor_goOnWith mb_Cor_goOnWith 2 none 3 72 M [.ref (ad (9, 2 * s + c)), .int (nI (x))] (none) (fr_K n q f (pz_gw n S s c x) (fr_xs ex s c ((pz_gw n S s c x).2 s 9 c 0 = 2)) M) := by
  refine xw_start [.ref (ad (9, 2 * s + c)), .int (nI (x))] (by decide) (Nat.le_of_ble_eq_true rfl) ?_
  intro p e st m below meth cd0 ls Z hml hr hlk hN hl hw
  have hl : lv_has ls 2 [(0, .ref (ad (9, 2 * s + c))), (1, .int (nI (x)))] := hl
  refine lv_iload_n Z.1 Z.2.1 md_Cor_goOnWith_0 rfl (lv_at hl 1 rfl) ?_
  refine xi_if_eq (tgt := 12) Z md_Cor_goOnWith_1 (by decide) (by omega) (fun h1 => ?_) (fun h1 => ?_)
  · refine lv_aload_n Z.1 Z.2.1 md_Cor_goOnWith_12 rfl (lv_at hl 0 rfl) ?_
    refine xb_get (v := .int (M (9, 2 * s + c) 3)) Z hw (fb_in9 n hs hc) (fb_e9 n ad cI cZ cS cA (2 * s + c)) rfl tb_iCor 3 (by decide) mk_Cor_39 rfl rfl md_Cor_goOnWith_13 ?_
    refine xi_re (show M (9, 2 * s + c) 3 = nI (S.2 s 8 c 0) from (fr_c h hs hc).2.1) ?_
    refine xw_cN (n := 1) (rest := []) Z hml hl.1 hN hw (k_isFast l D ad cI cZ cS cA (M := M) h8) tb_g mc_FB_isFast (host := "FastBallots") (List.mem_of_getElem? (i := 3) rfl) mt_FB_isFast mz_FB ⟨by decide, by decide, by decide +kernel⟩ ⟨Nat.le_of_ble_eq_true rfl, Nat.le_of_ble_eq_true rfl⟩ rfl rfl (Nat.le_of_ble_eq_true rfl) ⟨Nat.le_refl _, Nat.le_refl _⟩ md_Cor_goOnWith_16 (fun M1 H1 locs1 e1 hw => ?_)
    have ey1 := e1.symm
    subst ey1
    refine W.eq (g2 := F0 m 19 ls [.int (nI (S.2 s 8 c 0 % 2))]) rfl ?_
    refine xi_if_eq (tgt := 30) Z md_Cor_goOnWith_19 (by decide) (by omega) (fun h19 => ?_) (fun h19 => ?_)
    · refine lv_aload_n Z.1 Z.2.1 md_Cor_goOnWith_30 rfl (lv_at hl 0 rfl) ?_
      refine xb_get (v := .int (M (9, 2 * s + c) 5)) Z hw (fb_in9 n hs hc) (fb_e9 n ad cI cZ cS cA (2 * s + c)) rfl tb_iCor 5 (by decide) mk_Cor_71 rfl rfl md_Cor_goOnWith_31 ?_
      refine xi_re (show M (9, 2 * s + c) 5 = nI (S.2 s 10 c 0) from (fr_c h hs hc).2.2.2) ?_
      refine xi_if_eq (tgt := 48) Z md_Cor_goOnWith_34 (by decide) (by omega) (fun h34 => ?_) (fun h34 => ?_)
      · refine lv_aload_n Z.1 Z.2.1 md_Cor_goOnWith_48 rfl (lv_at hl 0 rfl) ?_
        refine lv_iconst (v := nI 2) Z.1 Z.2.1 md_Cor_goOnWith_49 (by decide) ?_
        refine xb_put Z hw (fb_in9 n hs hc) (fb_e9 n ad cI cZ cS cA (2 * s + c)) rfl tb_iCor tb_tCor tb_yCor tb_nCor 4 (by decide) mk_Cor_42 rfl rfl rfl (fb_s9_4 ad (2 * s + c) _) md_Cor_goOnWith_50 (fun M2 H2 locs2 e2 hw => ?_)
        have h2c : M2 (9, 2 * s + c) = upd (M (9, 2 * s + c)) 4 (nI 2) := by rw [e2, xw_mw_s]
        have h2m : ∀ k, k ≠ (9, 2 * s + c) → M2 k = M k := fun k hk => by rw [e2, xw_mw_n hk]
        have h2 : fr_R n q f (pz_pw S s (pz_u (S.2 s) 9 c 0 2)) ex M2 := by
          have k := fr_c h hs hc
          refine fr_cor h hs hc h2m (fun _ _ y => y) (fun k x y hk => by simp only [pz_u]; repeat rw [if_neg (fun y => by omega)]) (fun k d hd h8 h10 => by simp only [pz_u]; repeat rw [if_neg (fun y => by omega)]) ?_ ?_
          · rw [h2c]
            refine ⟨?_, ?_, ?_, ?_⟩ <;> (simp only [upd, pz_u]; try simp) <;> first | exact k.1 | exact k.2.1 | exact k.2.2.1 | exact k.2.2.2
          · rw [h2c]; simp [upd]
        refine xw_vret Z hr hlk hw md_Cor_goOnWith_53 ⟨?_, ?_⟩
        · unfold pz_gw
          rw [if_neg (by omega), if_neg (by omega), if_neg (by omega), pz_pw_s, pz_u_s]
          exact fr_xs_t h2 rfl
        · exact h2m _ (fr_pair (by decide))
      · refine lv_aload_n Z.1 Z.2.1 md_Cor_goOnWith_37 rfl (lv_at hl 0 rfl) ?_
        refine lv_aload_n Z.1 Z.2.1 md_Cor_goOnWith_38 rfl (lv_at hl 0 rfl) ?_
        refine xb_get (v := .int (M (9, 2 * s + c) 5)) Z hw (fb_in9 n hs hc) (fb_e9 n ad cI cZ cS cA (2 * s + c)) rfl tb_iCor 5 (by decide) mk_Cor_71 rfl rfl md_Cor_goOnWith_39 ?_
        refine xi_re (show M (9, 2 * s + c) 5 = nI (S.2 s 10 c 0) from (fr_c h hs hc).2.2.2) ?_
        refine xw_cV (n := 1) (rest := []) Z hml hl.1 hN hw (k_startVoting (v := S.2 s 10 c 0) l D ad cI cZ cS cA hn h hs hc h60) tb_g mc_Cor_startVoting mk_Cor_74 mi_Cor_startVoting ms_Cor_startVoting mz_Cor ⟨by decide, by decide, by decide +kernel⟩ ⟨Nat.le_of_ble_eq_true rfl, Nat.le_of_ble_eq_true rfl⟩ (fb_in9 n hs hc) (fb_e9 n ad cI cZ cS cA (2 * s + c) _) rfl rfl rfl rfl (Nat.le_of_ble_eq_true rfl) ⟨Nat.le_refl _, Nat.le_refl _⟩ md_Cor_goOnWith_42 (fun M3 H3 locs3 hv hw => ?_)
        refine W.eq (g2 := F0 m 45 ls []) rfl ?_
        refine lv_goto (tgt := 53) Z.1 Z.2.1 md_Cor_goOnWith_45 (by decide) ?_
        refine xw_vret Z hr hlk hw md_Cor_goOnWith_53 ⟨?_, ?_⟩
        · unfold pz_gw
          first | (rw [if_pos (by omega)]; exact fr_xs_w hv.1) | (rw [if_neg (by omega), if_pos (by omega)]; exact fr_xs_w hv.1) | (rw [if_neg (by omega), if_neg (by omega), if_pos (by omega)]; exact fr_xs_w hv.1)
        · exact hv.2
    · refine lv_aload_n Z.1 Z.2.1 md_Cor_goOnWith_22 rfl (lv_at hl 0 rfl) ?_
      refine lv_iconst (v := nI 0) Z.1 Z.2.1 md_Cor_goOnWith_23 (by decide) ?_
      refine xw_cV (n := 1) (rest := []) Z hml hl.1 hN hw (k_startVoting (v := 0) l D ad cI cZ cS cA hn h hs hc h60) tb_g mc_Cor_startVoting mk_Cor_74 mi_Cor_startVoting ms_Cor_startVoting mz_Cor ⟨by decide, by decide, by decide +kernel⟩ ⟨Nat.le_of_ble_eq_true rfl, Nat.le_of_ble_eq_true rfl⟩ (fb_in9 n hs hc) (fb_e9 n ad cI cZ cS cA (2 * s + c) _) rfl rfl rfl rfl (Nat.le_of_ble_eq_true rfl) ⟨Nat.le_refl _, Nat.le_refl _⟩ md_Cor_goOnWith_24 (fun M4 H4 locs4 hv hw => ?_)
      refine W.eq (g2 := F0 m 27 ls []) rfl ?_
      refine lv_goto (tgt := 53) Z.1 Z.2.1 md_Cor_goOnWith_27 (by decide) ?_
      refine xw_vret Z hr hlk hw md_Cor_goOnWith_53 ⟨?_, ?_⟩
      · unfold pz_gw
        first | (rw [if_pos (by omega)]; exact fr_xs_w hv.1) | (rw [if_neg (by omega), if_pos (by omega)]; exact fr_xs_w hv.1) | (rw [if_neg (by omega), if_neg (by omega), if_pos (by omega)]; exact fr_xs_w hv.1)
      · exact hv.2
  · refine lv_aload_n Z.1 Z.2.1 md_Cor_goOnWith_4 rfl (lv_at hl 0 rfl) ?_
    refine lv_iload_n Z.1 Z.2.1 md_Cor_goOnWith_5 rfl (lv_at hl 1 rfl) ?_
    refine xw_cV (n := 1) (rest := []) Z hml hl.1 hN hw (k_startVoting (v := x) l D ad cI cZ cS cA hn h hs hc h60) tb_g mc_Cor_startVoting mk_Cor_74 mi_Cor_startVoting ms_Cor_startVoting mz_Cor ⟨by decide, by decide, by decide +kernel⟩ ⟨Nat.le_of_ble_eq_true rfl, Nat.le_of_ble_eq_true rfl⟩ (fb_in9 n hs hc) (fb_e9 n ad cI cZ cS cA (2 * s + c) _) rfl rfl rfl rfl (Nat.le_of_ble_eq_true rfl) ⟨Nat.le_refl _, Nat.le_refl _⟩ md_Cor_goOnWith_6 (fun M5 H5 locs5 hv hw => ?_)
    refine W.eq (g2 := F0 m 9 ls []) rfl ?_
    refine lv_goto (tgt := 53) Z.1 Z.2.1 md_Cor_goOnWith_9 (by decide) ?_
    refine xw_vret Z hr hlk hw md_Cor_goOnWith_53 ⟨?_, ?_⟩
    · unfold pz_gw
      first | (rw [if_pos (by omega)]; exact fr_xs_w hv.1) | (rw [if_neg (by omega), if_pos (by omega)]; exact fr_xs_w hv.1) | (rw [if_neg (by omega), if_neg (by omega), if_pos (by omega)]; exact fr_xs_w hv.1)
    · exact hv.2
end
section
/-! The coordinators: what they hear. -/
theorem md_Cor_hearProposal_0 : decode mb_Cor_hearProposal 0 = .ok (.aload_n 0, 1) := by decide +kernel
theorem md_Cor_hearProposal_1 : decode mb_Cor_hearProposal 1 = .ok (.getfield 71, 3) := by decide +kernel
theorem md_Cor_hearProposal_4 : decode mb_Cor_hearProposal 4 = .ok (.ifCond .eq 4, 3) := by decide +kernel
theorem md_Cor_hearProposal_7 : decode mb_Cor_hearProposal 7 = .ok (.return_, 1) := by decide +kernel
theorem md_Cor_hearProposal_8 : decode mb_Cor_hearProposal 8 = .ok (.aload_n 0, 1) := by decide +kernel
theorem md_Cor_hearProposal_9 : decode mb_Cor_hearProposal 9 = .ok (.iload_n 1, 1) := by decide +kernel
theorem md_Cor_hearProposal_10 : decode mb_Cor_hearProposal 10 = .ok (.putfield 71, 3) := by decide +kernel
theorem md_Cor_hearProposal_13 : decode mb_Cor_hearProposal 13 = .ok (.aload_n 0, 1) := by decide +kernel
theorem md_Cor_hearProposal_14 : decode mb_Cor_hearProposal 14 = .ok (.getfield 42, 3) := by decide +kernel
theorem md_Cor_hearProposal_17 : decode mb_Cor_hearProposal 17 = .ok (.iconst 2, 1) := by decide +kernel
theorem md_Cor_hearProposal_18 : decode mb_Cor_hearProposal 18 = .ok (.if_icmp .ne 8, 3) := by decide +kernel
theorem md_Cor_hearProposal_21 : decode mb_Cor_hearProposal 21 = .ok (.aload_n 0, 1) := by decide +kernel
theorem md_Cor_hearProposal_22 : decode mb_Cor_hearProposal 22 = .ok (.iload_n 1, 1) := by decide +kernel
theorem md_Cor_hearProposal_23 : decode mb_Cor_hearProposal 23 = .ok (.invokevirtual 74, 3) := by decide +kernel
theorem md_Cor_hearProposal_26 : decode mb_Cor_hearProposal 26 = .ok (.return_, 1) := by decide +kernel
theorem md_Cor_hearPromise_0 : decode mb_Cor_hearPromise 0 = .ok (.aload_n 1, 1) := by decide +kernel
theorem md_Cor_hearPromise_1 : decode mb_Cor_hearPromise 1 = .ok (.getfield 77, 3) := by decide +kernel
theorem md_Cor_hearPromise_4 : decode mb_Cor_hearPromise 4 = .ok (.aload_n 0, 1) := by decide +kernel
theorem md_Cor_hearPromise_5 : decode mb_Cor_hearPromise 5 = .ok (.getfield 39, 3) := by decide +kernel
theorem md_Cor_hearPromise_8 : decode mb_Cor_hearPromise 8 = .ok (.if_icmp .ne 11, 3) := by decide +kernel
theorem md_Cor_hearPromise_11 : decode mb_Cor_hearPromise 11 = .ok (.aload_n 0, 1) := by decide +kernel
theorem md_Cor_hearPromise_12 : decode mb_Cor_hearPromise 12 = .ok (.getfield 42, 3) := by decide +kernel
theorem md_Cor_hearPromise_15 : decode mb_Cor_hearPromise 15 = .ok (.iconst 1, 1) := by decide +kernel
theorem md_Cor_hearPromise_16 : decode mb_Cor_hearPromise 16 = .ok (.if_icmp .eq 4, 3) := by decide +kernel
theorem md_Cor_hearPromise_19 : decode mb_Cor_hearPromise 19 = .ok (.return_, 1) := by decide +kernel
theorem md_Cor_hearPromise_20 : decode mb_Cor_hearPromise 20 = .ok (.aload_n 0, 1) := by decide +kernel
theorem md_Cor_hearPromise_21 : decode mb_Cor_hearPromise 21 = .ok (.aload_n 1, 1) := by decide +kernel
theorem md_Cor_hearPromise_22 : decode mb_Cor_hearPromise 22 = .ok (.getfield 80, 3) := by decide +kernel
theorem md_Cor_hearPromise_25 : decode mb_Cor_hearPromise 25 = .ok (.aload_n 1, 1) := by decide +kernel
theorem md_Cor_hearPromise_26 : decode mb_Cor_hearPromise 26 = .ok (.getfield 57, 3) := by decide +kernel
theorem md_Cor_hearPromise_29 : decode mb_Cor_hearPromise 29 = .ok (.aload_n 1, 1) := by decide +kernel
theorem md_Cor_hearPromise_30 : decode mb_Cor_hearPromise 30 = .ok (.getfield 83, 3) := by decide +kernel
theorem md_Cor_hearPromise_33 : decode mb_Cor_hearPromise 33 = .ok (.invokevirtual 86, 3) := by decide +kernel
theorem md_Cor_hearPromise_36 : decode mb_Cor_hearPromise 36 = .ok (.aload_n 0, 1) := by decide +kernel
theorem md_Cor_hearPromise_37 : decode mb_Cor_hearPromise 37 = .ok (.getfield 90, 3) := by decide +kernel
theorem md_Cor_hearPromise_40 : decode mb_Cor_hearPromise 40 = .ok (.aload_n 0, 1) := by decide +kernel
theorem md_Cor_hearPromise_41 : decode mb_Cor_hearPromise 41 = .ok (.getfield 15, 3) := by decide +kernel
theorem md_Cor_hearPromise_44 : decode mb_Cor_hearPromise 44 = .ok (.getfield 93, 3) := by decide +kernel
theorem md_Cor_hearPromise_47 : decode mb_Cor_hearPromise 47 = .ok (.if_icmp .lt 11, 3) := by decide +kernel
theorem md_Cor_hearPromise_50 : decode mb_Cor_hearPromise 50 = .ok (.aload_n 0, 1) := by decide +kernel
theorem md_Cor_hearPromise_51 : decode mb_Cor_hearPromise 51 = .ok (.aload_n 0, 1) := by decide +kernel
theorem md_Cor_hearPromise_52 : decode mb_Cor_hearPromise 52 = .ok (.invokevirtual 96, 3) := by decide +kernel
theorem md_Cor_hearPromise_55 : decode mb_Cor_hearPromise 55 = .ok (.invokevirtual 100, 3) := by decide +kernel
theorem md_Cor_hearPromise_58 : decode mb_Cor_hearPromise 58 = .ok (.return_, 1) := by decide +kernel
theorem md_Cor_hearVoted_0 : decode mb_Cor_hearVoted 0 = .ok (.aload_n 1, 1) := by decide +kernel
theorem md_Cor_hearVoted_1 : decode mb_Cor_hearVoted 1 = .ok (.getfield 77, 3) := by decide +kernel
theorem md_Cor_hearVoted_4 : decode mb_Cor_hearVoted 4 = .ok (.aload_n 0, 1) := by decide +kernel
theorem md_Cor_hearVoted_5 : decode mb_Cor_hearVoted 5 = .ok (.getfield 39, 3) := by decide +kernel
theorem md_Cor_hearVoted_8 : decode mb_Cor_hearVoted 8 = .ok (.if_icmp .ne 21, 3) := by decide +kernel
theorem md_Cor_hearVoted_11 : decode mb_Cor_hearVoted 11 = .ok (.aload_n 0, 1) := by decide +kernel
theorem md_Cor_hearVoted_12 : decode mb_Cor_hearVoted 12 = .ok (.getfield 39, 3) := by decide +kernel
theorem md_Cor_hearVoted_15 : decode mb_Cor_hearVoted 15 = .ok (.invokestatic 103, 3) := by decide +kernel
theorem md_Cor_hearVoted_18 : decode mb_Cor_hearVoted 18 = .ok (.ifCond .eq 11, 3) := by decide +kernel
theorem md_Cor_hearVoted_21 : decode mb_Cor_hearVoted 21 = .ok (.aload_n 0, 1) := by decide +kernel
theorem md_Cor_hearVoted_22 : decode mb_Cor_hearVoted 22 = .ok (.getfield 42, 3) := by decide +kernel
theorem md_Cor_hearVoted_25 : decode mb_Cor_hearVoted 25 = .ok (.iconst 3, 1) := by decide +kernel
theorem md_Cor_hearVoted_26 : decode mb_Cor_hearVoted 26 = .ok (.if_icmp .eq 4, 3) := by decide +kernel
theorem md_Cor_hearVoted_29 : decode mb_Cor_hearVoted 29 = .ok (.return_, 1) := by decide +kernel
theorem md_Cor_hearVoted_30 : decode mb_Cor_hearVoted 30 = .ok (.aload_n 0, 1) := by decide +kernel
theorem md_Cor_hearVoted_31 : decode mb_Cor_hearVoted 31 = .ok (.aload_n 1, 1) := by decide +kernel
theorem md_Cor_hearVoted_32 : decode mb_Cor_hearVoted 32 = .ok (.getfield 80, 3) := by decide +kernel
theorem md_Cor_hearVoted_35 : decode mb_Cor_hearVoted 35 = .ok (.aload_n 1, 1) := by decide +kernel
theorem md_Cor_hearVoted_36 : decode mb_Cor_hearVoted 36 = .ok (.getfield 57, 3) := by decide +kernel
theorem md_Cor_hearVoted_39 : decode mb_Cor_hearVoted 39 = .ok (.aload_n 1, 1) := by decide +kernel
theorem md_Cor_hearVoted_40 : decode mb_Cor_hearVoted 40 = .ok (.getfield 77, 3) := by decide +kernel
theorem md_Cor_hearVoted_43 : decode mb_Cor_hearVoted 43 = .ok (.invokevirtual 86, 3) := by decide +kernel
theorem md_Cor_hearVoted_46 : decode mb_Cor_hearVoted 46 = .ok (.aload_n 0, 1) := by decide +kernel
theorem md_Cor_hearVoted_47 : decode mb_Cor_hearVoted 47 = .ok (.getfield 90, 3) := by decide +kernel
theorem md_Cor_hearVoted_50 : decode mb_Cor_hearVoted 50 = .ok (.aload_n 0, 1) := by decide +kernel
theorem md_Cor_hearVoted_51 : decode mb_Cor_hearVoted 51 = .ok (.getfield 15, 3) := by decide +kernel
theorem md_Cor_hearVoted_54 : decode mb_Cor_hearVoted 54 = .ok (.getfield 93, 3) := by decide +kernel
theorem md_Cor_hearVoted_57 : decode mb_Cor_hearVoted 57 = .ok (.if_icmp .lt 34, 3) := by decide +kernel
theorem md_Cor_hearVoted_60 : decode mb_Cor_hearVoted 60 = .ok (.aload_n 0, 1) := by decide +kernel
theorem md_Cor_hearVoted_61 : decode mb_Cor_hearVoted 61 = .ok (.invokevirtual 107, 3) := by decide +kernel
theorem md_Cor_hearVoted_64 : decode mb_Cor_hearVoted 64 = .ok (.ifCond .ne 27, 3) := by decide +kernel
theorem md_Cor_hearVoted_67 : decode mb_Cor_hearVoted 67 = .ok (.aload_n 0, 1) := by decide +kernel
theorem md_Cor_hearVoted_68 : decode mb_Cor_hearVoted 68 = .ok (.aload_n 0, 1) := by decide +kernel
theorem md_Cor_hearVoted_69 : decode mb_Cor_hearVoted 69 = .ok (.getfield 39, 3) := by decide +kernel
theorem md_Cor_hearVoted_72 : decode mb_Cor_hearVoted 72 = .ok (.invokevirtual 111, 3) := by decide +kernel
theorem md_Cor_hearVoted_75 : decode mb_Cor_hearVoted 75 = .ok (.istore_n 2, 1) := by decide +kernel
theorem md_Cor_hearVoted_76 : decode mb_Cor_hearVoted 76 = .ok (.aload_n 0, 1) := by decide +kernel
theorem md_Cor_hearVoted_77 : decode mb_Cor_hearVoted 77 = .ok (.dup, 1) := by decide +kernel
theorem md_Cor_hearVoted_78 : decode mb_Cor_hearVoted 78 = .ok (.getfield 39, 3) := by decide +kernel
theorem md_Cor_hearVoted_81 : decode mb_Cor_hearVoted 81 = .ok (.iconst 1, 1) := by decide +kernel
theorem md_Cor_hearVoted_82 : decode mb_Cor_hearVoted 82 = .ok (.iadd, 1) := by decide +kernel
theorem md_Cor_hearVoted_83 : decode mb_Cor_hearVoted 83 = .ok (.putfield 39, 3) := by decide +kernel
theorem md_Cor_hearVoted_86 : decode mb_Cor_hearVoted 86 = .ok (.aload_n 0, 1) := by decide +kernel
theorem md_Cor_hearVoted_87 : decode mb_Cor_hearVoted 87 = .ok (.iload_n 2, 1) := by decide +kernel
theorem md_Cor_hearVoted_88 : decode mb_Cor_hearVoted 88 = .ok (.invokevirtual 74, 3) := by decide +kernel
theorem md_Cor_hearVoted_91 : decode mb_Cor_hearVoted 91 = .ok (.return_, 1) := by decide +kernel
theorem md_Cor_hear_0 : decode mb_Cor_hear 0 = .ok (.aload_n 1, 1) := by decide +kernel
theorem md_Cor_hear_1 : decode mb_Cor_hear 1 = .ok (.getfield 52, 3) := by decide +kernel
theorem md_Cor_hear_4 : decode mb_Cor_hear 4 = .ok (.tableswitch 63 1 5 #[36, 63, 47, 63, 55], 36) := by decide +kernel
theorem md_Cor_hear_40 : decode mb_Cor_hear 40 = .ok (.aload_n 0, 1) := by decide +kernel
theorem md_Cor_hear_41 : decode mb_Cor_hear 41 = .ok (.aload_n 1, 1) := by decide +kernel
theorem md_Cor_hear_42 : decode mb_Cor_hear 42 = .ok (.getfield 57, 3) := by decide +kernel
theorem md_Cor_hear_45 : decode mb_Cor_hear 45 = .ok (.invokevirtual 60, 3) := by decide +kernel
theorem md_Cor_hear_48 : decode mb_Cor_hear 48 = .ok (.goto 19, 3) := by decide +kernel
theorem md_Cor_hear_51 : decode mb_Cor_hear 51 = .ok (.aload_n 0, 1) := by decide +kernel
theorem md_Cor_hear_52 : decode mb_Cor_hear 52 = .ok (.aload_n 1, 1) := by decide +kernel
theorem md_Cor_hear_53 : decode mb_Cor_hear 53 = .ok (.invokevirtual 64, 3) := by decide +kernel
theorem md_Cor_hear_56 : decode mb_Cor_hear 56 = .ok (.goto 11, 3) := by decide +kernel
theorem md_Cor_hear_59 : decode mb_Cor_hear 59 = .ok (.aload_n 0, 1) := by decide +kernel
theorem md_Cor_hear_60 : decode mb_Cor_hear 60 = .ok (.aload_n 1, 1) := by decide +kernel
theorem md_Cor_hear_61 : decode mb_Cor_hear 61 = .ok (.invokevirtual 68, 3) := by decide +kernel
theorem md_Cor_hear_64 : decode mb_Cor_hear 64 = .ok (.goto 3, 3) := by decide +kernel
theorem md_Cor_hear_67 : decode mb_Cor_hear 67 = .ok (.return_, 1) := by decide +kernel
theorem md_Slt_coordinator_0 : decode mb_Slt_coordinator 0 = .ok (.iload_n 1, 1) := by decide +kernel
theorem md_Slt_coordinator_1 : decode mb_Slt_coordinator 1 = .ok (.bipush 8, 2) := by decide +kernel
theorem md_Slt_coordinator_3 : decode mb_Slt_coordinator 3 = .ok (.if_icmp .ne 10, 3) := by decide +kernel
theorem md_Slt_coordinator_6 : decode mb_Slt_coordinator 6 = .ok (.aload_n 0, 1) := by decide +kernel
theorem md_Slt_coordinator_7 : decode mb_Slt_coordinator 7 = .ok (.getfield 28, 3) := by decide +kernel
theorem md_Slt_coordinator_10 : decode mb_Slt_coordinator 10 = .ok (.goto 7, 3) := by decide +kernel
theorem md_Slt_coordinator_13 : decode mb_Slt_coordinator 13 = .ok (.aload_n 0, 1) := by decide +kernel
theorem md_Slt_coordinator_14 : decode mb_Slt_coordinator 14 = .ok (.getfield 32, 3) := by decide +kernel
theorem md_Slt_coordinator_17 : decode mb_Slt_coordinator 17 = .ok (.areturn, 1) := by decide +kernel
def fr_X (S : pz_T) : Nat → Nat → Prop := fun s c => S.2 s 9 c 0 = 2
theorem fr_xs_f {n q f : Nat} {S : pz_T} {ex : Nat → Nat → Prop} {s c : Nat} {b b' : Prop} {M : fr_M} (hb : ¬ b) (h : fr_R n q f S (fr_xs ex s c b) M) : fr_R n q f S (fr_xs ex s c b') M := fr_ex h (fun s' c' _ _ hx y => by
  rcases y with y | y
  · exact hb y.2.2
  · exact hx (Or.inr y))
theorem fr_fin {n q f : Nat} {S S' : pz_T} {s c : Nat} {M : fr_M} (h : fr_R n q f S' (fr_xs (fr_X S) s c (S'.2 s 9 c 0 = 2)) M) (h9 : ∀ s' c', s' < 3 → c' < 2 → ¬ (s' = s ∧ c' = c) → S'.2 s' 9 c' 0 = S.2 s' 9 c' 0) : fr_R n q f S' (fr_X S') M := fr_ex h (fun s' c' hs hc hx y => by
  rcases y with ⟨rfl, rfl, y⟩ | ⟨y1, y2⟩
  · exact hx y
  · exact hx (by show S'.2 s' 9 c' 0 = 2; rw [h9 s' c' hs hc y1]; exact y2))
theorem fr_fin2 {n q f : Nat} {S S' : pz_T} {M : fr_M} (h : fr_R n q f S' (fr_X S) M) (h9 : ∀ s' c', s' < 3 → c' < 2 → S'.2 s' 9 c' 0 = S.2 s' 9 c' 0) : fr_R n q f S' (fr_X S') M := fr_ex h (fun s' c' hs hc hx y => hx (by show S'.2 s' 9 c' 0 = 2; rw [h9 s' c' hs hc]; exact y))
theorem pz_w9 {S : pz_T} {s c s' c' : Nat} {p : pz_P} (h : ¬ (s' = s ∧ c' = c)) (hp : ∀ d, d ≠ c → p 9 d 0 = S.2 s 9 d 0) : (pz_pw S s p).2 s' 9 c' 0 = S.2 s' 9 c' 0 := by
  by_cases e : s' = s
  · subst e; rw [pz_pw_s]; exact hp c' (fun z => h ⟨rfl, z⟩)
  · show pz_w S.2 s p s' 9 c' 0 = _
    rw [pz_w_n e]
theorem pz_vf_9 {n : Nat} {S : pz_T} {s c v s' c' : Nat} (hs : s' < 3) (h : ¬ (s' = s ∧ c' = c)) : (pz_vf n S s c v).2 s' 9 c' 0 = S.2 s' 9 c' 0 := by
  unfold pz_vf
  rw [pz_sa_2 _ _ _ _ _ hs]
  exact pz_w9 h (fun d hd => by rw [pz_u_k (by decide), pz_u_x hd])
theorem pz_vf_3 {n : Nat} {S : pz_T} {s c v : Nat} (hs : s < 3) : (pz_vf n S s c v).2 s 9 c 0 = 3 := by
  unfold pz_vf
  rw [pz_sa_2 _ _ _ _ _ hs, pz_pw_s, pz_u_k (by decide), pz_u_s]
theorem pz_sv_3 {n : Nat} {S : pz_T} {s c v : Nat} (hs : s < 3) : (pz_sv n S s c v).2 s 9 c 0 = 3 := by
  unfold pz_sv
  rw [pz_sa_2 _ _ _ _ _ hs, pz_pw_s]
  unfold pz_cl
  rw [if_neg (by omega), pz_u_s]
theorem pz_go_9 {n f : Nat} {S : pz_T} {s c s' c' : Nat} (hs : s' < 3) (h : ¬ (s' = s ∧ c' = c)) : (pz_go n f S s c).2 s' 9 c' 0 = S.2 s' 9 c' 0 := by
  have e : (pz_pw S s (pz_ld (S.2 s) c (S.2 s 8 c 0) 2)).2 s' 9 c' 0 = S.2 s' 9 c' 0 := pz_w9 h (fun d hd => pz_ld_x hd)
  unfold pz_go
  split
  · rw [pz_vf_9 hs h]; exact e
  · split
    · rw [pz_vf_9 hs h]; exact e
    · split
      · rw [pz_vf_9 hs h]; exact e
      · exact e
theorem fr_svf {n q f : Nat} {S : pz_T} {ex : Nat → Nat → Prop} {s c v : Nat} {b b' : Prop} {p2 : pz_P} {M : fr_M} (h : fr_R n q f (pz_sv n S s c v) (fr_xs ex s c b) M) (hb : ¬ b) (h2 : ∀ k x y, k ≠ 17 → (k = 9 ∧ x = c ∧ y = 0 ∨ p2 k x y = pz_cl (S.2 s) c k x y)) (h8 : p2 8 c 0 = S.2 s 8 c 0) : fr_R n q f (pz_vf n (pz_pw S s p2) s c v) (fr_xs ex s c b') M := fr_xs_f hb (fr_E h (pz_sv_vf h2 h8))
theorem pz_ld_cl {p : pz_P} {c r : Nat} (hr : p 8 c 0 = r) : ∀ k x y, k ≠ 17 → (k = 9 ∧ x = c ∧ y = 0 ∨ pz_ld p c r 2 k x y = pz_cl p c k x y) := fun k x y _ => by
  by_cases z : k = 9 ∧ x = c ∧ y = 0
  · exact Or.inl z
  · refine Or.inr ?_
    unfold pz_ld pz_cl
    by_cases h8 : x = c ∧ k = 8 ∧ y = 0
    · rw [if_pos h8, if_neg (fun w => by omega), h8.1, h8.2.1, h8.2.2, hr]
    · rw [if_neg h8, if_neg (fun w => z ⟨w.2.1, w.1, w.2.2⟩)]
      by_cases h11 : x = c ∧ k = 11
      · rw [if_pos h11, if_pos ⟨h11.2, h11.1⟩]
      · rw [if_neg h11, if_neg (fun w => h11 ⟨w.2, w.1⟩)]
theorem fr_go {n q f : Nat} {S : pz_T} {ex : Nat → Nat → Prop} {s c : Nat} {M : fr_M} (hs : s < 3) (hc : c < 2) (h : fr_R n q f (pz_gw n S s c (pz_pk n f (S.2 s) c)) (fr_xs ex s c ((pz_gw n S s c (pz_pk n f (S.2 s) c)).2 s 9 c 0 = 2)) M) : fr_R n q f (pz_go n f S s c) (fr_xs ex s c ((pz_go n f S s c).2 s 9 c 0 = 2)) M := by
  unfold pz_gw at h
  unfold pz_go
  have nb : ∀ v, ¬ (pz_sv n S s c v).2 s 9 c 0 = 2 := fun v z => by rw [pz_sv_3 hs] at z; omega
  by_cases x0 : pz_pk n f (S.2 s) c ≠ 0
  · rw [if_pos x0] at h ⊢
    exact fr_svf h (nb _) (pz_ld_cl rfl) pz_ld_8
  · rw [if_neg x0] at h ⊢
    by_cases odd : S.2 s 8 c 0 % 2 = 1
    · rw [if_pos odd] at h ⊢
      exact fr_svf h (nb _) (pz_ld_cl rfl) pz_ld_8
    · rw [if_neg odd] at h ⊢
      by_cases w0 : S.2 s 10 c 0 ≠ 0
      · rw [if_pos w0] at h ⊢
        exact fr_svf h (nb _) (pz_ld_cl rfl) pz_ld_8
      · rw [if_neg w0] at h ⊢
        have z := fr_tol (M' := M) (p' := pz_ld (S.2 s) c (S.2 s 8 c 0) 2) (ex' := fr_xs ex s c ((pz_pw S s (pz_ld (S.2 s) c (S.2 s 8 c 0) 2)).2 s 9 c 0 = 2)) h hs hc (fun _ _ _ _ _ => rfl) (fun _ _ => rfl) (fun s' c' y hx => fun y2 => by
          rcases y2 with y2 | y2
          · exact y ⟨y2.1, y2.2.1⟩
          · exact hx (Or.inr y2)) (fun k x y hk => ?_) (fun k d a hd => ?_) (fun hx => ?_)
        · rw [pz_pw_pw] at z; exact z
        · rw [pz_pw_s]
          unfold pz_ld pz_u
          by_cases h8 : x = c ∧ k = 8 ∧ y = 0
          · rw [if_pos h8, if_neg (fun w => by omega), h8.1, h8.2.1, h8.2.2]
          · rw [if_neg h8]
            by_cases h9 : x = c ∧ k = 9 ∧ y = 0
            · rw [if_pos h9, if_pos ⟨h9.2.1, h9.1, h9.2.2⟩]
            · rw [if_neg h9, if_neg (fun w => hk.1 w.2), if_neg (fun w => h9 ⟨w.2.1, w.1, w.2.2⟩)]
        · rw [pz_pw_s, pz_ld_x hd, pz_u_x hd]
        · exact absurd (Or.inl ⟨rfl, rfl, by rw [pz_pw_s, pz_ld_9]⟩) hx
set_option maxHeartbeats 4000000 in
theorem k_ChearProposal (l : Launch) (D : va_G) {n : Nat} (ad : Nat × Nat → Nat) (cI cZ cS cA : ClassId) {M : fr_M} {q f : Nat} {S : pz_T} {s c : Nat} (hn : n ≤ 5) (hq5 : q ≤ 5) (hf5 : f ≤ 5) (h : fr_R n q f S (fr_X S) M) (h60 : S.1.length ≤ 60) (Q : pz_Q n q f) (I : pz_IV n q f (S.2 s)) (hs : s < 3) (hc : c < 2) {r fr v o : Nat} (hv : v < 2 ^ 31) : fb_C l D n ad cI cZ cS cA my_Cor_hearProposal mb_Cor_hearProposal 2 none 3 72 M [.ref (ad (9, 2 * s + c)), .int (nI (v))] (none) (fun M' => fr_R n q f (pz_coord n q f S s c 1 r fr v o) (fr_X (pz_coord n q f S s c 1 r fr v o)) M' ∧ M' (6, 0) = M (6, 0)) := by
  obtain ⟨c1, c2, c3, c4, c5, c6, c7, c8⟩ := I.2.2.2.2.2.1 c hc
  refine xw_start [.ref (ad (9, 2 * s + c)), .int (nI (v))] (by decide) (Nat.le_of_ble_eq_true rfl) ?_
  intro p e st m below meth cd0 ls Z hml hr hlk hN hl hw
  have hl : lv_has ls 2 [(0, .ref (ad (9, 2 * s + c))), (1, .int (nI (v)))] := hl
  refine lv_aload_n Z.1 Z.2.1 md_Cor_hearProposal_0 rfl (lv_at hl 0 rfl) ?_
  refine xb_get (v := .int (M (9, 2 * s + c) 5)) Z hw (fb_in9 n hs hc) (fb_e9 n ad cI cZ cS cA (2 * s + c)) rfl tb_iCor 5 (by decide) mk_Cor_71 rfl rfl md_Cor_hearProposal_1 ?_
  refine xi_re (show M (9, 2 * s + c) 5 = nI (S.2 s 10 c 0) from (fr_c h hs hc).2.2.2) ?_
  refine xi_if_eq (tgt := 8) Z md_Cor_hearProposal_4 (by decide) (by omega) (fun h4 => ?_) (fun h4 => ?_)
  · refine lv_aload_n Z.1 Z.2.1 md_Cor_hearProposal_8 rfl (lv_at hl 0 rfl) ?_
    refine lv_iload_n Z.1 Z.2.1 md_Cor_hearProposal_9 rfl (lv_at hl 1 rfl) ?_
    refine xb_put Z hw (fb_in9 n hs hc) (fb_e9 n ad cI cZ cS cA (2 * s + c)) rfl tb_iCor tb_tCor tb_yCor tb_nCor 5 (by decide) mk_Cor_71 rfl rfl rfl (fb_s9_5 ad (2 * s + c) _) md_Cor_hearProposal_10 (fun M1 H1 locs1 e1 hw => ?_)
    have h1c : M1 (9, 2 * s + c) = upd (M (9, 2 * s + c)) 5 (nI v) := by rw [e1, xw_mw_s]
    have h1m : ∀ k, k ≠ (9, 2 * s + c) → M1 k = M k := fun k hk => by rw [e1, xw_mw_n hk]
    have h1 : fr_R n q f (pz_pw S s (pz_u (S.2 s) 10 c 0 v)) (fr_X S) M1 := by
      have k := fr_c h hs hc
      refine fr_cor h hs hc h1m (fun _ _ y => y) (fun k x y hk => by simp only [pz_u]; repeat rw [if_neg (fun y => by omega)]) (fun k d hd h8 h10 => by simp only [pz_u]; repeat rw [if_neg (fun y => by omega)]) ?_ ?_
      · rw [h1c]
        refine ⟨?_, ?_, ?_, ?_⟩ <;> (simp only [upd, pz_u]; try simp) <;> first | exact k.1 | exact k.2.1 | exact k.2.2.1 | exact k.2.2.2
      · rw [h1c]; simp [upd]
    refine lv_aload_n Z.1 Z.2.1 md_Cor_hearProposal_13 rfl (lv_at hl 0 rfl) ?_
    refine xb_get (v := .int (M1 (9, 2 * s + c) 4)) Z hw (fb_in9 n hs hc) (fb_e9 n ad cI cZ cS cA (2 * s + c)) rfl tb_iCor 4 (by decide) mk_Cor_42 rfl rfl md_Cor_hearProposal_14 ?_
    refine xi_re (show M1 (9, 2 * s + c) 4 = nI (S.2 s 9 c 0) from (by have z := (fr_c h1 hs hc).2.2.1; rw [pz_pw_s, pz_u_k (by decide)] at z; exact z)) ?_
    refine lv_iconst (v := nI 2) Z.1 Z.2.1 md_Cor_hearProposal_17 (by decide) ?_
    refine xi_icmp_ne (tgt := 26) Z md_Cor_hearProposal_18 (by decide) (by omega) (by omega) (fun h18 => ?_) (fun h18 => ?_)
    · refine xw_vret Z hr hlk hw md_Cor_hearProposal_26 ⟨?_, h1m _ (fr_pair (by decide))⟩
      have eC : pz_coord n q f S s c 1 r fr v o = pz_pw S s (pz_u (S.2 s) 10 c 0 v) := by unfold pz_coord; rw [if_pos rfl, if_pos h4, if_neg h18]
      rw [eC]
      exact fr_fin2 h1 (fun s' c' _ _ => by
        by_cases e : s' = s
        · subst e; rw [pz_pw_s, pz_u_k (by decide)]
        · show pz_w S.2 s _ s' 9 c' 0 = _
          rw [pz_w_n e])
    · refine lv_aload_n Z.1 Z.2.1 md_Cor_hearProposal_21 rfl (lv_at hl 0 rfl) ?_
      refine lv_iload_n Z.1 Z.2.1 md_Cor_hearProposal_22 rfl (lv_at hl 1 rfl) ?_
      refine xw_cV (n := 1) (rest := []) Z hml hl.1 hN hw (k_startVoting (v := v) l D ad cI cZ cS cA hn h1 hs hc h60) tb_g mc_Cor_startVoting mk_Cor_74 mi_Cor_startVoting ms_Cor_startVoting mz_Cor ⟨by decide, by decide, by decide +kernel⟩ ⟨Nat.le_of_ble_eq_true rfl, Nat.le_of_ble_eq_true rfl⟩ (fb_in9 n hs hc) (fb_e9 n ad cI cZ cS cA (2 * s + c) _) rfl rfl rfl rfl (Nat.le_of_ble_eq_true rfl) ⟨Nat.le_refl _, Nat.le_refl _⟩ md_Cor_hearProposal_23 (fun M2 H2 locs2 hv2 hw => ?_)
      refine W.eq (g2 := F0 m 26 ls []) rfl ?_
      refine xw_vret Z hr hlk hw md_Cor_hearProposal_26 ⟨?_, by rw [hv2.2, h1m _ (fr_pair (by decide))]⟩
      have eC : pz_coord n q f S s c 1 r fr v o = pz_vf n (pz_pw S s (pz_u (S.2 s) 10 c 0 v)) s c v := by unfold pz_coord; rw [if_pos rfl, if_pos h4, if_pos h18]
      rw [eC]
      have z := fr_svf (b' := (pz_vf n (pz_pw S s (pz_u (S.2 s) 10 c 0 v)) s c v).2 s 9 c 0 = 2) (p2 := (pz_u (S.2 s) 10 c 0 v)) hv2.1 (fun y => y) (fun k x y hk => ?_) (by rw [pz_pw_s])
      · rw [pz_pw_pw] at z
        exact fr_fin z (fun s' c' hs' _ hne => by rw [pz_vf_9 hs' hne]; exact pz_w9 hne (fun d hd => pz_u_x hd))
      · refine Or.inr ?_
        rw [pz_pw_s]
        unfold pz_cl
        by_cases w : k = 11 ∧ x = c
        · rw [if_pos w, w.1, w.2, pz_u_k (by decide)]; exact (c7 h18).2.2.1 y
        · rw [if_neg w]
  · exact xw_vret Z hr hlk hw md_Cor_hearProposal_7 ⟨by rw [show pz_coord n q f S s c 1 r fr v o = S from by unfold pz_coord; rw [if_pos rfl, if_neg h4]]; exact h, rfl⟩
set_option maxHeartbeats 4000000 in
theorem k_hearPromise (l : Launch) (D : va_G) {n : Nat} (ad : Nat × Nat → Nat) (cI cZ cS cA : ClassId) {M : fr_M} {q f : Nat} {S : pz_T} {s c : Nat} {g : pz_M} (hn : n ≤ 5) (hq5 : q ≤ 5) (hf5 : f ≤ 5) (h : fr_R n q f S (fr_X S) M) (h60 : S.1.length ≤ 60) (Q : pz_Q n q f) (I : pz_IV n q f (S.2 s)) (hs : s < 3) (hc : c < 2) (hg : fr_row g (M (6, 0))) (hms : pz_MS n (S.2 s) g) (hk : g 0 = 3) : fb_C l D n ad cI cZ cS cA my_Cor_hearPromise mb_Cor_hearPromise 2 none 4 93 M [.ref (ad (9, 2 * s + c)), .ref (ad (6, 0))] (none) (fun M' => fr_R n q f (pz_coord n q f S s c 3 (g 2) (g 3) (g 5) (g 6)) (fr_X (pz_coord n q f S s c 3 (g 2) (g 3) (g 5) (g 6))) M' ∧ M' (6, 0) = M (6, 0)) := by
  obtain ⟨c1, c2, c3, c4, c5, c6, c7, c8⟩ := I.2.2.2.2.2.1 c hc
  obtain ⟨m1, m2, m3, m4⟩ : 1 ≤ g 2 ∧ g 2 ≤ 12 ∧ g 3 < n ∧ pz_PF (S.2 s) (g 2) (g 3) (g 5) (g 6) := by
    rcases hms with ⟨a, _⟩ | ⟨a, _⟩ | ⟨_, a, b, d, _, _, e⟩ | ⟨a, _⟩ | ⟨a, _⟩
    · omega
    · omega
    · exact ⟨a, b, d, e⟩
    all_goals omega
  refine xw_start [.ref (ad (9, 2 * s + c)), .ref (ad (6, 0))] (by decide) (Nat.le_of_ble_eq_true rfl) ?_
  intro p e st m below meth cd0 ls Z hml hr hlk hN hl hw
  have hl : lv_has ls 2 [(0, .ref (ad (9, 2 * s + c))), (1, .ref (ad (6, 0)))] := hl
  refine lv_aload_n Z.1 Z.2.1 md_Cor_hearPromise_0 rfl (lv_at hl 1 rfl) ?_
  refine xb_get (v := .int (M (6, 0) 2)) Z hw (fb_in6 n) (fb_e6 n ad cI cZ cS cA) rfl tb_iMsg 2 (by decide) mk_Cor_77 rfl rfl md_Cor_hearPromise_1 ?_
  refine xi_re (show M (6, 0) 2 = nI (g 2) from hg.2.2.1) ?_
  refine lv_aload_n Z.1 Z.2.1 md_Cor_hearPromise_4 rfl (lv_at hl 0 rfl) ?_
  refine xb_get (v := .int (M (9, 2 * s + c) 3)) Z hw (fb_in9 n hs hc) (fb_e9 n ad cI cZ cS cA (2 * s + c)) rfl tb_iCor 3 (by decide) mk_Cor_39 rfl rfl md_Cor_hearPromise_5 ?_
  refine xi_re (show M (9, 2 * s + c) 3 = nI (S.2 s 8 c 0) from (fr_c h hs hc).2.1) ?_
  have l8 := c1
  refine xi_icmp_ne (tgt := 19) Z md_Cor_hearPromise_8 (by decide) (by omega) (by omega) (fun h8 => ?_) (fun h8 => ?_)
  · exact xw_vret Z hr hlk hw md_Cor_hearPromise_19 ⟨by rw [show pz_coord n q f S s c 3 (g 2) (g 3) (g 5) (g 6) = S from by unfold pz_coord; rw [if_neg (by decide), if_pos rfl, if_neg (by omega)]]; exact h, rfl⟩
  · refine lv_aload_n Z.1 Z.2.1 md_Cor_hearPromise_11 rfl (lv_at hl 0 rfl) ?_
    refine xb_get (v := .int (M (9, 2 * s + c) 4)) Z hw (fb_in9 n hs hc) (fb_e9 n ad cI cZ cS cA (2 * s + c)) rfl tb_iCor 4 (by decide) mk_Cor_42 rfl rfl md_Cor_hearPromise_12 ?_
    refine xi_re (show M (9, 2 * s + c) 4 = nI (S.2 s 9 c 0) from (fr_c h hs hc).2.2.1) ?_
    refine lv_iconst (v := nI 1) Z.1 Z.2.1 md_Cor_hearPromise_15 (by decide) ?_
    refine xi_icmp_eq (tgt := 20) Z md_Cor_hearPromise_16 (by decide) (by omega) (by omega) (fun h16 => ?_) (fun h16 => ?_)
    · have hx : ¬ fr_X S s c := by show ¬ S.2 s 9 c 0 = 2; omega
      obtain ⟨e1_, e2_⟩ := c4 (by omega)
      obtain ⟨d1, d2⟩ := c6 h16
      have hF : ∀ a, a < n → (pz_tll (S.2 s) c (g 3) (g 5) (g 6)) 11 c a ≠ 0 → pz_PF (S.2 s) (S.2 s 8 c 0) a ((pz_tll (S.2 s) c (g 3) (g 5) (g 6)) 12 c a) ((pz_tll (S.2 s) c (g 3) (g 5) (g 6)) 13 c a) := fun a ha t => by
        by_cases e : a = g 3
        · rw [e, pz_tll_12, pz_tll_13, ← h8]; exact m4
        · rw [pz_tll_y e] at t
          rw [pz_tll_y e, pz_tll_y e]; exact d2 a ha t
      have h11 : ∀ a, (pz_tll (S.2 s) c (g 3) (g 5) (g 6)) 11 c a ≤ 1 := pz_tll_le c5
      have hsame : S.2 s 11 c (g 3) ≠ 0 → S.2 s 11 c (g 3) = 1 ∧ S.2 s 12 c (g 3) = g 5 ∧ S.2 s 13 c (g 3) = g 6 := fun z => ⟨by have := c5 (g 3); omega, pz_PF_eq (d2 (g 3) m3 z) (by rw [← h8]; exact m4)⟩
      refine lv_aload_n Z.1 Z.2.1 md_Cor_hearPromise_20 rfl (lv_at hl 0 rfl) ?_
      refine lv_aload_n Z.1 Z.2.1 md_Cor_hearPromise_21 rfl (lv_at hl 1 rfl) ?_
      refine xb_get (v := .int (M (6, 0) 3)) Z hw (fb_in6 n) (fb_e6 n ad cI cZ cS cA) rfl tb_iMsg 3 (by decide) mk_Cor_80 rfl rfl md_Cor_hearPromise_22 ?_
      refine xi_re (show M (6, 0) 3 = nI (g 3) from hg.2.2.2.1 (by omega)) ?_
      refine lv_aload_n Z.1 Z.2.1 md_Cor_hearPromise_25 rfl (lv_at hl 1 rfl) ?_
      refine xb_get (v := .int (M (6, 0) 5)) Z hw (fb_in6 n) (fb_e6 n ad cI cZ cS cA) rfl tb_iMsg 5 (by decide) mk_Cor_57 rfl rfl md_Cor_hearPromise_26 ?_
      refine xi_re (show M (6, 0) 5 = nI (g 5) from hg.2.2.2.2.2.1) ?_
      refine lv_aload_n Z.1 Z.2.1 md_Cor_hearPromise_29 rfl (lv_at hl 1 rfl) ?_
      refine xb_get (v := .int (M (6, 0) 6)) Z hw (fb_in6 n) (fb_e6 n ad cI cZ cS cA) rfl tb_iMsg 6 (by decide) mk_Cor_83 rfl rfl md_Cor_hearPromise_30 ?_
      refine xi_re (show M (6, 0) 6 = nI (g 6) from hg.2.2.2.2.2.2) ?_
      refine xw_cV (n := 3) (rest := []) Z hml hl.1 hN hw (k_keep (a := g 3) (v := g 5) (k := g 6) l D ad cI cZ cS cA hn h hs hc hx m3 (c5 _) hsame) tb_g mc_Cor_keep mk_Cor_86 mi_Cor_keep ms_Cor_keep mz_Cor ⟨by decide, by decide, by decide +kernel⟩ ⟨Nat.le_of_ble_eq_true rfl, Nat.le_of_ble_eq_true rfl⟩ (fb_in9 n hs hc) (fb_e9 n ad cI cZ cS cA (2 * s + c) _) rfl rfl rfl rfl (Nat.le_of_ble_eq_true rfl) ⟨Nat.le_refl _, Nat.le_refl _⟩ md_Cor_hearPromise_33 (fun M1 H1 locs1 hk1 hw => ?_)
      refine W.eq (g2 := F0 m 36 ls []) rfl ?_
      have lt : pz_te n (pz_tll (S.2 s) c (g 3) (g 5) (g 6)) c ≤ n := pz_te_le (fun a _ => h11 a)
      have up := pz_sm_upd (g := fun a => S.2 s 11 c a) (h := fun a => (pz_tll (S.2 s) c (g 3) (g 5) (g 6)) 11 c a) (b := g 3) (h11 _) (fun a e => pz_tll_y e) n
      have teq : pz_te n (pz_tll (S.2 s) c (g 3) (g 5) (g 6)) c ≤ q := by unfold pz_te; omega
      have T1 : fr_TB n ((pz_pw S s (pz_tll (S.2 s) c (g 3) (g 5) (g 6))).2 s) c := fun a ha => by
        rw [pz_pw_s]
        refine ⟨h11 a, fun t => ?_⟩
        obtain ⟨f1, f2, f3, f4⟩ := hF a ha t
        have := c1
        rcases f4 with ⟨z1, z2⟩ | ⟨z1, z2, z3⟩
        · omega
        · have := ((I.1 a ha).2.2.1 _ (by rw [z2]; exact z3)).2.2
          omega
      obtain ⟨q1, q2, q3, q4, q5, q6, q7, q8⟩ := Q
      refine lv_aload_n Z.1 Z.2.1 md_Cor_hearPromise_36 rfl (lv_at hl 0 rfl) ?_
      refine xb_get (v := .int (M1 (9, 2 * s + c) 9)) Z hw (fb_in9 n hs hc) (fb_e9 n ad cI cZ cS cA (2 * s + c)) rfl tb_iCor 9 (by decide) mk_Cor_90 rfl rfl md_Cor_hearPromise_37 ?_
      refine xi_re (show M1 (9, 2 * s + c) 9 = nI (pz_te n (pz_tll (S.2 s) c (g 3) (g 5) (g 6)) c) from (by have z := (fr_t hk1.1 hs hc hx).1; rw [pz_pw_s] at z; exact z)) ?_
      refine lv_aload_n Z.1 Z.2.1 md_Cor_hearPromise_40 rfl (lv_at hl 0 rfl) ?_
      refine xb_get (v := .ref (ad (1, 0))) Z hw (fb_in9 n hs hc) (fb_e9 n ad cI cZ cS cA (2 * s + c)) rfl tb_iCor 1 (by decide) mk_Cor_15 rfl rfl md_Cor_hearPromise_41 ?_
      refine xb_get (v := .int (M1 (1, 0) 1)) Z hw (fb_in1 n) (fb_e1 n ad cI cZ cS cA) rfl tb_iSiz 1 (by decide) mk_Cor_93 rfl rfl md_Cor_hearPromise_44 ?_
      refine xi_re (show M1 (1, 0) 1 = nI (q) from hk1.1.1.2.1) ?_
      refine xi_icmp_lt (tgt := 58) Z md_Cor_hearPromise_47 (by decide) (by omega) (by omega) (fun h47 => ?_) (fun h47 => ?_)
      · refine xw_vret Z hr hlk hw md_Cor_hearPromise_58 ⟨?_, hk1.2⟩
        have eC : pz_coord n q f S s c 3 (g 2) (g 3) (g 5) (g 6) = pz_pw S s (pz_tll (S.2 s) c (g 3) (g 5) (g 6)) := by unfold pz_coord; rw [if_neg (by decide), if_pos rfl, if_pos ⟨h8.symm, h16⟩, if_neg (by omega)]
        rw [eC]
        exact fr_fin2 hk1.1 (fun s' c' _ _ => by
          by_cases e : s' = s
          · subst e; rw [pz_pw_s, pz_tll_k (by omega)]
          · show pz_w S.2 s _ s' 9 c' 0 = _
            rw [pz_w_n e])
      · refine lv_aload_n Z.1 Z.2.1 md_Cor_hearPromise_50 rfl (lv_at hl 0 rfl) ?_
        refine lv_aload_n Z.1 Z.2.1 md_Cor_hearPromise_51 rfl (lv_at hl 0 rfl) ?_
        refine xw_cV (n := 0) (rest := [.ref (ad (9, 2 * s + c))]) Z hml hl.1 hN hw (k_pick (S := pz_pw S s (pz_tll (S.2 s) c (g 3) (g 5) (g 6))) l D ad cI cZ cS cA hn hk1.1 hs hc hx T1 q6 (by rw [pz_pw_s]; omega)) tb_g mc_Cor_pick mk_Cor_96 mi_Cor_pick ms_Cor_pick mz_Cor ⟨by decide, by decide, by decide +kernel⟩ ⟨Nat.le_of_ble_eq_true rfl, Nat.le_of_ble_eq_true rfl⟩ (fb_in9 n hs hc) (fb_e9 n ad cI cZ cS cA (2 * s + c) _) rfl rfl rfl rfl (Nat.le_of_ble_eq_true rfl) ⟨Nat.le_refl _, Nat.le_refl _⟩ md_Cor_hearPromise_52 (fun M2 H2 locs2 e2 hw => ?_)
        have ey2 := e2.symm
        subst ey2
        refine W.eq (g2 := F0 m 55 ls [.int (nI (pz_pkC n f ((pz_pw S s (pz_tll (S.2 s) c (g 3) (g 5) (g 6))).2 s) c)), .ref (ad (9, 2 * s + c))]) rfl ?_
        refine xi_re (show _ = nI (pz_pk n f (pz_tll (S.2 s) c (g 3) (g 5) (g 6)) c) from (by rw [pz_pw_s, pz_pkC_eq ⟨q1, q2, q3, q4, q5, q6, q7, q8⟩ I h11 (by omega) hF])) ?_
        have lpk := pz_pk_le (f := f) I hF
        refine xw_cV (n := 1) (rest := []) Z hml hl.1 hN hw (k_goOnWith (S := pz_pw S s (pz_tll (S.2 s) c (g 3) (g 5) (g 6))) (x := pz_pk n f (pz_tll (S.2 s) c (g 3) (g 5) (g 6)) c) l D ad cI cZ cS cA hn hk1.1 hs hc h60 (by omega) (by rw [pz_pw_s, pz_tll_k (by omega)]; omega) (by rw [pz_pw_s, pz_tll_k (by omega)]; omega)) tb_g mc_Cor_goOnWith mk_Cor_100 mi_Cor_goOnWith ms_Cor_goOnWith mz_Cor ⟨by decide, by decide, by decide +kernel⟩ ⟨Nat.le_of_ble_eq_true rfl, Nat.le_of_ble_eq_true rfl⟩ (fb_in9 n hs hc) (fb_e9 n ad cI cZ cS cA (2 * s + c) _) rfl rfl rfl rfl (Nat.le_of_ble_eq_true rfl) ⟨Nat.le_refl _, Nat.le_refl _⟩ md_Cor_hearPromise_55 (fun M3 H3 locs3 hg1 hw => ?_)
        refine W.eq (g2 := F0 m 58 ls []) rfl ?_
        refine xw_vret Z hr hlk hw md_Cor_hearPromise_58 ⟨?_, by rw [hg1.2, hk1.2]⟩
        have eC : pz_coord n q f S s c 3 (g 2) (g 3) (g 5) (g 6) = pz_go n f (pz_pw S s (pz_tll (S.2 s) c (g 3) (g 5) (g 6))) s c := by unfold pz_coord; rw [if_neg (by decide), if_pos rfl, if_pos ⟨h8.symm, h16⟩, if_pos (by omega)]
        rw [eC]
        have z := hg1.1
        have ep : pz_pk n f (pz_tll (S.2 s) c (g 3) (g 5) (g 6)) c = pz_pk n f ((pz_pw S s (pz_tll (S.2 s) c (g 3) (g 5) (g 6))).2 s) c := by rw [pz_pw_s]
        rw [ep] at z
        exact fr_fin (fr_go hs hc z) (fun s' c' hs' _ hne => by rw [pz_go_9 hs' hne]; exact pz_w9 hne (fun d hd => pz_tll_x hd))
    · exact xw_vret Z hr hlk hw md_Cor_hearPromise_19 ⟨by rw [show pz_coord n q f S s c 3 (g 2) (g 3) (g 5) (g 6) = S from by unfold pz_coord; rw [if_neg (by decide), if_pos rfl, if_neg (by omega)]]; exact h, rfl⟩
set_option maxHeartbeats 4000000 in
theorem k_hearVoted (l : Launch) (D : va_G) {n : Nat} (ad : Nat × Nat → Nat) (cI cZ cS cA : ClassId) {M : fr_M} {q f : Nat} {S : pz_T} {s c : Nat} {g : pz_M} (hn : n ≤ 5) (hq5 : q ≤ 5) (hf5 : f ≤ 5) (h : fr_R n q f S (fr_X S) M) (h60 : S.1.length ≤ 60) (Q : pz_Q n q f) (I : pz_IV n q f (S.2 s)) (hs : s < 3) (hc : c < 2) (hg : fr_row g (M (6, 0))) (hms : pz_MS n (S.2 s) g) (hk : g 0 = 5) : fb_C l D n ad cI cZ cS cA my_Cor_hearVoted mb_Cor_hearVoted 3 none 4 90 M [.ref (ad (9, 2 * s + c)), .ref (ad (6, 0))] (none) (fun M' => fr_R n q f (pz_coord n q f S s c 5 (g 2) (g 3) (g 5) (g 6)) (fr_X (pz_coord n q f S s c 5 (g 2) (g 3) (g 5) (g 6))) M' ∧ M' (6, 0) = M (6, 0)) := by
  obtain ⟨c1, c2, c3, c4, c5, c6, c7, c8⟩ := I.2.2.2.2.2.1 c hc
  obtain ⟨m1, m2, m3, m4, m5, m6⟩ : 1 ≤ g 2 ∧ g 2 ≤ 12 ∧ g 3 < n ∧ S.2 s 5 (g 2) (g 3) = g 5 ∧ g 5 ≠ 0 ∧ g 5 ≤ 1000 := by
    rcases hms with ⟨a, _⟩ | ⟨a, _⟩ | ⟨a, _⟩ | ⟨a, _⟩ | ⟨_, a, b, d, _, z, e, e'⟩
    · omega
    · omega
    · omega
    · omega
    · exact ⟨a, b, d, e, e', z⟩
  refine xw_start [.ref (ad (9, 2 * s + c)), .ref (ad (6, 0))] (by decide) (Nat.le_of_ble_eq_true rfl) ?_
  intro p e st m below meth cd0 ls Z hml hr hlk hN hl hw
  have hl : lv_has ls 3 [(0, .ref (ad (9, 2 * s + c))), (1, .ref (ad (6, 0)))] := hl
  refine lv_aload_n Z.1 Z.2.1 md_Cor_hearVoted_0 rfl (lv_at hl 1 rfl) ?_
  refine xb_get (v := .int (M (6, 0) 2)) Z hw (fb_in6 n) (fb_e6 n ad cI cZ cS cA) rfl tb_iMsg 2 (by decide) mk_Cor_77 rfl rfl md_Cor_hearVoted_1 ?_
  refine xi_re (show M (6, 0) 2 = nI (g 2) from hg.2.2.1) ?_
  refine lv_aload_n Z.1 Z.2.1 md_Cor_hearVoted_4 rfl (lv_at hl 0 rfl) ?_
  refine xb_get (v := .int (M (9, 2 * s + c) 3)) Z hw (fb_in9 n hs hc) (fb_e9 n ad cI cZ cS cA (2 * s + c)) rfl tb_iCor 3 (by decide) mk_Cor_39 rfl rfl md_Cor_hearVoted_5 ?_
  refine xi_re (show M (9, 2 * s + c) 3 = nI (S.2 s 8 c 0) from (fr_c h hs hc).2.1) ?_
  have l8 := c1
  refine xi_icmp_ne (tgt := 29) Z md_Cor_hearVoted_8 (by decide) (by omega) (by omega) (fun h8 => ?_) (fun h8 => ?_)
  · exact xw_vret Z hr hlk hw md_Cor_hearVoted_29 ⟨by rw [show pz_coord n q f S s c 5 (g 2) (g 3) (g 5) (g 6) = S from by unfold pz_coord; rw [if_neg (by decide), if_neg (by decide), if_neg (by omega)]]; exact h, rfl⟩
  · refine lv_aload_n Z.1 Z.2.1 md_Cor_hearVoted_11 rfl (lv_at hl 0 rfl) ?_
    refine xb_get (v := .int (M (9, 2 * s + c) 3)) Z hw (fb_in9 n hs hc) (fb_e9 n ad cI cZ cS cA (2 * s + c)) rfl tb_iCor 3 (by decide) mk_Cor_39 rfl rfl md_Cor_hearVoted_12 ?_
    refine xi_re (show M (9, 2 * s + c) 3 = nI (S.2 s 8 c 0) from (fr_c h hs hc).2.1) ?_
    refine xw_cN (n := 1) (rest := []) Z hml hl.1 hN hw (k_isFast l D ad cI cZ cS cA (M := M) (by omega)) tb_g mc_FB_isFast (host := "FastBallots") (List.mem_of_getElem? (i := 3) rfl) mt_FB_isFast mz_FB ⟨by decide, by decide, by decide +kernel⟩ ⟨Nat.le_of_ble_eq_true rfl, Nat.le_of_ble_eq_true rfl⟩ rfl rfl (Nat.le_of_ble_eq_true rfl) ⟨Nat.le_refl _, Nat.le_refl _⟩ md_Cor_hearVoted_15 (fun M1 H1 locs1 e1 hw => ?_)
    have ey1 := e1.symm
    subst ey1
    refine W.eq (g2 := F0 m 18 ls [.int (nI (S.2 s 8 c 0 % 2))]) rfl ?_
    refine xi_if_eq (tgt := 29) Z md_Cor_hearVoted_18 (by decide) (by omega) (fun h18 => ?_) (fun h18 => ?_)
    · exact xw_vret Z hr hlk hw md_Cor_hearVoted_29 ⟨by rw [show pz_coord n q f S s c 5 (g 2) (g 3) (g 5) (g 6) = S from by unfold pz_coord; rw [if_neg (by decide), if_neg (by decide), if_neg (by omega)]]; exact h, rfl⟩
    · refine lv_aload_n Z.1 Z.2.1 md_Cor_hearVoted_21 rfl (lv_at hl 0 rfl) ?_
      refine xb_get (v := .int (M (9, 2 * s + c) 4)) Z hw (fb_in9 n hs hc) (fb_e9 n ad cI cZ cS cA (2 * s + c)) rfl tb_iCor 4 (by decide) mk_Cor_42 rfl rfl md_Cor_hearVoted_22 ?_
      refine xi_re (show M (9, 2 * s + c) 4 = nI (S.2 s 9 c 0) from (fr_c h hs hc).2.2.1) ?_
      refine lv_iconst (v := nI 3) Z.1 Z.2.1 md_Cor_hearVoted_25 (by decide) ?_
      refine xi_icmp_eq (tgt := 30) Z md_Cor_hearVoted_26 (by decide) (by omega) (by omega) (fun h26 => ?_) (fun h26 => ?_)
      · have hx : ¬ fr_X S s c := by show ¬ S.2 s 9 c 0 = 2; omega
        obtain ⟨e1_, e2_⟩ := c4 (by omega)
        obtain ⟨d1, d2⟩ := c8 h26
        have hF : ∀ a, a < n → (pz_tll (S.2 s) c (g 3) (g 5) (g 2)) 11 c a ≠ 0 → (pz_tll (S.2 s) c (g 3) (g 5) (g 2)) 13 c a = g 2 ∧ S.2 s 5 (g 2) a = (pz_tll (S.2 s) c (g 3) (g 5) (g 2)) 12 c a ∧ (pz_tll (S.2 s) c (g 3) (g 5) (g 2)) 12 c a ≠ 0 := fun a ha t => by
          by_cases e : a = g 3
          · rw [e, pz_tll_12, pz_tll_13]; exact ⟨rfl, m4, m5⟩
          · rw [pz_tll_y e] at t
            rw [pz_tll_y e, pz_tll_y e, h8]; exact d2 a ha t
        have h11 : ∀ a, (pz_tll (S.2 s) c (g 3) (g 5) (g 2)) 11 c a ≤ 1 := pz_tll_le c5
        have hsame : S.2 s 11 c (g 3) ≠ 0 → S.2 s 11 c (g 3) = 1 ∧ S.2 s 12 c (g 3) = g 5 ∧ S.2 s 13 c (g 3) = g 2 := fun z => by
          obtain ⟨y1, y2, y3⟩ := d2 (g 3) m3 z
          rw [← h8] at y1 y2
          exact ⟨by have := c5 (g 3); omega, y2.symm.trans m4, y1⟩
        refine lv_aload_n Z.1 Z.2.1 md_Cor_hearVoted_30 rfl (lv_at hl 0 rfl) ?_
        refine lv_aload_n Z.1 Z.2.1 md_Cor_hearVoted_31 rfl (lv_at hl 1 rfl) ?_
        refine xb_get (v := .int (M (6, 0) 3)) Z hw (fb_in6 n) (fb_e6 n ad cI cZ cS cA) rfl tb_iMsg 3 (by decide) mk_Cor_80 rfl rfl md_Cor_hearVoted_32 ?_
        refine xi_re (show M (6, 0) 3 = nI (g 3) from hg.2.2.2.1 (by omega)) ?_
        refine lv_aload_n Z.1 Z.2.1 md_Cor_hearVoted_35 rfl (lv_at hl 1 rfl) ?_
        refine xb_get (v := .int (M (6, 0) 5)) Z hw (fb_in6 n) (fb_e6 n ad cI cZ cS cA) rfl tb_iMsg 5 (by decide) mk_Cor_57 rfl rfl md_Cor_hearVoted_36 ?_
        refine xi_re (show M (6, 0) 5 = nI (g 5) from hg.2.2.2.2.2.1) ?_
        refine lv_aload_n Z.1 Z.2.1 md_Cor_hearVoted_39 rfl (lv_at hl 1 rfl) ?_
        refine xb_get (v := .int (M (6, 0) 2)) Z hw (fb_in6 n) (fb_e6 n ad cI cZ cS cA) rfl tb_iMsg 2 (by decide) mk_Cor_77 rfl rfl md_Cor_hearVoted_40 ?_
        refine xi_re (show M (6, 0) 2 = nI (g 2) from hg.2.2.1) ?_
        refine xw_cV (n := 3) (rest := []) Z hml hl.1 hN hw (k_keep (a := g 3) (v := g 5) (k := g 2) l D ad cI cZ cS cA hn h hs hc hx m3 (c5 _) hsame) tb_g mc_Cor_keep mk_Cor_86 mi_Cor_keep ms_Cor_keep mz_Cor ⟨by decide, by decide, by decide +kernel⟩ ⟨Nat.le_of_ble_eq_true rfl, Nat.le_of_ble_eq_true rfl⟩ (fb_in9 n hs hc) (fb_e9 n ad cI cZ cS cA (2 * s + c) _) rfl rfl rfl rfl (Nat.le_of_ble_eq_true rfl) ⟨Nat.le_refl _, Nat.le_refl _⟩ md_Cor_hearVoted_43 (fun M2 H2 locs2 hk1 hw => ?_)
        refine W.eq (g2 := F0 m 46 ls []) rfl ?_
        have lt : pz_te n (pz_tll (S.2 s) c (g 3) (g 5) (g 2)) c ≤ n := pz_te_le (fun a _ => h11 a)
        have T1 : fr_TB n ((pz_pw S s (pz_tll (S.2 s) c (g 3) (g 5) (g 2))).2 s) c := fun a ha => by
          rw [pz_pw_s]
          refine ⟨h11 a, fun t => ?_⟩
          obtain ⟨f1, f2, f3⟩ := hF a ha t
          have := ((I.1 a ha).2.2.1 _ (by rw [f2]; exact f3)).2.2
          omega
        have e8 : (pz_pw S s (pz_tll (S.2 s) c (g 3) (g 5) (g 2))).2 s 8 c 0 = g 2 := by rw [pz_pw_s, pz_tll_k (by omega)]; exact h8.symm
        refine lv_aload_n Z.1 Z.2.1 md_Cor_hearVoted_46 rfl (lv_at hl 0 rfl) ?_
        refine xb_get (v := .int (M2 (9, 2 * s + c) 9)) Z hw (fb_in9 n hs hc) (fb_e9 n ad cI cZ cS cA (2 * s + c)) rfl tb_iCor 9 (by decide) mk_Cor_90 rfl rfl md_Cor_hearVoted_47 ?_
        refine xi_re (show M2 (9, 2 * s + c) 9 = nI (pz_te n (pz_tll (S.2 s) c (g 3) (g 5) (g 2)) c) from (by have z := (fr_t hk1.1 hs hc hx).1; rw [pz_pw_s] at z; exact z)) ?_
        refine lv_aload_n Z.1 Z.2.1 md_Cor_hearVoted_50 rfl (lv_at hl 0 rfl) ?_
        refine xb_get (v := .ref (ad (1, 0))) Z hw (fb_in9 n hs hc) (fb_e9 n ad cI cZ cS cA (2 * s + c)) rfl tb_iCor 1 (by decide) mk_Cor_15 rfl rfl md_Cor_hearVoted_51 ?_
        refine xb_get (v := .int (M2 (1, 0) 1)) Z hw (fb_in1 n) (fb_e1 n ad cI cZ cS cA) rfl tb_iSiz 1 (by decide) mk_Cor_93 rfl rfl md_Cor_hearVoted_54 ?_
        refine xi_re (show M2 (1, 0) 1 = nI (q) from hk1.1.1.2.1) ?_
        refine xi_icmp_lt (tgt := 91) Z md_Cor_hearVoted_57 (by decide) (by omega) (by omega) (fun h57 => ?_) (fun h57 => ?_)
        · refine xw_vret Z hr hlk hw md_Cor_hearVoted_91 ⟨?_, hk1.2⟩
          have eC : pz_coord n q f S s c 5 (g 2) (g 3) (g 5) (g 6) = pz_pw S s (pz_tll (S.2 s) c (g 3) (g 5) (g 2)) := by
            unfold pz_coord
            rw [if_neg (by decide), if_neg (by decide), if_pos ⟨rfl, h8.symm, by omega, h26⟩]
            unfold pz_rec
            rw [pz_pw_s, if_pos ?_]
            first | exact Or.inl (by omega) | (by_cases y : f + pz_te n (pz_tll (S.2 s) c (g 3) (g 5) (g 2)) c ≤ pz_be n (pz_tll (S.2 s) c (g 3) (g 5) (g 2)) c (g 2) + n; exact Or.inr y; rw [if_neg y] at h64; exact absurd rfl h64)
          rw [eC]
          exact fr_fin2 hk1.1 (fun s' c' _ _ => by
            by_cases e : s' = s
            · subst e; rw [pz_pw_s, pz_tll_k (by omega)]
            · show pz_w S.2 s _ s' 9 c' 0 = _
              rw [pz_w_n e])
        · refine lv_aload_n Z.1 Z.2.1 md_Cor_hearVoted_60 rfl (lv_at hl 0 rfl) ?_
          refine xw_cV (n := 0) (rest := []) Z hml hl.1 hN hw (k_canStill (S := pz_pw S s (pz_tll (S.2 s) c (g 3) (g 5) (g 2))) l D ad cI cZ cS cA hn hk1.1 hs hc hx T1 hf5 (by rw [e8]; omega)) tb_g mc_Cor_canStillBeChosen mk_Cor_107 mi_Cor_canStillBeChosen ms_Cor_canStillBeChosen mz_Cor ⟨by decide, by decide, by decide +kernel⟩ ⟨Nat.le_of_ble_eq_true rfl, Nat.le_of_ble_eq_true rfl⟩ (fb_in9 n hs hc) (fb_e9 n ad cI cZ cS cA (2 * s + c) _) rfl rfl rfl rfl (Nat.le_of_ble_eq_true rfl) ⟨Nat.le_refl _, Nat.le_refl _⟩ md_Cor_hearVoted_61 (fun M3 H3 locs3 e3 hw => ?_)
          have ey3 := e3.symm
          subst ey3
          refine W.eq (g2 := F0 m 64 ls [.int (nI (if f + pz_te n ((pz_pw S s (pz_tll (S.2 s) c (g 3) (g 5) (g 2))).2 s) c ≤ pz_mo n ((pz_pw S s (pz_tll (S.2 s) c (g 3) (g 5) (g 2))).2 s) c ((pz_pw S s (pz_tll (S.2 s) c (g 3) (g 5) (g 2))).2 s 8 c 0) + n then 1 else 0))]) rfl ?_
          refine xi_re (show _ = nI (if f + pz_te n (pz_tll (S.2 s) c (g 3) (g 5) (g 2)) c ≤ pz_be n (pz_tll (S.2 s) c (g 3) (g 5) (g 2)) c (g 2) + n then 1 else 0) from (by rw [e8, pz_pw_s, pz_mo_be (fun a ha t => (hF a ha t).1)])) ?_
          have lcb : (if f + pz_te n (pz_tll (S.2 s) c (g 3) (g 5) (g 2)) c ≤ pz_be n (pz_tll (S.2 s) c (g 3) (g 5) (g 2)) c (g 2) + n then 1 else 0) < 2 := by split <;> omega
          refine xi_if_ne (tgt := 91) Z md_Cor_hearVoted_64 (by decide) (by omega) (fun h64 => ?_) (fun h64 => ?_)
          · refine xw_vret Z hr hlk hw md_Cor_hearVoted_91 ⟨?_, hk1.2⟩
            have eC : pz_coord n q f S s c 5 (g 2) (g 3) (g 5) (g 6) = pz_pw S s (pz_tll (S.2 s) c (g 3) (g 5) (g 2)) := by
              unfold pz_coord
              rw [if_neg (by decide), if_neg (by decide), if_pos ⟨rfl, h8.symm, by omega, h26⟩]
              unfold pz_rec
              rw [pz_pw_s, if_pos ?_]
              first | exact Or.inl (by omega) | (by_cases y : f + pz_te n (pz_tll (S.2 s) c (g 3) (g 5) (g 2)) c ≤ pz_be n (pz_tll (S.2 s) c (g 3) (g 5) (g 2)) c (g 2) + n; exact Or.inr y; rw [if_neg y] at h64; exact absurd rfl h64)
            rw [eC]
            exact fr_fin2 hk1.1 (fun s' c' _ _ => by
              by_cases e : s' = s
              · subst e; rw [pz_pw_s, pz_tll_k (by omega)]
              · show pz_w S.2 s _ s' 9 c' 0 = _
                rw [pz_w_n e])
          · refine lv_aload_n Z.1 Z.2.1 md_Cor_hearVoted_67 rfl (lv_at hl 0 rfl) ?_
            refine lv_aload_n Z.1 Z.2.1 md_Cor_hearVoted_68 rfl (lv_at hl 0 rfl) ?_
            refine xb_get (v := .int (M2 (9, 2 * s + c) 3)) Z hw (fb_in9 n hs hc) (fb_e9 n ad cI cZ cS cA (2 * s + c)) rfl tb_iCor 3 (by decide) mk_Cor_39 rfl rfl md_Cor_hearVoted_69 ?_
            refine xi_re (show M2 (9, 2 * s + c) 3 = nI (g 2) from (by have z := (fr_c hk1.1 hs hc).2.1; rw [e8] at z; exact z)) ?_
            refine xw_cV (n := 1) (rest := []) Z hml hl.1 hN hw (k_leastIn (S := pz_pw S s (pz_tll (S.2 s) c (g 3) (g 5) (g 2))) (r := g 2) l D ad cI cZ cS cA hn hk1.1 hs hc hx T1 (by omega)) tb_g mc_Cor_leastIn mk_Cor_111 mi_Cor_leastIn ms_Cor_leastIn mz_Cor ⟨by decide, by decide, by decide +kernel⟩ ⟨Nat.le_of_ble_eq_true rfl, Nat.le_of_ble_eq_true rfl⟩ (fb_in9 n hs hc) (fb_e9 n ad cI cZ cS cA (2 * s + c) _) rfl rfl rfl rfl (Nat.le_of_ble_eq_true rfl) ⟨Nat.le_refl _, Nat.le_refl _⟩ md_Cor_hearVoted_72 (fun M4 H4 locs4 e4 hw => ?_)
            have ey4 := e4.symm
            subst ey4
            refine W.eq (g2 := F0 m 75 ls [.int (nI (pz_ls ((pz_pw S s (pz_tll (S.2 s) c (g 3) (g 5) (g 2))).2 s) c (g 2) n))]) rfl ?_
            refine xi_re (show _ = nI (pz_ls (pz_tll (S.2 s) c (g 3) (g 5) (g 2)) c (g 2) n) from (by rw [pz_pw_s])) ?_
            refine lv_istore_n Z.1 Z.2.1 md_Cor_hearVoted_75 rfl hl (by decide) rfl (fun ls hl => ?_)
            have hl : lv_has ls 3 [(2, .int (nI (pz_ls (pz_tll (S.2 s) c (g 3) (g 5) (g 2)) c (g 2) n))), (0, .ref (ad (9, 2 * s + c))), (1, .ref (ad (6, 0)))] := hl
            refine lv_aload_n Z.1 Z.2.1 md_Cor_hearVoted_76 rfl (lv_at hl 1 rfl) ?_
            refine lv_dup Z.1 Z.2.1 md_Cor_hearVoted_77 rfl ?_
            refine xb_get (v := .int (M2 (9, 2 * s + c) 3)) Z hw (fb_in9 n hs hc) (fb_e9 n ad cI cZ cS cA (2 * s + c)) rfl tb_iCor 3 (by decide) mk_Cor_39 rfl rfl md_Cor_hearVoted_78 ?_
            refine xi_re (show M2 (9, 2 * s + c) 3 = nI (g 2) from (by have z := (fr_c hk1.1 hs hc).2.1; rw [e8] at z; exact z)) ?_
            refine lv_iconst (v := nI 1) Z.1 Z.2.1 md_Cor_hearVoted_81 (by decide) ?_
            refine xi_add Z md_Cor_hearVoted_82 ?_
            refine xb_put Z hw (fb_in9 n hs hc) (fb_e9 n ad cI cZ cS cA (2 * s + c)) rfl tb_iCor tb_tCor tb_yCor tb_nCor 3 (by decide) mk_Cor_39 rfl rfl rfl (fb_s9_3 ad (2 * s + c) _) md_Cor_hearVoted_83 (fun M5 H5 locs5 e5 hw => ?_)
            have h2c : M5 (9, 2 * s + c) = upd (M2 (9, 2 * s + c)) 3 (nI (g 2 + 1)) := by rw [e5, xw_mw_s]
            have h2m : ∀ k, k ≠ (9, 2 * s + c) → M5 k = M2 k := fun k hk => by rw [e5, xw_mw_n hk]
            have h2 : fr_R n q f (pz_pw (pz_pw S s (pz_tll (S.2 s) c (g 3) (g 5) (g 2))) s (pz_u ((pz_pw S s (pz_tll (S.2 s) c (g 3) (g 5) (g 2))).2 s) 8 c 0 (g 2 + 1))) (fr_X S) M5 := by
              have k := fr_c hk1.1 hs hc
              refine fr_cor hk1.1 hs hc h2m (fun _ _ y => y) (fun k x y hk => by simp only [pz_u]; repeat rw [if_neg (fun y => by omega)]) (fun k d hd h8 h10 => by simp only [pz_u]; repeat rw [if_neg (fun y => by omega)]) ?_ ?_
              · rw [h2c]
                refine ⟨?_, ?_, ?_, ?_⟩ <;> (simp only [upd, pz_u]; try simp) <;> first | exact k.1 | exact k.2.1 | exact k.2.2.1 | exact k.2.2.2
              · rw [h2c]; simp [upd]
            have h2r : fr_R n q f (pz_pw S s (pz_u (pz_tll (S.2 s) c (g 3) (g 5) (g 2)) 8 c 0 (g 2 + 1))) (fr_X S) M5 := by
              have z := h2
              rw [pz_pw_s, pz_pw_pw] at z
              exact z
            refine lv_aload_n Z.1 Z.2.1 md_Cor_hearVoted_86 rfl (lv_at hl 1 rfl) ?_
            refine lv_iload_n Z.1 Z.2.1 md_Cor_hearVoted_87 rfl (lv_at hl 0 rfl) ?_
            refine xw_cV (n := 1) (rest := []) Z hml hl.1 hN hw (k_startVoting (S := pz_pw S s (pz_u (pz_tll (S.2 s) c (g 3) (g 5) (g 2)) 8 c 0 (g 2 + 1))) (v := pz_ls (pz_tll (S.2 s) c (g 3) (g 5) (g 2)) c (g 2) n) l D ad cI cZ cS cA hn h2r hs hc h60) tb_g mc_Cor_startVoting mk_Cor_74 mi_Cor_startVoting ms_Cor_startVoting mz_Cor ⟨by decide, by decide, by decide +kernel⟩ ⟨Nat.le_of_ble_eq_true rfl, Nat.le_of_ble_eq_true rfl⟩ (fb_in9 n hs hc) (fb_e9 n ad cI cZ cS cA (2 * s + c) _) rfl rfl rfl rfl (Nat.le_of_ble_eq_true rfl) ⟨Nat.le_refl _, Nat.le_refl _⟩ md_Cor_hearVoted_88 (fun M6 H6 locs6 hv2 hw => ?_)
            refine W.eq (g2 := F0 m 91 ls []) rfl ?_
            refine xw_vret Z hr hlk hw md_Cor_hearVoted_91 ⟨?_, by rw [hv2.2, h2m _ (fr_pair (by decide)), hk1.2]⟩
            have ncb : ¬ (f + pz_te n (pz_tll (S.2 s) c (g 3) (g 5) (g 2)) c ≤ pz_be n (pz_tll (S.2 s) c (g 3) (g 5) (g 2)) c (g 2) + n) := fun y => by rw [if_pos y] at h64; exact absurd h64 (by decide)
            have eC : pz_coord n q f S s c 5 (g 2) (g 3) (g 5) (g 6) = pz_vf n (pz_pw S s (pz_ld (pz_tll (S.2 s) c (g 3) (g 5) (g 2)) c (g 2 + 1) 3)) s c (pz_ls (pz_tll (S.2 s) c (g 3) (g 5) (g 2)) c (g 2) n) := by
              unfold pz_coord
              rw [if_neg (by decide), if_neg (by decide), if_pos ⟨rfl, h8.symm, by omega, h26⟩]
              unfold pz_rec
              rw [pz_pw_s, if_neg (by omega), pz_pw_pw]
            rw [eC]
            have z := fr_svf (b' := (pz_vf n (pz_pw S s (pz_ld (pz_tll (S.2 s) c (g 3) (g 5) (g 2)) c (g 2 + 1) 3)) s c (pz_ls (pz_tll (S.2 s) c (g 3) (g 5) (g 2)) c (g 2) n)).2 s 9 c 0 = 2) (p2 := pz_ld (pz_tll (S.2 s) c (g 3) (g 5) (g 2)) c (g 2 + 1) 3) hv2.1 (fun y => y) (fun k x y hk => ?_) (by rw [pz_pw_s, pz_ld_8, pz_u_s])
            · rw [pz_pw_pw] at z
              exact fr_fin z (fun s' c' hs' _ hne => by rw [pz_vf_9 hs' hne]; exact pz_w9 hne (fun d hd => by rw [pz_ld_x hd, pz_tll_x hd]))
            · rw [pz_pw_s]
              by_cases z9 : k = 9 ∧ x = c ∧ y = 0
              · exact Or.inl z9
              · refine Or.inr ?_
                unfold pz_ld pz_cl
                by_cases h8_ : x = c ∧ k = 8 ∧ y = 0
                · rw [if_pos h8_, if_neg (fun w => by omega), h8_.1, h8_.2.1, h8_.2.2, pz_u_s]
                · rw [if_neg h8_, if_neg (fun w => z9 ⟨w.2.1, w.1, w.2.2⟩)]
                  by_cases h11_ : x = c ∧ k = 11
                  · rw [if_pos h11_, if_pos ⟨h11_.2, h11_.1⟩]
                  · rw [if_neg h11_, if_neg (fun w => h11_ ⟨w.2, w.1⟩)]
                    unfold pz_u
                    rw [if_neg (fun w => h8_ ⟨w.2.1, w.1, w.2.2⟩)]
      · exact xw_vret Z hr hlk hw md_Cor_hearVoted_29 ⟨by rw [show pz_coord n q f S s c 5 (g 2) (g 3) (g 5) (g 6) = S from by unfold pz_coord; rw [if_neg (by decide), if_neg (by decide), if_neg (by omega)]]; exact h, rfl⟩
set_option maxHeartbeats 4000000 in
theorem k_Chear1 (l : Launch) (D : va_G) {n : Nat} (ad : Nat × Nat → Nat) (cI cZ cS cA : ClassId) {M : fr_M} {q f : Nat} {S : pz_T} {s c : Nat} {g : pz_M} (hn : n ≤ 5) (hq5 : q ≤ 5) (hf5 : f ≤ 5) (h : fr_R n q f S (fr_X S) M) (h60 : S.1.length ≤ 60) (Q : pz_Q n q f) (I : pz_IV n q f (S.2 s)) (hs : s < 3) (hc : c < 2) (hg : fr_row g (M (6, 0))) (hms : pz_MS n (S.2 s) g) (hk : g 0 = 1) (hv : g 5 < 2 ^ 31) : fb_C l D n ad cI cZ cS cA my_Cor_hear mb_Cor_hear 2 none 4 93 M [.ref (ad (9, 2 * s + c)), .ref (ad (6, 0))] (none) (fun M' => fr_R n q f (pz_coord n q f S s c (g 0) (g 2) (g 3) (g 5) (g 6)) (fr_X (pz_coord n q f S s c (g 0) (g 2) (g 3) (g 5) (g 6))) M' ∧ M' (6, 0) = M (6, 0)) := by
  refine xw_start [.ref (ad (9, 2 * s + c)), .ref (ad (6, 0))] (by decide) (Nat.le_of_ble_eq_true rfl) ?_
  intro p e st m below meth cd0 ls Z hml hr hlk hN hl hw
  have hl : lv_has ls 2 [(0, .ref (ad (9, 2 * s + c))), (1, .ref (ad (6, 0)))] := hl
  refine lv_aload_n Z.1 Z.2.1 md_Cor_hear_0 rfl (lv_at hl 1 rfl) ?_
  refine xb_get (v := .int (M (6, 0) 0)) Z hw (fb_in6 n) (fb_e6 n ad cI cZ cS cA) rfl tb_iMsg 0 (by decide) mk_Cor_52 rfl rfl md_Cor_hear_1 ?_
  refine xi_re (show M (6, 0) 0 = nI (1) from (by rw [hg.1, hk])) ?_
  refine lv_tableIn (tgt := 40) Z.1 Z.2.1 md_Cor_hear_4 (by decide) (by decide) rfl (by decide) ?_
  refine lv_aload_n Z.1 Z.2.1 md_Cor_hear_40 rfl (lv_at hl 0 rfl) ?_
  refine lv_aload_n Z.1 Z.2.1 md_Cor_hear_41 rfl (lv_at hl 1 rfl) ?_
  refine xb_get (v := .int (M (6, 0) 5)) Z hw (fb_in6 n) (fb_e6 n ad cI cZ cS cA) rfl tb_iMsg 5 (by decide) mk_Cor_57 rfl rfl md_Cor_hear_42 ?_
  refine xi_re (show M (6, 0) 5 = nI (g 5) from hg.2.2.2.2.2.1) ?_
  refine xw_cV (n := 1) (rest := []) Z hml hl.1 hN hw (k_ChearProposal (v := g 5) (r := g 2) (fr := g 3) (o := g 6) l D ad cI cZ cS cA hn hq5 hf5 h h60 Q I hs hc hv) tb_g mc_Cor_hearProposal mk_Cor_60 mi_Cor_hearProposal ms_Cor_hearProposal mz_Cor ⟨by decide, by decide, by decide +kernel⟩ ⟨Nat.le_of_ble_eq_true rfl, Nat.le_of_ble_eq_true rfl⟩ (fb_in9 n hs hc) (fb_e9 n ad cI cZ cS cA (2 * s + c) _) rfl rfl rfl rfl (Nat.le_of_ble_eq_true rfl) ⟨Nat.le_refl _, Nat.le_refl _⟩ md_Cor_hear_45 (fun M1 H1 locs1 h9 hw => ?_)
  refine W.eq (g2 := F0 m 48 ls []) rfl ?_
  refine lv_goto (tgt := 67) Z.1 Z.2.1 md_Cor_hear_48 (by decide) ?_
  exact xw_vret Z hr hlk hw md_Cor_hear_67 (by rw [hk]; exact h9)
set_option maxHeartbeats 4000000 in
theorem k_Chear3 (l : Launch) (D : va_G) {n : Nat} (ad : Nat × Nat → Nat) (cI cZ cS cA : ClassId) {M : fr_M} {q f : Nat} {S : pz_T} {s c : Nat} {g : pz_M} (hn : n ≤ 5) (hq5 : q ≤ 5) (hf5 : f ≤ 5) (h : fr_R n q f S (fr_X S) M) (h60 : S.1.length ≤ 60) (Q : pz_Q n q f) (I : pz_IV n q f (S.2 s)) (hs : s < 3) (hc : c < 2) (hg : fr_row g (M (6, 0))) (hms : pz_MS n (S.2 s) g) (hk : g 0 = 3) : fb_C l D n ad cI cZ cS cA my_Cor_hear mb_Cor_hear 2 none 5 114 M [.ref (ad (9, 2 * s + c)), .ref (ad (6, 0))] (none) (fun M' => fr_R n q f (pz_coord n q f S s c (g 0) (g 2) (g 3) (g 5) (g 6)) (fr_X (pz_coord n q f S s c (g 0) (g 2) (g 3) (g 5) (g 6))) M' ∧ M' (6, 0) = M (6, 0)) := by
  refine xw_start [.ref (ad (9, 2 * s + c)), .ref (ad (6, 0))] (by decide) (Nat.le_of_ble_eq_true rfl) ?_
  intro p e st m below meth cd0 ls Z hml hr hlk hN hl hw
  have hl : lv_has ls 2 [(0, .ref (ad (9, 2 * s + c))), (1, .ref (ad (6, 0)))] := hl
  refine lv_aload_n Z.1 Z.2.1 md_Cor_hear_0 rfl (lv_at hl 1 rfl) ?_
  refine xb_get (v := .int (M (6, 0) 0)) Z hw (fb_in6 n) (fb_e6 n ad cI cZ cS cA) rfl tb_iMsg 0 (by decide) mk_Cor_52 rfl rfl md_Cor_hear_1 ?_
  refine xi_re (show M (6, 0) 0 = nI (3) from (by rw [hg.1, hk])) ?_
  refine lv_tableIn (tgt := 51) Z.1 Z.2.1 md_Cor_hear_4 (by decide) (by decide) rfl (by decide) ?_
  refine lv_aload_n Z.1 Z.2.1 md_Cor_hear_51 rfl (lv_at hl 0 rfl) ?_
  refine lv_aload_n Z.1 Z.2.1 md_Cor_hear_52 rfl (lv_at hl 1 rfl) ?_
  refine xw_cV (n := 1) (rest := []) Z hml hl.1 hN hw (k_hearPromise l D ad cI cZ cS cA hn hq5 hf5 h h60 Q I hs hc hg hms hk) tb_g mc_Cor_hearPromise mk_Cor_64 mi_Cor_hearPromise ms_Cor_hearPromise mz_Cor ⟨by decide, by decide, by decide +kernel⟩ ⟨Nat.le_of_ble_eq_true rfl, Nat.le_of_ble_eq_true rfl⟩ (fb_in9 n hs hc) (fb_e9 n ad cI cZ cS cA (2 * s + c) _) rfl rfl rfl rfl (Nat.le_of_ble_eq_true rfl) ⟨Nat.le_refl _, Nat.le_refl _⟩ md_Cor_hear_53 (fun M1 H1 locs1 h9 hw => ?_)
  refine W.eq (g2 := F0 m 56 ls []) rfl ?_
  refine lv_goto (tgt := 67) Z.1 Z.2.1 md_Cor_hear_56 (by decide) ?_
  exact xw_vret Z hr hlk hw md_Cor_hear_67 (by rw [hk]; exact h9)
set_option maxHeartbeats 4000000 in
theorem k_Chear5 (l : Launch) (D : va_G) {n : Nat} (ad : Nat × Nat → Nat) (cI cZ cS cA : ClassId) {M : fr_M} {q f : Nat} {S : pz_T} {s c : Nat} {g : pz_M} (hn : n ≤ 5) (hq5 : q ≤ 5) (hf5 : f ≤ 5) (h : fr_R n q f S (fr_X S) M) (h60 : S.1.length ≤ 60) (Q : pz_Q n q f) (I : pz_IV n q f (S.2 s)) (hs : s < 3) (hc : c < 2) (hg : fr_row g (M (6, 0))) (hms : pz_MS n (S.2 s) g) (hk : g 0 = 5) : fb_C l D n ad cI cZ cS cA my_Cor_hear mb_Cor_hear 2 none 5 112 M [.ref (ad (9, 2 * s + c)), .ref (ad (6, 0))] (none) (fun M' => fr_R n q f (pz_coord n q f S s c (g 0) (g 2) (g 3) (g 5) (g 6)) (fr_X (pz_coord n q f S s c (g 0) (g 2) (g 3) (g 5) (g 6))) M' ∧ M' (6, 0) = M (6, 0)) := by
  refine xw_start [.ref (ad (9, 2 * s + c)), .ref (ad (6, 0))] (by decide) (Nat.le_of_ble_eq_true rfl) ?_
  intro p e st m below meth cd0 ls Z hml hr hlk hN hl hw
  have hl : lv_has ls 2 [(0, .ref (ad (9, 2 * s + c))), (1, .ref (ad (6, 0)))] := hl
  refine lv_aload_n Z.1 Z.2.1 md_Cor_hear_0 rfl (lv_at hl 1 rfl) ?_
  refine xb_get (v := .int (M (6, 0) 0)) Z hw (fb_in6 n) (fb_e6 n ad cI cZ cS cA) rfl tb_iMsg 0 (by decide) mk_Cor_52 rfl rfl md_Cor_hear_1 ?_
  refine xi_re (show M (6, 0) 0 = nI (5) from (by rw [hg.1, hk])) ?_
  refine lv_tableIn (tgt := 59) Z.1 Z.2.1 md_Cor_hear_4 (by decide) (by decide) rfl (by decide) ?_
  refine lv_aload_n Z.1 Z.2.1 md_Cor_hear_59 rfl (lv_at hl 0 rfl) ?_
  refine lv_aload_n Z.1 Z.2.1 md_Cor_hear_60 rfl (lv_at hl 1 rfl) ?_
  refine xw_cV (n := 1) (rest := []) Z hml hl.1 hN hw (k_hearVoted l D ad cI cZ cS cA hn hq5 hf5 h h60 Q I hs hc hg hms hk) tb_g mc_Cor_hearVoted mk_Cor_68 mi_Cor_hearVoted ms_Cor_hearVoted mz_Cor ⟨by decide, by decide, by decide +kernel⟩ ⟨Nat.le_of_ble_eq_true rfl, Nat.le_of_ble_eq_true rfl⟩ (fb_in9 n hs hc) (fb_e9 n ad cI cZ cS cA (2 * s + c) _) rfl rfl rfl rfl (Nat.le_of_ble_eq_true rfl) ⟨Nat.le_refl _, Nat.le_refl _⟩ md_Cor_hear_61 (fun M1 H1 locs1 h9 hw => ?_)
  refine W.eq (g2 := F0 m 64 ls []) rfl ?_
  refine lv_goto (tgt := 67) Z.1 Z.2.1 md_Cor_hear_64 (by decide) ?_
  exact xw_vret Z hr hlk hw md_Cor_hear_67 (by rw [hk]; exact h9)
set_option maxHeartbeats 4000000 in
theorem k_coord0 (l : Launch) (D : va_G) {n : Nat} (ad : Nat × Nat → Nat) (cI cZ cS cA : ClassId) {M : fr_M} {s : Nat} (hs : s < 3) : fb_C l D n ad cI cZ cS cA my_Slt_coordinator mb_Slt_coordinator 2 (some (.object "FastBallots$Coordinator")) 0 0 M [.ref (ad (7, s)), .int (nI (8))] (some (.ref (ad (9, 2 * s + 0)))) (fun M' => M' = M) := by
  refine xw_start [.ref (ad (7, s)), .int (nI (8))] (by decide) (Nat.le_of_ble_eq_true rfl) ?_
  intro p e st m below meth cd0 ls Z hml hr hlk hN hl hw
  have hl : lv_has ls 2 [(0, .ref (ad (7, s))), (1, .int (nI (8)))] := hl
  refine lv_iload_n Z.1 Z.2.1 md_Slt_coordinator_0 rfl (lv_at hl 1 rfl) ?_
  refine lv_bipush (v := nI 8) Z.1 Z.2.1 md_Slt_coordinator_1 (by decide) ?_
  refine xi_icmp_ne (tgt := 13) Z md_Slt_coordinator_3 (by decide) (by omega) (by omega) (fun h3 => by exfalso; omega) (fun h3 => ?_)
  refine lv_aload_n Z.1 Z.2.1 md_Slt_coordinator_6 rfl (lv_at hl 0 rfl) ?_
  refine xb_get (v := .ref (ad (9, 2 * s + 0))) Z hw (fb_in7 n hs) (fb_e7 n ad cI cZ cS cA (s)) rfl tb_iSlt 1 (by decide) mk_Slt_28 rfl rfl md_Slt_coordinator_7 ?_
  refine lv_goto (tgt := 17) Z.1 Z.2.1 md_Slt_coordinator_10 (by decide) ?_
  exact xw_aret Z hr hlk hw md_Slt_coordinator_17 rfl
set_option maxHeartbeats 4000000 in
theorem k_coord1 (l : Launch) (D : va_G) {n : Nat} (ad : Nat × Nat → Nat) (cI cZ cS cA : ClassId) {M : fr_M} {s : Nat} (hs : s < 3) : fb_C l D n ad cI cZ cS cA my_Slt_coordinator mb_Slt_coordinator 2 (some (.object "FastBallots$Coordinator")) 0 0 M [.ref (ad (7, s)), .int (nI (9))] (some (.ref (ad (9, 2 * s + 1)))) (fun M' => M' = M) := by
  refine xw_start [.ref (ad (7, s)), .int (nI (9))] (by decide) (Nat.le_of_ble_eq_true rfl) ?_
  intro p e st m below meth cd0 ls Z hml hr hlk hN hl hw
  have hl : lv_has ls 2 [(0, .ref (ad (7, s))), (1, .int (nI (9)))] := hl
  refine lv_iload_n Z.1 Z.2.1 md_Slt_coordinator_0 rfl (lv_at hl 1 rfl) ?_
  refine lv_bipush (v := nI 8) Z.1 Z.2.1 md_Slt_coordinator_1 (by decide) ?_
  refine xi_icmp_ne (tgt := 13) Z md_Slt_coordinator_3 (by decide) (by omega) (by omega) (fun h3 => ?_) (fun h3 => by exfalso; omega)
  refine lv_aload_n Z.1 Z.2.1 md_Slt_coordinator_13 rfl (lv_at hl 0 rfl) ?_
  refine xb_get (v := .ref (ad (9, 2 * s + 1))) Z hw (fb_in7 n hs) (fb_e7 n ad cI cZ cS cA (s)) rfl tb_iSlt 2 (by decide) mk_Slt_32 rfl rfl md_Slt_coordinator_14 ?_
  exact xw_aret Z hr hlk hw md_Slt_coordinator_17 rfl
theorem k_coordinator (l : Launch) (D : va_G) {n : Nat} (ad : Nat × Nat → Nat) (cI cZ cS cA : ClassId) {M : fr_M} {s c : Nat} (hs : s < 3) (hc : c < 2) : fb_C l D n ad cI cZ cS cA my_Slt_coordinator mb_Slt_coordinator 2 (some (.object "FastBallots$Coordinator")) 0 0 M [.ref (ad (7, s)), .int (nI (8 + c))] (some (.ref (ad (9, 2 * s + c)))) (fun M' => M' = M) := by
  obtain rfl | rfl : c = 0 ∨ c = 1 := by omega
  · exact k_coord0 l D ad cI cZ cS cA hs
  · exact k_coord1 l D ad cI cZ cS cA hs
end
section
/-! The program's own face. -/
theorem md_FB_propose_0 : decode mb_FB_propose 0 = .ok (.iload_n 1, 1) := by decide +kernel
theorem md_FB_propose_1 : decode mb_FB_propose 1 = .ok (.invokestatic 38, 3) := by decide +kernel
theorem md_FB_propose_4 : decode mb_FB_propose 4 = .ok (.ifCond .eq 10, 3) := by decide +kernel
theorem md_FB_propose_7 : decode mb_FB_propose 7 = .ok (.iload_n 2, 1) := by decide +kernel
theorem md_FB_propose_8 : decode mb_FB_propose 8 = .ok (.invokestatic 42, 3) := by decide +kernel
theorem md_FB_propose_11 : decode mb_FB_propose 11 = .ok (.ifCond .ne 5, 3) := by decide +kernel
theorem md_FB_propose_14 : decode mb_FB_propose 14 = .ok (.iconst (-1), 1) := by decide +kernel
theorem md_FB_propose_15 : decode mb_FB_propose 15 = .ok (.ireturn, 1) := by decide +kernel
theorem md_FB_propose_16 : decode mb_FB_propose 16 = .ok (.iconst 0, 1) := by decide +kernel
theorem md_FB_propose_17 : decode mb_FB_propose 17 = .ok (.istore_n 3, 1) := by decide +kernel
theorem md_FB_propose_18 : decode mb_FB_propose 18 = .ok (.iload_n 3, 1) := by decide +kernel
theorem md_FB_propose_19 : decode mb_FB_propose 19 = .ok (.aload_n 0, 1) := by decide +kernel
theorem md_FB_propose_20 : decode mb_FB_propose 20 = .ok (.getfield 12, 3) := by decide +kernel
theorem md_FB_propose_23 : decode mb_FB_propose 23 = .ok (.getfield 45, 3) := by decide +kernel
theorem md_FB_propose_26 : decode mb_FB_propose 26 = .ok (.if_icmp .ge 23, 3) := by decide +kernel
theorem md_FB_propose_29 : decode mb_FB_propose 29 = .ok (.aload_n 0, 1) := by decide +kernel
theorem md_FB_propose_30 : decode mb_FB_propose 30 = .ok (.getfield 21, 3) := by decide +kernel
theorem md_FB_propose_33 : decode mb_FB_propose 33 = .ok (.iconst 1, 1) := by decide +kernel
theorem md_FB_propose_34 : decode mb_FB_propose 34 = .ok (.iload_n 1, 1) := by decide +kernel
theorem md_FB_propose_35 : decode mb_FB_propose 35 = .ok (.iconst 0, 1) := by decide +kernel
theorem md_FB_propose_36 : decode mb_FB_propose 36 = .ok (.iconst (-1), 1) := by decide +kernel
theorem md_FB_propose_37 : decode mb_FB_propose 37 = .ok (.iload_n 3, 1) := by decide +kernel
theorem md_FB_propose_38 : decode mb_FB_propose 38 = .ok (.iload_n 2, 1) := by decide +kernel
theorem md_FB_propose_39 : decode mb_FB_propose 39 = .ok (.iconst 0, 1) := by decide +kernel
theorem md_FB_propose_40 : decode mb_FB_propose 40 = .ok (.invokevirtual 49, 3) := by decide +kernel
theorem md_FB_propose_43 : decode mb_FB_propose 43 = .ok (.iinc 3 1, 3) := by decide +kernel
theorem md_FB_propose_46 : decode mb_FB_propose 46 = .ok (.goto (-28), 3) := by decide +kernel
theorem md_FB_propose_49 : decode mb_FB_propose 49 = .ok (.aload_n 0, 1) := by decide +kernel
theorem md_FB_propose_50 : decode mb_FB_propose 50 = .ok (.getfield 21, 3) := by decide +kernel
theorem md_FB_propose_53 : decode mb_FB_propose 53 = .ok (.iconst 1, 1) := by decide +kernel
theorem md_FB_propose_54 : decode mb_FB_propose 54 = .ok (.iload_n 1, 1) := by decide +kernel
theorem md_FB_propose_55 : decode mb_FB_propose 55 = .ok (.iconst 0, 1) := by decide +kernel
theorem md_FB_propose_56 : decode mb_FB_propose 56 = .ok (.iconst (-1), 1) := by decide +kernel
theorem md_FB_propose_57 : decode mb_FB_propose 57 = .ok (.bipush 8, 2) := by decide +kernel
theorem md_FB_propose_59 : decode mb_FB_propose 59 = .ok (.iload_n 2, 1) := by decide +kernel
theorem md_FB_propose_60 : decode mb_FB_propose 60 = .ok (.iconst 0, 1) := by decide +kernel
theorem md_FB_propose_61 : decode mb_FB_propose 61 = .ok (.invokevirtual 49, 3) := by decide +kernel
theorem md_FB_propose_64 : decode mb_FB_propose 64 = .ok (.aload_n 0, 1) := by decide +kernel
theorem md_FB_propose_65 : decode mb_FB_propose 65 = .ok (.getfield 21, 3) := by decide +kernel
theorem md_FB_propose_68 : decode mb_FB_propose 68 = .ok (.iconst 1, 1) := by decide +kernel
theorem md_FB_propose_69 : decode mb_FB_propose 69 = .ok (.iload_n 1, 1) := by decide +kernel
theorem md_FB_propose_70 : decode mb_FB_propose 70 = .ok (.iconst 0, 1) := by decide +kernel
theorem md_FB_propose_71 : decode mb_FB_propose 71 = .ok (.iconst (-1), 1) := by decide +kernel
theorem md_FB_propose_72 : decode mb_FB_propose 72 = .ok (.bipush 9, 2) := by decide +kernel
theorem md_FB_propose_74 : decode mb_FB_propose 74 = .ok (.iload_n 2, 1) := by decide +kernel
theorem md_FB_propose_75 : decode mb_FB_propose 75 = .ok (.iconst 0, 1) := by decide +kernel
theorem md_FB_propose_76 : decode mb_FB_propose 76 = .ok (.invokevirtual 49, 3) := by decide +kernel
theorem md_FB_propose_79 : decode mb_FB_propose 79 = .ok (.aload_n 0, 1) := by decide +kernel
theorem md_FB_propose_80 : decode mb_FB_propose 80 = .ok (.getfield 21, 3) := by decide +kernel
theorem md_FB_propose_83 : decode mb_FB_propose 83 = .ok (.getfield 53, 3) := by decide +kernel
theorem md_FB_propose_86 : decode mb_FB_propose 86 = .ok (.ireturn, 1) := by decide +kernel
theorem md_FB_begin_0 : decode mb_FB_begin 0 = .ok (.iload_n 1, 1) := by decide +kernel
theorem md_FB_begin_1 : decode mb_FB_begin 1 = .ok (.invokestatic 38, 3) := by decide +kernel
theorem md_FB_begin_4 : decode mb_FB_begin 4 = .ok (.ifCond .eq 10, 3) := by decide +kernel
theorem md_FB_begin_7 : decode mb_FB_begin 7 = .ok (.iload_n 2, 1) := by decide +kernel
theorem md_FB_begin_8 : decode mb_FB_begin 8 = .ok (.invokestatic 56, 3) := by decide +kernel
theorem md_FB_begin_11 : decode mb_FB_begin 11 = .ok (.ifCond .ne 5, 3) := by decide +kernel
theorem md_FB_begin_14 : decode mb_FB_begin 14 = .ok (.iconst (-1), 1) := by decide +kernel
theorem md_FB_begin_15 : decode mb_FB_begin 15 = .ok (.ireturn, 1) := by decide +kernel
theorem md_FB_begin_16 : decode mb_FB_begin 16 = .ok (.iload_n 2, 1) := by decide +kernel
theorem md_FB_begin_17 : decode mb_FB_begin 17 = .ok (.invokestatic 59, 3) := by decide +kernel
theorem md_FB_begin_20 : decode mb_FB_begin 20 = .ok (.istore_n 3, 1) := by decide +kernel
theorem md_FB_begin_21 : decode mb_FB_begin 21 = .ok (.aload_n 0, 1) := by decide +kernel
theorem md_FB_begin_22 : decode mb_FB_begin 22 = .ok (.getfield 31, 3) := by decide +kernel
theorem md_FB_begin_25 : decode mb_FB_begin 25 = .ok (.iload_n 1, 1) := by decide +kernel
theorem md_FB_begin_26 : decode mb_FB_begin 26 = .ok (.aaload, 1) := by decide +kernel
theorem md_FB_begin_27 : decode mb_FB_begin 27 = .ok (.iload_n 3, 1) := by decide +kernel
theorem md_FB_begin_28 : decode mb_FB_begin 28 = .ok (.invokevirtual 63, 3) := by decide +kernel
theorem md_FB_begin_31 : decode mb_FB_begin 31 = .ok (.astore 4, 2) := by decide +kernel
theorem md_FB_begin_33 : decode mb_FB_begin 33 = .ok (.aload_n 0, 1) := by decide +kernel
theorem md_FB_begin_34 : decode mb_FB_begin 34 = .ok (.getfield 25, 3) := by decide +kernel
theorem md_FB_begin_37 : decode mb_FB_begin 37 = .ok (.iload_n 3, 1) := by decide +kernel
theorem md_FB_begin_38 : decode mb_FB_begin 38 = .ok (.baload, 1) := by decide +kernel
theorem md_FB_begin_39 : decode mb_FB_begin 39 = .ok (.ifCond .ne 12, 3) := by decide +kernel
theorem md_FB_begin_42 : decode mb_FB_begin 42 = .ok (.iload_n 2, 1) := by decide +kernel
theorem md_FB_begin_43 : decode mb_FB_begin 43 = .ok (.aload 4, 2) := by decide +kernel
theorem md_FB_begin_45 : decode mb_FB_begin 45 = .ok (.getfield 67, 3) := by decide +kernel
theorem md_FB_begin_48 : decode mb_FB_begin 48 = .ok (.if_icmp .gt 5, 3) := by decide +kernel
theorem md_FB_begin_51 : decode mb_FB_begin 51 = .ok (.iconst (-1), 1) := by decide +kernel
theorem md_FB_begin_52 : decode mb_FB_begin 52 = .ok (.ireturn, 1) := by decide +kernel
theorem md_FB_begin_53 : decode mb_FB_begin 53 = .ok (.aload 4, 2) := by decide +kernel
theorem md_FB_begin_55 : decode mb_FB_begin 55 = .ok (.iload_n 2, 1) := by decide +kernel
theorem md_FB_begin_56 : decode mb_FB_begin 56 = .ok (.invokevirtual 72, 3) := by decide +kernel
theorem md_FB_begin_59 : decode mb_FB_begin 59 = .ok (.aload_n 0, 1) := by decide +kernel
theorem md_FB_begin_60 : decode mb_FB_begin 60 = .ok (.getfield 21, 3) := by decide +kernel
theorem md_FB_begin_63 : decode mb_FB_begin 63 = .ok (.getfield 53, 3) := by decide +kernel
theorem md_FB_begin_66 : decode mb_FB_begin 66 = .ok (.ireturn, 1) := by decide +kernel
theorem md_FB_deliver_0 : decode mb_FB_deliver 0 = .ok (.aload_n 0, 1) := by decide +kernel
theorem md_FB_deliver_1 : decode mb_FB_deliver 1 = .ok (.getfield 21, 3) := by decide +kernel
theorem md_FB_deliver_4 : decode mb_FB_deliver 4 = .ok (.iload_n 1, 1) := by decide +kernel
theorem md_FB_deliver_5 : decode mb_FB_deliver 5 = .ok (.invokevirtual 76, 3) := by decide +kernel
theorem md_FB_deliver_8 : decode mb_FB_deliver 8 = .ok (.ifCond .ne 5, 3) := by decide +kernel
theorem md_FB_deliver_11 : decode mb_FB_deliver 11 = .ok (.iconst (-1), 1) := by decide +kernel
theorem md_FB_deliver_12 : decode mb_FB_deliver 12 = .ok (.ireturn, 1) := by decide +kernel
theorem md_FB_deliver_13 : decode mb_FB_deliver 13 = .ok (.aload_n 0, 1) := by decide +kernel
theorem md_FB_deliver_14 : decode mb_FB_deliver 14 = .ok (.getfield 21, 3) := by decide +kernel
theorem md_FB_deliver_17 : decode mb_FB_deliver 17 = .ok (.iload_n 1, 1) := by decide +kernel
theorem md_FB_deliver_18 : decode mb_FB_deliver 18 = .ok (.invokevirtual 79, 3) := by decide +kernel
theorem md_FB_deliver_21 : decode mb_FB_deliver 21 = .ok (.astore_n 2, 1) := by decide +kernel
theorem md_FB_deliver_22 : decode mb_FB_deliver 22 = .ok (.aload_n 0, 1) := by decide +kernel
theorem md_FB_deliver_23 : decode mb_FB_deliver 23 = .ok (.getfield 31, 3) := by decide +kernel
theorem md_FB_deliver_26 : decode mb_FB_deliver 26 = .ok (.aload_n 2, 1) := by decide +kernel
theorem md_FB_deliver_27 : decode mb_FB_deliver 27 = .ok (.getfield 83, 3) := by decide +kernel
theorem md_FB_deliver_30 : decode mb_FB_deliver 30 = .ok (.aaload, 1) := by decide +kernel
theorem md_FB_deliver_31 : decode mb_FB_deliver 31 = .ok (.astore_n 3, 1) := by decide +kernel
theorem md_FB_deliver_32 : decode mb_FB_deliver 32 = .ok (.aload_n 0, 1) := by decide +kernel
theorem md_FB_deliver_33 : decode mb_FB_deliver 33 = .ok (.getfield 25, 3) := by decide +kernel
theorem md_FB_deliver_36 : decode mb_FB_deliver 36 = .ok (.aload_n 2, 1) := by decide +kernel
theorem md_FB_deliver_37 : decode mb_FB_deliver 37 = .ok (.getfield 88, 3) := by decide +kernel
theorem md_FB_deliver_40 : decode mb_FB_deliver 40 = .ok (.baload, 1) := by decide +kernel
theorem md_FB_deliver_41 : decode mb_FB_deliver 41 = .ok (.ifCond .eq 8, 3) := by decide +kernel
theorem md_FB_deliver_44 : decode mb_FB_deliver 44 = .ok (.aload_n 2, 1) := by decide +kernel
theorem md_FB_deliver_45 : decode mb_FB_deliver 45 = .ok (.getfield 91, 3) := by decide +kernel
theorem md_FB_deliver_48 : decode mb_FB_deliver 48 = .ok (.ireturn, 1) := by decide +kernel
theorem md_FB_deliver_49 : decode mb_FB_deliver 49 = .ok (.aload_n 2, 1) := by decide +kernel
theorem md_FB_deliver_50 : decode mb_FB_deliver 50 = .ok (.getfield 88, 3) := by decide +kernel
theorem md_FB_deliver_53 : decode mb_FB_deliver 53 = .ok (.bipush 10, 2) := by decide +kernel
theorem md_FB_deliver_55 : decode mb_FB_deliver 55 = .ok (.if_icmp .ne 25, 3) := by decide +kernel
theorem md_FB_deliver_58 : decode mb_FB_deliver 58 = .ok (.aload_n 3, 1) := by decide +kernel
theorem md_FB_deliver_59 : decode mb_FB_deliver 59 = .ok (.getfield 94, 3) := by decide +kernel
theorem md_FB_deliver_62 : decode mb_FB_deliver 62 = .ok (.aload_n 2, 1) := by decide +kernel
theorem md_FB_deliver_63 : decode mb_FB_deliver 63 = .ok (.getfield 98, 3) := by decide +kernel
theorem md_FB_deliver_66 : decode mb_FB_deliver 66 = .ok (.aload_n 2, 1) := by decide +kernel
theorem md_FB_deliver_67 : decode mb_FB_deliver 67 = .ok (.getfield 101, 3) := by decide +kernel
theorem md_FB_deliver_70 : decode mb_FB_deliver 70 = .ok (.aload_n 2, 1) := by decide +kernel
theorem md_FB_deliver_71 : decode mb_FB_deliver 71 = .ok (.getfield 104, 3) := by decide +kernel
theorem md_FB_deliver_74 : decode mb_FB_deliver 74 = .ok (.invokevirtual 107, 3) := by decide +kernel
theorem md_FB_deliver_77 : decode mb_FB_deliver 77 = .ok (.goto 41, 3) := by decide +kernel
theorem md_FB_deliver_80 : decode mb_FB_deliver 80 = .ok (.aload_n 2, 1) := by decide +kernel
theorem md_FB_deliver_81 : decode mb_FB_deliver 81 = .ok (.getfield 88, 3) := by decide +kernel
theorem md_FB_deliver_84 : decode mb_FB_deliver 84 = .ok (.invokestatic 112, 3) := by decide +kernel
theorem md_FB_deliver_87 : decode mb_FB_deliver 87 = .ok (.ifCond .eq 18, 3) := by decide +kernel
theorem md_FB_deliver_90 : decode mb_FB_deliver 90 = .ok (.aload_n 3, 1) := by decide +kernel
theorem md_FB_deliver_91 : decode mb_FB_deliver 91 = .ok (.aload_n 2, 1) := by decide +kernel
theorem md_FB_deliver_92 : decode mb_FB_deliver 92 = .ok (.getfield 88, 3) := by decide +kernel
theorem md_FB_deliver_95 : decode mb_FB_deliver 95 = .ok (.invokevirtual 63, 3) := by decide +kernel
theorem md_FB_deliver_98 : decode mb_FB_deliver 98 = .ok (.aload_n 2, 1) := by decide +kernel
theorem md_FB_deliver_99 : decode mb_FB_deliver 99 = .ok (.invokevirtual 115, 3) := by decide +kernel
theorem md_FB_deliver_102 : decode mb_FB_deliver 102 = .ok (.goto 16, 3) := by decide +kernel
theorem md_FB_deliver_105 : decode mb_FB_deliver 105 = .ok (.aload_n 3, 1) := by decide +kernel
theorem md_FB_deliver_106 : decode mb_FB_deliver 106 = .ok (.getfield 119, 3) := by decide +kernel
theorem md_FB_deliver_109 : decode mb_FB_deliver 109 = .ok (.aload_n 2, 1) := by decide +kernel
theorem md_FB_deliver_110 : decode mb_FB_deliver 110 = .ok (.getfield 88, 3) := by decide +kernel
theorem md_FB_deliver_113 : decode mb_FB_deliver 113 = .ok (.aaload, 1) := by decide +kernel
theorem md_FB_deliver_114 : decode mb_FB_deliver 114 = .ok (.aload_n 2, 1) := by decide +kernel
theorem md_FB_deliver_115 : decode mb_FB_deliver 115 = .ok (.invokevirtual 122, 3) := by decide +kernel
theorem md_FB_deliver_118 : decode mb_FB_deliver 118 = .ok (.aload_n 2, 1) := by decide +kernel
theorem md_FB_deliver_119 : decode mb_FB_deliver 119 = .ok (.getfield 91, 3) := by decide +kernel
theorem md_FB_deliver_122 : decode mb_FB_deliver 122 = .ok (.ireturn, 1) := by decide +kernel
theorem md_FB_drop_0 : decode mb_FB_drop 0 = .ok (.aload_n 0, 1) := by decide +kernel
theorem md_FB_drop_1 : decode mb_FB_drop 1 = .ok (.getfield 21, 3) := by decide +kernel
theorem md_FB_drop_4 : decode mb_FB_drop 4 = .ok (.iload_n 1, 1) := by decide +kernel
theorem md_FB_drop_5 : decode mb_FB_drop 5 = .ok (.invokevirtual 76, 3) := by decide +kernel
theorem md_FB_drop_8 : decode mb_FB_drop 8 = .ok (.ifCond .ne 5, 3) := by decide +kernel
theorem md_FB_drop_11 : decode mb_FB_drop 11 = .ok (.iconst 0, 1) := by decide +kernel
theorem md_FB_drop_12 : decode mb_FB_drop 12 = .ok (.ireturn, 1) := by decide +kernel
theorem md_FB_drop_13 : decode mb_FB_drop 13 = .ok (.aload_n 0, 1) := by decide +kernel
theorem md_FB_drop_14 : decode mb_FB_drop 14 = .ok (.getfield 21, 3) := by decide +kernel
theorem md_FB_drop_17 : decode mb_FB_drop 17 = .ok (.iload_n 1, 1) := by decide +kernel
theorem md_FB_drop_18 : decode mb_FB_drop 18 = .ok (.invokevirtual 125, 3) := by decide +kernel
theorem md_FB_drop_21 : decode mb_FB_drop 21 = .ok (.iconst 1, 1) := by decide +kernel
theorem md_FB_drop_22 : decode mb_FB_drop 22 = .ok (.ireturn, 1) := by decide +kernel
theorem md_FB_halt_0 : decode mb_FB_halt 0 = .ok (.aload_n 0, 1) := by decide +kernel
theorem md_FB_halt_1 : decode mb_FB_halt 1 = .ok (.iload_n 1, 1) := by decide +kernel
theorem md_FB_halt_2 : decode mb_FB_halt 2 = .ok (.invokevirtual 128, 3) := by decide +kernel
theorem md_FB_halt_5 : decode mb_FB_halt 5 = .ok (.ifCond .ne 18, 3) := by decide +kernel
theorem md_FB_halt_8 : decode mb_FB_halt 8 = .ok (.iload_n 1, 1) := by decide +kernel
theorem md_FB_halt_9 : decode mb_FB_halt 9 = .ok (.invokestatic 112, 3) := by decide +kernel
theorem md_FB_halt_12 : decode mb_FB_halt 12 = .ok (.ifCond .ne 11, 3) := by decide +kernel
theorem md_FB_halt_15 : decode mb_FB_halt 15 = .ok (.iload_n 1, 1) := by decide +kernel
theorem md_FB_halt_16 : decode mb_FB_halt 16 = .ok (.bipush 10, 2) := by decide +kernel
theorem md_FB_halt_18 : decode mb_FB_halt 18 = .ok (.if_icmp .eq 5, 3) := by decide +kernel
theorem md_FB_halt_21 : decode mb_FB_halt 21 = .ok (.iconst 0, 1) := by decide +kernel
theorem md_FB_halt_22 : decode mb_FB_halt 22 = .ok (.ireturn, 1) := by decide +kernel
theorem md_FB_halt_23 : decode mb_FB_halt 23 = .ok (.aload_n 0, 1) := by decide +kernel
theorem md_FB_halt_24 : decode mb_FB_halt 24 = .ok (.getfield 25, 3) := by decide +kernel
theorem md_FB_halt_27 : decode mb_FB_halt 27 = .ok (.iload_n 1, 1) := by decide +kernel
theorem md_FB_halt_28 : decode mb_FB_halt 28 = .ok (.baload, 1) := by decide +kernel
theorem md_FB_halt_29 : decode mb_FB_halt 29 = .ok (.iload_n 2, 1) := by decide +kernel
theorem md_FB_halt_30 : decode mb_FB_halt 30 = .ok (.if_icmp .ne 5, 3) := by decide +kernel
theorem md_FB_halt_33 : decode mb_FB_halt 33 = .ok (.iconst 0, 1) := by decide +kernel
theorem md_FB_halt_34 : decode mb_FB_halt 34 = .ok (.ireturn, 1) := by decide +kernel
theorem md_FB_halt_35 : decode mb_FB_halt 35 = .ok (.aload_n 0, 1) := by decide +kernel
theorem md_FB_halt_36 : decode mb_FB_halt 36 = .ok (.getfield 25, 3) := by decide +kernel
theorem md_FB_halt_39 : decode mb_FB_halt 39 = .ok (.iload_n 1, 1) := by decide +kernel
theorem md_FB_halt_40 : decode mb_FB_halt 40 = .ok (.iload_n 2, 1) := by decide +kernel
theorem md_FB_halt_41 : decode mb_FB_halt 41 = .ok (.bastore, 1) := by decide +kernel
theorem md_FB_halt_42 : decode mb_FB_halt 42 = .ok (.iconst 1, 1) := by decide +kernel
theorem md_FB_halt_43 : decode mb_FB_halt 43 = .ok (.ireturn, 1) := by decide +kernel
theorem md_FB_waiting_0 : decode mb_FB_waiting 0 = .ok (.aload_n 0, 1) := by decide +kernel
theorem md_FB_waiting_1 : decode mb_FB_waiting 1 = .ok (.getfield 21, 3) := by decide +kernel
theorem md_FB_waiting_4 : decode mb_FB_waiting 4 = .ok (.getfield 53, 3) := by decide +kernel
theorem md_FB_waiting_7 : decode mb_FB_waiting 7 = .ok (.ireturn, 1) := by decide +kernel
theorem md_FB_lost_0 : decode mb_FB_lost 0 = .ok (.aload_n 0, 1) := by decide +kernel
theorem md_FB_lost_1 : decode mb_FB_lost 1 = .ok (.getfield 21, 3) := by decide +kernel
theorem md_FB_lost_4 : decode mb_FB_lost 4 = .ok (.getfield 131, 3) := by decide +kernel
theorem md_FB_lost_7 : decode mb_FB_lost 7 = .ok (.ireturn, 1) := by decide +kernel
theorem md_FB_message_0 : decode mb_FB_message 0 = .ok (.aload_n 0, 1) := by decide +kernel
theorem md_FB_message_1 : decode mb_FB_message 1 = .ok (.getfield 21, 3) := by decide +kernel
theorem md_FB_message_4 : decode mb_FB_message 4 = .ok (.iload_n 1, 1) := by decide +kernel
theorem md_FB_message_5 : decode mb_FB_message 5 = .ok (.invokevirtual 76, 3) := by decide +kernel
theorem md_FB_message_8 : decode mb_FB_message 8 = .ok (.ifCond .eq 14, 3) := by decide +kernel
theorem md_FB_message_11 : decode mb_FB_message 11 = .ok (.aload_n 0, 1) := by decide +kernel
theorem md_FB_message_12 : decode mb_FB_message 12 = .ok (.getfield 21, 3) := by decide +kernel
theorem md_FB_message_15 : decode mb_FB_message 15 = .ok (.iload_n 1, 1) := by decide +kernel
theorem md_FB_message_16 : decode mb_FB_message 16 = .ok (.invokevirtual 134, 3) := by decide +kernel
theorem md_FB_message_19 : decode mb_FB_message 19 = .ok (.goto 4, 3) := by decide +kernel
theorem md_FB_message_22 : decode mb_FB_message 22 = .ok (.iconst (-1), 1) := by decide +kernel
theorem md_FB_message_23 : decode mb_FB_message 23 = .ok (.ireturn, 1) := by decide +kernel
theorem md_FB_value_0 : decode mb_FB_value 0 = .ok (.aload_n 0, 1) := by decide +kernel
theorem md_FB_value_1 : decode mb_FB_value 1 = .ok (.getfield 21, 3) := by decide +kernel
theorem md_FB_value_4 : decode mb_FB_value 4 = .ok (.iload_n 1, 1) := by decide +kernel
theorem md_FB_value_5 : decode mb_FB_value 5 = .ok (.invokevirtual 76, 3) := by decide +kernel
theorem md_FB_value_8 : decode mb_FB_value 8 = .ok (.ifCond .eq 14, 3) := by decide +kernel
theorem md_FB_value_11 : decode mb_FB_value 11 = .ok (.aload_n 0, 1) := by decide +kernel
theorem md_FB_value_12 : decode mb_FB_value 12 = .ok (.getfield 21, 3) := by decide +kernel
theorem md_FB_value_15 : decode mb_FB_value 15 = .ok (.iload_n 1, 1) := by decide +kernel
theorem md_FB_value_16 : decode mb_FB_value 16 = .ok (.invokevirtual 137, 3) := by decide +kernel
theorem md_FB_value_19 : decode mb_FB_value 19 = .ok (.goto 4, 3) := by decide +kernel
theorem md_FB_value_22 : decode mb_FB_value 22 = .ok (.iconst (-1), 1) := by decide +kernel
theorem md_FB_value_23 : decode mb_FB_value 23 = .ok (.ireturn, 1) := by decide +kernel
theorem md_FB_round_0 : decode mb_FB_round 0 = .ok (.aload_n 0, 1) := by decide +kernel
theorem md_FB_round_1 : decode mb_FB_round 1 = .ok (.iload_n 1, 1) := by decide +kernel
theorem md_FB_round_2 : decode mb_FB_round 2 = .ok (.invokevirtual 128, 3) := by decide +kernel
theorem md_FB_round_5 : decode mb_FB_round 5 = .ok (.ifCond .eq 27, 3) := by decide +kernel
theorem md_FB_round_8 : decode mb_FB_round 8 = .ok (.iload_n 2, 1) := by decide +kernel
theorem md_FB_round_9 : decode mb_FB_round 9 = .ok (.invokestatic 38, 3) := by decide +kernel
theorem md_FB_round_12 : decode mb_FB_round 12 = .ok (.ifCond .eq 20, 3) := by decide +kernel
theorem md_FB_round_15 : decode mb_FB_round 15 = .ok (.aload_n 0, 1) := by decide +kernel
theorem md_FB_round_16 : decode mb_FB_round 16 = .ok (.getfield 31, 3) := by decide +kernel
theorem md_FB_round_19 : decode mb_FB_round 19 = .ok (.iload_n 2, 1) := by decide +kernel
theorem md_FB_round_20 : decode mb_FB_round 20 = .ok (.aaload, 1) := by decide +kernel
theorem md_FB_round_21 : decode mb_FB_round 21 = .ok (.getfield 119, 3) := by decide +kernel
theorem md_FB_round_24 : decode mb_FB_round 24 = .ok (.iload_n 1, 1) := by decide +kernel
theorem md_FB_round_25 : decode mb_FB_round 25 = .ok (.aaload, 1) := by decide +kernel
theorem md_FB_round_26 : decode mb_FB_round 26 = .ok (.getfield 140, 3) := by decide +kernel
theorem md_FB_round_29 : decode mb_FB_round 29 = .ok (.goto 4, 3) := by decide +kernel
theorem md_FB_round_32 : decode mb_FB_round 32 = .ok (.iconst (-1), 1) := by decide +kernel
theorem md_FB_round_33 : decode mb_FB_round 33 = .ok (.ireturn, 1) := by decide +kernel
theorem md_FB_vote_0 : decode mb_FB_vote 0 = .ok (.aload_n 0, 1) := by decide +kernel
theorem md_FB_vote_1 : decode mb_FB_vote 1 = .ok (.iload_n 1, 1) := by decide +kernel
theorem md_FB_vote_2 : decode mb_FB_vote 2 = .ok (.invokevirtual 128, 3) := by decide +kernel
theorem md_FB_vote_5 : decode mb_FB_vote 5 = .ok (.ifCond .eq 27, 3) := by decide +kernel
theorem md_FB_vote_8 : decode mb_FB_vote 8 = .ok (.iload_n 2, 1) := by decide +kernel
theorem md_FB_vote_9 : decode mb_FB_vote 9 = .ok (.invokestatic 38, 3) := by decide +kernel
theorem md_FB_vote_12 : decode mb_FB_vote 12 = .ok (.ifCond .eq 20, 3) := by decide +kernel
theorem md_FB_vote_15 : decode mb_FB_vote 15 = .ok (.aload_n 0, 1) := by decide +kernel
theorem md_FB_vote_16 : decode mb_FB_vote 16 = .ok (.getfield 31, 3) := by decide +kernel
theorem md_FB_vote_19 : decode mb_FB_vote 19 = .ok (.iload_n 2, 1) := by decide +kernel
theorem md_FB_vote_20 : decode mb_FB_vote 20 = .ok (.aaload, 1) := by decide +kernel
theorem md_FB_vote_21 : decode mb_FB_vote 21 = .ok (.getfield 119, 3) := by decide +kernel
theorem md_FB_vote_24 : decode mb_FB_vote 24 = .ok (.iload_n 1, 1) := by decide +kernel
theorem md_FB_vote_25 : decode mb_FB_vote 25 = .ok (.aaload, 1) := by decide +kernel
theorem md_FB_vote_26 : decode mb_FB_vote 26 = .ok (.getfield 143, 3) := by decide +kernel
theorem md_FB_vote_29 : decode mb_FB_vote 29 = .ok (.goto 4, 3) := by decide +kernel
theorem md_FB_vote_32 : decode mb_FB_vote 32 = .ok (.iconst (-1), 1) := by decide +kernel
theorem md_FB_vote_33 : decode mb_FB_vote 33 = .ok (.ireturn, 1) := by decide +kernel
theorem md_FB_voteRound_0 : decode mb_FB_voteRound 0 = .ok (.aload_n 0, 1) := by decide +kernel
theorem md_FB_voteRound_1 : decode mb_FB_voteRound 1 = .ok (.iload_n 1, 1) := by decide +kernel
theorem md_FB_voteRound_2 : decode mb_FB_voteRound 2 = .ok (.invokevirtual 128, 3) := by decide +kernel
theorem md_FB_voteRound_5 : decode mb_FB_voteRound 5 = .ok (.ifCond .eq 27, 3) := by decide +kernel
theorem md_FB_voteRound_8 : decode mb_FB_voteRound 8 = .ok (.iload_n 2, 1) := by decide +kernel
theorem md_FB_voteRound_9 : decode mb_FB_voteRound 9 = .ok (.invokestatic 38, 3) := by decide +kernel
theorem md_FB_voteRound_12 : decode mb_FB_voteRound 12 = .ok (.ifCond .eq 20, 3) := by decide +kernel
theorem md_FB_voteRound_15 : decode mb_FB_voteRound 15 = .ok (.aload_n 0, 1) := by decide +kernel
theorem md_FB_voteRound_16 : decode mb_FB_voteRound 16 = .ok (.getfield 31, 3) := by decide +kernel
theorem md_FB_voteRound_19 : decode mb_FB_voteRound 19 = .ok (.iload_n 2, 1) := by decide +kernel
theorem md_FB_voteRound_20 : decode mb_FB_voteRound 20 = .ok (.aaload, 1) := by decide +kernel
theorem md_FB_voteRound_21 : decode mb_FB_voteRound 21 = .ok (.getfield 119, 3) := by decide +kernel
theorem md_FB_voteRound_24 : decode mb_FB_voteRound 24 = .ok (.iload_n 1, 1) := by decide +kernel
theorem md_FB_voteRound_25 : decode mb_FB_voteRound 25 = .ok (.aaload, 1) := by decide +kernel
theorem md_FB_voteRound_26 : decode mb_FB_voteRound 26 = .ok (.getfield 146, 3) := by decide +kernel
theorem md_FB_voteRound_29 : decode mb_FB_voteRound 29 = .ok (.goto 4, 3) := by decide +kernel
theorem md_FB_voteRound_32 : decode mb_FB_voteRound 32 = .ok (.iconst (-1), 1) := by decide +kernel
theorem md_FB_voteRound_33 : decode mb_FB_voteRound 33 = .ok (.ireturn, 1) := by decide +kernel
theorem md_FB_leads_0 : decode mb_FB_leads 0 = .ok (.iload_n 1, 1) := by decide +kernel
theorem md_FB_leads_1 : decode mb_FB_leads 1 = .ok (.invokestatic 112, 3) := by decide +kernel
theorem md_FB_leads_4 : decode mb_FB_leads 4 = .ok (.ifCond .eq 26, 3) := by decide +kernel
theorem md_FB_leads_7 : decode mb_FB_leads 7 = .ok (.iload_n 2, 1) := by decide +kernel
theorem md_FB_leads_8 : decode mb_FB_leads 8 = .ok (.invokestatic 38, 3) := by decide +kernel
theorem md_FB_leads_11 : decode mb_FB_leads 11 = .ok (.ifCond .eq 19, 3) := by decide +kernel
theorem md_FB_leads_14 : decode mb_FB_leads 14 = .ok (.aload_n 0, 1) := by decide +kernel
theorem md_FB_leads_15 : decode mb_FB_leads 15 = .ok (.getfield 31, 3) := by decide +kernel
theorem md_FB_leads_18 : decode mb_FB_leads 18 = .ok (.iload_n 2, 1) := by decide +kernel
theorem md_FB_leads_19 : decode mb_FB_leads 19 = .ok (.aaload, 1) := by decide +kernel
theorem md_FB_leads_20 : decode mb_FB_leads 20 = .ok (.iload_n 1, 1) := by decide +kernel
theorem md_FB_leads_21 : decode mb_FB_leads 21 = .ok (.invokevirtual 63, 3) := by decide +kernel
theorem md_FB_leads_24 : decode mb_FB_leads 24 = .ok (.getfield 67, 3) := by decide +kernel
theorem md_FB_leads_27 : decode mb_FB_leads 27 = .ok (.goto 4, 3) := by decide +kernel
theorem md_FB_leads_30 : decode mb_FB_leads 30 = .ok (.iconst (-1), 1) := by decide +kernel
theorem md_FB_leads_31 : decode mb_FB_leads 31 = .ok (.ireturn, 1) := by decide +kernel
theorem md_FB_phase_0 : decode mb_FB_phase 0 = .ok (.iload_n 1, 1) := by decide +kernel
theorem md_FB_phase_1 : decode mb_FB_phase 1 = .ok (.invokestatic 112, 3) := by decide +kernel
theorem md_FB_phase_4 : decode mb_FB_phase 4 = .ok (.ifCond .eq 26, 3) := by decide +kernel
theorem md_FB_phase_7 : decode mb_FB_phase 7 = .ok (.iload_n 2, 1) := by decide +kernel
theorem md_FB_phase_8 : decode mb_FB_phase 8 = .ok (.invokestatic 38, 3) := by decide +kernel
theorem md_FB_phase_11 : decode mb_FB_phase 11 = .ok (.ifCond .eq 19, 3) := by decide +kernel
theorem md_FB_phase_14 : decode mb_FB_phase 14 = .ok (.aload_n 0, 1) := by decide +kernel
theorem md_FB_phase_15 : decode mb_FB_phase 15 = .ok (.getfield 31, 3) := by decide +kernel
theorem md_FB_phase_18 : decode mb_FB_phase 18 = .ok (.iload_n 2, 1) := by decide +kernel
theorem md_FB_phase_19 : decode mb_FB_phase 19 = .ok (.aaload, 1) := by decide +kernel
theorem md_FB_phase_20 : decode mb_FB_phase 20 = .ok (.iload_n 1, 1) := by decide +kernel
theorem md_FB_phase_21 : decode mb_FB_phase 21 = .ok (.invokevirtual 63, 3) := by decide +kernel
theorem md_FB_phase_24 : decode mb_FB_phase 24 = .ok (.getfield 149, 3) := by decide +kernel
theorem md_FB_phase_27 : decode mb_FB_phase 27 = .ok (.goto 4, 3) := by decide +kernel
theorem md_FB_phase_30 : decode mb_FB_phase 30 = .ok (.iconst (-1), 1) := by decide +kernel
theorem md_FB_phase_31 : decode mb_FB_phase 31 = .ok (.ireturn, 1) := by decide +kernel
theorem md_FB_learned_0 : decode mb_FB_learned 0 = .ok (.iload_n 1, 1) := by decide +kernel
theorem md_FB_learned_1 : decode mb_FB_learned 1 = .ok (.invokestatic 38, 3) := by decide +kernel
theorem md_FB_learned_4 : decode mb_FB_learned 4 = .ok (.ifCond .eq 18, 3) := by decide +kernel
theorem md_FB_learned_7 : decode mb_FB_learned 7 = .ok (.aload_n 0, 1) := by decide +kernel
theorem md_FB_learned_8 : decode mb_FB_learned 8 = .ok (.getfield 31, 3) := by decide +kernel
theorem md_FB_learned_11 : decode mb_FB_learned 11 = .ok (.iload_n 1, 1) := by decide +kernel
theorem md_FB_learned_12 : decode mb_FB_learned 12 = .ok (.aaload, 1) := by decide +kernel
theorem md_FB_learned_13 : decode mb_FB_learned 13 = .ok (.getfield 94, 3) := by decide +kernel
theorem md_FB_learned_16 : decode mb_FB_learned 16 = .ok (.getfield 152, 3) := by decide +kernel
theorem md_FB_learned_19 : decode mb_FB_learned 19 = .ok (.goto 4, 3) := by decide +kernel
theorem md_FB_learned_22 : decode mb_FB_learned 22 = .ok (.iconst (-1), 1) := by decide +kernel
theorem md_FB_learned_23 : decode mb_FB_learned 23 = .ok (.ireturn, 1) := by decide +kernel
theorem md_FB_chosen_0 : decode mb_FB_chosen 0 = .ok (.iload_n 1, 1) := by decide +kernel
theorem md_FB_chosen_1 : decode mb_FB_chosen 1 = .ok (.invokestatic 38, 3) := by decide +kernel
theorem md_FB_chosen_4 : decode mb_FB_chosen 4 = .ok (.ifCond .eq 18, 3) := by decide +kernel
theorem md_FB_chosen_7 : decode mb_FB_chosen 7 = .ok (.aload_n 0, 1) := by decide +kernel
theorem md_FB_chosen_8 : decode mb_FB_chosen 8 = .ok (.getfield 31, 3) := by decide +kernel
theorem md_FB_chosen_11 : decode mb_FB_chosen 11 = .ok (.iload_n 1, 1) := by decide +kernel
theorem md_FB_chosen_12 : decode mb_FB_chosen 12 = .ok (.aaload, 1) := by decide +kernel
theorem md_FB_chosen_13 : decode mb_FB_chosen 13 = .ok (.getfield 155, 3) := by decide +kernel
theorem md_FB_chosen_16 : decode mb_FB_chosen 16 = .ok (.getfield 152, 3) := by decide +kernel
theorem md_FB_chosen_19 : decode mb_FB_chosen 19 = .ok (.goto 4, 3) := by decide +kernel
theorem md_FB_chosen_22 : decode mb_FB_chosen 22 = .ok (.iconst (-1), 1) := by decide +kernel
theorem md_FB_chosen_23 : decode mb_FB_chosen 23 = .ok (.ireturn, 1) := by decide +kernel
theorem md_FB_votes_0 : decode mb_FB_votes 0 = .ok (.iload_n 1, 1) := by decide +kernel
theorem md_FB_votes_1 : decode mb_FB_votes 1 = .ok (.invokestatic 38, 3) := by decide +kernel
theorem md_FB_votes_4 : decode mb_FB_votes 4 = .ok (.ifCond .eq 17, 3) := by decide +kernel
theorem md_FB_votes_7 : decode mb_FB_votes 7 = .ok (.iload_n 2, 1) := by decide +kernel
theorem md_FB_votes_8 : decode mb_FB_votes 8 = .ok (.invokestatic 56, 3) := by decide +kernel
theorem md_FB_votes_11 : decode mb_FB_votes 11 = .ok (.ifCond .eq 10, 3) := by decide +kernel
theorem md_FB_votes_14 : decode mb_FB_votes 14 = .ok (.iload_n 3, 1) := by decide +kernel
theorem md_FB_votes_15 : decode mb_FB_votes 15 = .ok (.invokestatic 42, 3) := by decide +kernel
theorem md_FB_votes_18 : decode mb_FB_votes 18 = .ok (.ifCond .ne 5, 3) := by decide +kernel
theorem md_FB_votes_21 : decode mb_FB_votes 21 = .ok (.iconst (-1), 1) := by decide +kernel
theorem md_FB_votes_22 : decode mb_FB_votes 22 = .ok (.ireturn, 1) := by decide +kernel
theorem md_FB_votes_23 : decode mb_FB_votes 23 = .ok (.aload_n 0, 1) := by decide +kernel
theorem md_FB_votes_24 : decode mb_FB_votes 24 = .ok (.getfield 31, 3) := by decide +kernel
theorem md_FB_votes_27 : decode mb_FB_votes 27 = .ok (.iload_n 1, 1) := by decide +kernel
theorem md_FB_votes_28 : decode mb_FB_votes 28 = .ok (.aaload, 1) := by decide +kernel
theorem md_FB_votes_29 : decode mb_FB_votes 29 = .ok (.getfield 155, 3) := by decide +kernel
theorem md_FB_votes_32 : decode mb_FB_votes 32 = .ok (.iload_n 2, 1) := by decide +kernel
theorem md_FB_votes_33 : decode mb_FB_votes 33 = .ok (.iload_n 3, 1) := by decide +kernel
theorem md_FB_votes_34 : decode mb_FB_votes 34 = .ok (.invokevirtual 158, 3) := by decide +kernel
theorem md_FB_votes_37 : decode mb_FB_votes 37 = .ok (.ireturn, 1) := by decide +kernel
theorem md_FB_size_0 : decode mb_FB_size 0 = .ok (.iload_n 1, 1) := by decide +kernel
theorem md_FB_size_1 : decode mb_FB_size 1 = .ok (.tableswitch 51 0 2 #[27, 35, 43], 27) := by decide +kernel
theorem md_FB_size_28 : decode mb_FB_size 28 = .ok (.aload_n 0, 1) := by decide +kernel
theorem md_FB_size_29 : decode mb_FB_size 29 = .ok (.getfield 12, 3) := by decide +kernel
theorem md_FB_size_32 : decode mb_FB_size 32 = .ok (.getfield 45, 3) := by decide +kernel
theorem md_FB_size_35 : decode mb_FB_size 35 = .ok (.ireturn, 1) := by decide +kernel
theorem md_FB_size_36 : decode mb_FB_size 36 = .ok (.aload_n 0, 1) := by decide +kernel
theorem md_FB_size_37 : decode mb_FB_size 37 = .ok (.getfield 12, 3) := by decide +kernel
theorem md_FB_size_40 : decode mb_FB_size 40 = .ok (.getfield 162, 3) := by decide +kernel
theorem md_FB_size_43 : decode mb_FB_size 43 = .ok (.ireturn, 1) := by decide +kernel
theorem md_FB_size_44 : decode mb_FB_size 44 = .ok (.aload_n 0, 1) := by decide +kernel
theorem md_FB_size_45 : decode mb_FB_size 45 = .ok (.getfield 12, 3) := by decide +kernel
theorem md_FB_size_48 : decode mb_FB_size 48 = .ok (.getfield 165, 3) := by decide +kernel
theorem md_FB_size_51 : decode mb_FB_size 51 = .ok (.ireturn, 1) := by decide +kernel
theorem md_FB_size_52 : decode mb_FB_size 52 = .ok (.iconst (-1), 1) := by decide +kernel
theorem md_FB_size_53 : decode mb_FB_size 53 = .ok (.ireturn, 1) := by decide +kernel
/-- the program's memory at rest stands for the state S -/
def fr_I (n q f : Nat) (S : pz_T) (M : fr_M) : Prop := pz_Inv n q f S ∧ fr_R n q f S (fr_X S) M
theorem pz_sd_9 (S : pz_T) (g : pz_M) {s c : Nat} (hs : s < 3) : (pz_sd S g).2 s 9 c 0 = S.2 s 9 c 0 := by rw [pz_sd_2 S g hs]
theorem pz_pw_9 {S : pz_T} {s s' c : Nat} {p : pz_P} (h : ∀ d, p 9 d 0 = S.2 s 9 d 0) : (pz_pw S s p).2 s' 9 c 0 = S.2 s' 9 c 0 := by
  by_cases e : s' = s
  · subst e; rw [pz_pw_s]; exact h c
  · show pz_w S.2 s p s' 9 c 0 = _
    rw [pz_w_n e]
theorem pz_cast_9 {n q f s a r v s' c : Nat} {S : pz_T} (hs : s' < 3) : (pz_cast n q f S s a r v).2 s' 9 c 0 = S.2 s' 9 c 0 := by
  unfold pz_cast
  rw [pz_sd_9 _ _ hs, pz_sd_9 _ _ hs]
  exact pz_pw_9 (fun d => by unfold pz_v2 pz_v1; rw [pz_u_k (by decide), pz_u_k (by decide), pz_u_k (by decide), pz_u_k (by decide)])
theorem pz_accept_9 {n q f s a kd r v s' c : Nat} {S : pz_T} (hs : s' < 3) : (pz_accept n q f S s a kd r v).2 s' 9 c 0 = S.2 s' 9 c 0 := by
  have p1 : ∀ k x y v, k ≠ 9 → (pz_pw S s (pz_u (S.2 s) k x y v)).2 s' 9 c 0 = S.2 s' 9 c 0 := fun k x y v hk => pz_pw_9 (fun d => pz_u_k (Ne.symm hk))
  have p2 : ∀ k x y v k' x' y' v', k ≠ 9 → k' ≠ 9 → (pz_pw S s (pz_u (pz_u (S.2 s) k x y v) k' x' y' v')).2 s' 9 c 0 = S.2 s' 9 c 0 := fun k x y v k' x' y' v' hk hk' => pz_pw_9 (fun d => by rw [pz_u_k (Ne.symm hk'), pz_u_k (Ne.symm hk)])
  unfold pz_accept
  split
  · split
    · rw [pz_sd_9 _ _ hs]; exact p1 _ _ _ _ (by decide)
    · rfl
  · split
    · split
      · split
        · rw [pz_cast_9 hs]; exact p1 _ _ _ _ (by decide)
        · split
          · rw [pz_cast_9 hs]; exact p2 _ _ _ _ _ _ _ _ (by decide) (by decide)
          · exact p2 _ _ _ _ _ _ _ _ (by decide) (by decide)
      · rfl
    · split
      · split
        · split
          · rw [pz_cast_9 hs]; exact p1 _ _ _ _ (by decide)
          · exact p1 _ _ _ _ (by decide)
        · rfl
      · rfl
theorem pz_sa_9 {kd s r v s' c i : Nat} {S : pz_T} (hs : s' < 3) : (pz_sa kd s r v i S).2 s' 9 c 0 = S.2 s' 9 c 0 := by rw [pz_sa_2 _ _ _ _ _ hs]
theorem xi_zb {b : Nat} (h : b ≤ 1) : vp_nar .boolean (nI b) = nI b := by
  have e : b = 0 ∨ b = 1 := by omega
  rcases e with e | e
  · subst e; exact xi_z0
  · subst e; exact xi_z1
set_option maxHeartbeats 4000000 in
theorem k_propose (l : Launch) (D : va_G) {n : Nat} (ad : Nat × Nat → Nat) (cI cZ cS cA : ClassId) {M : fr_M} {q f : Nat} {S : pz_T} (hn : n ≤ 5) (hq5 : q ≤ 5) (hf5 : f ≤ 5) (Q : pz_Q n q f) (hI : fr_I n q f S M) {s v : Nat} (hs : s < 3) (hv1 : 1 ≤ v) (hv2 : v ≤ 1000) : fb_C l D n ad cI cZ cS cA my_FB_propose mb_FB_propose 4 (some .int) 1 28 M [.ref (ad (0, 0)), .int (nI (s)), .int (nI (v))] (some (.int (nI (pz_propose n S s v).1.length))) (fr_I n q f (pz_propose n S s v)) := by
  have h := hI.2
  have I := hI.1
  have h60 := I.1
  refine xw_start [.ref (ad (0, 0)), .int (nI (s)), .int (nI (v))] (by decide) (Nat.le_of_ble_eq_true rfl) ?_
  intro p e st m below meth cd0 ls Z hml hr hlk hN hl hw
  have hl : lv_has ls 4 [(0, .ref (ad (0, 0))), (1, .int (nI (s))), (2, .int (nI (v)))] := hl
  refine lv_iload_n Z.1 Z.2.1 md_FB_propose_0 rfl (lv_at hl 1 rfl) ?_
  refine xw_cS (n := 1) (rest := []) Z hml hl.1 hN hw (k_isSlot1 l D ad cI cZ cS cA (M := M) hs) tb_g mc_FB_isSlot mk_FB_38 mt_FB_isSlot mz_FB ⟨by decide, by decide, by decide +kernel⟩ ⟨Nat.le_of_ble_eq_true rfl, Nat.le_of_ble_eq_true rfl⟩ rfl rfl (Nat.le_of_ble_eq_true rfl) ⟨Nat.le_refl _, Nat.le_refl _⟩ md_FB_propose_1 (fun M1 H1 locs1 e1 hw => ?_)
  have ey1 := e1.symm
  subst ey1
  refine W.eq (g2 := F0 m 4 ls [.int (nI (1))]) rfl ?_
  refine xi_if_eq (tgt := 14) Z md_FB_propose_4 (by decide) (by omega) (fun h4 => by exfalso; omega) (fun h4 => ?_)
  refine lv_iload_n Z.1 Z.2.1 md_FB_propose_7 rfl (lv_at hl 2 rfl) ?_
  refine xw_cS (n := 1) (rest := []) Z hml hl.1 hN hw (k_isValue1 l D ad cI cZ cS cA (M := M) hv1 hv2) tb_g mc_FB_isValue mk_FB_42 mt_FB_isValue mz_FB ⟨by decide, by decide, by decide +kernel⟩ ⟨Nat.le_of_ble_eq_true rfl, Nat.le_of_ble_eq_true rfl⟩ rfl rfl (Nat.le_of_ble_eq_true rfl) ⟨Nat.le_refl _, Nat.le_refl _⟩ md_FB_propose_8 (fun M2 H2 locs2 e2 hw => ?_)
  have ey2 := e2.symm
  subst ey2
  refine W.eq (g2 := F0 m 11 ls [.int (nI (1))]) rfl ?_
  refine xi_if_ne (tgt := 16) Z md_FB_propose_11 (by decide) (by omega) (fun h11 => ?_) (fun h11 => by exfalso; omega)
  refine lv_iconst (v := nI 0) Z.1 Z.2.1 md_FB_propose_16 (by decide) ?_
  refine lv_istore_n Z.1 Z.2.1 md_FB_propose_17 rfl hl (by decide) rfl (fun ls hl => ?_)
  have hl : lv_has ls 4 [(3, .int (nI (0))), (0, .ref (ad (0, 0))), (1, .int (nI (s))), (2, .int (nI (v)))] := hl
  have loop18 : ∀ (d i : Nat) (Mi : fr_M) (Hi : Heap) (Li : List Loc) (ls : Array Slot), i + d = n → (fr_K n q f (pz_sa 1 s 0 v i S) (fr_X S) M Mi) → xw_H D tb_cl (xw_A (fb_ids n) ad) st.heap (fb_ids n) ad (xw_M (fb_k n ad cI cZ cS cA) Mi) Hi Li → lv_has ls 4 [(3, .int (nI (i))), (0, .ref (ad (0, 0))), (1, .int (nI (s))), (2, .int (nI (v)))] → W p l e { frames := 1, cells := 0, slots := 0, locals := 28 } st m [.ref (ad (0, 0)), .int (nI (s)), .int (nI (v))].toArray below meth cd0 Hi Li 0 0 (MQ below (xw_Qc D tb_cl (fb_ids n) ad (fb_k n ad cI cZ cS cA) (some (.int (nI (pz_propose n S s v).1.length))) (fr_I n q f (pz_propose n S s v))) [.ref (ad (0, 0)), .int (nI (s)), .int (nI (v))].toArray st 0 0 (xw_A (fb_ids n) ad)) (F0 m 18 ls []) := by
    intro d
    induction d with
    | zero =>
      intro i Mi Hi Li ls hi hinv hw hl
      refine lv_iload_n Z.1 Z.2.1 md_FB_propose_18 rfl (lv_at hl 0 rfl) ?_
      refine lv_aload_n Z.1 Z.2.1 md_FB_propose_19 rfl (lv_at hl 1 rfl) ?_
      refine xb_get (v := .ref (ad (1, 0))) Z hw (fb_in0 n) (fb_e0 n ad cI cZ cS cA) rfl tb_iFB 0 (by decide) mk_FB_12 rfl rfl md_FB_propose_20 ?_
      refine xb_get (v := .int (Mi (1, 0) 0)) Z hw (fb_in1 n) (fb_e1 n ad cI cZ cS cA) rfl tb_iSiz 0 (by decide) mk_FB_45 rfl rfl md_FB_propose_23 ?_
      refine xi_re (show Mi (1, 0) 0 = nI (n) from hinv.1.1.1) ?_
      refine xi_icmp_ge (tgt := 49) Z md_FB_propose_26 (by decide) (by omega) (by omega) (fun h26 => ?_) (fun h26 => by exfalso; omega)
      rw [show i = n by omega] at hinv
      refine lv_aload_n Z.1 Z.2.1 md_FB_propose_49 rfl (lv_at hl 1 rfl) ?_
      refine xb_get (v := .ref (ad (2, 0))) Z hw (fb_in0 n) (fb_e0 n ad cI cZ cS cA) rfl tb_iFB 1 (by decide) mk_FB_21 rfl rfl md_FB_propose_50 ?_
      refine lv_iconst (v := nI 1) Z.1 Z.2.1 md_FB_propose_53 (by decide) ?_
      refine lv_iload_n Z.1 Z.2.1 md_FB_propose_54 rfl (lv_at hl 2 rfl) ?_
      refine lv_iconst (v := nI 0) Z.1 Z.2.1 md_FB_propose_55 (by decide) ?_
      refine lv_iconst (v := -1) Z.1 Z.2.1 md_FB_propose_56 (by decide) ?_
      refine lv_bipush (v := nI 8) Z.1 Z.2.1 md_FB_propose_57 (by decide) ?_
      refine lv_iload_n Z.1 Z.2.1 md_FB_propose_59 rfl (lv_at hl 3 rfl) ?_
      refine lv_iconst (v := nI 0) Z.1 Z.2.1 md_FB_propose_60 (by decide) ?_
      refine xw_cV (n := 7) (rest := []) Z hml hl.1 hN hw (k_send (g := pz_mg 1 s 0 0 8 v 0) (x := -1) l D ad cI cZ cS cA hinv.1 (fr_sa_len h60 n) (fun z => absurd z (show ¬ (1 = 3 ∨ 1 = 5) by decide))) tb_g mc_Mail_send mk_FB_49 mi_Mail_send ms_Mail_send mz_Mail ⟨by decide, by decide, by decide +kernel⟩ ⟨Nat.le_of_ble_eq_true rfl, Nat.le_of_ble_eq_true rfl⟩ (fb_in2 n) (fb_e2 n ad cI cZ cS cA _) rfl rfl rfl rfl (Nat.le_of_ble_eq_true rfl) ⟨Nat.le_refl _, Nat.le_refl _⟩ md_FB_propose_61 (fun M3 H3 locs3 hp8 hw => ?_)
      refine W.eq (g2 := F0 m 64 ls []) rfl ?_
      refine lv_aload_n Z.1 Z.2.1 md_FB_propose_64 rfl (lv_at hl 1 rfl) ?_
      refine xb_get (v := .ref (ad (2, 0))) Z hw (fb_in0 n) (fb_e0 n ad cI cZ cS cA) rfl tb_iFB 1 (by decide) mk_FB_21 rfl rfl md_FB_propose_65 ?_
      refine lv_iconst (v := nI 1) Z.1 Z.2.1 md_FB_propose_68 (by decide) ?_
      refine lv_iload_n Z.1 Z.2.1 md_FB_propose_69 rfl (lv_at hl 2 rfl) ?_
      refine lv_iconst (v := nI 0) Z.1 Z.2.1 md_FB_propose_70 (by decide) ?_
      refine lv_iconst (v := -1) Z.1 Z.2.1 md_FB_propose_71 (by decide) ?_
      refine lv_bipush (v := nI 9) Z.1 Z.2.1 md_FB_propose_72 (by decide) ?_
      refine lv_iload_n Z.1 Z.2.1 md_FB_propose_74 rfl (lv_at hl 3 rfl) ?_
      refine lv_iconst (v := nI 0) Z.1 Z.2.1 md_FB_propose_75 (by decide) ?_
      refine xw_cV (n := 7) (rest := []) Z hml hl.1 hN hw (k_send (g := pz_mg 1 s 0 0 9 v 0) (x := -1) l D ad cI cZ cS cA hp8.1 (fr_sd_len (fr_sa_len h60 n)) (fun z => absurd z (show ¬ (1 = 3 ∨ 1 = 5) by decide))) tb_g mc_Mail_send mk_FB_49 mi_Mail_send ms_Mail_send mz_Mail ⟨by decide, by decide, by decide +kernel⟩ ⟨Nat.le_of_ble_eq_true rfl, Nat.le_of_ble_eq_true rfl⟩ (fb_in2 n) (fb_e2 n ad cI cZ cS cA _) rfl rfl rfl rfl (Nat.le_of_ble_eq_true rfl) ⟨Nat.le_refl _, Nat.le_refl _⟩ md_FB_propose_76 (fun M4 H4 locs4 hp9 hw => ?_)
      refine W.eq (g2 := F0 m 79 ls []) rfl ?_
      refine lv_aload_n Z.1 Z.2.1 md_FB_propose_79 rfl (lv_at hl 1 rfl) ?_
      refine xb_get (v := .ref (ad (2, 0))) Z hw (fb_in0 n) (fb_e0 n ad cI cZ cS cA) rfl tb_iFB 1 (by decide) mk_FB_21 rfl rfl md_FB_propose_80 ?_
      refine xb_get (v := .int (M4 (2, 0) 2)) Z hw (fb_in2 n) (fb_e2 n ad cI cZ cS cA) rfl tb_iMail 2 (by decide) mk_FB_53 rfl rfl md_FB_propose_83 ?_
      refine xi_re (show M4 (2, 0) 2 = nI ((pz_propose n S s v).1.length) from hp9.1.2.1.1) ?_
      exact xw_iret Z hr hlk hw md_FB_propose_86 rfl ⟨pz_propose_Inv I hs hv1 hv2, fr_fin2 hp9.1 (fun s' c' hs' _ => by unfold pz_propose; rw [pz_sd_9 _ _ hs', pz_sd_9 _ _ hs', pz_sa_9 hs'])⟩
    | succ d ih =>
      intro i Mi Hi Li ls hi hinv hw hl
      refine lv_iload_n Z.1 Z.2.1 md_FB_propose_18 rfl (lv_at hl 0 rfl) ?_
      refine lv_aload_n Z.1 Z.2.1 md_FB_propose_19 rfl (lv_at hl 1 rfl) ?_
      refine xb_get (v := .ref (ad (1, 0))) Z hw (fb_in0 n) (fb_e0 n ad cI cZ cS cA) rfl tb_iFB 0 (by decide) mk_FB_12 rfl rfl md_FB_propose_20 ?_
      refine xb_get (v := .int (Mi (1, 0) 0)) Z hw (fb_in1 n) (fb_e1 n ad cI cZ cS cA) rfl tb_iSiz 0 (by decide) mk_FB_45 rfl rfl md_FB_propose_23 ?_
      refine xi_re (show Mi (1, 0) 0 = nI (n) from hinv.1.1.1) ?_
      refine xi_icmp_ge (tgt := 49) Z md_FB_propose_26 (by decide) (by omega) (by omega) (fun h26 => by exfalso; omega) (fun h26 => ?_)
      refine lv_aload_n Z.1 Z.2.1 md_FB_propose_29 rfl (lv_at hl 1 rfl) ?_
      refine xb_get (v := .ref (ad (2, 0))) Z hw (fb_in0 n) (fb_e0 n ad cI cZ cS cA) rfl tb_iFB 1 (by decide) mk_FB_21 rfl rfl md_FB_propose_30 ?_
      refine lv_iconst (v := nI 1) Z.1 Z.2.1 md_FB_propose_33 (by decide) ?_
      refine lv_iload_n Z.1 Z.2.1 md_FB_propose_34 rfl (lv_at hl 2 rfl) ?_
      refine lv_iconst (v := nI 0) Z.1 Z.2.1 md_FB_propose_35 (by decide) ?_
      refine lv_iconst (v := -1) Z.1 Z.2.1 md_FB_propose_36 (by decide) ?_
      refine lv_iload_n Z.1 Z.2.1 md_FB_propose_37 rfl (lv_at hl 0 rfl) ?_
      refine lv_iload_n Z.1 Z.2.1 md_FB_propose_38 rfl (lv_at hl 3 rfl) ?_
      refine lv_iconst (v := nI 0) Z.1 Z.2.1 md_FB_propose_39 (by decide) ?_
      refine xw_cV (n := 7) (rest := []) Z hml hl.1 hN hw (k_send (g := pz_mg 1 s 0 0 i v 0) (x := -1) l D ad cI cZ cS cA hinv.1 (fr_sa_len h60 i) (fun z => absurd z (show ¬ (1 = 3 ∨ 1 = 5) by decide))) tb_g mc_Mail_send mk_FB_49 mi_Mail_send ms_Mail_send mz_Mail ⟨by decide, by decide, by decide +kernel⟩ ⟨Nat.le_of_ble_eq_true rfl, Nat.le_of_ble_eq_true rfl⟩ (fb_in2 n) (fb_e2 n ad cI cZ cS cA _) rfl rfl rfl rfl (Nat.le_of_ble_eq_true rfl) ⟨Nat.le_refl _, Nat.le_refl _⟩ md_FB_propose_40 (fun M5 H5 locs5 hp hw => ?_)
      refine W.eq (g2 := F0 m 43 ls []) rfl ?_
      refine lv_iinc Z.1 Z.2.1 md_FB_propose_43 hl (k := 0) rfl (xi_inc1 (i)) (by decide) rfl (fun ls hl => ?_)
      have hl : lv_has ls 4 [(3, .int (nI (i + 1))), (0, .ref (ad (0, 0))), (1, .int (nI (s))), (2, .int (nI (v)))] := hl
      refine lv_goto (tgt := 18) Z.1 Z.2.1 md_FB_propose_46 (by decide) ?_
      refine ih (i + 1) M5 _ _ ls (by omega) (⟨hp.1, by rw [hp.2]; exact hinv.2⟩) hw ?_
      exact lv_sub hl [0, 1, 2, 3] rfl
  exact loop18 n (0) M _ _ ls (by omega) ⟨h, rfl⟩ hw (lv_sub hl [0, 1, 2, 3] rfl)
set_option maxHeartbeats 4000000 in
theorem k_propose_b1 (l : Launch) (D : va_G) {n : Nat} (ad : Nat × Nat → Nat) (cI cZ cS cA : ClassId) {M : fr_M} {x : Int32} (hx : x < 0 ∨ nI 3 ≤ x) {y : Int32} : fb_C l D n ad cI cZ cS cA my_FB_propose mb_FB_propose 4 (some .int) 1 20 M [.ref (ad (0, 0)), .int (x), .int (y)] (some (.int (-1))) (fun M' => M' = M) := by
  refine xw_start [.ref (ad (0, 0)), .int (x), .int (y)] (by decide) (Nat.le_of_ble_eq_true rfl) ?_
  intro p e st m below meth cd0 ls Z hml hr hlk hN hl hw
  have hl : lv_has ls 4 [(0, .ref (ad (0, 0))), (1, .int (x)), (2, .int (y))] := hl
  refine lv_iload_n Z.1 Z.2.1 md_FB_propose_0 rfl (lv_at hl 1 rfl) ?_
  refine xw_cS (n := 1) (rest := []) Z hml hl.1 hN hw (k_isSlot0 l D ad cI cZ cS cA (M := M) hx) tb_g mc_FB_isSlot mk_FB_38 mt_FB_isSlot mz_FB ⟨by decide, by decide, by decide +kernel⟩ ⟨Nat.le_of_ble_eq_true rfl, Nat.le_of_ble_eq_true rfl⟩ rfl rfl (Nat.le_of_ble_eq_true rfl) ⟨Nat.le_refl _, Nat.le_refl _⟩ md_FB_propose_1 (fun M1 H1 locs1 e1 hw => ?_)
  have ey1 := e1.symm
  subst ey1
  refine W.eq (g2 := F0 m 4 ls [.int (nI (0))]) rfl ?_
  refine xi_if_eq (tgt := 14) Z md_FB_propose_4 (by decide) (by omega) (fun h4 => ?_) (fun h4 => by exfalso; omega)
  refine lv_iconst (v := -1) Z.1 Z.2.1 md_FB_propose_14 (by decide) ?_
  exact xw_iret Z hr hlk hw md_FB_propose_15 rfl rfl
set_option maxHeartbeats 4000000 in
theorem k_begin_b1 (l : Launch) (D : va_G) {n : Nat} (ad : Nat × Nat → Nat) (cI cZ cS cA : ClassId) {M : fr_M} {x : Int32} (hx : x < 0 ∨ nI 3 ≤ x) {y : Int32} : fb_C l D n ad cI cZ cS cA my_FB_begin mb_FB_begin 5 (some .int) 1 20 M [.ref (ad (0, 0)), .int (x), .int (y)] (some (.int (-1))) (fun M' => M' = M) := by
  refine xw_start [.ref (ad (0, 0)), .int (x), .int (y)] (by decide) (Nat.le_of_ble_eq_true rfl) ?_
  intro p e st m below meth cd0 ls Z hml hr hlk hN hl hw
  have hl : lv_has ls 5 [(0, .ref (ad (0, 0))), (1, .int (x)), (2, .int (y))] := hl
  refine lv_iload_n Z.1 Z.2.1 md_FB_begin_0 rfl (lv_at hl 1 rfl) ?_
  refine xw_cS (n := 1) (rest := []) Z hml hl.1 hN hw (k_isSlot0 l D ad cI cZ cS cA (M := M) hx) tb_g mc_FB_isSlot mk_FB_38 mt_FB_isSlot mz_FB ⟨by decide, by decide, by decide +kernel⟩ ⟨Nat.le_of_ble_eq_true rfl, Nat.le_of_ble_eq_true rfl⟩ rfl rfl (Nat.le_of_ble_eq_true rfl) ⟨Nat.le_refl _, Nat.le_refl _⟩ md_FB_begin_1 (fun M1 H1 locs1 e1 hw => ?_)
  have ey1 := e1.symm
  subst ey1
  refine W.eq (g2 := F0 m 4 ls [.int (nI (0))]) rfl ?_
  refine xi_if_eq (tgt := 14) Z md_FB_begin_4 (by decide) (by omega) (fun h4 => ?_) (fun h4 => by exfalso; omega)
  refine lv_iconst (v := -1) Z.1 Z.2.1 md_FB_begin_14 (by decide) ?_
  exact xw_iret Z hr hlk hw md_FB_begin_15 rfl rfl
set_option maxHeartbeats 4000000 in
theorem k_propose_b2 (l : Launch) (D : va_G) {n : Nat} (ad : Nat × Nat → Nat) (cI cZ cS cA : ClassId) {M : fr_M} {s : Nat} (hs : s < 3) {y : Int32} (hy : y < nI 1 ∨ nI 1000 < y) : fb_C l D n ad cI cZ cS cA my_FB_propose mb_FB_propose 4 (some .int) 1 20 M [.ref (ad (0, 0)), .int (nI (s)), .int (y)] (some (.int (-1))) (fun M' => M' = M) := by
  refine xw_start [.ref (ad (0, 0)), .int (nI (s)), .int (y)] (by decide) (Nat.le_of_ble_eq_true rfl) ?_
  intro p e st m below meth cd0 ls Z hml hr hlk hN hl hw
  have hl : lv_has ls 4 [(0, .ref (ad (0, 0))), (1, .int (nI (s))), (2, .int (y))] := hl
  refine lv_iload_n Z.1 Z.2.1 md_FB_propose_0 rfl (lv_at hl 1 rfl) ?_
  refine xw_cS (n := 1) (rest := []) Z hml hl.1 hN hw (k_isSlot1 l D ad cI cZ cS cA (M := M) hs) tb_g mc_FB_isSlot mk_FB_38 mt_FB_isSlot mz_FB ⟨by decide, by decide, by decide +kernel⟩ ⟨Nat.le_of_ble_eq_true rfl, Nat.le_of_ble_eq_true rfl⟩ rfl rfl (Nat.le_of_ble_eq_true rfl) ⟨Nat.le_refl _, Nat.le_refl _⟩ md_FB_propose_1 (fun M1 H1 locs1 e1 hw => ?_)
  have ey1 := e1.symm
  subst ey1
  refine W.eq (g2 := F0 m 4 ls [.int (nI (1))]) rfl ?_
  refine xi_if_eq (tgt := 14) Z md_FB_propose_4 (by decide) (by omega) (fun h4 => by exfalso; omega) (fun h4 => ?_)
  refine lv_iload_n Z.1 Z.2.1 md_FB_propose_7 rfl (lv_at hl 2 rfl) ?_
  refine xw_cS (n := 1) (rest := []) Z hml hl.1 hN hw (k_isValue0 l D ad cI cZ cS cA (M := M) hy) tb_g mc_FB_isValue mk_FB_42 mt_FB_isValue mz_FB ⟨by decide, by decide, by decide +kernel⟩ ⟨Nat.le_of_ble_eq_true rfl, Nat.le_of_ble_eq_true rfl⟩ rfl rfl (Nat.le_of_ble_eq_true rfl) ⟨Nat.le_refl _, Nat.le_refl _⟩ md_FB_propose_8 (fun M2 H2 locs2 e2 hw => ?_)
  have ey2 := e2.symm
  subst ey2
  refine W.eq (g2 := F0 m 11 ls [.int (nI (0))]) rfl ?_
  refine xi_if_ne (tgt := 16) Z md_FB_propose_11 (by decide) (by omega) (fun h11 => by exfalso; omega) (fun h11 => ?_)
  refine lv_iconst (v := -1) Z.1 Z.2.1 md_FB_propose_14 (by decide) ?_
  exact xw_iret Z hr hlk hw md_FB_propose_15 rfl rfl
set_option maxHeartbeats 4000000 in
theorem k_begin_b2 (l : Launch) (D : va_G) {n : Nat} (ad : Nat × Nat → Nat) (cI cZ cS cA : ClassId) {M : fr_M} {s : Nat} (hs : s < 3) {y : Int32} (hy : y < nI 1 ∨ nI 12 < y) : fb_C l D n ad cI cZ cS cA my_FB_begin mb_FB_begin 5 (some .int) 1 20 M [.ref (ad (0, 0)), .int (nI (s)), .int (y)] (some (.int (-1))) (fun M' => M' = M) := by
  refine xw_start [.ref (ad (0, 0)), .int (nI (s)), .int (y)] (by decide) (Nat.le_of_ble_eq_true rfl) ?_
  intro p e st m below meth cd0 ls Z hml hr hlk hN hl hw
  have hl : lv_has ls 5 [(0, .ref (ad (0, 0))), (1, .int (nI (s))), (2, .int (y))] := hl
  refine lv_iload_n Z.1 Z.2.1 md_FB_begin_0 rfl (lv_at hl 1 rfl) ?_
  refine xw_cS (n := 1) (rest := []) Z hml hl.1 hN hw (k_isSlot1 l D ad cI cZ cS cA (M := M) hs) tb_g mc_FB_isSlot mk_FB_38 mt_FB_isSlot mz_FB ⟨by decide, by decide, by decide +kernel⟩ ⟨Nat.le_of_ble_eq_true rfl, Nat.le_of_ble_eq_true rfl⟩ rfl rfl (Nat.le_of_ble_eq_true rfl) ⟨Nat.le_refl _, Nat.le_refl _⟩ md_FB_begin_1 (fun M1 H1 locs1 e1 hw => ?_)
  have ey1 := e1.symm
  subst ey1
  refine W.eq (g2 := F0 m 4 ls [.int (nI (1))]) rfl ?_
  refine xi_if_eq (tgt := 14) Z md_FB_begin_4 (by decide) (by omega) (fun h4 => by exfalso; omega) (fun h4 => ?_)
  refine lv_iload_n Z.1 Z.2.1 md_FB_begin_7 rfl (lv_at hl 2 rfl) ?_
  refine xw_cS (n := 1) (rest := []) Z hml hl.1 hN hw (k_isRound0 l D ad cI cZ cS cA (M := M) hy) tb_g mc_FB_isRound mk_FB_56 mt_FB_isRound mz_FB ⟨by decide, by decide, by decide +kernel⟩ ⟨Nat.le_of_ble_eq_true rfl, Nat.le_of_ble_eq_true rfl⟩ rfl rfl (Nat.le_of_ble_eq_true rfl) ⟨Nat.le_refl _, Nat.le_refl _⟩ md_FB_begin_8 (fun M2 H2 locs2 e2 hw => ?_)
  have ey2 := e2.symm
  subst ey2
  refine W.eq (g2 := F0 m 11 ls [.int (nI (0))]) rfl ?_
  refine xi_if_ne (tgt := 16) Z md_FB_begin_11 (by decide) (by omega) (fun h11 => by exfalso; omega) (fun h11 => ?_)
  refine lv_iconst (v := -1) Z.1 Z.2.1 md_FB_begin_14 (by decide) ?_
  exact xw_iret Z hr hlk hw md_FB_begin_15 rfl rfl
set_option maxHeartbeats 4000000 in
theorem k_begin (l : Launch) (D : va_G) {n : Nat} (ad : Nat × Nat → Nat) (cI cZ cS cA : ClassId) {M : fr_M} {q f : Nat} {S : pz_T} (hn : n ≤ 5) (hq5 : q ≤ 5) (hf5 : f ≤ 5) (Q : pz_Q n q f) (hI : fr_I n q f S M) {s r c : Nat} (hs : s < 3) (hr1 : 1 ≤ r) (hr12 : r ≤ 12) (hci : pz_ci r = c) (hno : S.2 3 14 (8 + c) 0 = 0) (hgo : S.2 s 8 c 0 < r) : fb_C l D n ad cI cZ cS cA my_FB_begin mb_FB_begin 5 (some .int) 3 72 M [.ref (ad (0, 0)), .int (nI (s)), .int (nI (r))] (some (.int (nI (pz_begin n S s r).1.length))) (fr_I n q f (pz_begin n S s r)) := by
  have h := hI.2
  have I := hI.1
  have h60 := I.1
  have hc : c < 2 := by rw [← hci]; exact pz_ci_lt r
  refine xw_start [.ref (ad (0, 0)), .int (nI (s)), .int (nI (r))] (by decide) (Nat.le_of_ble_eq_true rfl) ?_
  intro p e st m below meth cd0 ls Z hml hr hlk hN hl hw
  have hl : lv_has ls 5 [(0, .ref (ad (0, 0))), (1, .int (nI (s))), (2, .int (nI (r)))] := hl
  refine lv_iload_n Z.1 Z.2.1 md_FB_begin_0 rfl (lv_at hl 1 rfl) ?_
  refine xw_cS (n := 1) (rest := []) Z hml hl.1 hN hw (k_isSlot1 l D ad cI cZ cS cA (M := M) hs) tb_g mc_FB_isSlot mk_FB_38 mt_FB_isSlot mz_FB ⟨by decide, by decide, by decide +kernel⟩ ⟨Nat.le_of_ble_eq_true rfl, Nat.le_of_ble_eq_true rfl⟩ rfl rfl (Nat.le_of_ble_eq_true rfl) ⟨Nat.le_refl _, Nat.le_refl _⟩ md_FB_begin_1 (fun M1 H1 locs1 e1 hw => ?_)
  have ey1 := e1.symm
  subst ey1
  refine W.eq (g2 := F0 m 4 ls [.int (nI (1))]) rfl ?_
  refine xi_if_eq (tgt := 14) Z md_FB_begin_4 (by decide) (by omega) (fun h4 => by exfalso; omega) (fun h4 => ?_)
  refine lv_iload_n Z.1 Z.2.1 md_FB_begin_7 rfl (lv_at hl 2 rfl) ?_
  refine xw_cS (n := 1) (rest := []) Z hml hl.1 hN hw (k_isRound1 l D ad cI cZ cS cA (M := M) hr1 hr12) tb_g mc_FB_isRound mk_FB_56 mt_FB_isRound mz_FB ⟨by decide, by decide, by decide +kernel⟩ ⟨Nat.le_of_ble_eq_true rfl, Nat.le_of_ble_eq_true rfl⟩ rfl rfl (Nat.le_of_ble_eq_true rfl) ⟨Nat.le_refl _, Nat.le_refl _⟩ md_FB_begin_8 (fun M2 H2 locs2 e2 hw => ?_)
  have ey2 := e2.symm
  subst ey2
  refine W.eq (g2 := F0 m 11 ls [.int (nI (1))]) rfl ?_
  refine xi_if_ne (tgt := 16) Z md_FB_begin_11 (by decide) (by omega) (fun h11 => ?_) (fun h11 => by exfalso; omega)
  refine lv_iload_n Z.1 Z.2.1 md_FB_begin_16 rfl (lv_at hl 2 rfl) ?_
  refine xw_cS (n := 1) (rest := []) Z hml hl.1 hN hw (k_coordinatorOf l D ad cI cZ cS cA (M := M) hr1 (by omega)) tb_g mc_FB_coordinatorOf mk_FB_59 mt_FB_coordinatorOf mz_FB ⟨by decide, by decide, by decide +kernel⟩ ⟨Nat.le_of_ble_eq_true rfl, Nat.le_of_ble_eq_true rfl⟩ rfl rfl (Nat.le_of_ble_eq_true rfl) ⟨Nat.le_refl _, Nat.le_refl _⟩ md_FB_begin_17 (fun M3 H3 locs3 e3 hw => ?_)
  have ey3 := e3.symm
  subst ey3
  refine W.eq (g2 := F0 m 20 ls [.int (nI (8 + pz_ci r))]) rfl ?_
  refine xi_re (show _ = nI (8 + c) from (by rw [hci])) ?_
  refine lv_istore_n Z.1 Z.2.1 md_FB_begin_20 rfl hl (by decide) rfl (fun ls hl => ?_)
  have hl : lv_has ls 5 [(3, .int (nI (8 + c))), (0, .ref (ad (0, 0))), (1, .int (nI (s))), (2, .int (nI (r)))] := hl
  refine lv_aload_n Z.1 Z.2.1 md_FB_begin_21 rfl (lv_at hl 1 rfl) ?_
  refine xb_get (v := .ref (ad (3, 0))) Z hw (fb_in0 n) (fb_e0 n ad cI cZ cS cA) rfl tb_iFB 2 (by decide) mk_FB_31 rfl rfl md_FB_begin_22 ?_
  refine lv_iload_n Z.1 Z.2.1 md_FB_begin_25 rfl (lv_at hl 2 rfl) ?_
  refine xw_aald (a := ad (7, s)) Z hw (fb_in3 n) (fb_e3 n ad cI cZ cS cA (M (3, 0))) 2 rfl (s) rfl hs (by omega) rfl md_FB_begin_26 ?_
  refine lv_iload_n Z.1 Z.2.1 md_FB_begin_27 rfl (lv_at hl 0 rfl) ?_
  refine xw_cV (n := 1) (rest := []) Z hml hl.1 hN hw (k_coordinator l D ad cI cZ cS cA (M := M) hs hc) tb_g mc_Slt_coordinator mk_FB_63 mi_Slt_coordinator ms_Slt_coordinator mz_Slt ⟨by decide, by decide, by decide +kernel⟩ ⟨Nat.le_of_ble_eq_true rfl, Nat.le_of_ble_eq_true rfl⟩ (fb_in7 n hs) (fb_e7 n ad cI cZ cS cA (s) _) rfl rfl rfl rfl (Nat.le_of_ble_eq_true rfl) ⟨Nat.le_refl _, Nat.le_refl _⟩ md_FB_begin_28 (fun M4 H4 locs4 e4 hw => ?_)
  have ey4 := e4.symm
  subst ey4
  refine W.eq (g2 := F0 m 31 ls [.ref (ad (9, 2 * s + c))]) rfl ?_
  refine lv_astore Z.1 Z.2.1 md_FB_begin_31 hl (by decide) rfl (fun ls hl => ?_)
  have hl : lv_has ls 5 [(4, .ref (ad (9, 2 * s + c))), (3, .int (nI (8 + c))), (0, .ref (ad (0, 0))), (1, .int (nI (s))), (2, .int (nI (r)))] := hl
  refine lv_aload_n Z.1 Z.2.1 md_FB_begin_33 rfl (lv_at hl 2 rfl) ?_
  refine xb_get (v := .ref (ad (4, 0))) Z hw (fb_in0 n) (fb_e0 n ad cI cZ cS cA) rfl tb_iFB 3 (by decide) mk_FB_25 rfl rfl md_FB_begin_34 ?_
  refine lv_iload_n Z.1 Z.2.1 md_FB_begin_37 rfl (lv_at hl 1 rfl) ?_
  refine xw_zald Z hw (fb_in4 n) (fb_e4 n ad cI cZ cS cA) 1 rfl (8 + c) rfl (by omega) (by omega) md_FB_begin_38 ?_
  refine xi_re (show M (4, 0) (8 + c) = nI (S.2 3 14 (8 + c) 0) from h.2.2.1 (8 + c) (by omega)) ?_
  have l14 := I.2.2.2 (8 + c)
  refine xi_if_ne (tgt := 51) Z md_FB_begin_39 (by decide) (by omega) (fun h39 => by exfalso; omega) (fun h39 => ?_)
  refine lv_iload_n Z.1 Z.2.1 md_FB_begin_42 rfl (lv_at hl 4 rfl) ?_
  refine lv_aload Z.1 Z.2.1 md_FB_begin_43 (lv_at hl 0 rfl) ?_
  refine xb_get (v := .int (M (9, 2 * s + c) 3)) Z hw (fb_in9 n hs hc) (fb_e9 n ad cI cZ cS cA (2 * s + c)) rfl tb_iCor 3 (by decide) mk_FB_67 rfl rfl md_FB_begin_45 ?_
  refine xi_re (show M (9, 2 * s + c) 3 = nI (S.2 s 8 c 0) from (fr_c h hs hc).2.1) ?_
  have l8 := (I.2.1 s hs).2.2.2.2.2.1 c hc |>.1
  refine xi_icmp_gt (tgt := 53) Z md_FB_begin_48 (by decide) (by omega) (by omega) (fun h48 => ?_) (fun h48 => by exfalso; omega)
  refine lv_aload Z.1 Z.2.1 md_FB_begin_53 (lv_at hl 0 rfl) ?_
  refine lv_iload_n Z.1 Z.2.1 md_FB_begin_55 rfl (lv_at hl 4 rfl) ?_
  refine xw_cV (n := 1) (rest := []) Z hml hl.1 hN hw (k_startAsking (r := r) l D ad cI cZ cS cA hn h hs hc h60 hci) tb_g mc_Cor_startAsking mk_FB_72 mi_Cor_startAsking ms_Cor_startAsking mz_Cor ⟨by decide, by decide, by decide +kernel⟩ ⟨Nat.le_of_ble_eq_true rfl, Nat.le_of_ble_eq_true rfl⟩ (fb_in9 n hs hc) (fb_e9 n ad cI cZ cS cA (2 * s + c) _) rfl rfl rfl rfl (Nat.le_of_ble_eq_true rfl) ⟨Nat.le_refl _, Nat.le_refl _⟩ md_FB_begin_56 (fun M5 H5 locs5 ha hw => ?_)
  refine W.eq (g2 := F0 m 59 ls []) rfl ?_
  refine lv_aload_n Z.1 Z.2.1 md_FB_begin_59 rfl (lv_at hl 2 rfl) ?_
  refine xb_get (v := .ref (ad (2, 0))) Z hw (fb_in0 n) (fb_e0 n ad cI cZ cS cA) rfl tb_iFB 1 (by decide) mk_FB_21 rfl rfl md_FB_begin_60 ?_
  refine xb_get (v := .int (M5 (2, 0) 2)) Z hw (fb_in2 n) (fb_e2 n ad cI cZ cS cA) rfl tb_iMail 2 (by decide) mk_FB_53 rfl rfl md_FB_begin_63 ?_
  refine xi_re (show M5 (2, 0) 2 = nI ((pz_begin n S s r).1.length) from ha.1.2.1.1) ?_
  refine xw_iret Z hr hlk hw md_FB_begin_66 rfl ⟨pz_begin_Inv Q I hs hr1 hr12 (by rw [hci]; exact hgo), fr_fin (s := s) (c := c) (fr_xs_w ha.1) (fun s' c' hs' _ hne => ?_)⟩
  unfold pz_begin
  rw [pz_sa_9 hs']
  exact pz_w9 hne (fun d hd => pz_ld_x (by rw [hci]; exact hd))
set_option maxHeartbeats 4000000 in
theorem k_begin_no (l : Launch) (D : va_G) {n : Nat} (ad : Nat × Nat → Nat) (cI cZ cS cA : ClassId) {M : fr_M} {q f : Nat} {S : pz_T} (hn : n ≤ 5) (hq5 : q ≤ 5) (hf5 : f ≤ 5) (Q : pz_Q n q f) (hI : fr_I n q f S M) {s r c : Nat} (hs : s < 3) (hr1 : 1 ≤ r) (hr12 : r ≤ 12) (hci : pz_ci r = c) (hno : S.2 3 14 (8 + c) 0 ≠ 0 ∨ r ≤ S.2 s 8 c 0) : fb_C l D n ad cI cZ cS cA my_FB_begin mb_FB_begin 5 (some .int) 1 21 M [.ref (ad (0, 0)), .int (nI (s)), .int (nI (r))] (some (.int (-1))) (fun M' => M' = M) := by
  have h := hI.2
  have I := hI.1
  have h60 := I.1
  have hc : c < 2 := by rw [← hci]; exact pz_ci_lt r
  refine xw_start [.ref (ad (0, 0)), .int (nI (s)), .int (nI (r))] (by decide) (Nat.le_of_ble_eq_true rfl) ?_
  intro p e st m below meth cd0 ls Z hml hr hlk hN hl hw
  have hl : lv_has ls 5 [(0, .ref (ad (0, 0))), (1, .int (nI (s))), (2, .int (nI (r)))] := hl
  refine lv_iload_n Z.1 Z.2.1 md_FB_begin_0 rfl (lv_at hl 1 rfl) ?_
  refine xw_cS (n := 1) (rest := []) Z hml hl.1 hN hw (k_isSlot1 l D ad cI cZ cS cA (M := M) hs) tb_g mc_FB_isSlot mk_FB_38 mt_FB_isSlot mz_FB ⟨by decide, by decide, by decide +kernel⟩ ⟨Nat.le_of_ble_eq_true rfl, Nat.le_of_ble_eq_true rfl⟩ rfl rfl (Nat.le_of_ble_eq_true rfl) ⟨Nat.le_refl _, Nat.le_refl _⟩ md_FB_begin_1 (fun M1 H1 locs1 e1 hw => ?_)
  have ey1 := e1.symm
  subst ey1
  refine W.eq (g2 := F0 m 4 ls [.int (nI (1))]) rfl ?_
  refine xi_if_eq (tgt := 14) Z md_FB_begin_4 (by decide) (by omega) (fun h4 => by exfalso; omega) (fun h4 => ?_)
  refine lv_iload_n Z.1 Z.2.1 md_FB_begin_7 rfl (lv_at hl 2 rfl) ?_
  refine xw_cS (n := 1) (rest := []) Z hml hl.1 hN hw (k_isRound1 l D ad cI cZ cS cA (M := M) hr1 hr12) tb_g mc_FB_isRound mk_FB_56 mt_FB_isRound mz_FB ⟨by decide, by decide, by decide +kernel⟩ ⟨Nat.le_of_ble_eq_true rfl, Nat.le_of_ble_eq_true rfl⟩ rfl rfl (Nat.le_of_ble_eq_true rfl) ⟨Nat.le_refl _, Nat.le_refl _⟩ md_FB_begin_8 (fun M2 H2 locs2 e2 hw => ?_)
  have ey2 := e2.symm
  subst ey2
  refine W.eq (g2 := F0 m 11 ls [.int (nI (1))]) rfl ?_
  refine xi_if_ne (tgt := 16) Z md_FB_begin_11 (by decide) (by omega) (fun h11 => ?_) (fun h11 => by exfalso; omega)
  refine lv_iload_n Z.1 Z.2.1 md_FB_begin_16 rfl (lv_at hl 2 rfl) ?_
  refine xw_cS (n := 1) (rest := []) Z hml hl.1 hN hw (k_coordinatorOf l D ad cI cZ cS cA (M := M) hr1 (by omega)) tb_g mc_FB_coordinatorOf mk_FB_59 mt_FB_coordinatorOf mz_FB ⟨by decide, by decide, by decide +kernel⟩ ⟨Nat.le_of_ble_eq_true rfl, Nat.le_of_ble_eq_true rfl⟩ rfl rfl (Nat.le_of_ble_eq_true rfl) ⟨Nat.le_refl _, Nat.le_refl _⟩ md_FB_begin_17 (fun M3 H3 locs3 e3 hw => ?_)
  have ey3 := e3.symm
  subst ey3
  refine W.eq (g2 := F0 m 20 ls [.int (nI (8 + pz_ci r))]) rfl ?_
  refine xi_re (show _ = nI (8 + c) from (by rw [hci])) ?_
  refine lv_istore_n Z.1 Z.2.1 md_FB_begin_20 rfl hl (by decide) rfl (fun ls hl => ?_)
  have hl : lv_has ls 5 [(3, .int (nI (8 + c))), (0, .ref (ad (0, 0))), (1, .int (nI (s))), (2, .int (nI (r)))] := hl
  refine lv_aload_n Z.1 Z.2.1 md_FB_begin_21 rfl (lv_at hl 1 rfl) ?_
  refine xb_get (v := .ref (ad (3, 0))) Z hw (fb_in0 n) (fb_e0 n ad cI cZ cS cA) rfl tb_iFB 2 (by decide) mk_FB_31 rfl rfl md_FB_begin_22 ?_
  refine lv_iload_n Z.1 Z.2.1 md_FB_begin_25 rfl (lv_at hl 2 rfl) ?_
  refine xw_aald (a := ad (7, s)) Z hw (fb_in3 n) (fb_e3 n ad cI cZ cS cA (M (3, 0))) 2 rfl (s) rfl hs (by omega) rfl md_FB_begin_26 ?_
  refine lv_iload_n Z.1 Z.2.1 md_FB_begin_27 rfl (lv_at hl 0 rfl) ?_
  refine xw_cV (n := 1) (rest := []) Z hml hl.1 hN hw (k_coordinator l D ad cI cZ cS cA (M := M) hs hc) tb_g mc_Slt_coordinator mk_FB_63 mi_Slt_coordinator ms_Slt_coordinator mz_Slt ⟨by decide, by decide, by decide +kernel⟩ ⟨Nat.le_of_ble_eq_true rfl, Nat.le_of_ble_eq_true rfl⟩ (fb_in7 n hs) (fb_e7 n ad cI cZ cS cA (s) _) rfl rfl rfl rfl (Nat.le_of_ble_eq_true rfl) ⟨Nat.le_refl _, Nat.le_refl _⟩ md_FB_begin_28 (fun M4 H4 locs4 e4 hw => ?_)
  have ey4 := e4.symm
  subst ey4
  refine W.eq (g2 := F0 m 31 ls [.ref (ad (9, 2 * s + c))]) rfl ?_
  refine lv_astore Z.1 Z.2.1 md_FB_begin_31 hl (by decide) rfl (fun ls hl => ?_)
  have hl : lv_has ls 5 [(4, .ref (ad (9, 2 * s + c))), (3, .int (nI (8 + c))), (0, .ref (ad (0, 0))), (1, .int (nI (s))), (2, .int (nI (r)))] := hl
  refine lv_aload_n Z.1 Z.2.1 md_FB_begin_33 rfl (lv_at hl 2 rfl) ?_
  refine xb_get (v := .ref (ad (4, 0))) Z hw (fb_in0 n) (fb_e0 n ad cI cZ cS cA) rfl tb_iFB 3 (by decide) mk_FB_25 rfl rfl md_FB_begin_34 ?_
  refine lv_iload_n Z.1 Z.2.1 md_FB_begin_37 rfl (lv_at hl 1 rfl) ?_
  refine xw_zald Z hw (fb_in4 n) (fb_e4 n ad cI cZ cS cA) 1 rfl (8 + c) rfl (by omega) (by omega) md_FB_begin_38 ?_
  refine xi_re (show M (4, 0) (8 + c) = nI (S.2 3 14 (8 + c) 0) from h.2.2.1 (8 + c) (by omega)) ?_
  have l14 := I.2.2.2 (8 + c)
  refine xi_if_ne (tgt := 51) Z md_FB_begin_39 (by decide) (by omega) (fun h39 => ?_) (fun h39 => ?_)
  · refine lv_iconst (v := -1) Z.1 Z.2.1 md_FB_begin_51 (by decide) ?_
    exact xw_iret Z hr hlk hw md_FB_begin_52 rfl rfl
  · refine lv_iload_n Z.1 Z.2.1 md_FB_begin_42 rfl (lv_at hl 4 rfl) ?_
    refine lv_aload Z.1 Z.2.1 md_FB_begin_43 (lv_at hl 0 rfl) ?_
    refine xb_get (v := .int (M (9, 2 * s + c) 3)) Z hw (fb_in9 n hs hc) (fb_e9 n ad cI cZ cS cA (2 * s + c)) rfl tb_iCor 3 (by decide) mk_FB_67 rfl rfl md_FB_begin_45 ?_
    refine xi_re (show M (9, 2 * s + c) 3 = nI (S.2 s 8 c 0) from (fr_c h hs hc).2.1) ?_
    have l8 := (I.2.1 s hs).2.2.2.2.2.1 c hc |>.1
    refine xi_icmp_gt (tgt := 53) Z md_FB_begin_48 (by decide) (by omega) (by omega) (fun h48 => by exfalso; omega) (fun h48 => ?_)
    refine lv_iconst (v := -1) Z.1 Z.2.1 md_FB_begin_51 (by decide) ?_
    exact xw_iret Z hr hlk hw md_FB_begin_52 rfl rfl
set_option maxHeartbeats 4000000 in
theorem k_waiting (l : Launch) (D : va_G) {n : Nat} (ad : Nat × Nat → Nat) (cI cZ cS cA : ClassId) {M : fr_M} {q f : Nat} {S : pz_T} (hn : n ≤ 5) (hI : fr_I n q f S M) : fb_C l D n ad cI cZ cS cA my_FB_waiting mb_FB_waiting 1 (some .int) 0 0 M [.ref (ad (0, 0))] (some (.int (nI S.1.length))) (fun M' => M' = M) := by
  have h := hI.2
  have I := hI.1
  have h60 := I.1
  refine xw_start [.ref (ad (0, 0))] (by decide) (Nat.le_of_ble_eq_true rfl) ?_
  intro p e st m below meth cd0 ls Z hml hr hlk hN hl hw
  have hl : lv_has ls 1 [(0, .ref (ad (0, 0)))] := hl
  refine lv_aload_n Z.1 Z.2.1 md_FB_waiting_0 rfl (lv_at hl 0 rfl) ?_
  refine xb_get (v := .ref (ad (2, 0))) Z hw (fb_in0 n) (fb_e0 n ad cI cZ cS cA) rfl tb_iFB 1 (by decide) mk_FB_21 rfl rfl md_FB_waiting_1 ?_
  refine xb_get (v := .int (M (2, 0) 2)) Z hw (fb_in2 n) (fb_e2 n ad cI cZ cS cA) rfl tb_iMail 2 (by decide) mk_FB_53 rfl rfl md_FB_waiting_4 ?_
  refine xi_re (show M (2, 0) 2 = nI (S.1.length) from h.2.1.1) ?_
  exact xw_iret Z hr hlk hw md_FB_waiting_7 rfl rfl
set_option maxHeartbeats 4000000 in
theorem k_lost (l : Launch) (D : va_G) {n : Nat} (ad : Nat × Nat → Nat) (cI cZ cS cA : ClassId) {M : fr_M} {q f : Nat} {S : pz_T} (hn : n ≤ 5) (hI : fr_I n q f S M) : fb_C l D n ad cI cZ cS cA my_FB_lost mb_FB_lost 1 (some .int) 0 0 M [.ref (ad (0, 0))] (some (.int (nI (S.2 3 15 0 0)))) (fun M' => M' = M) := by
  have h := hI.2
  have I := hI.1
  have h60 := I.1
  refine xw_start [.ref (ad (0, 0))] (by decide) (Nat.le_of_ble_eq_true rfl) ?_
  intro p e st m below meth cd0 ls Z hml hr hlk hN hl hw
  have hl : lv_has ls 1 [(0, .ref (ad (0, 0)))] := hl
  refine lv_aload_n Z.1 Z.2.1 md_FB_lost_0 rfl (lv_at hl 0 rfl) ?_
  refine xb_get (v := .ref (ad (2, 0))) Z hw (fb_in0 n) (fb_e0 n ad cI cZ cS cA) rfl tb_iFB 1 (by decide) mk_FB_21 rfl rfl md_FB_lost_1 ?_
  refine xb_get (v := .int (M (2, 0) 3)) Z hw (fb_in2 n) (fb_e2 n ad cI cZ cS cA) rfl tb_iMail 3 (by decide) mk_FB_131 rfl rfl md_FB_lost_4 ?_
  refine xi_re (show M (2, 0) 3 = nI (S.2 3 15 0 0) from h.2.1.2) ?_
  exact xw_iret Z hr hlk hw md_FB_lost_7 rfl rfl
set_option maxHeartbeats 4000000 in
theorem k_message (l : Launch) (D : va_G) {n : Nat} (ad : Nat × Nat → Nat) (cI cZ cS cA : ClassId) {M : fr_M} {q f : Nat} {S : pz_T} (hn : n ≤ 5) (hI : fr_I n q f S M) {j : Nat} {g : pz_M} (hg : S.1[j]? = some g) : fb_C l D n ad cI cZ cS cA my_FB_message mb_FB_message 2 (some .int) 1 23 M [.ref (ad (0, 0)), .int (nI (j))] (some (.int (nI (100000 * g 0 + 10000 * g 1 + 100 * g 2 + g 4)))) (fun M' => M' = M) := by
  have h := hI.2
  have I := hI.1
  have h60 := I.1
  have hj : j < S.1.length := (List.getElem?_eq_some_iff.mp hg).1
  refine xw_start [.ref (ad (0, 0)), .int (nI (j))] (by decide) (Nat.le_of_ble_eq_true rfl) ?_
  intro p e st m below meth cd0 ls Z hml hr hlk hN hl hw
  have hl : lv_has ls 2 [(0, .ref (ad (0, 0))), (1, .int (nI (j)))] := hl
  refine lv_aload_n Z.1 Z.2.1 md_FB_message_0 rfl (lv_at hl 0 rfl) ?_
  refine xb_get (v := .ref (ad (2, 0))) Z hw (fb_in0 n) (fb_e0 n ad cI cZ cS cA) rfl tb_iFB 1 (by decide) mk_FB_21 rfl rfl md_FB_message_1 ?_
  refine lv_iload_n Z.1 Z.2.1 md_FB_message_4 rfl (lv_at hl 1 rfl) ?_
  refine xw_cV (n := 1) (rest := []) Z hml hl.1 hN hw (k_has1 l D ad cI cZ cS cA (M := M) h.2.1 h60 hj) tb_g mc_Mail_has mk_FB_76 mi_Mail_has ms_Mail_has mz_Mail ⟨by decide, by decide, by decide +kernel⟩ ⟨Nat.le_of_ble_eq_true rfl, Nat.le_of_ble_eq_true rfl⟩ (fb_in2 n) (fb_e2 n ad cI cZ cS cA _) rfl rfl rfl rfl (Nat.le_of_ble_eq_true rfl) ⟨Nat.le_refl _, Nat.le_refl _⟩ md_FB_message_5 (fun M1 H1 locs1 e1 hw => ?_)
  have ey1 := e1.symm
  subst ey1
  refine W.eq (g2 := F0 m 8 ls [.int (nI (1))]) rfl ?_
  refine xi_if_eq (tgt := 22) Z md_FB_message_8 (by decide) (by omega) (fun h8 => by exfalso; omega) (fun h8 => ?_)
  refine lv_aload_n Z.1 Z.2.1 md_FB_message_11 rfl (lv_at hl 0 rfl) ?_
  refine xb_get (v := .ref (ad (2, 0))) Z hw (fb_in0 n) (fb_e0 n ad cI cZ cS cA) rfl tb_iFB 1 (by decide) mk_FB_21 rfl rfl md_FB_message_12 ?_
  refine lv_iload_n Z.1 Z.2.1 md_FB_message_15 rfl (lv_at hl 1 rfl) ?_
  refine xw_cV (n := 1) (rest := []) Z hml hl.1 hN hw (k_label l D ad cI cZ cS cA h h60 hg) tb_g mc_Mail_label mk_FB_134 mi_Mail_label ms_Mail_label mz_Mail ⟨by decide, by decide, by decide +kernel⟩ ⟨Nat.le_of_ble_eq_true rfl, Nat.le_of_ble_eq_true rfl⟩ (fb_in2 n) (fb_e2 n ad cI cZ cS cA _) rfl rfl rfl rfl (Nat.le_of_ble_eq_true rfl) ⟨Nat.le_refl _, Nat.le_refl _⟩ md_FB_message_16 (fun M2 H2 locs2 e2 hw => ?_)
  have ey2 := e2.symm
  subst ey2
  refine W.eq (g2 := F0 m 19 ls [.int (nI (100000 * g 0 + 10000 * g 1 + 100 * g 2 + g 4))]) rfl ?_
  refine lv_goto (tgt := 23) Z.1 Z.2.1 md_FB_message_19 (by decide) ?_
  exact xw_iret Z hr hlk hw md_FB_message_23 rfl rfl
set_option maxHeartbeats 4000000 in
theorem k_message_b (l : Launch) (D : va_G) {n : Nat} (ad : Nat × Nat → Nat) (cI cZ cS cA : ClassId) {M : fr_M} {q f : Nat} {S : pz_T} (hn : n ≤ 5) (hI : fr_I n q f S M) {x : Int32} (hx : x < 0 ∨ nI S.1.length ≤ x) : fb_C l D n ad cI cZ cS cA my_FB_message mb_FB_message 2 (some .int) 1 21 M [.ref (ad (0, 0)), .int (x)] (some (.int (-1))) (fun M' => M' = M) := by
  have h := hI.2
  have I := hI.1
  have h60 := I.1
  refine xw_start [.ref (ad (0, 0)), .int (x)] (by decide) (Nat.le_of_ble_eq_true rfl) ?_
  intro p e st m below meth cd0 ls Z hml hr hlk hN hl hw
  have hl : lv_has ls 2 [(0, .ref (ad (0, 0))), (1, .int (x))] := hl
  refine lv_aload_n Z.1 Z.2.1 md_FB_message_0 rfl (lv_at hl 0 rfl) ?_
  refine xb_get (v := .ref (ad (2, 0))) Z hw (fb_in0 n) (fb_e0 n ad cI cZ cS cA) rfl tb_iFB 1 (by decide) mk_FB_21 rfl rfl md_FB_message_1 ?_
  refine lv_iload_n Z.1 Z.2.1 md_FB_message_4 rfl (lv_at hl 1 rfl) ?_
  refine xw_cV (n := 1) (rest := []) Z hml hl.1 hN hw (k_has0 l D ad cI cZ cS cA (M := M) h.2.1 hx) tb_g mc_Mail_has mk_FB_76 mi_Mail_has ms_Mail_has mz_Mail ⟨by decide, by decide, by decide +kernel⟩ ⟨Nat.le_of_ble_eq_true rfl, Nat.le_of_ble_eq_true rfl⟩ (fb_in2 n) (fb_e2 n ad cI cZ cS cA _) rfl rfl rfl rfl (Nat.le_of_ble_eq_true rfl) ⟨Nat.le_refl _, Nat.le_refl _⟩ md_FB_message_5 (fun M1 H1 locs1 e1 hw => ?_)
  have ey1 := e1.symm
  subst ey1
  refine W.eq (g2 := F0 m 8 ls [.int (nI (0))]) rfl ?_
  refine xi_if_eq (tgt := 22) Z md_FB_message_8 (by decide) (by omega) (fun h8 => ?_) (fun h8 => by exfalso; omega)
  refine lv_iconst (v := -1) Z.1 Z.2.1 md_FB_message_22 (by decide) ?_
  exact xw_iret Z hr hlk hw md_FB_message_23 rfl rfl
set_option maxHeartbeats 4000000 in
theorem k_value (l : Launch) (D : va_G) {n : Nat} (ad : Nat × Nat → Nat) (cI cZ cS cA : ClassId) {M : fr_M} {q f : Nat} {S : pz_T} (hn : n ≤ 5) (hI : fr_I n q f S M) {j : Nat} {g : pz_M} (hg : S.1[j]? = some g) : fb_C l D n ad cI cZ cS cA my_FB_value mb_FB_value 2 (some .int) 1 21 M [.ref (ad (0, 0)), .int (nI (j))] (some (.int (nI (g 5)))) (fun M' => M' = M) := by
  have h := hI.2
  have I := hI.1
  have h60 := I.1
  have hj : j < S.1.length := (List.getElem?_eq_some_iff.mp hg).1
  refine xw_start [.ref (ad (0, 0)), .int (nI (j))] (by decide) (Nat.le_of_ble_eq_true rfl) ?_
  intro p e st m below meth cd0 ls Z hml hr hlk hN hl hw
  have hl : lv_has ls 2 [(0, .ref (ad (0, 0))), (1, .int (nI (j)))] := hl
  refine lv_aload_n Z.1 Z.2.1 md_FB_value_0 rfl (lv_at hl 0 rfl) ?_
  refine xb_get (v := .ref (ad (2, 0))) Z hw (fb_in0 n) (fb_e0 n ad cI cZ cS cA) rfl tb_iFB 1 (by decide) mk_FB_21 rfl rfl md_FB_value_1 ?_
  refine lv_iload_n Z.1 Z.2.1 md_FB_value_4 rfl (lv_at hl 1 rfl) ?_
  refine xw_cV (n := 1) (rest := []) Z hml hl.1 hN hw (k_has1 l D ad cI cZ cS cA (M := M) h.2.1 h60 hj) tb_g mc_Mail_has mk_FB_76 mi_Mail_has ms_Mail_has mz_Mail ⟨by decide, by decide, by decide +kernel⟩ ⟨Nat.le_of_ble_eq_true rfl, Nat.le_of_ble_eq_true rfl⟩ (fb_in2 n) (fb_e2 n ad cI cZ cS cA _) rfl rfl rfl rfl (Nat.le_of_ble_eq_true rfl) ⟨Nat.le_refl _, Nat.le_refl _⟩ md_FB_value_5 (fun M1 H1 locs1 e1 hw => ?_)
  have ey1 := e1.symm
  subst ey1
  refine W.eq (g2 := F0 m 8 ls [.int (nI (1))]) rfl ?_
  refine xi_if_eq (tgt := 22) Z md_FB_value_8 (by decide) (by omega) (fun h8 => by exfalso; omega) (fun h8 => ?_)
  refine lv_aload_n Z.1 Z.2.1 md_FB_value_11 rfl (lv_at hl 0 rfl) ?_
  refine xb_get (v := .ref (ad (2, 0))) Z hw (fb_in0 n) (fb_e0 n ad cI cZ cS cA) rfl tb_iFB 1 (by decide) mk_FB_21 rfl rfl md_FB_value_12 ?_
  refine lv_iload_n Z.1 Z.2.1 md_FB_value_15 rfl (lv_at hl 1 rfl) ?_
  refine xw_cV (n := 1) (rest := []) Z hml hl.1 hN hw (k_valueIn l D ad cI cZ cS cA h h60 hg) tb_g mc_Mail_valueIn mk_FB_137 mi_Mail_valueIn ms_Mail_valueIn mz_Mail ⟨by decide, by decide, by decide +kernel⟩ ⟨Nat.le_of_ble_eq_true rfl, Nat.le_of_ble_eq_true rfl⟩ (fb_in2 n) (fb_e2 n ad cI cZ cS cA _) rfl rfl rfl rfl (Nat.le_of_ble_eq_true rfl) ⟨Nat.le_refl _, Nat.le_refl _⟩ md_FB_value_16 (fun M2 H2 locs2 e2 hw => ?_)
  have ey2 := e2.symm
  subst ey2
  refine W.eq (g2 := F0 m 19 ls [.int (nI (g 5))]) rfl ?_
  refine lv_goto (tgt := 23) Z.1 Z.2.1 md_FB_value_19 (by decide) ?_
  exact xw_iret Z hr hlk hw md_FB_value_23 rfl rfl
set_option maxHeartbeats 4000000 in
theorem k_value_b (l : Launch) (D : va_G) {n : Nat} (ad : Nat × Nat → Nat) (cI cZ cS cA : ClassId) {M : fr_M} {q f : Nat} {S : pz_T} (hn : n ≤ 5) (hI : fr_I n q f S M) {x : Int32} (hx : x < 0 ∨ nI S.1.length ≤ x) : fb_C l D n ad cI cZ cS cA my_FB_value mb_FB_value 2 (some .int) 1 21 M [.ref (ad (0, 0)), .int (x)] (some (.int (-1))) (fun M' => M' = M) := by
  have h := hI.2
  have I := hI.1
  have h60 := I.1
  refine xw_start [.ref (ad (0, 0)), .int (x)] (by decide) (Nat.le_of_ble_eq_true rfl) ?_
  intro p e st m below meth cd0 ls Z hml hr hlk hN hl hw
  have hl : lv_has ls 2 [(0, .ref (ad (0, 0))), (1, .int (x))] := hl
  refine lv_aload_n Z.1 Z.2.1 md_FB_value_0 rfl (lv_at hl 0 rfl) ?_
  refine xb_get (v := .ref (ad (2, 0))) Z hw (fb_in0 n) (fb_e0 n ad cI cZ cS cA) rfl tb_iFB 1 (by decide) mk_FB_21 rfl rfl md_FB_value_1 ?_
  refine lv_iload_n Z.1 Z.2.1 md_FB_value_4 rfl (lv_at hl 1 rfl) ?_
  refine xw_cV (n := 1) (rest := []) Z hml hl.1 hN hw (k_has0 l D ad cI cZ cS cA (M := M) h.2.1 hx) tb_g mc_Mail_has mk_FB_76 mi_Mail_has ms_Mail_has mz_Mail ⟨by decide, by decide, by decide +kernel⟩ ⟨Nat.le_of_ble_eq_true rfl, Nat.le_of_ble_eq_true rfl⟩ (fb_in2 n) (fb_e2 n ad cI cZ cS cA _) rfl rfl rfl rfl (Nat.le_of_ble_eq_true rfl) ⟨Nat.le_refl _, Nat.le_refl _⟩ md_FB_value_5 (fun M1 H1 locs1 e1 hw => ?_)
  have ey1 := e1.symm
  subst ey1
  refine W.eq (g2 := F0 m 8 ls [.int (nI (0))]) rfl ?_
  refine xi_if_eq (tgt := 22) Z md_FB_value_8 (by decide) (by omega) (fun h8 => ?_) (fun h8 => by exfalso; omega)
  refine lv_iconst (v := -1) Z.1 Z.2.1 md_FB_value_22 (by decide) ?_
  exact xw_iret Z hr hlk hw md_FB_value_23 rfl rfl
set_option maxHeartbeats 4000000 in
theorem k_round (l : Launch) (D : va_G) {n : Nat} (ad : Nat × Nat → Nat) (cI cZ cS cA : ClassId) {M : fr_M} {q f : Nat} {S : pz_T} (hn : n ≤ 5) (hI : fr_I n q f S M) {s a : Nat} (hs : s < 3) (ha : a < n) : fb_C l D n ad cI cZ cS cA my_FB_round mb_FB_round 3 (some .int) 1 21 M [.ref (ad (0, 0)), .int (nI (a)), .int (nI (s))] (some (.int (nI (S.2 s 0 a 0)))) (fun M' => M' = M) := by
  have h := hI.2
  have I := hI.1
  have h60 := I.1
  refine xw_start [.ref (ad (0, 0)), .int (nI (a)), .int (nI (s))] (by decide) (Nat.le_of_ble_eq_true rfl) ?_
  intro p e st m below meth cd0 ls Z hml hr hlk hN hl hw
  have hl : lv_has ls 3 [(0, .ref (ad (0, 0))), (1, .int (nI (a))), (2, .int (nI (s)))] := hl
  refine lv_aload_n Z.1 Z.2.1 md_FB_round_0 rfl (lv_at hl 0 rfl) ?_
  refine lv_iload_n Z.1 Z.2.1 md_FB_round_1 rfl (lv_at hl 1 rfl) ?_
  refine xw_cV (n := 1) (rest := []) Z hml hl.1 hN hw (k_isAcceptor1 l D ad cI cZ cS cA (M := M) hn h.1 ha) tb_g mc_FB_isAcceptor mk_FB_128 mi_FB_isAcceptor ms_FB_isAcceptor mz_FB ⟨by decide, by decide, by decide +kernel⟩ ⟨Nat.le_of_ble_eq_true rfl, Nat.le_of_ble_eq_true rfl⟩ (fb_in0 n) (fb_e0 n ad cI cZ cS cA _) rfl rfl rfl rfl (Nat.le_of_ble_eq_true rfl) ⟨Nat.le_refl _, Nat.le_refl _⟩ md_FB_round_2 (fun M1 H1 locs1 e1 hw => ?_)
  have ey1 := e1.symm
  subst ey1
  refine W.eq (g2 := F0 m 5 ls [.int (nI (1))]) rfl ?_
  refine xi_if_eq (tgt := 32) Z md_FB_round_5 (by decide) (by omega) (fun h5 => by exfalso; omega) (fun h5 => ?_)
  refine lv_iload_n Z.1 Z.2.1 md_FB_round_8 rfl (lv_at hl 2 rfl) ?_
  refine xw_cS (n := 1) (rest := []) Z hml hl.1 hN hw (k_isSlot1 l D ad cI cZ cS cA (M := M) hs) tb_g mc_FB_isSlot mk_FB_38 mt_FB_isSlot mz_FB ⟨by decide, by decide, by decide +kernel⟩ ⟨Nat.le_of_ble_eq_true rfl, Nat.le_of_ble_eq_true rfl⟩ rfl rfl (Nat.le_of_ble_eq_true rfl) ⟨Nat.le_refl _, Nat.le_refl _⟩ md_FB_round_9 (fun M2 H2 locs2 e2 hw => ?_)
  have ey2 := e2.symm
  subst ey2
  refine W.eq (g2 := F0 m 12 ls [.int (nI (1))]) rfl ?_
  refine xi_if_eq (tgt := 32) Z md_FB_round_12 (by decide) (by omega) (fun h12 => by exfalso; omega) (fun h12 => ?_)
  refine lv_aload_n Z.1 Z.2.1 md_FB_round_15 rfl (lv_at hl 0 rfl) ?_
  refine xb_get (v := .ref (ad (3, 0))) Z hw (fb_in0 n) (fb_e0 n ad cI cZ cS cA) rfl tb_iFB 2 (by decide) mk_FB_31 rfl rfl md_FB_round_16 ?_
  refine lv_iload_n Z.1 Z.2.1 md_FB_round_19 rfl (lv_at hl 2 rfl) ?_
  refine xw_aald (a := ad (7, s)) Z hw (fb_in3 n) (fb_e3 n ad cI cZ cS cA (M (3, 0))) 2 rfl (s) rfl hs (by omega) rfl md_FB_round_20 ?_
  refine xb_get (v := .ref (ad (8, s))) Z hw (fb_in7 n hs) (fb_e7 n ad cI cZ cS cA (s)) rfl tb_iSlt 0 (by decide) mk_FB_119 rfl rfl md_FB_round_21 ?_
  refine lv_iload_n Z.1 Z.2.1 md_FB_round_24 rfl (lv_at hl 1 rfl) ?_
  refine xw_aald (a := ad (15, 5 * s + a)) Z hw (fb_in8 n hs) (fb_e8 n ad cI cZ cS cA (s) (M (8, s))) 3 rfl (a) rfl ha (by omega) rfl md_FB_round_25 ?_
  refine xb_get (v := .int (M (15, 5 * s + a) 4)) Z hw (fb_in15 hn hs ha) (fb_e15 n ad cI cZ cS cA (5 * s + a)) rfl tb_iAcc 4 (by decide) mk_FB_140 rfl rfl md_FB_round_26 ?_
  refine xi_re (show M (15, 5 * s + a) 4 = nI (S.2 s 0 a 0) from (fr_a h hs ha).2.2.1) ?_
  refine lv_goto (tgt := 33) Z.1 Z.2.1 md_FB_round_29 (by decide) ?_
  exact xw_iret Z hr hlk hw md_FB_round_33 rfl rfl
set_option maxHeartbeats 4000000 in
theorem k_round_b1 (l : Launch) (D : va_G) {n : Nat} (ad : Nat × Nat → Nat) (cI cZ cS cA : ClassId) {M : fr_M} {q f : Nat} {S : pz_T} (hn : n ≤ 5) (hI : fr_I n q f S M) {x y : Int32} (hx : x < 0 ∨ nI n ≤ x) : fb_C l D n ad cI cZ cS cA my_FB_round mb_FB_round 3 (some .int) 1 21 M [.ref (ad (0, 0)), .int (x), .int (y)] (some (.int (-1))) (fun M' => M' = M) := by
  have h := hI.2
  have I := hI.1
  have h60 := I.1
  refine xw_start [.ref (ad (0, 0)), .int (x), .int (y)] (by decide) (Nat.le_of_ble_eq_true rfl) ?_
  intro p e st m below meth cd0 ls Z hml hr hlk hN hl hw
  have hl : lv_has ls 3 [(0, .ref (ad (0, 0))), (1, .int (x)), (2, .int (y))] := hl
  refine lv_aload_n Z.1 Z.2.1 md_FB_round_0 rfl (lv_at hl 0 rfl) ?_
  refine lv_iload_n Z.1 Z.2.1 md_FB_round_1 rfl (lv_at hl 1 rfl) ?_
  refine xw_cV (n := 1) (rest := []) Z hml hl.1 hN hw (k_isAcceptor0 l D ad cI cZ cS cA (M := M) h.1 hx) tb_g mc_FB_isAcceptor mk_FB_128 mi_FB_isAcceptor ms_FB_isAcceptor mz_FB ⟨by decide, by decide, by decide +kernel⟩ ⟨Nat.le_of_ble_eq_true rfl, Nat.le_of_ble_eq_true rfl⟩ (fb_in0 n) (fb_e0 n ad cI cZ cS cA _) rfl rfl rfl rfl (Nat.le_of_ble_eq_true rfl) ⟨Nat.le_refl _, Nat.le_refl _⟩ md_FB_round_2 (fun M1 H1 locs1 e1 hw => ?_)
  have ey1 := e1.symm
  subst ey1
  refine W.eq (g2 := F0 m 5 ls [.int (nI (0))]) rfl ?_
  refine xi_if_eq (tgt := 32) Z md_FB_round_5 (by decide) (by omega) (fun h5 => ?_) (fun h5 => by exfalso; omega)
  refine lv_iconst (v := -1) Z.1 Z.2.1 md_FB_round_32 (by decide) ?_
  exact xw_iret Z hr hlk hw md_FB_round_33 rfl rfl
set_option maxHeartbeats 4000000 in
theorem k_round_b2 (l : Launch) (D : va_G) {n : Nat} (ad : Nat × Nat → Nat) (cI cZ cS cA : ClassId) {M : fr_M} {q f : Nat} {S : pz_T} (hn : n ≤ 5) (hI : fr_I n q f S M) {a : Nat} (ha : a < n) {y : Int32} (hy : y < 0 ∨ nI 3 ≤ y) : fb_C l D n ad cI cZ cS cA my_FB_round mb_FB_round 3 (some .int) 1 21 M [.ref (ad (0, 0)), .int (nI (a)), .int (y)] (some (.int (-1))) (fun M' => M' = M) := by
  have h := hI.2
  have I := hI.1
  have h60 := I.1
  refine xw_start [.ref (ad (0, 0)), .int (nI (a)), .int (y)] (by decide) (Nat.le_of_ble_eq_true rfl) ?_
  intro p e st m below meth cd0 ls Z hml hr hlk hN hl hw
  have hl : lv_has ls 3 [(0, .ref (ad (0, 0))), (1, .int (nI (a))), (2, .int (y))] := hl
  refine lv_aload_n Z.1 Z.2.1 md_FB_round_0 rfl (lv_at hl 0 rfl) ?_
  refine lv_iload_n Z.1 Z.2.1 md_FB_round_1 rfl (lv_at hl 1 rfl) ?_
  refine xw_cV (n := 1) (rest := []) Z hml hl.1 hN hw (k_isAcceptor1 l D ad cI cZ cS cA (M := M) hn h.1 ha) tb_g mc_FB_isAcceptor mk_FB_128 mi_FB_isAcceptor ms_FB_isAcceptor mz_FB ⟨by decide, by decide, by decide +kernel⟩ ⟨Nat.le_of_ble_eq_true rfl, Nat.le_of_ble_eq_true rfl⟩ (fb_in0 n) (fb_e0 n ad cI cZ cS cA _) rfl rfl rfl rfl (Nat.le_of_ble_eq_true rfl) ⟨Nat.le_refl _, Nat.le_refl _⟩ md_FB_round_2 (fun M1 H1 locs1 e1 hw => ?_)
  have ey1 := e1.symm
  subst ey1
  refine W.eq (g2 := F0 m 5 ls [.int (nI (1))]) rfl ?_
  refine xi_if_eq (tgt := 32) Z md_FB_round_5 (by decide) (by omega) (fun h5 => by exfalso; omega) (fun h5 => ?_)
  refine lv_iload_n Z.1 Z.2.1 md_FB_round_8 rfl (lv_at hl 2 rfl) ?_
  refine xw_cS (n := 1) (rest := []) Z hml hl.1 hN hw (k_isSlot0 l D ad cI cZ cS cA (M := M) hy) tb_g mc_FB_isSlot mk_FB_38 mt_FB_isSlot mz_FB ⟨by decide, by decide, by decide +kernel⟩ ⟨Nat.le_of_ble_eq_true rfl, Nat.le_of_ble_eq_true rfl⟩ rfl rfl (Nat.le_of_ble_eq_true rfl) ⟨Nat.le_refl _, Nat.le_refl _⟩ md_FB_round_9 (fun M2 H2 locs2 e2 hw => ?_)
  have ey2 := e2.symm
  subst ey2
  refine W.eq (g2 := F0 m 12 ls [.int (nI (0))]) rfl ?_
  refine xi_if_eq (tgt := 32) Z md_FB_round_12 (by decide) (by omega) (fun h12 => ?_) (fun h12 => by exfalso; omega)
  refine lv_iconst (v := -1) Z.1 Z.2.1 md_FB_round_32 (by decide) ?_
  exact xw_iret Z hr hlk hw md_FB_round_33 rfl rfl
set_option maxHeartbeats 4000000 in
theorem k_vote (l : Launch) (D : va_G) {n : Nat} (ad : Nat × Nat → Nat) (cI cZ cS cA : ClassId) {M : fr_M} {q f : Nat} {S : pz_T} (hn : n ≤ 5) (hI : fr_I n q f S M) {s a : Nat} (hs : s < 3) (ha : a < n) : fb_C l D n ad cI cZ cS cA my_FB_vote mb_FB_vote 3 (some .int) 1 21 M [.ref (ad (0, 0)), .int (nI (a)), .int (nI (s))] (some (.int (nI (S.2 s 1 a 0)))) (fun M' => M' = M) := by
  have h := hI.2
  have I := hI.1
  have h60 := I.1
  refine xw_start [.ref (ad (0, 0)), .int (nI (a)), .int (nI (s))] (by decide) (Nat.le_of_ble_eq_true rfl) ?_
  intro p e st m below meth cd0 ls Z hml hr hlk hN hl hw
  have hl : lv_has ls 3 [(0, .ref (ad (0, 0))), (1, .int (nI (a))), (2, .int (nI (s)))] := hl
  refine lv_aload_n Z.1 Z.2.1 md_FB_vote_0 rfl (lv_at hl 0 rfl) ?_
  refine lv_iload_n Z.1 Z.2.1 md_FB_vote_1 rfl (lv_at hl 1 rfl) ?_
  refine xw_cV (n := 1) (rest := []) Z hml hl.1 hN hw (k_isAcceptor1 l D ad cI cZ cS cA (M := M) hn h.1 ha) tb_g mc_FB_isAcceptor mk_FB_128 mi_FB_isAcceptor ms_FB_isAcceptor mz_FB ⟨by decide, by decide, by decide +kernel⟩ ⟨Nat.le_of_ble_eq_true rfl, Nat.le_of_ble_eq_true rfl⟩ (fb_in0 n) (fb_e0 n ad cI cZ cS cA _) rfl rfl rfl rfl (Nat.le_of_ble_eq_true rfl) ⟨Nat.le_refl _, Nat.le_refl _⟩ md_FB_vote_2 (fun M1 H1 locs1 e1 hw => ?_)
  have ey1 := e1.symm
  subst ey1
  refine W.eq (g2 := F0 m 5 ls [.int (nI (1))]) rfl ?_
  refine xi_if_eq (tgt := 32) Z md_FB_vote_5 (by decide) (by omega) (fun h5 => by exfalso; omega) (fun h5 => ?_)
  refine lv_iload_n Z.1 Z.2.1 md_FB_vote_8 rfl (lv_at hl 2 rfl) ?_
  refine xw_cS (n := 1) (rest := []) Z hml hl.1 hN hw (k_isSlot1 l D ad cI cZ cS cA (M := M) hs) tb_g mc_FB_isSlot mk_FB_38 mt_FB_isSlot mz_FB ⟨by decide, by decide, by decide +kernel⟩ ⟨Nat.le_of_ble_eq_true rfl, Nat.le_of_ble_eq_true rfl⟩ rfl rfl (Nat.le_of_ble_eq_true rfl) ⟨Nat.le_refl _, Nat.le_refl _⟩ md_FB_vote_9 (fun M2 H2 locs2 e2 hw => ?_)
  have ey2 := e2.symm
  subst ey2
  refine W.eq (g2 := F0 m 12 ls [.int (nI (1))]) rfl ?_
  refine xi_if_eq (tgt := 32) Z md_FB_vote_12 (by decide) (by omega) (fun h12 => by exfalso; omega) (fun h12 => ?_)
  refine lv_aload_n Z.1 Z.2.1 md_FB_vote_15 rfl (lv_at hl 0 rfl) ?_
  refine xb_get (v := .ref (ad (3, 0))) Z hw (fb_in0 n) (fb_e0 n ad cI cZ cS cA) rfl tb_iFB 2 (by decide) mk_FB_31 rfl rfl md_FB_vote_16 ?_
  refine lv_iload_n Z.1 Z.2.1 md_FB_vote_19 rfl (lv_at hl 2 rfl) ?_
  refine xw_aald (a := ad (7, s)) Z hw (fb_in3 n) (fb_e3 n ad cI cZ cS cA (M (3, 0))) 2 rfl (s) rfl hs (by omega) rfl md_FB_vote_20 ?_
  refine xb_get (v := .ref (ad (8, s))) Z hw (fb_in7 n hs) (fb_e7 n ad cI cZ cS cA (s)) rfl tb_iSlt 0 (by decide) mk_FB_119 rfl rfl md_FB_vote_21 ?_
  refine lv_iload_n Z.1 Z.2.1 md_FB_vote_24 rfl (lv_at hl 1 rfl) ?_
  refine xw_aald (a := ad (15, 5 * s + a)) Z hw (fb_in8 n hs) (fb_e8 n ad cI cZ cS cA (s) (M (8, s))) 3 rfl (a) rfl ha (by omega) rfl md_FB_vote_25 ?_
  refine xb_get (v := .int (M (15, 5 * s + a) 5)) Z hw (fb_in15 hn hs ha) (fb_e15 n ad cI cZ cS cA (5 * s + a)) rfl tb_iAcc 5 (by decide) mk_FB_143 rfl rfl md_FB_vote_26 ?_
  refine xi_re (show M (15, 5 * s + a) 5 = nI (S.2 s 1 a 0) from (fr_a h hs ha).2.2.2.1) ?_
  refine lv_goto (tgt := 33) Z.1 Z.2.1 md_FB_vote_29 (by decide) ?_
  exact xw_iret Z hr hlk hw md_FB_vote_33 rfl rfl
set_option maxHeartbeats 4000000 in
theorem k_vote_b1 (l : Launch) (D : va_G) {n : Nat} (ad : Nat × Nat → Nat) (cI cZ cS cA : ClassId) {M : fr_M} {q f : Nat} {S : pz_T} (hn : n ≤ 5) (hI : fr_I n q f S M) {x y : Int32} (hx : x < 0 ∨ nI n ≤ x) : fb_C l D n ad cI cZ cS cA my_FB_vote mb_FB_vote 3 (some .int) 1 21 M [.ref (ad (0, 0)), .int (x), .int (y)] (some (.int (-1))) (fun M' => M' = M) := by
  have h := hI.2
  have I := hI.1
  have h60 := I.1
  refine xw_start [.ref (ad (0, 0)), .int (x), .int (y)] (by decide) (Nat.le_of_ble_eq_true rfl) ?_
  intro p e st m below meth cd0 ls Z hml hr hlk hN hl hw
  have hl : lv_has ls 3 [(0, .ref (ad (0, 0))), (1, .int (x)), (2, .int (y))] := hl
  refine lv_aload_n Z.1 Z.2.1 md_FB_vote_0 rfl (lv_at hl 0 rfl) ?_
  refine lv_iload_n Z.1 Z.2.1 md_FB_vote_1 rfl (lv_at hl 1 rfl) ?_
  refine xw_cV (n := 1) (rest := []) Z hml hl.1 hN hw (k_isAcceptor0 l D ad cI cZ cS cA (M := M) h.1 hx) tb_g mc_FB_isAcceptor mk_FB_128 mi_FB_isAcceptor ms_FB_isAcceptor mz_FB ⟨by decide, by decide, by decide +kernel⟩ ⟨Nat.le_of_ble_eq_true rfl, Nat.le_of_ble_eq_true rfl⟩ (fb_in0 n) (fb_e0 n ad cI cZ cS cA _) rfl rfl rfl rfl (Nat.le_of_ble_eq_true rfl) ⟨Nat.le_refl _, Nat.le_refl _⟩ md_FB_vote_2 (fun M1 H1 locs1 e1 hw => ?_)
  have ey1 := e1.symm
  subst ey1
  refine W.eq (g2 := F0 m 5 ls [.int (nI (0))]) rfl ?_
  refine xi_if_eq (tgt := 32) Z md_FB_vote_5 (by decide) (by omega) (fun h5 => ?_) (fun h5 => by exfalso; omega)
  refine lv_iconst (v := -1) Z.1 Z.2.1 md_FB_vote_32 (by decide) ?_
  exact xw_iret Z hr hlk hw md_FB_vote_33 rfl rfl
set_option maxHeartbeats 4000000 in
theorem k_vote_b2 (l : Launch) (D : va_G) {n : Nat} (ad : Nat × Nat → Nat) (cI cZ cS cA : ClassId) {M : fr_M} {q f : Nat} {S : pz_T} (hn : n ≤ 5) (hI : fr_I n q f S M) {a : Nat} (ha : a < n) {y : Int32} (hy : y < 0 ∨ nI 3 ≤ y) : fb_C l D n ad cI cZ cS cA my_FB_vote mb_FB_vote 3 (some .int) 1 21 M [.ref (ad (0, 0)), .int (nI (a)), .int (y)] (some (.int (-1))) (fun M' => M' = M) := by
  have h := hI.2
  have I := hI.1
  have h60 := I.1
  refine xw_start [.ref (ad (0, 0)), .int (nI (a)), .int (y)] (by decide) (Nat.le_of_ble_eq_true rfl) ?_
  intro p e st m below meth cd0 ls Z hml hr hlk hN hl hw
  have hl : lv_has ls 3 [(0, .ref (ad (0, 0))), (1, .int (nI (a))), (2, .int (y))] := hl
  refine lv_aload_n Z.1 Z.2.1 md_FB_vote_0 rfl (lv_at hl 0 rfl) ?_
  refine lv_iload_n Z.1 Z.2.1 md_FB_vote_1 rfl (lv_at hl 1 rfl) ?_
  refine xw_cV (n := 1) (rest := []) Z hml hl.1 hN hw (k_isAcceptor1 l D ad cI cZ cS cA (M := M) hn h.1 ha) tb_g mc_FB_isAcceptor mk_FB_128 mi_FB_isAcceptor ms_FB_isAcceptor mz_FB ⟨by decide, by decide, by decide +kernel⟩ ⟨Nat.le_of_ble_eq_true rfl, Nat.le_of_ble_eq_true rfl⟩ (fb_in0 n) (fb_e0 n ad cI cZ cS cA _) rfl rfl rfl rfl (Nat.le_of_ble_eq_true rfl) ⟨Nat.le_refl _, Nat.le_refl _⟩ md_FB_vote_2 (fun M1 H1 locs1 e1 hw => ?_)
  have ey1 := e1.symm
  subst ey1
  refine W.eq (g2 := F0 m 5 ls [.int (nI (1))]) rfl ?_
  refine xi_if_eq (tgt := 32) Z md_FB_vote_5 (by decide) (by omega) (fun h5 => by exfalso; omega) (fun h5 => ?_)
  refine lv_iload_n Z.1 Z.2.1 md_FB_vote_8 rfl (lv_at hl 2 rfl) ?_
  refine xw_cS (n := 1) (rest := []) Z hml hl.1 hN hw (k_isSlot0 l D ad cI cZ cS cA (M := M) hy) tb_g mc_FB_isSlot mk_FB_38 mt_FB_isSlot mz_FB ⟨by decide, by decide, by decide +kernel⟩ ⟨Nat.le_of_ble_eq_true rfl, Nat.le_of_ble_eq_true rfl⟩ rfl rfl (Nat.le_of_ble_eq_true rfl) ⟨Nat.le_refl _, Nat.le_refl _⟩ md_FB_vote_9 (fun M2 H2 locs2 e2 hw => ?_)
  have ey2 := e2.symm
  subst ey2
  refine W.eq (g2 := F0 m 12 ls [.int (nI (0))]) rfl ?_
  refine xi_if_eq (tgt := 32) Z md_FB_vote_12 (by decide) (by omega) (fun h12 => ?_) (fun h12 => by exfalso; omega)
  refine lv_iconst (v := -1) Z.1 Z.2.1 md_FB_vote_32 (by decide) ?_
  exact xw_iret Z hr hlk hw md_FB_vote_33 rfl rfl
set_option maxHeartbeats 4000000 in
theorem k_voteRound (l : Launch) (D : va_G) {n : Nat} (ad : Nat × Nat → Nat) (cI cZ cS cA : ClassId) {M : fr_M} {q f : Nat} {S : pz_T} (hn : n ≤ 5) (hI : fr_I n q f S M) {s a : Nat} (hs : s < 3) (ha : a < n) : fb_C l D n ad cI cZ cS cA my_FB_voteRound mb_FB_voteRound 3 (some .int) 1 21 M [.ref (ad (0, 0)), .int (nI (a)), .int (nI (s))] (some (.int (nI (S.2 s 2 a 0)))) (fun M' => M' = M) := by
  have h := hI.2
  have I := hI.1
  have h60 := I.1
  refine xw_start [.ref (ad (0, 0)), .int (nI (a)), .int (nI (s))] (by decide) (Nat.le_of_ble_eq_true rfl) ?_
  intro p e st m below meth cd0 ls Z hml hr hlk hN hl hw
  have hl : lv_has ls 3 [(0, .ref (ad (0, 0))), (1, .int (nI (a))), (2, .int (nI (s)))] := hl
  refine lv_aload_n Z.1 Z.2.1 md_FB_voteRound_0 rfl (lv_at hl 0 rfl) ?_
  refine lv_iload_n Z.1 Z.2.1 md_FB_voteRound_1 rfl (lv_at hl 1 rfl) ?_
  refine xw_cV (n := 1) (rest := []) Z hml hl.1 hN hw (k_isAcceptor1 l D ad cI cZ cS cA (M := M) hn h.1 ha) tb_g mc_FB_isAcceptor mk_FB_128 mi_FB_isAcceptor ms_FB_isAcceptor mz_FB ⟨by decide, by decide, by decide +kernel⟩ ⟨Nat.le_of_ble_eq_true rfl, Nat.le_of_ble_eq_true rfl⟩ (fb_in0 n) (fb_e0 n ad cI cZ cS cA _) rfl rfl rfl rfl (Nat.le_of_ble_eq_true rfl) ⟨Nat.le_refl _, Nat.le_refl _⟩ md_FB_voteRound_2 (fun M1 H1 locs1 e1 hw => ?_)
  have ey1 := e1.symm
  subst ey1
  refine W.eq (g2 := F0 m 5 ls [.int (nI (1))]) rfl ?_
  refine xi_if_eq (tgt := 32) Z md_FB_voteRound_5 (by decide) (by omega) (fun h5 => by exfalso; omega) (fun h5 => ?_)
  refine lv_iload_n Z.1 Z.2.1 md_FB_voteRound_8 rfl (lv_at hl 2 rfl) ?_
  refine xw_cS (n := 1) (rest := []) Z hml hl.1 hN hw (k_isSlot1 l D ad cI cZ cS cA (M := M) hs) tb_g mc_FB_isSlot mk_FB_38 mt_FB_isSlot mz_FB ⟨by decide, by decide, by decide +kernel⟩ ⟨Nat.le_of_ble_eq_true rfl, Nat.le_of_ble_eq_true rfl⟩ rfl rfl (Nat.le_of_ble_eq_true rfl) ⟨Nat.le_refl _, Nat.le_refl _⟩ md_FB_voteRound_9 (fun M2 H2 locs2 e2 hw => ?_)
  have ey2 := e2.symm
  subst ey2
  refine W.eq (g2 := F0 m 12 ls [.int (nI (1))]) rfl ?_
  refine xi_if_eq (tgt := 32) Z md_FB_voteRound_12 (by decide) (by omega) (fun h12 => by exfalso; omega) (fun h12 => ?_)
  refine lv_aload_n Z.1 Z.2.1 md_FB_voteRound_15 rfl (lv_at hl 0 rfl) ?_
  refine xb_get (v := .ref (ad (3, 0))) Z hw (fb_in0 n) (fb_e0 n ad cI cZ cS cA) rfl tb_iFB 2 (by decide) mk_FB_31 rfl rfl md_FB_voteRound_16 ?_
  refine lv_iload_n Z.1 Z.2.1 md_FB_voteRound_19 rfl (lv_at hl 2 rfl) ?_
  refine xw_aald (a := ad (7, s)) Z hw (fb_in3 n) (fb_e3 n ad cI cZ cS cA (M (3, 0))) 2 rfl (s) rfl hs (by omega) rfl md_FB_voteRound_20 ?_
  refine xb_get (v := .ref (ad (8, s))) Z hw (fb_in7 n hs) (fb_e7 n ad cI cZ cS cA (s)) rfl tb_iSlt 0 (by decide) mk_FB_119 rfl rfl md_FB_voteRound_21 ?_
  refine lv_iload_n Z.1 Z.2.1 md_FB_voteRound_24 rfl (lv_at hl 1 rfl) ?_
  refine xw_aald (a := ad (15, 5 * s + a)) Z hw (fb_in8 n hs) (fb_e8 n ad cI cZ cS cA (s) (M (8, s))) 3 rfl (a) rfl ha (by omega) rfl md_FB_voteRound_25 ?_
  refine xb_get (v := .int (M (15, 5 * s + a) 6)) Z hw (fb_in15 hn hs ha) (fb_e15 n ad cI cZ cS cA (5 * s + a)) rfl tb_iAcc 6 (by decide) mk_FB_146 rfl rfl md_FB_voteRound_26 ?_
  refine xi_re (show M (15, 5 * s + a) 6 = nI (S.2 s 2 a 0) from (fr_a h hs ha).2.2.2.2.1) ?_
  refine lv_goto (tgt := 33) Z.1 Z.2.1 md_FB_voteRound_29 (by decide) ?_
  exact xw_iret Z hr hlk hw md_FB_voteRound_33 rfl rfl
set_option maxHeartbeats 4000000 in
theorem k_voteRound_b1 (l : Launch) (D : va_G) {n : Nat} (ad : Nat × Nat → Nat) (cI cZ cS cA : ClassId) {M : fr_M} {q f : Nat} {S : pz_T} (hn : n ≤ 5) (hI : fr_I n q f S M) {x y : Int32} (hx : x < 0 ∨ nI n ≤ x) : fb_C l D n ad cI cZ cS cA my_FB_voteRound mb_FB_voteRound 3 (some .int) 1 21 M [.ref (ad (0, 0)), .int (x), .int (y)] (some (.int (-1))) (fun M' => M' = M) := by
  have h := hI.2
  have I := hI.1
  have h60 := I.1
  refine xw_start [.ref (ad (0, 0)), .int (x), .int (y)] (by decide) (Nat.le_of_ble_eq_true rfl) ?_
  intro p e st m below meth cd0 ls Z hml hr hlk hN hl hw
  have hl : lv_has ls 3 [(0, .ref (ad (0, 0))), (1, .int (x)), (2, .int (y))] := hl
  refine lv_aload_n Z.1 Z.2.1 md_FB_voteRound_0 rfl (lv_at hl 0 rfl) ?_
  refine lv_iload_n Z.1 Z.2.1 md_FB_voteRound_1 rfl (lv_at hl 1 rfl) ?_
  refine xw_cV (n := 1) (rest := []) Z hml hl.1 hN hw (k_isAcceptor0 l D ad cI cZ cS cA (M := M) h.1 hx) tb_g mc_FB_isAcceptor mk_FB_128 mi_FB_isAcceptor ms_FB_isAcceptor mz_FB ⟨by decide, by decide, by decide +kernel⟩ ⟨Nat.le_of_ble_eq_true rfl, Nat.le_of_ble_eq_true rfl⟩ (fb_in0 n) (fb_e0 n ad cI cZ cS cA _) rfl rfl rfl rfl (Nat.le_of_ble_eq_true rfl) ⟨Nat.le_refl _, Nat.le_refl _⟩ md_FB_voteRound_2 (fun M1 H1 locs1 e1 hw => ?_)
  have ey1 := e1.symm
  subst ey1
  refine W.eq (g2 := F0 m 5 ls [.int (nI (0))]) rfl ?_
  refine xi_if_eq (tgt := 32) Z md_FB_voteRound_5 (by decide) (by omega) (fun h5 => ?_) (fun h5 => by exfalso; omega)
  refine lv_iconst (v := -1) Z.1 Z.2.1 md_FB_voteRound_32 (by decide) ?_
  exact xw_iret Z hr hlk hw md_FB_voteRound_33 rfl rfl
set_option maxHeartbeats 4000000 in
theorem k_voteRound_b2 (l : Launch) (D : va_G) {n : Nat} (ad : Nat × Nat → Nat) (cI cZ cS cA : ClassId) {M : fr_M} {q f : Nat} {S : pz_T} (hn : n ≤ 5) (hI : fr_I n q f S M) {a : Nat} (ha : a < n) {y : Int32} (hy : y < 0 ∨ nI 3 ≤ y) : fb_C l D n ad cI cZ cS cA my_FB_voteRound mb_FB_voteRound 3 (some .int) 1 21 M [.ref (ad (0, 0)), .int (nI (a)), .int (y)] (some (.int (-1))) (fun M' => M' = M) := by
  have h := hI.2
  have I := hI.1
  have h60 := I.1
  refine xw_start [.ref (ad (0, 0)), .int (nI (a)), .int (y)] (by decide) (Nat.le_of_ble_eq_true rfl) ?_
  intro p e st m below meth cd0 ls Z hml hr hlk hN hl hw
  have hl : lv_has ls 3 [(0, .ref (ad (0, 0))), (1, .int (nI (a))), (2, .int (y))] := hl
  refine lv_aload_n Z.1 Z.2.1 md_FB_voteRound_0 rfl (lv_at hl 0 rfl) ?_
  refine lv_iload_n Z.1 Z.2.1 md_FB_voteRound_1 rfl (lv_at hl 1 rfl) ?_
  refine xw_cV (n := 1) (rest := []) Z hml hl.1 hN hw (k_isAcceptor1 l D ad cI cZ cS cA (M := M) hn h.1 ha) tb_g mc_FB_isAcceptor mk_FB_128 mi_FB_isAcceptor ms_FB_isAcceptor mz_FB ⟨by decide, by decide, by decide +kernel⟩ ⟨Nat.le_of_ble_eq_true rfl, Nat.le_of_ble_eq_true rfl⟩ (fb_in0 n) (fb_e0 n ad cI cZ cS cA _) rfl rfl rfl rfl (Nat.le_of_ble_eq_true rfl) ⟨Nat.le_refl _, Nat.le_refl _⟩ md_FB_voteRound_2 (fun M1 H1 locs1 e1 hw => ?_)
  have ey1 := e1.symm
  subst ey1
  refine W.eq (g2 := F0 m 5 ls [.int (nI (1))]) rfl ?_
  refine xi_if_eq (tgt := 32) Z md_FB_voteRound_5 (by decide) (by omega) (fun h5 => by exfalso; omega) (fun h5 => ?_)
  refine lv_iload_n Z.1 Z.2.1 md_FB_voteRound_8 rfl (lv_at hl 2 rfl) ?_
  refine xw_cS (n := 1) (rest := []) Z hml hl.1 hN hw (k_isSlot0 l D ad cI cZ cS cA (M := M) hy) tb_g mc_FB_isSlot mk_FB_38 mt_FB_isSlot mz_FB ⟨by decide, by decide, by decide +kernel⟩ ⟨Nat.le_of_ble_eq_true rfl, Nat.le_of_ble_eq_true rfl⟩ rfl rfl (Nat.le_of_ble_eq_true rfl) ⟨Nat.le_refl _, Nat.le_refl _⟩ md_FB_voteRound_9 (fun M2 H2 locs2 e2 hw => ?_)
  have ey2 := e2.symm
  subst ey2
  refine W.eq (g2 := F0 m 12 ls [.int (nI (0))]) rfl ?_
  refine xi_if_eq (tgt := 32) Z md_FB_voteRound_12 (by decide) (by omega) (fun h12 => ?_) (fun h12 => by exfalso; omega)
  refine lv_iconst (v := -1) Z.1 Z.2.1 md_FB_voteRound_32 (by decide) ?_
  exact xw_iret Z hr hlk hw md_FB_voteRound_33 rfl rfl
set_option maxHeartbeats 4000000 in
theorem k_leads (l : Launch) (D : va_G) {n : Nat} (ad : Nat × Nat → Nat) (cI cZ cS cA : ClassId) {M : fr_M} {q f : Nat} {S : pz_T} (hn : n ≤ 5) (hI : fr_I n q f S M) {s c : Nat} (hs : s < 3) (hc : c < 2) : fb_C l D n ad cI cZ cS cA my_FB_leads mb_FB_leads 3 (some .int) 1 21 M [.ref (ad (0, 0)), .int (nI (8 + c)), .int (nI (s))] (some (.int (nI (S.2 s 8 c 0)))) (fun M' => M' = M) := by
  have h := hI.2
  have I := hI.1
  have h60 := I.1
  refine xw_start [.ref (ad (0, 0)), .int (nI (8 + c)), .int (nI (s))] (by decide) (Nat.le_of_ble_eq_true rfl) ?_
  intro p e st m below meth cd0 ls Z hml hr hlk hN hl hw
  have hl : lv_has ls 3 [(0, .ref (ad (0, 0))), (1, .int (nI (8 + c))), (2, .int (nI (s)))] := hl
  refine lv_iload_n Z.1 Z.2.1 md_FB_leads_0 rfl (lv_at hl 1 rfl) ?_
  refine xw_cS (n := 1) (rest := []) Z hml hl.1 hN hw (k_isCoordinator1 l D ad cI cZ cS cA (M := M) (show 8 + c = 8 ∨ 8 + c = 9 by omega)) tb_g mc_FB_isCoordinator mk_FB_112 mt_FB_isCoordinator mz_FB ⟨by decide, by decide, by decide +kernel⟩ ⟨Nat.le_of_ble_eq_true rfl, Nat.le_of_ble_eq_true rfl⟩ rfl rfl (Nat.le_of_ble_eq_true rfl) ⟨Nat.le_refl _, Nat.le_refl _⟩ md_FB_leads_1 (fun M1 H1 locs1 e1 hw => ?_)
  have ey1 := e1.symm
  subst ey1
  refine W.eq (g2 := F0 m 4 ls [.int (nI (1))]) rfl ?_
  refine xi_if_eq (tgt := 30) Z md_FB_leads_4 (by decide) (by omega) (fun h4 => by exfalso; omega) (fun h4 => ?_)
  refine lv_iload_n Z.1 Z.2.1 md_FB_leads_7 rfl (lv_at hl 2 rfl) ?_
  refine xw_cS (n := 1) (rest := []) Z hml hl.1 hN hw (k_isSlot1 l D ad cI cZ cS cA (M := M) hs) tb_g mc_FB_isSlot mk_FB_38 mt_FB_isSlot mz_FB ⟨by decide, by decide, by decide +kernel⟩ ⟨Nat.le_of_ble_eq_true rfl, Nat.le_of_ble_eq_true rfl⟩ rfl rfl (Nat.le_of_ble_eq_true rfl) ⟨Nat.le_refl _, Nat.le_refl _⟩ md_FB_leads_8 (fun M2 H2 locs2 e2 hw => ?_)
  have ey2 := e2.symm
  subst ey2
  refine W.eq (g2 := F0 m 11 ls [.int (nI (1))]) rfl ?_
  refine xi_if_eq (tgt := 30) Z md_FB_leads_11 (by decide) (by omega) (fun h11 => by exfalso; omega) (fun h11 => ?_)
  refine lv_aload_n Z.1 Z.2.1 md_FB_leads_14 rfl (lv_at hl 0 rfl) ?_
  refine xb_get (v := .ref (ad (3, 0))) Z hw (fb_in0 n) (fb_e0 n ad cI cZ cS cA) rfl tb_iFB 2 (by decide) mk_FB_31 rfl rfl md_FB_leads_15 ?_
  refine lv_iload_n Z.1 Z.2.1 md_FB_leads_18 rfl (lv_at hl 2 rfl) ?_
  refine xw_aald (a := ad (7, s)) Z hw (fb_in3 n) (fb_e3 n ad cI cZ cS cA (M (3, 0))) 2 rfl (s) rfl hs (by omega) rfl md_FB_leads_19 ?_
  refine lv_iload_n Z.1 Z.2.1 md_FB_leads_20 rfl (lv_at hl 1 rfl) ?_
  refine xw_cV (n := 1) (rest := []) Z hml hl.1 hN hw (k_coordinator l D ad cI cZ cS cA (M := M) hs hc) tb_g mc_Slt_coordinator mk_FB_63 mi_Slt_coordinator ms_Slt_coordinator mz_Slt ⟨by decide, by decide, by decide +kernel⟩ ⟨Nat.le_of_ble_eq_true rfl, Nat.le_of_ble_eq_true rfl⟩ (fb_in7 n hs) (fb_e7 n ad cI cZ cS cA (s) _) rfl rfl rfl rfl (Nat.le_of_ble_eq_true rfl) ⟨Nat.le_refl _, Nat.le_refl _⟩ md_FB_leads_21 (fun M3 H3 locs3 e3 hw => ?_)
  have ey3 := e3.symm
  subst ey3
  refine W.eq (g2 := F0 m 24 ls [.ref (ad (9, 2 * s + c))]) rfl ?_
  refine xb_get (v := .int (M (9, 2 * s + c) 3)) Z hw (fb_in9 n hs hc) (fb_e9 n ad cI cZ cS cA (2 * s + c)) rfl tb_iCor 3 (by decide) mk_FB_67 rfl rfl md_FB_leads_24 ?_
  refine xi_re (show M (9, 2 * s + c) 3 = nI (S.2 s 8 c 0) from (fr_c h hs hc).2.1) ?_
  refine lv_goto (tgt := 31) Z.1 Z.2.1 md_FB_leads_27 (by decide) ?_
  exact xw_iret Z hr hlk hw md_FB_leads_31 rfl rfl
set_option maxHeartbeats 4000000 in
theorem k_leads_b1 (l : Launch) (D : va_G) {n : Nat} (ad : Nat × Nat → Nat) (cI cZ cS cA : ClassId) {M : fr_M} {q f : Nat} {S : pz_T} (hn : n ≤ 5) (hI : fr_I n q f S M) {x y : Int32} (hx8 : ¬ x = nI 8) (hx9 : ¬ x = nI 9) : fb_C l D n ad cI cZ cS cA my_FB_leads mb_FB_leads 3 (some .int) 1 20 M [.ref (ad (0, 0)), .int (x), .int (y)] (some (.int (-1))) (fun M' => M' = M) := by
  have h := hI.2
  have I := hI.1
  have h60 := I.1
  refine xw_start [.ref (ad (0, 0)), .int (x), .int (y)] (by decide) (Nat.le_of_ble_eq_true rfl) ?_
  intro p e st m below meth cd0 ls Z hml hr hlk hN hl hw
  have hl : lv_has ls 3 [(0, .ref (ad (0, 0))), (1, .int (x)), (2, .int (y))] := hl
  refine lv_iload_n Z.1 Z.2.1 md_FB_leads_0 rfl (lv_at hl 1 rfl) ?_
  refine xw_cS (n := 1) (rest := []) Z hml hl.1 hN hw (k_isCoordinator0 l D ad cI cZ cS cA (M := M) hx8 hx9) tb_g mc_FB_isCoordinator mk_FB_112 mt_FB_isCoordinator mz_FB ⟨by decide, by decide, by decide +kernel⟩ ⟨Nat.le_of_ble_eq_true rfl, Nat.le_of_ble_eq_true rfl⟩ rfl rfl (Nat.le_of_ble_eq_true rfl) ⟨Nat.le_refl _, Nat.le_refl _⟩ md_FB_leads_1 (fun M1 H1 locs1 e1 hw => ?_)
  have ey1 := e1.symm
  subst ey1
  refine W.eq (g2 := F0 m 4 ls [.int (nI (0))]) rfl ?_
  refine xi_if_eq (tgt := 30) Z md_FB_leads_4 (by decide) (by omega) (fun h4 => ?_) (fun h4 => by exfalso; omega)
  refine lv_iconst (v := -1) Z.1 Z.2.1 md_FB_leads_30 (by decide) ?_
  exact xw_iret Z hr hlk hw md_FB_leads_31 rfl rfl
set_option maxHeartbeats 4000000 in
theorem k_leads_b2 (l : Launch) (D : va_G) {n : Nat} (ad : Nat × Nat → Nat) (cI cZ cS cA : ClassId) {M : fr_M} {q f : Nat} {S : pz_T} (hn : n ≤ 5) (hI : fr_I n q f S M) {c : Nat} (hc : c < 2) {y : Int32} (hy : y < 0 ∨ nI 3 ≤ y) : fb_C l D n ad cI cZ cS cA my_FB_leads mb_FB_leads 3 (some .int) 1 20 M [.ref (ad (0, 0)), .int (nI (8 + c)), .int (y)] (some (.int (-1))) (fun M' => M' = M) := by
  have h := hI.2
  have I := hI.1
  have h60 := I.1
  refine xw_start [.ref (ad (0, 0)), .int (nI (8 + c)), .int (y)] (by decide) (Nat.le_of_ble_eq_true rfl) ?_
  intro p e st m below meth cd0 ls Z hml hr hlk hN hl hw
  have hl : lv_has ls 3 [(0, .ref (ad (0, 0))), (1, .int (nI (8 + c))), (2, .int (y))] := hl
  refine lv_iload_n Z.1 Z.2.1 md_FB_leads_0 rfl (lv_at hl 1 rfl) ?_
  refine xw_cS (n := 1) (rest := []) Z hml hl.1 hN hw (k_isCoordinator1 l D ad cI cZ cS cA (M := M) (show 8 + c = 8 ∨ 8 + c = 9 by omega)) tb_g mc_FB_isCoordinator mk_FB_112 mt_FB_isCoordinator mz_FB ⟨by decide, by decide, by decide +kernel⟩ ⟨Nat.le_of_ble_eq_true rfl, Nat.le_of_ble_eq_true rfl⟩ rfl rfl (Nat.le_of_ble_eq_true rfl) ⟨Nat.le_refl _, Nat.le_refl _⟩ md_FB_leads_1 (fun M1 H1 locs1 e1 hw => ?_)
  have ey1 := e1.symm
  subst ey1
  refine W.eq (g2 := F0 m 4 ls [.int (nI (1))]) rfl ?_
  refine xi_if_eq (tgt := 30) Z md_FB_leads_4 (by decide) (by omega) (fun h4 => by exfalso; omega) (fun h4 => ?_)
  refine lv_iload_n Z.1 Z.2.1 md_FB_leads_7 rfl (lv_at hl 2 rfl) ?_
  refine xw_cS (n := 1) (rest := []) Z hml hl.1 hN hw (k_isSlot0 l D ad cI cZ cS cA (M := M) hy) tb_g mc_FB_isSlot mk_FB_38 mt_FB_isSlot mz_FB ⟨by decide, by decide, by decide +kernel⟩ ⟨Nat.le_of_ble_eq_true rfl, Nat.le_of_ble_eq_true rfl⟩ rfl rfl (Nat.le_of_ble_eq_true rfl) ⟨Nat.le_refl _, Nat.le_refl _⟩ md_FB_leads_8 (fun M2 H2 locs2 e2 hw => ?_)
  have ey2 := e2.symm
  subst ey2
  refine W.eq (g2 := F0 m 11 ls [.int (nI (0))]) rfl ?_
  refine xi_if_eq (tgt := 30) Z md_FB_leads_11 (by decide) (by omega) (fun h11 => ?_) (fun h11 => by exfalso; omega)
  refine lv_iconst (v := -1) Z.1 Z.2.1 md_FB_leads_30 (by decide) ?_
  exact xw_iret Z hr hlk hw md_FB_leads_31 rfl rfl
set_option maxHeartbeats 4000000 in
theorem k_phase (l : Launch) (D : va_G) {n : Nat} (ad : Nat × Nat → Nat) (cI cZ cS cA : ClassId) {M : fr_M} {q f : Nat} {S : pz_T} (hn : n ≤ 5) (hI : fr_I n q f S M) {s c : Nat} (hs : s < 3) (hc : c < 2) : fb_C l D n ad cI cZ cS cA my_FB_phase mb_FB_phase 3 (some .int) 1 21 M [.ref (ad (0, 0)), .int (nI (8 + c)), .int (nI (s))] (some (.int (nI (S.2 s 9 c 0)))) (fun M' => M' = M) := by
  have h := hI.2
  have I := hI.1
  have h60 := I.1
  refine xw_start [.ref (ad (0, 0)), .int (nI (8 + c)), .int (nI (s))] (by decide) (Nat.le_of_ble_eq_true rfl) ?_
  intro p e st m below meth cd0 ls Z hml hr hlk hN hl hw
  have hl : lv_has ls 3 [(0, .ref (ad (0, 0))), (1, .int (nI (8 + c))), (2, .int (nI (s)))] := hl
  refine lv_iload_n Z.1 Z.2.1 md_FB_phase_0 rfl (lv_at hl 1 rfl) ?_
  refine xw_cS (n := 1) (rest := []) Z hml hl.1 hN hw (k_isCoordinator1 l D ad cI cZ cS cA (M := M) (show 8 + c = 8 ∨ 8 + c = 9 by omega)) tb_g mc_FB_isCoordinator mk_FB_112 mt_FB_isCoordinator mz_FB ⟨by decide, by decide, by decide +kernel⟩ ⟨Nat.le_of_ble_eq_true rfl, Nat.le_of_ble_eq_true rfl⟩ rfl rfl (Nat.le_of_ble_eq_true rfl) ⟨Nat.le_refl _, Nat.le_refl _⟩ md_FB_phase_1 (fun M1 H1 locs1 e1 hw => ?_)
  have ey1 := e1.symm
  subst ey1
  refine W.eq (g2 := F0 m 4 ls [.int (nI (1))]) rfl ?_
  refine xi_if_eq (tgt := 30) Z md_FB_phase_4 (by decide) (by omega) (fun h4 => by exfalso; omega) (fun h4 => ?_)
  refine lv_iload_n Z.1 Z.2.1 md_FB_phase_7 rfl (lv_at hl 2 rfl) ?_
  refine xw_cS (n := 1) (rest := []) Z hml hl.1 hN hw (k_isSlot1 l D ad cI cZ cS cA (M := M) hs) tb_g mc_FB_isSlot mk_FB_38 mt_FB_isSlot mz_FB ⟨by decide, by decide, by decide +kernel⟩ ⟨Nat.le_of_ble_eq_true rfl, Nat.le_of_ble_eq_true rfl⟩ rfl rfl (Nat.le_of_ble_eq_true rfl) ⟨Nat.le_refl _, Nat.le_refl _⟩ md_FB_phase_8 (fun M2 H2 locs2 e2 hw => ?_)
  have ey2 := e2.symm
  subst ey2
  refine W.eq (g2 := F0 m 11 ls [.int (nI (1))]) rfl ?_
  refine xi_if_eq (tgt := 30) Z md_FB_phase_11 (by decide) (by omega) (fun h11 => by exfalso; omega) (fun h11 => ?_)
  refine lv_aload_n Z.1 Z.2.1 md_FB_phase_14 rfl (lv_at hl 0 rfl) ?_
  refine xb_get (v := .ref (ad (3, 0))) Z hw (fb_in0 n) (fb_e0 n ad cI cZ cS cA) rfl tb_iFB 2 (by decide) mk_FB_31 rfl rfl md_FB_phase_15 ?_
  refine lv_iload_n Z.1 Z.2.1 md_FB_phase_18 rfl (lv_at hl 2 rfl) ?_
  refine xw_aald (a := ad (7, s)) Z hw (fb_in3 n) (fb_e3 n ad cI cZ cS cA (M (3, 0))) 2 rfl (s) rfl hs (by omega) rfl md_FB_phase_19 ?_
  refine lv_iload_n Z.1 Z.2.1 md_FB_phase_20 rfl (lv_at hl 1 rfl) ?_
  refine xw_cV (n := 1) (rest := []) Z hml hl.1 hN hw (k_coordinator l D ad cI cZ cS cA (M := M) hs hc) tb_g mc_Slt_coordinator mk_FB_63 mi_Slt_coordinator ms_Slt_coordinator mz_Slt ⟨by decide, by decide, by decide +kernel⟩ ⟨Nat.le_of_ble_eq_true rfl, Nat.le_of_ble_eq_true rfl⟩ (fb_in7 n hs) (fb_e7 n ad cI cZ cS cA (s) _) rfl rfl rfl rfl (Nat.le_of_ble_eq_true rfl) ⟨Nat.le_refl _, Nat.le_refl _⟩ md_FB_phase_21 (fun M3 H3 locs3 e3 hw => ?_)
  have ey3 := e3.symm
  subst ey3
  refine W.eq (g2 := F0 m 24 ls [.ref (ad (9, 2 * s + c))]) rfl ?_
  refine xb_get (v := .int (M (9, 2 * s + c) 4)) Z hw (fb_in9 n hs hc) (fb_e9 n ad cI cZ cS cA (2 * s + c)) rfl tb_iCor 4 (by decide) mk_FB_149 rfl rfl md_FB_phase_24 ?_
  refine xi_re (show M (9, 2 * s + c) 4 = nI (S.2 s 9 c 0) from (fr_c h hs hc).2.2.1) ?_
  refine lv_goto (tgt := 31) Z.1 Z.2.1 md_FB_phase_27 (by decide) ?_
  exact xw_iret Z hr hlk hw md_FB_phase_31 rfl rfl
set_option maxHeartbeats 4000000 in
theorem k_phase_b1 (l : Launch) (D : va_G) {n : Nat} (ad : Nat × Nat → Nat) (cI cZ cS cA : ClassId) {M : fr_M} {q f : Nat} {S : pz_T} (hn : n ≤ 5) (hI : fr_I n q f S M) {x y : Int32} (hx8 : ¬ x = nI 8) (hx9 : ¬ x = nI 9) : fb_C l D n ad cI cZ cS cA my_FB_phase mb_FB_phase 3 (some .int) 1 20 M [.ref (ad (0, 0)), .int (x), .int (y)] (some (.int (-1))) (fun M' => M' = M) := by
  have h := hI.2
  have I := hI.1
  have h60 := I.1
  refine xw_start [.ref (ad (0, 0)), .int (x), .int (y)] (by decide) (Nat.le_of_ble_eq_true rfl) ?_
  intro p e st m below meth cd0 ls Z hml hr hlk hN hl hw
  have hl : lv_has ls 3 [(0, .ref (ad (0, 0))), (1, .int (x)), (2, .int (y))] := hl
  refine lv_iload_n Z.1 Z.2.1 md_FB_phase_0 rfl (lv_at hl 1 rfl) ?_
  refine xw_cS (n := 1) (rest := []) Z hml hl.1 hN hw (k_isCoordinator0 l D ad cI cZ cS cA (M := M) hx8 hx9) tb_g mc_FB_isCoordinator mk_FB_112 mt_FB_isCoordinator mz_FB ⟨by decide, by decide, by decide +kernel⟩ ⟨Nat.le_of_ble_eq_true rfl, Nat.le_of_ble_eq_true rfl⟩ rfl rfl (Nat.le_of_ble_eq_true rfl) ⟨Nat.le_refl _, Nat.le_refl _⟩ md_FB_phase_1 (fun M1 H1 locs1 e1 hw => ?_)
  have ey1 := e1.symm
  subst ey1
  refine W.eq (g2 := F0 m 4 ls [.int (nI (0))]) rfl ?_
  refine xi_if_eq (tgt := 30) Z md_FB_phase_4 (by decide) (by omega) (fun h4 => ?_) (fun h4 => by exfalso; omega)
  refine lv_iconst (v := -1) Z.1 Z.2.1 md_FB_phase_30 (by decide) ?_
  exact xw_iret Z hr hlk hw md_FB_phase_31 rfl rfl
set_option maxHeartbeats 4000000 in
theorem k_phase_b2 (l : Launch) (D : va_G) {n : Nat} (ad : Nat × Nat → Nat) (cI cZ cS cA : ClassId) {M : fr_M} {q f : Nat} {S : pz_T} (hn : n ≤ 5) (hI : fr_I n q f S M) {c : Nat} (hc : c < 2) {y : Int32} (hy : y < 0 ∨ nI 3 ≤ y) : fb_C l D n ad cI cZ cS cA my_FB_phase mb_FB_phase 3 (some .int) 1 20 M [.ref (ad (0, 0)), .int (nI (8 + c)), .int (y)] (some (.int (-1))) (fun M' => M' = M) := by
  have h := hI.2
  have I := hI.1
  have h60 := I.1
  refine xw_start [.ref (ad (0, 0)), .int (nI (8 + c)), .int (y)] (by decide) (Nat.le_of_ble_eq_true rfl) ?_
  intro p e st m below meth cd0 ls Z hml hr hlk hN hl hw
  have hl : lv_has ls 3 [(0, .ref (ad (0, 0))), (1, .int (nI (8 + c))), (2, .int (y))] := hl
  refine lv_iload_n Z.1 Z.2.1 md_FB_phase_0 rfl (lv_at hl 1 rfl) ?_
  refine xw_cS (n := 1) (rest := []) Z hml hl.1 hN hw (k_isCoordinator1 l D ad cI cZ cS cA (M := M) (show 8 + c = 8 ∨ 8 + c = 9 by omega)) tb_g mc_FB_isCoordinator mk_FB_112 mt_FB_isCoordinator mz_FB ⟨by decide, by decide, by decide +kernel⟩ ⟨Nat.le_of_ble_eq_true rfl, Nat.le_of_ble_eq_true rfl⟩ rfl rfl (Nat.le_of_ble_eq_true rfl) ⟨Nat.le_refl _, Nat.le_refl _⟩ md_FB_phase_1 (fun M1 H1 locs1 e1 hw => ?_)
  have ey1 := e1.symm
  subst ey1
  refine W.eq (g2 := F0 m 4 ls [.int (nI (1))]) rfl ?_
  refine xi_if_eq (tgt := 30) Z md_FB_phase_4 (by decide) (by omega) (fun h4 => by exfalso; omega) (fun h4 => ?_)
  refine lv_iload_n Z.1 Z.2.1 md_FB_phase_7 rfl (lv_at hl 2 rfl) ?_
  refine xw_cS (n := 1) (rest := []) Z hml hl.1 hN hw (k_isSlot0 l D ad cI cZ cS cA (M := M) hy) tb_g mc_FB_isSlot mk_FB_38 mt_FB_isSlot mz_FB ⟨by decide, by decide, by decide +kernel⟩ ⟨Nat.le_of_ble_eq_true rfl, Nat.le_of_ble_eq_true rfl⟩ rfl rfl (Nat.le_of_ble_eq_true rfl) ⟨Nat.le_refl _, Nat.le_refl _⟩ md_FB_phase_8 (fun M2 H2 locs2 e2 hw => ?_)
  have ey2 := e2.symm
  subst ey2
  refine W.eq (g2 := F0 m 11 ls [.int (nI (0))]) rfl ?_
  refine xi_if_eq (tgt := 30) Z md_FB_phase_11 (by decide) (by omega) (fun h11 => ?_) (fun h11 => by exfalso; omega)
  refine lv_iconst (v := -1) Z.1 Z.2.1 md_FB_phase_30 (by decide) ?_
  exact xw_iret Z hr hlk hw md_FB_phase_31 rfl rfl
set_option maxHeartbeats 4000000 in
theorem k_learned (l : Launch) (D : va_G) {n : Nat} (ad : Nat × Nat → Nat) (cI cZ cS cA : ClassId) {M : fr_M} {q f : Nat} {S : pz_T} (hn : n ≤ 5) (hI : fr_I n q f S M) {s : Nat} (hs : s < 3) : fb_C l D n ad cI cZ cS cA my_FB_learned mb_FB_learned 2 (some .int) 1 20 M [.ref (ad (0, 0)), .int (nI (s))] (some (.int (nI (S.2 s 7 0 0)))) (fun M' => M' = M) := by
  have h := hI.2
  have I := hI.1
  have h60 := I.1
  refine xw_start [.ref (ad (0, 0)), .int (nI (s))] (by decide) (Nat.le_of_ble_eq_true rfl) ?_
  intro p e st m below meth cd0 ls Z hml hr hlk hN hl hw
  have hl : lv_has ls 2 [(0, .ref (ad (0, 0))), (1, .int (nI (s)))] := hl
  refine lv_iload_n Z.1 Z.2.1 md_FB_learned_0 rfl (lv_at hl 1 rfl) ?_
  refine xw_cS (n := 1) (rest := []) Z hml hl.1 hN hw (k_isSlot1 l D ad cI cZ cS cA (M := M) hs) tb_g mc_FB_isSlot mk_FB_38 mt_FB_isSlot mz_FB ⟨by decide, by decide, by decide +kernel⟩ ⟨Nat.le_of_ble_eq_true rfl, Nat.le_of_ble_eq_true rfl⟩ rfl rfl (Nat.le_of_ble_eq_true rfl) ⟨Nat.le_refl _, Nat.le_refl _⟩ md_FB_learned_1 (fun M1 H1 locs1 e1 hw => ?_)
  have ey1 := e1.symm
  subst ey1
  refine W.eq (g2 := F0 m 4 ls [.int (nI (1))]) rfl ?_
  refine xi_if_eq (tgt := 22) Z md_FB_learned_4 (by decide) (by omega) (fun h4 => by exfalso; omega) (fun h4 => ?_)
  refine lv_aload_n Z.1 Z.2.1 md_FB_learned_7 rfl (lv_at hl 0 rfl) ?_
  refine xb_get (v := .ref (ad (3, 0))) Z hw (fb_in0 n) (fb_e0 n ad cI cZ cS cA) rfl tb_iFB 2 (by decide) mk_FB_31 rfl rfl md_FB_learned_8 ?_
  refine lv_iload_n Z.1 Z.2.1 md_FB_learned_11 rfl (lv_at hl 1 rfl) ?_
  refine xw_aald (a := ad (7, s)) Z hw (fb_in3 n) (fb_e3 n ad cI cZ cS cA (M (3, 0))) 2 rfl (s) rfl hs (by omega) rfl md_FB_learned_12 ?_
  refine xb_get (v := .ref (ad (13, 2 * s + 1))) Z hw (fb_in7 n hs) (fb_e7 n ad cI cZ cS cA (s)) rfl tb_iSlt 4 (by decide) mk_FB_94 rfl rfl md_FB_learned_13 ?_
  refine xb_get (v := .int (M (13, 2 * s + 1) 2)) Z hw (fb_in13 n hs (by decide)) (fb_e13 n ad cI cZ cS cA (2 * s + 1)) rfl tb_iTal 2 (by decide) mk_FB_152 rfl rfl md_FB_learned_16 ?_
  refine xi_re (show M (13, 2 * s + 1) 2 = nI (S.2 s 7 0 0) from (fr_s h hs).2) ?_
  refine lv_goto (tgt := 23) Z.1 Z.2.1 md_FB_learned_19 (by decide) ?_
  exact xw_iret Z hr hlk hw md_FB_learned_23 rfl rfl
set_option maxHeartbeats 4000000 in
theorem k_learned_b (l : Launch) (D : va_G) {n : Nat} (ad : Nat × Nat → Nat) (cI cZ cS cA : ClassId) {M : fr_M} {q f : Nat} {S : pz_T} (hn : n ≤ 5) (hI : fr_I n q f S M) {x : Int32} (hx : x < 0 ∨ nI 3 ≤ x) : fb_C l D n ad cI cZ cS cA my_FB_learned mb_FB_learned 2 (some .int) 1 20 M [.ref (ad (0, 0)), .int (x)] (some (.int (-1))) (fun M' => M' = M) := by
  have h := hI.2
  have I := hI.1
  have h60 := I.1
  refine xw_start [.ref (ad (0, 0)), .int (x)] (by decide) (Nat.le_of_ble_eq_true rfl) ?_
  intro p e st m below meth cd0 ls Z hml hr hlk hN hl hw
  have hl : lv_has ls 2 [(0, .ref (ad (0, 0))), (1, .int (x))] := hl
  refine lv_iload_n Z.1 Z.2.1 md_FB_learned_0 rfl (lv_at hl 1 rfl) ?_
  refine xw_cS (n := 1) (rest := []) Z hml hl.1 hN hw (k_isSlot0 l D ad cI cZ cS cA (M := M) hx) tb_g mc_FB_isSlot mk_FB_38 mt_FB_isSlot mz_FB ⟨by decide, by decide, by decide +kernel⟩ ⟨Nat.le_of_ble_eq_true rfl, Nat.le_of_ble_eq_true rfl⟩ rfl rfl (Nat.le_of_ble_eq_true rfl) ⟨Nat.le_refl _, Nat.le_refl _⟩ md_FB_learned_1 (fun M1 H1 locs1 e1 hw => ?_)
  have ey1 := e1.symm
  subst ey1
  refine W.eq (g2 := F0 m 4 ls [.int (nI (0))]) rfl ?_
  refine xi_if_eq (tgt := 22) Z md_FB_learned_4 (by decide) (by omega) (fun h4 => ?_) (fun h4 => by exfalso; omega)
  refine lv_iconst (v := -1) Z.1 Z.2.1 md_FB_learned_22 (by decide) ?_
  exact xw_iret Z hr hlk hw md_FB_learned_23 rfl rfl
set_option maxHeartbeats 4000000 in
theorem k_chosen (l : Launch) (D : va_G) {n : Nat} (ad : Nat × Nat → Nat) (cI cZ cS cA : ClassId) {M : fr_M} {q f : Nat} {S : pz_T} (hn : n ≤ 5) (hI : fr_I n q f S M) {s : Nat} (hs : s < 3) : fb_C l D n ad cI cZ cS cA my_FB_chosen mb_FB_chosen 2 (some .int) 1 20 M [.ref (ad (0, 0)), .int (nI (s))] (some (.int (nI (S.2 s 16 0 0)))) (fun M' => M' = M) := by
  have h := hI.2
  have I := hI.1
  have h60 := I.1
  refine xw_start [.ref (ad (0, 0)), .int (nI (s))] (by decide) (Nat.le_of_ble_eq_true rfl) ?_
  intro p e st m below meth cd0 ls Z hml hr hlk hN hl hw
  have hl : lv_has ls 2 [(0, .ref (ad (0, 0))), (1, .int (nI (s)))] := hl
  refine lv_iload_n Z.1 Z.2.1 md_FB_chosen_0 rfl (lv_at hl 1 rfl) ?_
  refine xw_cS (n := 1) (rest := []) Z hml hl.1 hN hw (k_isSlot1 l D ad cI cZ cS cA (M := M) hs) tb_g mc_FB_isSlot mk_FB_38 mt_FB_isSlot mz_FB ⟨by decide, by decide, by decide +kernel⟩ ⟨Nat.le_of_ble_eq_true rfl, Nat.le_of_ble_eq_true rfl⟩ rfl rfl (Nat.le_of_ble_eq_true rfl) ⟨Nat.le_refl _, Nat.le_refl _⟩ md_FB_chosen_1 (fun M1 H1 locs1 e1 hw => ?_)
  have ey1 := e1.symm
  subst ey1
  refine W.eq (g2 := F0 m 4 ls [.int (nI (1))]) rfl ?_
  refine xi_if_eq (tgt := 22) Z md_FB_chosen_4 (by decide) (by omega) (fun h4 => by exfalso; omega) (fun h4 => ?_)
  refine lv_aload_n Z.1 Z.2.1 md_FB_chosen_7 rfl (lv_at hl 0 rfl) ?_
  refine xb_get (v := .ref (ad (3, 0))) Z hw (fb_in0 n) (fb_e0 n ad cI cZ cS cA) rfl tb_iFB 2 (by decide) mk_FB_31 rfl rfl md_FB_chosen_8 ?_
  refine lv_iload_n Z.1 Z.2.1 md_FB_chosen_11 rfl (lv_at hl 1 rfl) ?_
  refine xw_aald (a := ad (7, s)) Z hw (fb_in3 n) (fb_e3 n ad cI cZ cS cA (M (3, 0))) 2 rfl (s) rfl hs (by omega) rfl md_FB_chosen_12 ?_
  refine xb_get (v := .ref (ad (13, 2 * s + 0))) Z hw (fb_in7 n hs) (fb_e7 n ad cI cZ cS cA (s)) rfl tb_iSlt 3 (by decide) mk_FB_155 rfl rfl md_FB_chosen_13 ?_
  refine xb_get (v := .int (M (13, 2 * s + 0) 2)) Z hw (fb_in13 n hs (by decide)) (fb_e13 n ad cI cZ cS cA (2 * s + 0)) rfl tb_iTal 2 (by decide) mk_FB_152 rfl rfl md_FB_chosen_16 ?_
  refine xi_re (show M (13, 2 * s + 0) 2 = nI (S.2 s 16 0 0) from (fr_s h hs).1) ?_
  refine lv_goto (tgt := 23) Z.1 Z.2.1 md_FB_chosen_19 (by decide) ?_
  exact xw_iret Z hr hlk hw md_FB_chosen_23 rfl rfl
set_option maxHeartbeats 4000000 in
theorem k_chosen_b (l : Launch) (D : va_G) {n : Nat} (ad : Nat × Nat → Nat) (cI cZ cS cA : ClassId) {M : fr_M} {q f : Nat} {S : pz_T} (hn : n ≤ 5) (hI : fr_I n q f S M) {x : Int32} (hx : x < 0 ∨ nI 3 ≤ x) : fb_C l D n ad cI cZ cS cA my_FB_chosen mb_FB_chosen 2 (some .int) 1 20 M [.ref (ad (0, 0)), .int (x)] (some (.int (-1))) (fun M' => M' = M) := by
  have h := hI.2
  have I := hI.1
  have h60 := I.1
  refine xw_start [.ref (ad (0, 0)), .int (x)] (by decide) (Nat.le_of_ble_eq_true rfl) ?_
  intro p e st m below meth cd0 ls Z hml hr hlk hN hl hw
  have hl : lv_has ls 2 [(0, .ref (ad (0, 0))), (1, .int (x))] := hl
  refine lv_iload_n Z.1 Z.2.1 md_FB_chosen_0 rfl (lv_at hl 1 rfl) ?_
  refine xw_cS (n := 1) (rest := []) Z hml hl.1 hN hw (k_isSlot0 l D ad cI cZ cS cA (M := M) hx) tb_g mc_FB_isSlot mk_FB_38 mt_FB_isSlot mz_FB ⟨by decide, by decide, by decide +kernel⟩ ⟨Nat.le_of_ble_eq_true rfl, Nat.le_of_ble_eq_true rfl⟩ rfl rfl (Nat.le_of_ble_eq_true rfl) ⟨Nat.le_refl _, Nat.le_refl _⟩ md_FB_chosen_1 (fun M1 H1 locs1 e1 hw => ?_)
  have ey1 := e1.symm
  subst ey1
  refine W.eq (g2 := F0 m 4 ls [.int (nI (0))]) rfl ?_
  refine xi_if_eq (tgt := 22) Z md_FB_chosen_4 (by decide) (by omega) (fun h4 => ?_) (fun h4 => by exfalso; omega)
  refine lv_iconst (v := -1) Z.1 Z.2.1 md_FB_chosen_22 (by decide) ?_
  exact xw_iret Z hr hlk hw md_FB_chosen_23 rfl rfl
set_option maxHeartbeats 4000000 in
theorem k_votes (l : Launch) (D : va_G) {n : Nat} (ad : Nat × Nat → Nat) (cI cZ cS cA : ClassId) {M : fr_M} {q f : Nat} {S : pz_T} (hn : n ≤ 5) (hI : fr_I n q f S M) {s r v : Nat} (hs : s < 3) (hr1 : 1 ≤ r) (hr12 : r ≤ 12) (hv1 : 1 ≤ v) (hv2 : v ≤ 1000) (iV : ∀ a, a < n → S.2 s 5 r a < 2 ^ 31) : fb_C l D n ad cI cZ cS cA my_FB_votes mb_FB_votes 4 (some .int) 1 25 M [.ref (ad (0, 0)), .int (nI (s)), .int (nI (r)), .int (nI (v))] (some (.int (nI (pz_cv (S.2 s) n r v)))) (fun M' => M' = M) := by
  have h := hI.2
  have I := hI.1
  have h60 := I.1
  refine xw_start [.ref (ad (0, 0)), .int (nI (s)), .int (nI (r)), .int (nI (v))] (by decide) (Nat.le_of_ble_eq_true rfl) ?_
  intro p e st m below meth cd0 ls Z hml hr hlk hN hl hw
  have hl : lv_has ls 4 [(0, .ref (ad (0, 0))), (1, .int (nI (s))), (2, .int (nI (r))), (3, .int (nI (v)))] := hl
  refine lv_iload_n Z.1 Z.2.1 md_FB_votes_0 rfl (lv_at hl 1 rfl) ?_
  refine xw_cS (n := 1) (rest := []) Z hml hl.1 hN hw (k_isSlot1 l D ad cI cZ cS cA (M := M) hs) tb_g mc_FB_isSlot mk_FB_38 mt_FB_isSlot mz_FB ⟨by decide, by decide, by decide +kernel⟩ ⟨Nat.le_of_ble_eq_true rfl, Nat.le_of_ble_eq_true rfl⟩ rfl rfl (Nat.le_of_ble_eq_true rfl) ⟨Nat.le_refl _, Nat.le_refl _⟩ md_FB_votes_1 (fun M1 H1 locs1 e1 hw => ?_)
  have ey1 := e1.symm
  subst ey1
  refine W.eq (g2 := F0 m 4 ls [.int (nI (1))]) rfl ?_
  refine xi_if_eq (tgt := 21) Z md_FB_votes_4 (by decide) (by omega) (fun h4 => by exfalso; omega) (fun h4 => ?_)
  refine lv_iload_n Z.1 Z.2.1 md_FB_votes_7 rfl (lv_at hl 2 rfl) ?_
  refine xw_cS (n := 1) (rest := []) Z hml hl.1 hN hw (k_isRound1 l D ad cI cZ cS cA (M := M) hr1 hr12) tb_g mc_FB_isRound mk_FB_56 mt_FB_isRound mz_FB ⟨by decide, by decide, by decide +kernel⟩ ⟨Nat.le_of_ble_eq_true rfl, Nat.le_of_ble_eq_true rfl⟩ rfl rfl (Nat.le_of_ble_eq_true rfl) ⟨Nat.le_refl _, Nat.le_refl _⟩ md_FB_votes_8 (fun M2 H2 locs2 e2 hw => ?_)
  have ey2 := e2.symm
  subst ey2
  refine W.eq (g2 := F0 m 11 ls [.int (nI (1))]) rfl ?_
  refine xi_if_eq (tgt := 21) Z md_FB_votes_11 (by decide) (by omega) (fun h11 => by exfalso; omega) (fun h11 => ?_)
  refine lv_iload_n Z.1 Z.2.1 md_FB_votes_14 rfl (lv_at hl 3 rfl) ?_
  refine xw_cS (n := 1) (rest := []) Z hml hl.1 hN hw (k_isValue1 l D ad cI cZ cS cA (M := M) hv1 hv2) tb_g mc_FB_isValue mk_FB_42 mt_FB_isValue mz_FB ⟨by decide, by decide, by decide +kernel⟩ ⟨Nat.le_of_ble_eq_true rfl, Nat.le_of_ble_eq_true rfl⟩ rfl rfl (Nat.le_of_ble_eq_true rfl) ⟨Nat.le_refl _, Nat.le_refl _⟩ md_FB_votes_15 (fun M3 H3 locs3 e3 hw => ?_)
  have ey3 := e3.symm
  subst ey3
  refine W.eq (g2 := F0 m 18 ls [.int (nI (1))]) rfl ?_
  refine xi_if_ne (tgt := 23) Z md_FB_votes_18 (by decide) (by omega) (fun h18 => ?_) (fun h18 => by exfalso; omega)
  refine lv_aload_n Z.1 Z.2.1 md_FB_votes_23 rfl (lv_at hl 0 rfl) ?_
  refine xb_get (v := .ref (ad (3, 0))) Z hw (fb_in0 n) (fb_e0 n ad cI cZ cS cA) rfl tb_iFB 2 (by decide) mk_FB_31 rfl rfl md_FB_votes_24 ?_
  refine lv_iload_n Z.1 Z.2.1 md_FB_votes_27 rfl (lv_at hl 1 rfl) ?_
  refine xw_aald (a := ad (7, s)) Z hw (fb_in3 n) (fb_e3 n ad cI cZ cS cA (M (3, 0))) 2 rfl (s) rfl hs (by omega) rfl md_FB_votes_28 ?_
  refine xb_get (v := .ref (ad (13, 2 * s + 0))) Z hw (fb_in7 n hs) (fb_e7 n ad cI cZ cS cA (s)) rfl tb_iSlt 3 (by decide) mk_FB_155 rfl rfl md_FB_votes_29 ?_
  refine lv_iload_n Z.1 Z.2.1 md_FB_votes_32 rfl (lv_at hl 2 rfl) ?_
  refine lv_iload_n Z.1 Z.2.1 md_FB_votes_33 rfl (lv_at hl 3 rfl) ?_
  refine xw_cV (n := 2) (rest := []) Z hml hl.1 hN hw (k_tally0 l D ad cI cZ cS cA hn h hs hr12 (by omega) iV) tb_g mc_Tal_tally mk_FB_158 mi_Tal_tally ms_Tal_tally mz_Tal ⟨by decide, by decide, by decide +kernel⟩ ⟨Nat.le_of_ble_eq_true rfl, Nat.le_of_ble_eq_true rfl⟩ (fb_in13 n hs (by decide)) (fb_e13 n ad cI cZ cS cA (2 * s + 0) _) rfl rfl rfl rfl (Nat.le_of_ble_eq_true rfl) ⟨Nat.le_refl _, Nat.le_refl _⟩ md_FB_votes_34 (fun M4 H4 locs4 e4 hw => ?_)
  have ey4 := e4.symm
  subst ey4
  refine W.eq (g2 := F0 m 37 ls [.int (nI (pz_cv (S.2 s) n r v))]) rfl ?_
  exact xw_iret Z hr hlk hw md_FB_votes_37 rfl rfl
set_option maxHeartbeats 4000000 in
theorem k_votes_b1 (l : Launch) (D : va_G) {n : Nat} (ad : Nat × Nat → Nat) (cI cZ cS cA : ClassId) {M : fr_M} {q f : Nat} {S : pz_T} (hn : n ≤ 5) (hI : fr_I n q f S M) {x : Int32} (hx : x < 0 ∨ nI 3 ≤ x) {y z : Int32} : fb_C l D n ad cI cZ cS cA my_FB_votes mb_FB_votes 4 (some .int) 1 20 M [.ref (ad (0, 0)), .int (x), .int (y), .int (z)] (some (.int (-1))) (fun M' => M' = M) := by
  have h := hI.2
  have I := hI.1
  have h60 := I.1
  refine xw_start [.ref (ad (0, 0)), .int (x), .int (y), .int (z)] (by decide) (Nat.le_of_ble_eq_true rfl) ?_
  intro p e st m below meth cd0 ls Z hml hr hlk hN hl hw
  have hl : lv_has ls 4 [(0, .ref (ad (0, 0))), (1, .int (x)), (2, .int (y)), (3, .int (z))] := hl
  refine lv_iload_n Z.1 Z.2.1 md_FB_votes_0 rfl (lv_at hl 1 rfl) ?_
  refine xw_cS (n := 1) (rest := []) Z hml hl.1 hN hw (k_isSlot0 l D ad cI cZ cS cA (M := M) hx) tb_g mc_FB_isSlot mk_FB_38 mt_FB_isSlot mz_FB ⟨by decide, by decide, by decide +kernel⟩ ⟨Nat.le_of_ble_eq_true rfl, Nat.le_of_ble_eq_true rfl⟩ rfl rfl (Nat.le_of_ble_eq_true rfl) ⟨Nat.le_refl _, Nat.le_refl _⟩ md_FB_votes_1 (fun M1 H1 locs1 e1 hw => ?_)
  have ey1 := e1.symm
  subst ey1
  refine W.eq (g2 := F0 m 4 ls [.int (nI (0))]) rfl ?_
  refine xi_if_eq (tgt := 21) Z md_FB_votes_4 (by decide) (by omega) (fun h4 => ?_) (fun h4 => by exfalso; omega)
  refine lv_iconst (v := -1) Z.1 Z.2.1 md_FB_votes_21 (by decide) ?_
  exact xw_iret Z hr hlk hw md_FB_votes_22 rfl rfl
set_option maxHeartbeats 4000000 in
theorem k_votes_b2 (l : Launch) (D : va_G) {n : Nat} (ad : Nat × Nat → Nat) (cI cZ cS cA : ClassId) {M : fr_M} {q f : Nat} {S : pz_T} (hn : n ≤ 5) (hI : fr_I n q f S M) {s : Nat} (hs : s < 3) {y z : Int32} (hy : y < nI 1 ∨ nI 12 < y) : fb_C l D n ad cI cZ cS cA my_FB_votes mb_FB_votes 4 (some .int) 1 20 M [.ref (ad (0, 0)), .int (nI (s)), .int (y), .int (z)] (some (.int (-1))) (fun M' => M' = M) := by
  have h := hI.2
  have I := hI.1
  have h60 := I.1
  refine xw_start [.ref (ad (0, 0)), .int (nI (s)), .int (y), .int (z)] (by decide) (Nat.le_of_ble_eq_true rfl) ?_
  intro p e st m below meth cd0 ls Z hml hr hlk hN hl hw
  have hl : lv_has ls 4 [(0, .ref (ad (0, 0))), (1, .int (nI (s))), (2, .int (y)), (3, .int (z))] := hl
  refine lv_iload_n Z.1 Z.2.1 md_FB_votes_0 rfl (lv_at hl 1 rfl) ?_
  refine xw_cS (n := 1) (rest := []) Z hml hl.1 hN hw (k_isSlot1 l D ad cI cZ cS cA (M := M) hs) tb_g mc_FB_isSlot mk_FB_38 mt_FB_isSlot mz_FB ⟨by decide, by decide, by decide +kernel⟩ ⟨Nat.le_of_ble_eq_true rfl, Nat.le_of_ble_eq_true rfl⟩ rfl rfl (Nat.le_of_ble_eq_true rfl) ⟨Nat.le_refl _, Nat.le_refl _⟩ md_FB_votes_1 (fun M1 H1 locs1 e1 hw => ?_)
  have ey1 := e1.symm
  subst ey1
  refine W.eq (g2 := F0 m 4 ls [.int (nI (1))]) rfl ?_
  refine xi_if_eq (tgt := 21) Z md_FB_votes_4 (by decide) (by omega) (fun h4 => by exfalso; omega) (fun h4 => ?_)
  refine lv_iload_n Z.1 Z.2.1 md_FB_votes_7 rfl (lv_at hl 2 rfl) ?_
  refine xw_cS (n := 1) (rest := []) Z hml hl.1 hN hw (k_isRound0 l D ad cI cZ cS cA (M := M) hy) tb_g mc_FB_isRound mk_FB_56 mt_FB_isRound mz_FB ⟨by decide, by decide, by decide +kernel⟩ ⟨Nat.le_of_ble_eq_true rfl, Nat.le_of_ble_eq_true rfl⟩ rfl rfl (Nat.le_of_ble_eq_true rfl) ⟨Nat.le_refl _, Nat.le_refl _⟩ md_FB_votes_8 (fun M2 H2 locs2 e2 hw => ?_)
  have ey2 := e2.symm
  subst ey2
  refine W.eq (g2 := F0 m 11 ls [.int (nI (0))]) rfl ?_
  refine xi_if_eq (tgt := 21) Z md_FB_votes_11 (by decide) (by omega) (fun h11 => ?_) (fun h11 => by exfalso; omega)
  refine lv_iconst (v := -1) Z.1 Z.2.1 md_FB_votes_21 (by decide) ?_
  exact xw_iret Z hr hlk hw md_FB_votes_22 rfl rfl
set_option maxHeartbeats 4000000 in
theorem k_votes_b3 (l : Launch) (D : va_G) {n : Nat} (ad : Nat × Nat → Nat) (cI cZ cS cA : ClassId) {M : fr_M} {q f : Nat} {S : pz_T} (hn : n ≤ 5) (hI : fr_I n q f S M) {s r : Nat} (hs : s < 3) (hr1 : 1 ≤ r) (hr12 : r ≤ 12) {z : Int32} (hz : z < nI 1 ∨ nI 1000 < z) : fb_C l D n ad cI cZ cS cA my_FB_votes mb_FB_votes 4 (some .int) 1 20 M [.ref (ad (0, 0)), .int (nI (s)), .int (nI (r)), .int (z)] (some (.int (-1))) (fun M' => M' = M) := by
  have h := hI.2
  have I := hI.1
  have h60 := I.1
  refine xw_start [.ref (ad (0, 0)), .int (nI (s)), .int (nI (r)), .int (z)] (by decide) (Nat.le_of_ble_eq_true rfl) ?_
  intro p e st m below meth cd0 ls Z hml hr hlk hN hl hw
  have hl : lv_has ls 4 [(0, .ref (ad (0, 0))), (1, .int (nI (s))), (2, .int (nI (r))), (3, .int (z))] := hl
  refine lv_iload_n Z.1 Z.2.1 md_FB_votes_0 rfl (lv_at hl 1 rfl) ?_
  refine xw_cS (n := 1) (rest := []) Z hml hl.1 hN hw (k_isSlot1 l D ad cI cZ cS cA (M := M) hs) tb_g mc_FB_isSlot mk_FB_38 mt_FB_isSlot mz_FB ⟨by decide, by decide, by decide +kernel⟩ ⟨Nat.le_of_ble_eq_true rfl, Nat.le_of_ble_eq_true rfl⟩ rfl rfl (Nat.le_of_ble_eq_true rfl) ⟨Nat.le_refl _, Nat.le_refl _⟩ md_FB_votes_1 (fun M1 H1 locs1 e1 hw => ?_)
  have ey1 := e1.symm
  subst ey1
  refine W.eq (g2 := F0 m 4 ls [.int (nI (1))]) rfl ?_
  refine xi_if_eq (tgt := 21) Z md_FB_votes_4 (by decide) (by omega) (fun h4 => by exfalso; omega) (fun h4 => ?_)
  refine lv_iload_n Z.1 Z.2.1 md_FB_votes_7 rfl (lv_at hl 2 rfl) ?_
  refine xw_cS (n := 1) (rest := []) Z hml hl.1 hN hw (k_isRound1 l D ad cI cZ cS cA (M := M) hr1 hr12) tb_g mc_FB_isRound mk_FB_56 mt_FB_isRound mz_FB ⟨by decide, by decide, by decide +kernel⟩ ⟨Nat.le_of_ble_eq_true rfl, Nat.le_of_ble_eq_true rfl⟩ rfl rfl (Nat.le_of_ble_eq_true rfl) ⟨Nat.le_refl _, Nat.le_refl _⟩ md_FB_votes_8 (fun M2 H2 locs2 e2 hw => ?_)
  have ey2 := e2.symm
  subst ey2
  refine W.eq (g2 := F0 m 11 ls [.int (nI (1))]) rfl ?_
  refine xi_if_eq (tgt := 21) Z md_FB_votes_11 (by decide) (by omega) (fun h11 => by exfalso; omega) (fun h11 => ?_)
  refine lv_iload_n Z.1 Z.2.1 md_FB_votes_14 rfl (lv_at hl 3 rfl) ?_
  refine xw_cS (n := 1) (rest := []) Z hml hl.1 hN hw (k_isValue0 l D ad cI cZ cS cA (M := M) hz) tb_g mc_FB_isValue mk_FB_42 mt_FB_isValue mz_FB ⟨by decide, by decide, by decide +kernel⟩ ⟨Nat.le_of_ble_eq_true rfl, Nat.le_of_ble_eq_true rfl⟩ rfl rfl (Nat.le_of_ble_eq_true rfl) ⟨Nat.le_refl _, Nat.le_refl _⟩ md_FB_votes_15 (fun M3 H3 locs3 e3 hw => ?_)
  have ey3 := e3.symm
  subst ey3
  refine W.eq (g2 := F0 m 18 ls [.int (nI (0))]) rfl ?_
  refine xi_if_ne (tgt := 23) Z md_FB_votes_18 (by decide) (by omega) (fun h18 => by exfalso; omega) (fun h18 => ?_)
  refine lv_iconst (v := -1) Z.1 Z.2.1 md_FB_votes_21 (by decide) ?_
  exact xw_iret Z hr hlk hw md_FB_votes_22 rfl rfl
set_option maxHeartbeats 4000000 in
theorem k_size0 (l : Launch) (D : va_G) {n : Nat} (ad : Nat × Nat → Nat) (cI cZ cS cA : ClassId) {M : fr_M} {q f : Nat} {S : pz_T} (hn : n ≤ 5) (hI : fr_I n q f S M) : fb_C l D n ad cI cZ cS cA my_FB_size mb_FB_size 2 (some .int) 0 0 M [.ref (ad (0, 0)), .int (nI (0))] (some (.int (nI n))) (fun M' => M' = M) := by
  have h := hI.2
  have I := hI.1
  have h60 := I.1
  refine xw_start [.ref (ad (0, 0)), .int (nI (0))] (by decide) (Nat.le_of_ble_eq_true rfl) ?_
  intro p e st m below meth cd0 ls Z hml hr hlk hN hl hw
  have hl : lv_has ls 2 [(0, .ref (ad (0, 0))), (1, .int (nI (0)))] := hl
  refine lv_iload_n Z.1 Z.2.1 md_FB_size_0 rfl (lv_at hl 1 rfl) ?_
  refine lv_tableIn (tgt := 28) Z.1 Z.2.1 md_FB_size_1 (by decide) (by decide) rfl (by decide) ?_
  refine lv_aload_n Z.1 Z.2.1 md_FB_size_28 rfl (lv_at hl 0 rfl) ?_
  refine xb_get (v := .ref (ad (1, 0))) Z hw (fb_in0 n) (fb_e0 n ad cI cZ cS cA) rfl tb_iFB 0 (by decide) mk_FB_12 rfl rfl md_FB_size_29 ?_
  refine xb_get (v := .int (M (1, 0) 0)) Z hw (fb_in1 n) (fb_e1 n ad cI cZ cS cA) rfl tb_iSiz 0 (by decide) mk_FB_45 rfl rfl md_FB_size_32 ?_
  refine xi_re (show M (1, 0) 0 = nI (n) from h.1.1) ?_
  exact xw_iret Z hr hlk hw md_FB_size_35 rfl rfl
set_option maxHeartbeats 4000000 in
theorem k_size1 (l : Launch) (D : va_G) {n : Nat} (ad : Nat × Nat → Nat) (cI cZ cS cA : ClassId) {M : fr_M} {q f : Nat} {S : pz_T} (hn : n ≤ 5) (hI : fr_I n q f S M) : fb_C l D n ad cI cZ cS cA my_FB_size mb_FB_size 2 (some .int) 0 0 M [.ref (ad (0, 0)), .int (nI (1))] (some (.int (nI q))) (fun M' => M' = M) := by
  have h := hI.2
  have I := hI.1
  have h60 := I.1
  refine xw_start [.ref (ad (0, 0)), .int (nI (1))] (by decide) (Nat.le_of_ble_eq_true rfl) ?_
  intro p e st m below meth cd0 ls Z hml hr hlk hN hl hw
  have hl : lv_has ls 2 [(0, .ref (ad (0, 0))), (1, .int (nI (1)))] := hl
  refine lv_iload_n Z.1 Z.2.1 md_FB_size_0 rfl (lv_at hl 1 rfl) ?_
  refine lv_tableIn (tgt := 36) Z.1 Z.2.1 md_FB_size_1 (by decide) (by decide) rfl (by decide) ?_
  refine lv_aload_n Z.1 Z.2.1 md_FB_size_36 rfl (lv_at hl 0 rfl) ?_
  refine xb_get (v := .ref (ad (1, 0))) Z hw (fb_in0 n) (fb_e0 n ad cI cZ cS cA) rfl tb_iFB 0 (by decide) mk_FB_12 rfl rfl md_FB_size_37 ?_
  refine xb_get (v := .int (M (1, 0) 1)) Z hw (fb_in1 n) (fb_e1 n ad cI cZ cS cA) rfl tb_iSiz 1 (by decide) mk_FB_162 rfl rfl md_FB_size_40 ?_
  refine xi_re (show M (1, 0) 1 = nI (q) from h.1.2.1) ?_
  exact xw_iret Z hr hlk hw md_FB_size_43 rfl rfl
set_option maxHeartbeats 4000000 in
theorem k_size2 (l : Launch) (D : va_G) {n : Nat} (ad : Nat × Nat → Nat) (cI cZ cS cA : ClassId) {M : fr_M} {q f : Nat} {S : pz_T} (hn : n ≤ 5) (hI : fr_I n q f S M) : fb_C l D n ad cI cZ cS cA my_FB_size mb_FB_size 2 (some .int) 0 0 M [.ref (ad (0, 0)), .int (nI (2))] (some (.int (nI f))) (fun M' => M' = M) := by
  have h := hI.2
  have I := hI.1
  have h60 := I.1
  refine xw_start [.ref (ad (0, 0)), .int (nI (2))] (by decide) (Nat.le_of_ble_eq_true rfl) ?_
  intro p e st m below meth cd0 ls Z hml hr hlk hN hl hw
  have hl : lv_has ls 2 [(0, .ref (ad (0, 0))), (1, .int (nI (2)))] := hl
  refine lv_iload_n Z.1 Z.2.1 md_FB_size_0 rfl (lv_at hl 1 rfl) ?_
  refine lv_tableIn (tgt := 44) Z.1 Z.2.1 md_FB_size_1 (by decide) (by decide) rfl (by decide) ?_
  refine lv_aload_n Z.1 Z.2.1 md_FB_size_44 rfl (lv_at hl 0 rfl) ?_
  refine xb_get (v := .ref (ad (1, 0))) Z hw (fb_in0 n) (fb_e0 n ad cI cZ cS cA) rfl tb_iFB 0 (by decide) mk_FB_12 rfl rfl md_FB_size_45 ?_
  refine xb_get (v := .int (M (1, 0) 2)) Z hw (fb_in1 n) (fb_e1 n ad cI cZ cS cA) rfl tb_iSiz 2 (by decide) mk_FB_165 rfl rfl md_FB_size_48 ?_
  refine xi_re (show M (1, 0) 2 = nI (f) from h.1.2.2) ?_
  exact xw_iret Z hr hlk hw md_FB_size_51 rfl rfl
set_option maxHeartbeats 4000000 in
theorem k_size_b (l : Launch) (D : va_G) {n : Nat} (ad : Nat × Nat → Nat) (cI cZ cS cA : ClassId) {M : fr_M} {q f : Nat} {S : pz_T} (hn : n ≤ 5) (hI : fr_I n q f S M) {x : Int32} (hx : x.toInt < 0 ∨ 2 < x.toInt) : fb_C l D n ad cI cZ cS cA my_FB_size mb_FB_size 2 (some .int) 0 0 M [.ref (ad (0, 0)), .int (x)] (some (.int (-1))) (fun M' => M' = M) := by
  have h := hI.2
  have I := hI.1
  have h60 := I.1
  refine xw_start [.ref (ad (0, 0)), .int (x)] (by decide) (Nat.le_of_ble_eq_true rfl) ?_
  intro p e st m below meth cd0 ls Z hml hr hlk hN hl hw
  have hl : lv_has ls 2 [(0, .ref (ad (0, 0))), (1, .int (x))] := hl
  refine lv_iload_n Z.1 Z.2.1 md_FB_size_0 rfl (lv_at hl 1 rfl) ?_
  refine lv_tableOut (tgt := 52) Z.1 Z.2.1 md_FB_size_1 hx (by decide) ?_
  refine lv_iconst (v := -1) Z.1 Z.2.1 md_FB_size_52 (by decide) ?_
  exact xw_iret Z hr hlk hw md_FB_size_53 rfl rfl
set_option maxHeartbeats 4000000 in
theorem k_drop (l : Launch) (D : va_G) {n : Nat} (ad : Nat × Nat → Nat) (cI cZ cS cA : ClassId) {M : fr_M} {q f : Nat} {S : pz_T} (hn : n ≤ 5) (hI : fr_I n q f S M) {j : Nat} (hj : j < S.1.length) : fb_C l D n ad cI cZ cS cA my_FB_drop mb_FB_drop 2 (some .boolean) 2 40 M [.ref (ad (0, 0)), .int (nI (j))] (some (.int (nI 1))) (fr_I n q f (pz_rm S j)) := by
  have h := hI.2
  have I := hI.1
  have h60 := I.1
  refine xw_start [.ref (ad (0, 0)), .int (nI (j))] (by decide) (Nat.le_of_ble_eq_true rfl) ?_
  intro p e st m below meth cd0 ls Z hml hr hlk hN hl hw
  have hl : lv_has ls 2 [(0, .ref (ad (0, 0))), (1, .int (nI (j)))] := hl
  refine lv_aload_n Z.1 Z.2.1 md_FB_drop_0 rfl (lv_at hl 0 rfl) ?_
  refine xb_get (v := .ref (ad (2, 0))) Z hw (fb_in0 n) (fb_e0 n ad cI cZ cS cA) rfl tb_iFB 1 (by decide) mk_FB_21 rfl rfl md_FB_drop_1 ?_
  refine lv_iload_n Z.1 Z.2.1 md_FB_drop_4 rfl (lv_at hl 1 rfl) ?_
  refine xw_cV (n := 1) (rest := []) Z hml hl.1 hN hw (k_has1 l D ad cI cZ cS cA (M := M) h.2.1 h60 hj) tb_g mc_Mail_has mk_FB_76 mi_Mail_has ms_Mail_has mz_Mail ⟨by decide, by decide, by decide +kernel⟩ ⟨Nat.le_of_ble_eq_true rfl, Nat.le_of_ble_eq_true rfl⟩ (fb_in2 n) (fb_e2 n ad cI cZ cS cA _) rfl rfl rfl rfl (Nat.le_of_ble_eq_true rfl) ⟨Nat.le_refl _, Nat.le_refl _⟩ md_FB_drop_5 (fun M1 H1 locs1 e1 hw => ?_)
  have ey1 := e1.symm
  subst ey1
  refine W.eq (g2 := F0 m 8 ls [.int (nI (1))]) rfl ?_
  refine xi_if_ne (tgt := 13) Z md_FB_drop_8 (by decide) (by omega) (fun h8 => ?_) (fun h8 => by exfalso; omega)
  refine lv_aload_n Z.1 Z.2.1 md_FB_drop_13 rfl (lv_at hl 0 rfl) ?_
  refine xb_get (v := .ref (ad (2, 0))) Z hw (fb_in0 n) (fb_e0 n ad cI cZ cS cA) rfl tb_iFB 1 (by decide) mk_FB_21 rfl rfl md_FB_drop_14 ?_
  refine lv_iload_n Z.1 Z.2.1 md_FB_drop_17 rfl (lv_at hl 1 rfl) ?_
  refine xw_cV (n := 1) (rest := []) Z hml hl.1 hN hw (k_remove l D ad cI cZ cS cA h h60 hj) tb_g mc_Mail_remove mk_FB_125 mi_Mail_remove ms_Mail_remove mz_Mail ⟨by decide, by decide, by decide +kernel⟩ ⟨Nat.le_of_ble_eq_true rfl, Nat.le_of_ble_eq_true rfl⟩ (fb_in2 n) (fb_e2 n ad cI cZ cS cA _) rfl rfl rfl rfl (Nat.le_of_ble_eq_true rfl) ⟨Nat.le_refl _, Nat.le_refl _⟩ md_FB_drop_18 (fun M2 H2 locs2 hp hw => ?_)
  refine W.eq (g2 := F0 m 21 ls []) rfl ?_
  refine lv_iconst (v := nI 1) Z.1 Z.2.1 md_FB_drop_21 (by decide) ?_
  exact xw_zret Z hr hlk hw md_FB_drop_22 rfl rfl ⟨pz_rm_Inv I, hp.1⟩
set_option maxHeartbeats 4000000 in
theorem k_drop_b (l : Launch) (D : va_G) {n : Nat} (ad : Nat × Nat → Nat) (cI cZ cS cA : ClassId) {M : fr_M} {q f : Nat} {S : pz_T} (hn : n ≤ 5) (hI : fr_I n q f S M) {x : Int32} (hx : x < 0 ∨ nI S.1.length ≤ x) : fb_C l D n ad cI cZ cS cA my_FB_drop mb_FB_drop 2 (some .boolean) 1 21 M [.ref (ad (0, 0)), .int (x)] (some (.int (nI 0))) (fun M' => M' = M) := by
  have h := hI.2
  have I := hI.1
  have h60 := I.1
  refine xw_start [.ref (ad (0, 0)), .int (x)] (by decide) (Nat.le_of_ble_eq_true rfl) ?_
  intro p e st m below meth cd0 ls Z hml hr hlk hN hl hw
  have hl : lv_has ls 2 [(0, .ref (ad (0, 0))), (1, .int (x))] := hl
  refine lv_aload_n Z.1 Z.2.1 md_FB_drop_0 rfl (lv_at hl 0 rfl) ?_
  refine xb_get (v := .ref (ad (2, 0))) Z hw (fb_in0 n) (fb_e0 n ad cI cZ cS cA) rfl tb_iFB 1 (by decide) mk_FB_21 rfl rfl md_FB_drop_1 ?_
  refine lv_iload_n Z.1 Z.2.1 md_FB_drop_4 rfl (lv_at hl 1 rfl) ?_
  refine xw_cV (n := 1) (rest := []) Z hml hl.1 hN hw (k_has0 l D ad cI cZ cS cA (M := M) h.2.1 hx) tb_g mc_Mail_has mk_FB_76 mi_Mail_has ms_Mail_has mz_Mail ⟨by decide, by decide, by decide +kernel⟩ ⟨Nat.le_of_ble_eq_true rfl, Nat.le_of_ble_eq_true rfl⟩ (fb_in2 n) (fb_e2 n ad cI cZ cS cA _) rfl rfl rfl rfl (Nat.le_of_ble_eq_true rfl) ⟨Nat.le_refl _, Nat.le_refl _⟩ md_FB_drop_5 (fun M1 H1 locs1 e1 hw => ?_)
  have ey1 := e1.symm
  subst ey1
  refine W.eq (g2 := F0 m 8 ls [.int (nI (0))]) rfl ?_
  refine xi_if_ne (tgt := 13) Z md_FB_drop_8 (by decide) (by omega) (fun h8 => by exfalso; omega) (fun h8 => ?_)
  refine lv_iconst (v := nI 0) Z.1 Z.2.1 md_FB_drop_11 (by decide) ?_
  exact xw_zret Z hr hlk hw md_FB_drop_12 rfl rfl rfl
set_option maxHeartbeats 4000000 in
theorem k_haltA1 (l : Launch) (D : va_G) {n : Nat} (ad : Nat × Nat → Nat) (cI cZ cS cA : ClassId) {M : fr_M} {q f : Nat} {S : pz_T} (hn : n ≤ 5) (hI : fr_I n q f S M) {w b : Nat} (hb : b ≤ 1) (hne : S.2 3 14 w 0 ≠ b) (hw_ : w < n) : fb_C l D n ad cI cZ cS cA my_FB_halt mb_FB_halt 3 (some .boolean) 1 21 M [.ref (ad (0, 0)), .int (nI (w)), .int (nI (b))] (some (.int (nI 1))) (fr_I n q f (pz_halt S w b)) := by
  have h := hI.2
  have I := hI.1
  have h60 := I.1
  refine xw_start [.ref (ad (0, 0)), .int (nI (w)), .int (nI (b))] (by decide) (Nat.le_of_ble_eq_true rfl) ?_
  intro p e st m below meth cd0 ls Z hml hr hlk hN hl hw
  have hl : lv_has ls 3 [(0, .ref (ad (0, 0))), (1, .int (nI (w))), (2, .int (nI (b)))] := hl
  refine lv_aload_n Z.1 Z.2.1 md_FB_halt_0 rfl (lv_at hl 0 rfl) ?_
  refine lv_iload_n Z.1 Z.2.1 md_FB_halt_1 rfl (lv_at hl 1 rfl) ?_
  refine xw_cV (n := 1) (rest := []) Z hml hl.1 hN hw (k_isAcceptor1 l D ad cI cZ cS cA (M := M) hn h.1 hw_) tb_g mc_FB_isAcceptor mk_FB_128 mi_FB_isAcceptor ms_FB_isAcceptor mz_FB ⟨by decide, by decide, by decide +kernel⟩ ⟨Nat.le_of_ble_eq_true rfl, Nat.le_of_ble_eq_true rfl⟩ (fb_in0 n) (fb_e0 n ad cI cZ cS cA _) rfl rfl rfl rfl (Nat.le_of_ble_eq_true rfl) ⟨Nat.le_refl _, Nat.le_refl _⟩ md_FB_halt_2 (fun M1 H1 locs1 e1 hw => ?_)
  have ey1 := e1.symm
  subst ey1
  refine W.eq (g2 := F0 m 5 ls [.int (nI (1))]) rfl ?_
  refine xi_if_ne (tgt := 23) Z md_FB_halt_5 (by decide) (by omega) (fun h5 => ?_) (fun h5 => by exfalso; omega)
  refine lv_aload_n Z.1 Z.2.1 md_FB_halt_23 rfl (lv_at hl 0 rfl) ?_
  refine xb_get (v := .ref (ad (4, 0))) Z hw (fb_in0 n) (fb_e0 n ad cI cZ cS cA) rfl tb_iFB 3 (by decide) mk_FB_25 rfl rfl md_FB_halt_24 ?_
  refine lv_iload_n Z.1 Z.2.1 md_FB_halt_27 rfl (lv_at hl 1 rfl) ?_
  refine xw_zald Z hw (fb_in4 n) (fb_e4 n ad cI cZ cS cA) 1 rfl (w) rfl (by omega) (by omega) md_FB_halt_28 ?_
  refine xi_re (show M (4, 0) (w) = nI (S.2 3 14 w 0) from h.2.2.1 w (by omega)) ?_
  refine lv_iload_n Z.1 Z.2.1 md_FB_halt_29 rfl (lv_at hl 2 rfl) ?_
  have l14 := I.2.2.2 w
  refine xi_icmp_ne (tgt := 35) Z md_FB_halt_30 (by decide) (by omega) (by omega) (fun h30 => ?_) (fun h30 => by exfalso; omega)
  refine lv_aload_n Z.1 Z.2.1 md_FB_halt_35 rfl (lv_at hl 0 rfl) ?_
  refine xb_get (v := .ref (ad (4, 0))) Z hw (fb_in0 n) (fb_e0 n ad cI cZ cS cA) rfl tb_iFB 3 (by decide) mk_FB_25 rfl rfl md_FB_halt_36 ?_
  refine lv_iload_n Z.1 Z.2.1 md_FB_halt_39 rfl (lv_at hl 1 rfl) ?_
  refine lv_iload_n Z.1 Z.2.1 md_FB_halt_40 rfl (lv_at hl 2 rfl) ?_
  refine xb_zast Z hw (fb_in4 n) (fb_e4 n ad cI cZ cS cA) 1 rfl (xi_zb hb) (w) rfl (by omega) (by omega) md_FB_halt_41 (fun M2 H2 locs2 e2 hw => ?_)
  refine lv_iconst (v := nI 1) Z.1 Z.2.1 md_FB_halt_42 (by decide) ?_
  refine xw_zret Z hr hlk hw md_FB_halt_43 rfl rfl ⟨pz_halt_Inv I hb, fr_fin2 (fr_halt h (fun k hk => by rw [e2, xw_mw_n hk]) (fun x hx => by rw [e2, xw_mw_s]; rfl)) (fun s' c' hs' _ => ?_)⟩
  show pz_w S.2 3 _ s' 9 c' 0 = _
  rw [pz_w_n (by omega)]
set_option maxHeartbeats 4000000 in
theorem k_haltA0 (l : Launch) (D : va_G) {n : Nat} (ad : Nat × Nat → Nat) (cI cZ cS cA : ClassId) {M : fr_M} {q f : Nat} {S : pz_T} (hn : n ≤ 5) (hI : fr_I n q f S M) {w b : Nat} (hb : b ≤ 1) (heq : S.2 3 14 w 0 = b) (hw_ : w < n) : fb_C l D n ad cI cZ cS cA my_FB_halt mb_FB_halt 3 (some .boolean) 1 21 M [.ref (ad (0, 0)), .int (nI (w)), .int (nI (b))] (some (.int (nI 0))) (fun M' => M' = M) := by
  have h := hI.2
  have I := hI.1
  have h60 := I.1
  refine xw_start [.ref (ad (0, 0)), .int (nI (w)), .int (nI (b))] (by decide) (Nat.le_of_ble_eq_true rfl) ?_
  intro p e st m below meth cd0 ls Z hml hr hlk hN hl hw
  have hl : lv_has ls 3 [(0, .ref (ad (0, 0))), (1, .int (nI (w))), (2, .int (nI (b)))] := hl
  refine lv_aload_n Z.1 Z.2.1 md_FB_halt_0 rfl (lv_at hl 0 rfl) ?_
  refine lv_iload_n Z.1 Z.2.1 md_FB_halt_1 rfl (lv_at hl 1 rfl) ?_
  refine xw_cV (n := 1) (rest := []) Z hml hl.1 hN hw (k_isAcceptor1 l D ad cI cZ cS cA (M := M) hn h.1 hw_) tb_g mc_FB_isAcceptor mk_FB_128 mi_FB_isAcceptor ms_FB_isAcceptor mz_FB ⟨by decide, by decide, by decide +kernel⟩ ⟨Nat.le_of_ble_eq_true rfl, Nat.le_of_ble_eq_true rfl⟩ (fb_in0 n) (fb_e0 n ad cI cZ cS cA _) rfl rfl rfl rfl (Nat.le_of_ble_eq_true rfl) ⟨Nat.le_refl _, Nat.le_refl _⟩ md_FB_halt_2 (fun M1 H1 locs1 e1 hw => ?_)
  have ey1 := e1.symm
  subst ey1
  refine W.eq (g2 := F0 m 5 ls [.int (nI (1))]) rfl ?_
  refine xi_if_ne (tgt := 23) Z md_FB_halt_5 (by decide) (by omega) (fun h5 => ?_) (fun h5 => by exfalso; omega)
  refine lv_aload_n Z.1 Z.2.1 md_FB_halt_23 rfl (lv_at hl 0 rfl) ?_
  refine xb_get (v := .ref (ad (4, 0))) Z hw (fb_in0 n) (fb_e0 n ad cI cZ cS cA) rfl tb_iFB 3 (by decide) mk_FB_25 rfl rfl md_FB_halt_24 ?_
  refine lv_iload_n Z.1 Z.2.1 md_FB_halt_27 rfl (lv_at hl 1 rfl) ?_
  refine xw_zald Z hw (fb_in4 n) (fb_e4 n ad cI cZ cS cA) 1 rfl (w) rfl (by omega) (by omega) md_FB_halt_28 ?_
  refine xi_re (show M (4, 0) (w) = nI (S.2 3 14 w 0) from h.2.2.1 w (by omega)) ?_
  refine lv_iload_n Z.1 Z.2.1 md_FB_halt_29 rfl (lv_at hl 2 rfl) ?_
  have l14 := I.2.2.2 w
  refine xi_icmp_ne (tgt := 35) Z md_FB_halt_30 (by decide) (by omega) (by omega) (fun h30 => by exfalso; omega) (fun h30 => ?_)
  refine lv_iconst (v := nI 0) Z.1 Z.2.1 md_FB_halt_33 (by decide) ?_
  exact xw_zret Z hr hlk hw md_FB_halt_34 rfl rfl rfl
set_option maxHeartbeats 4000000 in
theorem k_haltC1 (l : Launch) (D : va_G) {n : Nat} (ad : Nat × Nat → Nat) (cI cZ cS cA : ClassId) {M : fr_M} {q f : Nat} {S : pz_T} (hn : n ≤ 5) (hI : fr_I n q f S M) {w b : Nat} (hb : b ≤ 1) (hne : S.2 3 14 w 0 ≠ b) (hw_ : w = 8 ∨ w = 9) : fb_C l D n ad cI cZ cS cA my_FB_halt mb_FB_halt 3 (some .boolean) 1 21 M [.ref (ad (0, 0)), .int (nI (w)), .int (nI (b))] (some (.int (nI 1))) (fr_I n q f (pz_halt S w b)) := by
  have h := hI.2
  have I := hI.1
  have h60 := I.1
  refine xw_start [.ref (ad (0, 0)), .int (nI (w)), .int (nI (b))] (by decide) (Nat.le_of_ble_eq_true rfl) ?_
  intro p e st m below meth cd0 ls Z hml hr hlk hN hl hw
  have hl : lv_has ls 3 [(0, .ref (ad (0, 0))), (1, .int (nI (w))), (2, .int (nI (b)))] := hl
  refine lv_aload_n Z.1 Z.2.1 md_FB_halt_0 rfl (lv_at hl 0 rfl) ?_
  refine lv_iload_n Z.1 Z.2.1 md_FB_halt_1 rfl (lv_at hl 1 rfl) ?_
  refine xw_cV (n := 1) (rest := []) Z hml hl.1 hN hw (k_isAcceptor0 l D ad cI cZ cS cA (M := M) h.1 (Or.inr (nI_le (by omega) (by omega)))) tb_g mc_FB_isAcceptor mk_FB_128 mi_FB_isAcceptor ms_FB_isAcceptor mz_FB ⟨by decide, by decide, by decide +kernel⟩ ⟨Nat.le_of_ble_eq_true rfl, Nat.le_of_ble_eq_true rfl⟩ (fb_in0 n) (fb_e0 n ad cI cZ cS cA _) rfl rfl rfl rfl (Nat.le_of_ble_eq_true rfl) ⟨Nat.le_refl _, Nat.le_refl _⟩ md_FB_halt_2 (fun M1 H1 locs1 e1 hw => ?_)
  have ey1 := e1.symm
  subst ey1
  refine W.eq (g2 := F0 m 5 ls [.int (nI (0))]) rfl ?_
  refine xi_if_ne (tgt := 23) Z md_FB_halt_5 (by decide) (by omega) (fun h5 => by exfalso; omega) (fun h5 => ?_)
  refine lv_iload_n Z.1 Z.2.1 md_FB_halt_8 rfl (lv_at hl 1 rfl) ?_
  refine xw_cS (n := 1) (rest := []) Z hml hl.1 hN hw (k_isCoordinator1 l D ad cI cZ cS cA (M := M) hw_) tb_g mc_FB_isCoordinator mk_FB_112 mt_FB_isCoordinator mz_FB ⟨by decide, by decide, by decide +kernel⟩ ⟨Nat.le_of_ble_eq_true rfl, Nat.le_of_ble_eq_true rfl⟩ rfl rfl (Nat.le_of_ble_eq_true rfl) ⟨Nat.le_refl _, Nat.le_refl _⟩ md_FB_halt_9 (fun M2 H2 locs2 e2 hw => ?_)
  have ey2 := e2.symm
  subst ey2
  refine W.eq (g2 := F0 m 12 ls [.int (nI (1))]) rfl ?_
  refine xi_if_ne (tgt := 23) Z md_FB_halt_12 (by decide) (by omega) (fun h12 => ?_) (fun h12 => by exfalso; omega)
  refine lv_aload_n Z.1 Z.2.1 md_FB_halt_23 rfl (lv_at hl 0 rfl) ?_
  refine xb_get (v := .ref (ad (4, 0))) Z hw (fb_in0 n) (fb_e0 n ad cI cZ cS cA) rfl tb_iFB 3 (by decide) mk_FB_25 rfl rfl md_FB_halt_24 ?_
  refine lv_iload_n Z.1 Z.2.1 md_FB_halt_27 rfl (lv_at hl 1 rfl) ?_
  refine xw_zald Z hw (fb_in4 n) (fb_e4 n ad cI cZ cS cA) 1 rfl (w) rfl (by omega) (by omega) md_FB_halt_28 ?_
  refine xi_re (show M (4, 0) (w) = nI (S.2 3 14 w 0) from h.2.2.1 w (by omega)) ?_
  refine lv_iload_n Z.1 Z.2.1 md_FB_halt_29 rfl (lv_at hl 2 rfl) ?_
  have l14 := I.2.2.2 w
  refine xi_icmp_ne (tgt := 35) Z md_FB_halt_30 (by decide) (by omega) (by omega) (fun h30 => ?_) (fun h30 => by exfalso; omega)
  refine lv_aload_n Z.1 Z.2.1 md_FB_halt_35 rfl (lv_at hl 0 rfl) ?_
  refine xb_get (v := .ref (ad (4, 0))) Z hw (fb_in0 n) (fb_e0 n ad cI cZ cS cA) rfl tb_iFB 3 (by decide) mk_FB_25 rfl rfl md_FB_halt_36 ?_
  refine lv_iload_n Z.1 Z.2.1 md_FB_halt_39 rfl (lv_at hl 1 rfl) ?_
  refine lv_iload_n Z.1 Z.2.1 md_FB_halt_40 rfl (lv_at hl 2 rfl) ?_
  refine xb_zast Z hw (fb_in4 n) (fb_e4 n ad cI cZ cS cA) 1 rfl (xi_zb hb) (w) rfl (by omega) (by omega) md_FB_halt_41 (fun M3 H3 locs3 e3 hw => ?_)
  refine lv_iconst (v := nI 1) Z.1 Z.2.1 md_FB_halt_42 (by decide) ?_
  refine xw_zret Z hr hlk hw md_FB_halt_43 rfl rfl ⟨pz_halt_Inv I hb, fr_fin2 (fr_halt h (fun k hk => by rw [e3, xw_mw_n hk]) (fun x hx => by rw [e3, xw_mw_s]; rfl)) (fun s' c' hs' _ => ?_)⟩
  show pz_w S.2 3 _ s' 9 c' 0 = _
  rw [pz_w_n (by omega)]
set_option maxHeartbeats 4000000 in
theorem k_haltC0 (l : Launch) (D : va_G) {n : Nat} (ad : Nat × Nat → Nat) (cI cZ cS cA : ClassId) {M : fr_M} {q f : Nat} {S : pz_T} (hn : n ≤ 5) (hI : fr_I n q f S M) {w b : Nat} (hb : b ≤ 1) (heq : S.2 3 14 w 0 = b) (hw_ : w = 8 ∨ w = 9) : fb_C l D n ad cI cZ cS cA my_FB_halt mb_FB_halt 3 (some .boolean) 1 21 M [.ref (ad (0, 0)), .int (nI (w)), .int (nI (b))] (some (.int (nI 0))) (fun M' => M' = M) := by
  have h := hI.2
  have I := hI.1
  have h60 := I.1
  refine xw_start [.ref (ad (0, 0)), .int (nI (w)), .int (nI (b))] (by decide) (Nat.le_of_ble_eq_true rfl) ?_
  intro p e st m below meth cd0 ls Z hml hr hlk hN hl hw
  have hl : lv_has ls 3 [(0, .ref (ad (0, 0))), (1, .int (nI (w))), (2, .int (nI (b)))] := hl
  refine lv_aload_n Z.1 Z.2.1 md_FB_halt_0 rfl (lv_at hl 0 rfl) ?_
  refine lv_iload_n Z.1 Z.2.1 md_FB_halt_1 rfl (lv_at hl 1 rfl) ?_
  refine xw_cV (n := 1) (rest := []) Z hml hl.1 hN hw (k_isAcceptor0 l D ad cI cZ cS cA (M := M) h.1 (Or.inr (nI_le (by omega) (by omega)))) tb_g mc_FB_isAcceptor mk_FB_128 mi_FB_isAcceptor ms_FB_isAcceptor mz_FB ⟨by decide, by decide, by decide +kernel⟩ ⟨Nat.le_of_ble_eq_true rfl, Nat.le_of_ble_eq_true rfl⟩ (fb_in0 n) (fb_e0 n ad cI cZ cS cA _) rfl rfl rfl rfl (Nat.le_of_ble_eq_true rfl) ⟨Nat.le_refl _, Nat.le_refl _⟩ md_FB_halt_2 (fun M1 H1 locs1 e1 hw => ?_)
  have ey1 := e1.symm
  subst ey1
  refine W.eq (g2 := F0 m 5 ls [.int (nI (0))]) rfl ?_
  refine xi_if_ne (tgt := 23) Z md_FB_halt_5 (by decide) (by omega) (fun h5 => by exfalso; omega) (fun h5 => ?_)
  refine lv_iload_n Z.1 Z.2.1 md_FB_halt_8 rfl (lv_at hl 1 rfl) ?_
  refine xw_cS (n := 1) (rest := []) Z hml hl.1 hN hw (k_isCoordinator1 l D ad cI cZ cS cA (M := M) hw_) tb_g mc_FB_isCoordinator mk_FB_112 mt_FB_isCoordinator mz_FB ⟨by decide, by decide, by decide +kernel⟩ ⟨Nat.le_of_ble_eq_true rfl, Nat.le_of_ble_eq_true rfl⟩ rfl rfl (Nat.le_of_ble_eq_true rfl) ⟨Nat.le_refl _, Nat.le_refl _⟩ md_FB_halt_9 (fun M2 H2 locs2 e2 hw => ?_)
  have ey2 := e2.symm
  subst ey2
  refine W.eq (g2 := F0 m 12 ls [.int (nI (1))]) rfl ?_
  refine xi_if_ne (tgt := 23) Z md_FB_halt_12 (by decide) (by omega) (fun h12 => ?_) (fun h12 => by exfalso; omega)
  refine lv_aload_n Z.1 Z.2.1 md_FB_halt_23 rfl (lv_at hl 0 rfl) ?_
  refine xb_get (v := .ref (ad (4, 0))) Z hw (fb_in0 n) (fb_e0 n ad cI cZ cS cA) rfl tb_iFB 3 (by decide) mk_FB_25 rfl rfl md_FB_halt_24 ?_
  refine lv_iload_n Z.1 Z.2.1 md_FB_halt_27 rfl (lv_at hl 1 rfl) ?_
  refine xw_zald Z hw (fb_in4 n) (fb_e4 n ad cI cZ cS cA) 1 rfl (w) rfl (by omega) (by omega) md_FB_halt_28 ?_
  refine xi_re (show M (4, 0) (w) = nI (S.2 3 14 w 0) from h.2.2.1 w (by omega)) ?_
  refine lv_iload_n Z.1 Z.2.1 md_FB_halt_29 rfl (lv_at hl 2 rfl) ?_
  have l14 := I.2.2.2 w
  refine xi_icmp_ne (tgt := 35) Z md_FB_halt_30 (by decide) (by omega) (by omega) (fun h30 => by exfalso; omega) (fun h30 => ?_)
  refine lv_iconst (v := nI 0) Z.1 Z.2.1 md_FB_halt_33 (by decide) ?_
  exact xw_zret Z hr hlk hw md_FB_halt_34 rfl rfl rfl
set_option maxHeartbeats 4000000 in
theorem k_haltL1 (l : Launch) (D : va_G) {n : Nat} (ad : Nat × Nat → Nat) (cI cZ cS cA : ClassId) {M : fr_M} {q f : Nat} {S : pz_T} (hn : n ≤ 5) (hI : fr_I n q f S M) {w b : Nat} (hb : b ≤ 1) (hne : S.2 3 14 w 0 ≠ b) (hw_ : w = 10) : fb_C l D n ad cI cZ cS cA my_FB_halt mb_FB_halt 3 (some .boolean) 1 21 M [.ref (ad (0, 0)), .int (nI (w)), .int (nI (b))] (some (.int (nI 1))) (fr_I n q f (pz_halt S w b)) := by
  have h := hI.2
  have I := hI.1
  have h60 := I.1
  refine xw_start [.ref (ad (0, 0)), .int (nI (w)), .int (nI (b))] (by decide) (Nat.le_of_ble_eq_true rfl) ?_
  intro p e st m below meth cd0 ls Z hml hr hlk hN hl hw
  have hl : lv_has ls 3 [(0, .ref (ad (0, 0))), (1, .int (nI (w))), (2, .int (nI (b)))] := hl
  refine lv_aload_n Z.1 Z.2.1 md_FB_halt_0 rfl (lv_at hl 0 rfl) ?_
  refine lv_iload_n Z.1 Z.2.1 md_FB_halt_1 rfl (lv_at hl 1 rfl) ?_
  refine xw_cV (n := 1) (rest := []) Z hml hl.1 hN hw (k_isAcceptor0 l D ad cI cZ cS cA (M := M) h.1 (Or.inr (nI_le (by omega) (by omega)))) tb_g mc_FB_isAcceptor mk_FB_128 mi_FB_isAcceptor ms_FB_isAcceptor mz_FB ⟨by decide, by decide, by decide +kernel⟩ ⟨Nat.le_of_ble_eq_true rfl, Nat.le_of_ble_eq_true rfl⟩ (fb_in0 n) (fb_e0 n ad cI cZ cS cA _) rfl rfl rfl rfl (Nat.le_of_ble_eq_true rfl) ⟨Nat.le_refl _, Nat.le_refl _⟩ md_FB_halt_2 (fun M1 H1 locs1 e1 hw => ?_)
  have ey1 := e1.symm
  subst ey1
  refine W.eq (g2 := F0 m 5 ls [.int (nI (0))]) rfl ?_
  refine xi_if_ne (tgt := 23) Z md_FB_halt_5 (by decide) (by omega) (fun h5 => by exfalso; omega) (fun h5 => ?_)
  refine lv_iload_n Z.1 Z.2.1 md_FB_halt_8 rfl (lv_at hl 1 rfl) ?_
  refine xw_cS (n := 1) (rest := []) Z hml hl.1 hN hw (k_isCoordinator0 l D ad cI cZ cS cA (M := M) (fun y => by have := (nI_eq (by omega) (by decide)).mp y; omega) (fun y => by have := (nI_eq (by omega) (by decide)).mp y; omega)) tb_g mc_FB_isCoordinator mk_FB_112 mt_FB_isCoordinator mz_FB ⟨by decide, by decide, by decide +kernel⟩ ⟨Nat.le_of_ble_eq_true rfl, Nat.le_of_ble_eq_true rfl⟩ rfl rfl (Nat.le_of_ble_eq_true rfl) ⟨Nat.le_refl _, Nat.le_refl _⟩ md_FB_halt_9 (fun M2 H2 locs2 e2 hw => ?_)
  have ey2 := e2.symm
  subst ey2
  refine W.eq (g2 := F0 m 12 ls [.int (nI (0))]) rfl ?_
  refine xi_if_ne (tgt := 23) Z md_FB_halt_12 (by decide) (by omega) (fun h12 => by exfalso; omega) (fun h12 => ?_)
  refine lv_iload_n Z.1 Z.2.1 md_FB_halt_15 rfl (lv_at hl 1 rfl) ?_
  refine lv_bipush (v := nI 10) Z.1 Z.2.1 md_FB_halt_16 (by decide) ?_
  refine xi_icmp_eq (tgt := 23) Z md_FB_halt_18 (by decide) (by omega) (by omega) (fun h18 => ?_) (fun h18 => by exfalso; omega)
  refine lv_aload_n Z.1 Z.2.1 md_FB_halt_23 rfl (lv_at hl 0 rfl) ?_
  refine xb_get (v := .ref (ad (4, 0))) Z hw (fb_in0 n) (fb_e0 n ad cI cZ cS cA) rfl tb_iFB 3 (by decide) mk_FB_25 rfl rfl md_FB_halt_24 ?_
  refine lv_iload_n Z.1 Z.2.1 md_FB_halt_27 rfl (lv_at hl 1 rfl) ?_
  refine xw_zald Z hw (fb_in4 n) (fb_e4 n ad cI cZ cS cA) 1 rfl (w) rfl (by omega) (by omega) md_FB_halt_28 ?_
  refine xi_re (show M (4, 0) (w) = nI (S.2 3 14 w 0) from h.2.2.1 w (by omega)) ?_
  refine lv_iload_n Z.1 Z.2.1 md_FB_halt_29 rfl (lv_at hl 2 rfl) ?_
  have l14 := I.2.2.2 w
  refine xi_icmp_ne (tgt := 35) Z md_FB_halt_30 (by decide) (by omega) (by omega) (fun h30 => ?_) (fun h30 => by exfalso; omega)
  refine lv_aload_n Z.1 Z.2.1 md_FB_halt_35 rfl (lv_at hl 0 rfl) ?_
  refine xb_get (v := .ref (ad (4, 0))) Z hw (fb_in0 n) (fb_e0 n ad cI cZ cS cA) rfl tb_iFB 3 (by decide) mk_FB_25 rfl rfl md_FB_halt_36 ?_
  refine lv_iload_n Z.1 Z.2.1 md_FB_halt_39 rfl (lv_at hl 1 rfl) ?_
  refine lv_iload_n Z.1 Z.2.1 md_FB_halt_40 rfl (lv_at hl 2 rfl) ?_
  refine xb_zast Z hw (fb_in4 n) (fb_e4 n ad cI cZ cS cA) 1 rfl (xi_zb hb) (w) rfl (by omega) (by omega) md_FB_halt_41 (fun M3 H3 locs3 e3 hw => ?_)
  refine lv_iconst (v := nI 1) Z.1 Z.2.1 md_FB_halt_42 (by decide) ?_
  refine xw_zret Z hr hlk hw md_FB_halt_43 rfl rfl ⟨pz_halt_Inv I hb, fr_fin2 (fr_halt h (fun k hk => by rw [e3, xw_mw_n hk]) (fun x hx => by rw [e3, xw_mw_s]; rfl)) (fun s' c' hs' _ => ?_)⟩
  show pz_w S.2 3 _ s' 9 c' 0 = _
  rw [pz_w_n (by omega)]
set_option maxHeartbeats 4000000 in
theorem k_haltL0 (l : Launch) (D : va_G) {n : Nat} (ad : Nat × Nat → Nat) (cI cZ cS cA : ClassId) {M : fr_M} {q f : Nat} {S : pz_T} (hn : n ≤ 5) (hI : fr_I n q f S M) {w b : Nat} (hb : b ≤ 1) (heq : S.2 3 14 w 0 = b) (hw_ : w = 10) : fb_C l D n ad cI cZ cS cA my_FB_halt mb_FB_halt 3 (some .boolean) 1 21 M [.ref (ad (0, 0)), .int (nI (w)), .int (nI (b))] (some (.int (nI 0))) (fun M' => M' = M) := by
  have h := hI.2
  have I := hI.1
  have h60 := I.1
  refine xw_start [.ref (ad (0, 0)), .int (nI (w)), .int (nI (b))] (by decide) (Nat.le_of_ble_eq_true rfl) ?_
  intro p e st m below meth cd0 ls Z hml hr hlk hN hl hw
  have hl : lv_has ls 3 [(0, .ref (ad (0, 0))), (1, .int (nI (w))), (2, .int (nI (b)))] := hl
  refine lv_aload_n Z.1 Z.2.1 md_FB_halt_0 rfl (lv_at hl 0 rfl) ?_
  refine lv_iload_n Z.1 Z.2.1 md_FB_halt_1 rfl (lv_at hl 1 rfl) ?_
  refine xw_cV (n := 1) (rest := []) Z hml hl.1 hN hw (k_isAcceptor0 l D ad cI cZ cS cA (M := M) h.1 (Or.inr (nI_le (by omega) (by omega)))) tb_g mc_FB_isAcceptor mk_FB_128 mi_FB_isAcceptor ms_FB_isAcceptor mz_FB ⟨by decide, by decide, by decide +kernel⟩ ⟨Nat.le_of_ble_eq_true rfl, Nat.le_of_ble_eq_true rfl⟩ (fb_in0 n) (fb_e0 n ad cI cZ cS cA _) rfl rfl rfl rfl (Nat.le_of_ble_eq_true rfl) ⟨Nat.le_refl _, Nat.le_refl _⟩ md_FB_halt_2 (fun M1 H1 locs1 e1 hw => ?_)
  have ey1 := e1.symm
  subst ey1
  refine W.eq (g2 := F0 m 5 ls [.int (nI (0))]) rfl ?_
  refine xi_if_ne (tgt := 23) Z md_FB_halt_5 (by decide) (by omega) (fun h5 => by exfalso; omega) (fun h5 => ?_)
  refine lv_iload_n Z.1 Z.2.1 md_FB_halt_8 rfl (lv_at hl 1 rfl) ?_
  refine xw_cS (n := 1) (rest := []) Z hml hl.1 hN hw (k_isCoordinator0 l D ad cI cZ cS cA (M := M) (fun y => by have := (nI_eq (by omega) (by decide)).mp y; omega) (fun y => by have := (nI_eq (by omega) (by decide)).mp y; omega)) tb_g mc_FB_isCoordinator mk_FB_112 mt_FB_isCoordinator mz_FB ⟨by decide, by decide, by decide +kernel⟩ ⟨Nat.le_of_ble_eq_true rfl, Nat.le_of_ble_eq_true rfl⟩ rfl rfl (Nat.le_of_ble_eq_true rfl) ⟨Nat.le_refl _, Nat.le_refl _⟩ md_FB_halt_9 (fun M2 H2 locs2 e2 hw => ?_)
  have ey2 := e2.symm
  subst ey2
  refine W.eq (g2 := F0 m 12 ls [.int (nI (0))]) rfl ?_
  refine xi_if_ne (tgt := 23) Z md_FB_halt_12 (by decide) (by omega) (fun h12 => by exfalso; omega) (fun h12 => ?_)
  refine lv_iload_n Z.1 Z.2.1 md_FB_halt_15 rfl (lv_at hl 1 rfl) ?_
  refine lv_bipush (v := nI 10) Z.1 Z.2.1 md_FB_halt_16 (by decide) ?_
  refine xi_icmp_eq (tgt := 23) Z md_FB_halt_18 (by decide) (by omega) (by omega) (fun h18 => ?_) (fun h18 => by exfalso; omega)
  refine lv_aload_n Z.1 Z.2.1 md_FB_halt_23 rfl (lv_at hl 0 rfl) ?_
  refine xb_get (v := .ref (ad (4, 0))) Z hw (fb_in0 n) (fb_e0 n ad cI cZ cS cA) rfl tb_iFB 3 (by decide) mk_FB_25 rfl rfl md_FB_halt_24 ?_
  refine lv_iload_n Z.1 Z.2.1 md_FB_halt_27 rfl (lv_at hl 1 rfl) ?_
  refine xw_zald Z hw (fb_in4 n) (fb_e4 n ad cI cZ cS cA) 1 rfl (w) rfl (by omega) (by omega) md_FB_halt_28 ?_
  refine xi_re (show M (4, 0) (w) = nI (S.2 3 14 w 0) from h.2.2.1 w (by omega)) ?_
  refine lv_iload_n Z.1 Z.2.1 md_FB_halt_29 rfl (lv_at hl 2 rfl) ?_
  have l14 := I.2.2.2 w
  refine xi_icmp_ne (tgt := 35) Z md_FB_halt_30 (by decide) (by omega) (by omega) (fun h30 => by exfalso; omega) (fun h30 => ?_)
  refine lv_iconst (v := nI 0) Z.1 Z.2.1 md_FB_halt_33 (by decide) ?_
  exact xw_zret Z hr hlk hw md_FB_halt_34 rfl rfl rfl
set_option maxHeartbeats 4000000 in
theorem k_halt_b (l : Launch) (D : va_G) {n : Nat} (ad : Nat × Nat → Nat) (cI cZ cS cA : ClassId) {M : fr_M} {q f : Nat} {S : pz_T} (hn : n ≤ 5) (hI : fr_I n q f S M) {x y : Int32} (hx : x < 0 ∨ nI n ≤ x) (hx8 : ¬ x = nI 8) (hx9 : ¬ x = nI 9) (hx10 : ¬ x = nI 10) : fb_C l D n ad cI cZ cS cA my_FB_halt mb_FB_halt 3 (some .boolean) 1 21 M [.ref (ad (0, 0)), .int (x), .int (y)] (some (.int (nI 0))) (fun M' => M' = M) := by
  have h := hI.2
  have I := hI.1
  have h60 := I.1
  refine xw_start [.ref (ad (0, 0)), .int (x), .int (y)] (by decide) (Nat.le_of_ble_eq_true rfl) ?_
  intro p e st m below meth cd0 ls Z hml hr hlk hN hl hw
  have hl : lv_has ls 3 [(0, .ref (ad (0, 0))), (1, .int (x)), (2, .int (y))] := hl
  refine lv_aload_n Z.1 Z.2.1 md_FB_halt_0 rfl (lv_at hl 0 rfl) ?_
  refine lv_iload_n Z.1 Z.2.1 md_FB_halt_1 rfl (lv_at hl 1 rfl) ?_
  refine xw_cV (n := 1) (rest := []) Z hml hl.1 hN hw (k_isAcceptor0 l D ad cI cZ cS cA (M := M) h.1 hx) tb_g mc_FB_isAcceptor mk_FB_128 mi_FB_isAcceptor ms_FB_isAcceptor mz_FB ⟨by decide, by decide, by decide +kernel⟩ ⟨Nat.le_of_ble_eq_true rfl, Nat.le_of_ble_eq_true rfl⟩ (fb_in0 n) (fb_e0 n ad cI cZ cS cA _) rfl rfl rfl rfl (Nat.le_of_ble_eq_true rfl) ⟨Nat.le_refl _, Nat.le_refl _⟩ md_FB_halt_2 (fun M1 H1 locs1 e1 hw => ?_)
  have ey1 := e1.symm
  subst ey1
  refine W.eq (g2 := F0 m 5 ls [.int (nI (0))]) rfl ?_
  refine xi_if_ne (tgt := 23) Z md_FB_halt_5 (by decide) (by omega) (fun h5 => by exfalso; omega) (fun h5 => ?_)
  refine lv_iload_n Z.1 Z.2.1 md_FB_halt_8 rfl (lv_at hl 1 rfl) ?_
  refine xw_cS (n := 1) (rest := []) Z hml hl.1 hN hw (k_isCoordinator0 l D ad cI cZ cS cA (M := M) hx8 hx9) tb_g mc_FB_isCoordinator mk_FB_112 mt_FB_isCoordinator mz_FB ⟨by decide, by decide, by decide +kernel⟩ ⟨Nat.le_of_ble_eq_true rfl, Nat.le_of_ble_eq_true rfl⟩ rfl rfl (Nat.le_of_ble_eq_true rfl) ⟨Nat.le_refl _, Nat.le_refl _⟩ md_FB_halt_9 (fun M2 H2 locs2 e2 hw => ?_)
  have ey2 := e2.symm
  subst ey2
  refine W.eq (g2 := F0 m 12 ls [.int (nI (0))]) rfl ?_
  refine xi_if_ne (tgt := 23) Z md_FB_halt_12 (by decide) (by omega) (fun h12 => by exfalso; omega) (fun h12 => ?_)
  refine lv_iload_n Z.1 Z.2.1 md_FB_halt_15 rfl (lv_at hl 1 rfl) ?_
  refine lv_bipush (v := nI 10) Z.1 Z.2.1 md_FB_halt_16 (by decide) ?_
  refine lv_icmp_eq (tgt := 23) Z.1 Z.2.1 md_FB_halt_18 (by decide) (fun h18 => by exfalso; exact hx10 h18) (fun h18 => ?_)
  refine lv_iconst (v := nI 0) Z.1 Z.2.1 md_FB_halt_21 (by decide) ?_
  exact xw_zret Z hr hlk hw md_FB_halt_22 rfl rfl rfl
set_option maxHeartbeats 4000000 in
theorem k_deliver_h (l : Launch) (D : va_G) {n : Nat} (ad : Nat × Nat → Nat) (cI cZ cS cA : ClassId) {M : fr_M} {q f : Nat} {S : pz_T} (hn : n ≤ 5) (hq5 : q ≤ 5) (hf5 : f ≤ 5) (Q : pz_Q n q f) (hI : fr_I n q f S M) {j s : Nat} {g : pz_M} (hg : S.1[j]? = some g) (hs1 : g 1 = s) {t : Nat} (h4 : g 4 = t) (ht10 : t ≤ 10) (hh : S.2 3 14 t 0 ≠ 0) : fb_C l D n ad cI cZ cS cA my_FB_deliver mb_FB_deliver 4 (some .int) 6 135 M [.ref (ad (0, 0)), .int (nI (j))] (some (.int (nI (g 0)))) (fr_I n q f (pz_hear n q f (pz_rm S j) g)) := by
  have h := hI.2
  have I := hI.1
  have h60 := I.1
  have hj : j < S.1.length := (List.getElem?_eq_some_iff.mp hg).1
  obtain ⟨hs0, hms⟩ := I.2.2.1 g (List.mem_of_getElem? hg)
  have hs : s < 3 := by omega
  rw [hs1] at hms
  have IV := I.2.1 s hs
  have cl := pz_ci_lt (g 2)
  refine xw_start [.ref (ad (0, 0)), .int (nI (j))] (by decide) (Nat.le_of_ble_eq_true rfl) ?_
  intro p e st m below meth cd0 ls Z hml hr hlk hN hl hw
  have hl : lv_has ls 4 [(0, .ref (ad (0, 0))), (1, .int (nI (j)))] := hl
  refine lv_aload_n Z.1 Z.2.1 md_FB_deliver_0 rfl (lv_at hl 0 rfl) ?_
  refine xb_get (v := .ref (ad (2, 0))) Z hw (fb_in0 n) (fb_e0 n ad cI cZ cS cA) rfl tb_iFB 1 (by decide) mk_FB_21 rfl rfl md_FB_deliver_1 ?_
  refine lv_iload_n Z.1 Z.2.1 md_FB_deliver_4 rfl (lv_at hl 1 rfl) ?_
  refine xw_cV (n := 1) (rest := []) Z hml hl.1 hN hw (k_has1 l D ad cI cZ cS cA (M := M) h.2.1 h60 hj) tb_g mc_Mail_has mk_FB_76 mi_Mail_has ms_Mail_has mz_Mail ⟨by decide, by decide, by decide +kernel⟩ ⟨Nat.le_of_ble_eq_true rfl, Nat.le_of_ble_eq_true rfl⟩ (fb_in2 n) (fb_e2 n ad cI cZ cS cA _) rfl rfl rfl rfl (Nat.le_of_ble_eq_true rfl) ⟨Nat.le_refl _, Nat.le_refl _⟩ md_FB_deliver_5 (fun M1 H1 locs1 e1 hw => ?_)
  have ey1 := e1.symm
  subst ey1
  refine W.eq (g2 := F0 m 8 ls [.int (nI (1))]) rfl ?_
  refine xi_if_ne (tgt := 13) Z md_FB_deliver_8 (by decide) (by omega) (fun h8 => ?_) (fun h8 => by exfalso; omega)
  refine lv_aload_n Z.1 Z.2.1 md_FB_deliver_13 rfl (lv_at hl 0 rfl) ?_
  refine xb_get (v := .ref (ad (2, 0))) Z hw (fb_in0 n) (fb_e0 n ad cI cZ cS cA) rfl tb_iFB 1 (by decide) mk_FB_21 rfl rfl md_FB_deliver_14 ?_
  refine lv_iload_n Z.1 Z.2.1 md_FB_deliver_17 rfl (lv_at hl 1 rfl) ?_
  refine xw_cV (n := 1) (rest := []) Z hml hl.1 hN hw (k_take l D ad cI cZ cS cA h h60 hg) tb_g mc_Mail_take mk_FB_79 mi_Mail_take ms_Mail_take mz_Mail ⟨by decide, by decide, by decide +kernel⟩ ⟨Nat.le_of_ble_eq_true rfl, Nat.le_of_ble_eq_true rfl⟩ (fb_in2 n) (fb_e2 n ad cI cZ cS cA _) rfl rfl rfl rfl (Nat.le_of_ble_eq_true rfl) ⟨Nat.le_refl _, Nat.le_refl _⟩ md_FB_deliver_18 (fun M2 H2 locs2 ht hw => ?_)
  refine W.eq (g2 := F0 m 21 ls [.ref (ad (6, 0))]) rfl ?_
  refine lv_astore_n Z.1 Z.2.1 md_FB_deliver_21 rfl hl (by decide) rfl (fun ls hl => ?_)
  have hl : lv_has ls 4 [(2, .ref (ad (6, 0))), (0, .ref (ad (0, 0))), (1, .int (nI (j)))] := hl
  refine lv_aload_n Z.1 Z.2.1 md_FB_deliver_22 rfl (lv_at hl 1 rfl) ?_
  refine xb_get (v := .ref (ad (3, 0))) Z hw (fb_in0 n) (fb_e0 n ad cI cZ cS cA) rfl tb_iFB 2 (by decide) mk_FB_31 rfl rfl md_FB_deliver_23 ?_
  refine lv_aload_n Z.1 Z.2.1 md_FB_deliver_26 rfl (lv_at hl 0 rfl) ?_
  refine xb_get (v := .int (M2 (6, 0) 1)) Z hw (fb_in6 n) (fb_e6 n ad cI cZ cS cA) rfl tb_iMsg 1 (by decide) mk_FB_83 rfl rfl md_FB_deliver_27 ?_
  refine xi_re (show M2 (6, 0) 1 = nI (s) from (by rw [ht.2.2.1]; exact congrArg nI hs1)) ?_
  refine xw_aald (a := ad (7, s)) Z hw (fb_in3 n) (fb_e3 n ad cI cZ cS cA (M2 (3, 0))) 2 rfl (s) rfl hs (by omega) rfl md_FB_deliver_30 ?_
  refine lv_astore_n Z.1 Z.2.1 md_FB_deliver_31 rfl hl (by decide) rfl (fun ls hl => ?_)
  have hl : lv_has ls 4 [(3, .ref (ad (7, s))), (2, .ref (ad (6, 0))), (0, .ref (ad (0, 0))), (1, .int (nI (j)))] := hl
  refine lv_aload_n Z.1 Z.2.1 md_FB_deliver_32 rfl (lv_at hl 2 rfl) ?_
  refine xb_get (v := .ref (ad (4, 0))) Z hw (fb_in0 n) (fb_e0 n ad cI cZ cS cA) rfl tb_iFB 3 (by decide) mk_FB_25 rfl rfl md_FB_deliver_33 ?_
  refine lv_aload_n Z.1 Z.2.1 md_FB_deliver_36 rfl (lv_at hl 1 rfl) ?_
  refine xb_get (v := .int (M2 (6, 0) 4)) Z hw (fb_in6 n) (fb_e6 n ad cI cZ cS cA) rfl tb_iMsg 4 (by decide) mk_FB_88 rfl rfl md_FB_deliver_37 ?_
  refine xi_re (show M2 (6, 0) 4 = nI (t) from (by rw [ht.2.2.2.2.2.1]; exact congrArg nI h4)) ?_
  refine xw_zald Z hw (fb_in4 n) (fb_e4 n ad cI cZ cS cA) 1 rfl (t) rfl (by omega) (by omega) md_FB_deliver_40 ?_
  refine xi_re (show M2 (4, 0) (t) = nI (S.2 3 14 (t) 0) from ht.1.2.2.1 (t) (by omega)) ?_
  have l14 := I.2.2.2 t
  refine xi_if_eq (tgt := 49) Z md_FB_deliver_41 (by decide) (by omega) (fun h41 => by exfalso; omega) (fun h41 => ?_)
  refine lv_aload_n Z.1 Z.2.1 md_FB_deliver_44 rfl (lv_at hl 1 rfl) ?_
  refine xb_get (v := .int (M2 (6, 0) 0)) Z hw (fb_in6 n) (fb_e6 n ad cI cZ cS cA) rfl tb_iMsg 0 (by decide) mk_FB_91 rfl rfl md_FB_deliver_45 ?_
  refine xi_re (show M2 (6, 0) 0 = nI (g 0) from ht.2.1) ?_
  refine xw_iret Z hr hlk hw md_FB_deliver_48 rfl ⟨pz_deliver_Inv Q I hg, ?_⟩
  unfold pz_hear
  rw [h4, if_pos (show (pz_rm S j).2 3 14 t 0 ≠ 0 from hh)]
  exact ht.1
set_option maxHeartbeats 4000000 in
theorem k_deliver_L (l : Launch) (D : va_G) {n : Nat} (ad : Nat × Nat → Nat) (cI cZ cS cA : ClassId) {M : fr_M} {q f : Nat} {S : pz_T} (hn : n ≤ 5) (hq5 : q ≤ 5) (hf5 : f ≤ 5) (Q : pz_Q n q f) (hI : fr_I n q f S M) {j s : Nat} {g : pz_M} (hg : S.1[j]? = some g) (hs1 : g 1 = s) (h4 : g 4 = 10) (hh : S.2 3 14 10 0 = 0) (hk : g 0 = 5) : fb_C l D n ad cI cZ cS cA my_FB_deliver mb_FB_deliver 4 (some .int) 6 135 M [.ref (ad (0, 0)), .int (nI (j))] (some (.int (nI (g 0)))) (fr_I n q f (pz_hear n q f (pz_rm S j) g)) := by
  have h := hI.2
  have I := hI.1
  have h60 := I.1
  have hj : j < S.1.length := (List.getElem?_eq_some_iff.mp hg).1
  obtain ⟨hs0, hms⟩ := I.2.2.1 g (List.mem_of_getElem? hg)
  have hs : s < 3 := by omega
  rw [hs1] at hms
  have IV := I.2.1 s hs
  have cl := pz_ci_lt (g 2)
  refine xw_start [.ref (ad (0, 0)), .int (nI (j))] (by decide) (Nat.le_of_ble_eq_true rfl) ?_
  intro p e st m below meth cd0 ls Z hml hr hlk hN hl hw
  have hl : lv_has ls 4 [(0, .ref (ad (0, 0))), (1, .int (nI (j)))] := hl
  refine lv_aload_n Z.1 Z.2.1 md_FB_deliver_0 rfl (lv_at hl 0 rfl) ?_
  refine xb_get (v := .ref (ad (2, 0))) Z hw (fb_in0 n) (fb_e0 n ad cI cZ cS cA) rfl tb_iFB 1 (by decide) mk_FB_21 rfl rfl md_FB_deliver_1 ?_
  refine lv_iload_n Z.1 Z.2.1 md_FB_deliver_4 rfl (lv_at hl 1 rfl) ?_
  refine xw_cV (n := 1) (rest := []) Z hml hl.1 hN hw (k_has1 l D ad cI cZ cS cA (M := M) h.2.1 h60 hj) tb_g mc_Mail_has mk_FB_76 mi_Mail_has ms_Mail_has mz_Mail ⟨by decide, by decide, by decide +kernel⟩ ⟨Nat.le_of_ble_eq_true rfl, Nat.le_of_ble_eq_true rfl⟩ (fb_in2 n) (fb_e2 n ad cI cZ cS cA _) rfl rfl rfl rfl (Nat.le_of_ble_eq_true rfl) ⟨Nat.le_refl _, Nat.le_refl _⟩ md_FB_deliver_5 (fun M1 H1 locs1 e1 hw => ?_)
  have ey1 := e1.symm
  subst ey1
  refine W.eq (g2 := F0 m 8 ls [.int (nI (1))]) rfl ?_
  refine xi_if_ne (tgt := 13) Z md_FB_deliver_8 (by decide) (by omega) (fun h8 => ?_) (fun h8 => by exfalso; omega)
  refine lv_aload_n Z.1 Z.2.1 md_FB_deliver_13 rfl (lv_at hl 0 rfl) ?_
  refine xb_get (v := .ref (ad (2, 0))) Z hw (fb_in0 n) (fb_e0 n ad cI cZ cS cA) rfl tb_iFB 1 (by decide) mk_FB_21 rfl rfl md_FB_deliver_14 ?_
  refine lv_iload_n Z.1 Z.2.1 md_FB_deliver_17 rfl (lv_at hl 1 rfl) ?_
  refine xw_cV (n := 1) (rest := []) Z hml hl.1 hN hw (k_take l D ad cI cZ cS cA h h60 hg) tb_g mc_Mail_take mk_FB_79 mi_Mail_take ms_Mail_take mz_Mail ⟨by decide, by decide, by decide +kernel⟩ ⟨Nat.le_of_ble_eq_true rfl, Nat.le_of_ble_eq_true rfl⟩ (fb_in2 n) (fb_e2 n ad cI cZ cS cA _) rfl rfl rfl rfl (Nat.le_of_ble_eq_true rfl) ⟨Nat.le_refl _, Nat.le_refl _⟩ md_FB_deliver_18 (fun M2 H2 locs2 ht hw => ?_)
  refine W.eq (g2 := F0 m 21 ls [.ref (ad (6, 0))]) rfl ?_
  refine lv_astore_n Z.1 Z.2.1 md_FB_deliver_21 rfl hl (by decide) rfl (fun ls hl => ?_)
  have hl : lv_has ls 4 [(2, .ref (ad (6, 0))), (0, .ref (ad (0, 0))), (1, .int (nI (j)))] := hl
  refine lv_aload_n Z.1 Z.2.1 md_FB_deliver_22 rfl (lv_at hl 1 rfl) ?_
  refine xb_get (v := .ref (ad (3, 0))) Z hw (fb_in0 n) (fb_e0 n ad cI cZ cS cA) rfl tb_iFB 2 (by decide) mk_FB_31 rfl rfl md_FB_deliver_23 ?_
  refine lv_aload_n Z.1 Z.2.1 md_FB_deliver_26 rfl (lv_at hl 0 rfl) ?_
  refine xb_get (v := .int (M2 (6, 0) 1)) Z hw (fb_in6 n) (fb_e6 n ad cI cZ cS cA) rfl tb_iMsg 1 (by decide) mk_FB_83 rfl rfl md_FB_deliver_27 ?_
  refine xi_re (show M2 (6, 0) 1 = nI (s) from (by rw [ht.2.2.1]; exact congrArg nI hs1)) ?_
  refine xw_aald (a := ad (7, s)) Z hw (fb_in3 n) (fb_e3 n ad cI cZ cS cA (M2 (3, 0))) 2 rfl (s) rfl hs (by omega) rfl md_FB_deliver_30 ?_
  refine lv_astore_n Z.1 Z.2.1 md_FB_deliver_31 rfl hl (by decide) rfl (fun ls hl => ?_)
  have hl : lv_has ls 4 [(3, .ref (ad (7, s))), (2, .ref (ad (6, 0))), (0, .ref (ad (0, 0))), (1, .int (nI (j)))] := hl
  refine lv_aload_n Z.1 Z.2.1 md_FB_deliver_32 rfl (lv_at hl 2 rfl) ?_
  refine xb_get (v := .ref (ad (4, 0))) Z hw (fb_in0 n) (fb_e0 n ad cI cZ cS cA) rfl tb_iFB 3 (by decide) mk_FB_25 rfl rfl md_FB_deliver_33 ?_
  refine lv_aload_n Z.1 Z.2.1 md_FB_deliver_36 rfl (lv_at hl 1 rfl) ?_
  refine xb_get (v := .int (M2 (6, 0) 4)) Z hw (fb_in6 n) (fb_e6 n ad cI cZ cS cA) rfl tb_iMsg 4 (by decide) mk_FB_88 rfl rfl md_FB_deliver_37 ?_
  refine xi_re (show M2 (6, 0) 4 = nI (10) from (by rw [ht.2.2.2.2.2.1]; exact congrArg nI h4)) ?_
  refine xw_zald Z hw (fb_in4 n) (fb_e4 n ad cI cZ cS cA) 1 rfl (10) rfl (by omega) (by omega) md_FB_deliver_40 ?_
  refine xi_re (show M2 (4, 0) (10) = nI (S.2 3 14 (10) 0) from ht.1.2.2.1 (10) (by omega)) ?_
  have l14 := I.2.2.2 (10)
  refine xi_if_eq (tgt := 49) Z md_FB_deliver_41 (by decide) (by omega) (fun h41 => ?_) (fun h41 => by exfalso; omega)
  refine lv_aload_n Z.1 Z.2.1 md_FB_deliver_49 rfl (lv_at hl 1 rfl) ?_
  refine xb_get (v := .int (M2 (6, 0) 4)) Z hw (fb_in6 n) (fb_e6 n ad cI cZ cS cA) rfl tb_iMsg 4 (by decide) mk_FB_88 rfl rfl md_FB_deliver_50 ?_
  refine xi_re (show M2 (6, 0) 4 = nI (10) from (by rw [ht.2.2.2.2.2.1]; exact congrArg nI h4)) ?_
  refine lv_bipush (v := nI 10) Z.1 Z.2.1 md_FB_deliver_53 (by decide) ?_
  refine xi_icmp_ne (tgt := 80) Z md_FB_deliver_55 (by decide) (by omega) (by omega) (fun h55 => by exfalso; exact h55 rfl) (fun h55 => ?_)
  refine lv_aload_n Z.1 Z.2.1 md_FB_deliver_58 rfl (lv_at hl 0 rfl) ?_
  refine xb_get (v := .ref (ad (13, 2 * s + 1))) Z hw (fb_in7 n hs) (fb_e7 n ad cI cZ cS cA (s)) rfl tb_iSlt 4 (by decide) mk_FB_94 rfl rfl md_FB_deliver_59 ?_
  refine lv_aload_n Z.1 Z.2.1 md_FB_deliver_62 rfl (lv_at hl 1 rfl) ?_
  refine xb_get (v := .int (M2 (6, 0) 2)) Z hw (fb_in6 n) (fb_e6 n ad cI cZ cS cA) rfl tb_iMsg 2 (by decide) mk_FB_98 rfl rfl md_FB_deliver_63 ?_
  refine xi_re (show M2 (6, 0) 2 = nI (g 2) from ht.2.2.2.1) ?_
  refine lv_aload_n Z.1 Z.2.1 md_FB_deliver_66 rfl (lv_at hl 1 rfl) ?_
  refine xb_get (v := .int (M2 (6, 0) 3)) Z hw (fb_in6 n) (fb_e6 n ad cI cZ cS cA) rfl tb_iMsg 3 (by decide) mk_FB_101 rfl rfl md_FB_deliver_67 ?_
  refine xi_re (show M2 (6, 0) 3 = nI (g 3) from ht.2.2.2.2.1 (by omega)) ?_
  refine lv_aload_n Z.1 Z.2.1 md_FB_deliver_70 rfl (lv_at hl 1 rfl) ?_
  refine xb_get (v := .int (M2 (6, 0) 5)) Z hw (fb_in6 n) (fb_e6 n ad cI cZ cS cA) rfl tb_iMsg 5 (by decide) mk_FB_104 rfl rfl md_FB_deliver_71 ?_
  refine xi_re (show M2 (6, 0) 5 = nI (g 5) from ht.2.2.2.2.2.2.1) ?_
  obtain ⟨m1, m2, m3, m4⟩ : 1 ≤ g 2 ∧ g 2 ≤ 12 ∧ g 3 < n ∧ g 5 ≤ 1000 := by
    rcases hms with ⟨a, _⟩ | ⟨a, _⟩ | ⟨a, _⟩ | ⟨a, _⟩ | ⟨_, a, b, d, _, z, _, _⟩
    · omega
    · omega
    · omega
    · omega
    · exact ⟨a, b, d, z⟩
  have iZ := IV.2.2.2.2.2.2.1
  refine xw_cV (n := 3) (rest := []) Z hml hl.1 hN hw (k_record1 (S := pz_rm S j) (r := g 2) (a := g 3) (v := g 5) l D ad cI cZ cS cA hn hq5 hf5 ht.1 hs m2 m3 (by omega) (fun b _ => by have z := iZ.2.1 (g 2) b; show S.2 s 6 (g 2) b < 2 ^ 31; omega) (by have z := iZ.2.2.1; show S.2 s 7 0 0 < 2 ^ 31; omega)) tb_g mc_Tal_record mk_FB_107 mi_Tal_record ms_Tal_record mz_Tal ⟨by decide, by decide, by decide +kernel⟩ ⟨Nat.le_of_ble_eq_true rfl, Nat.le_of_ble_eq_true rfl⟩ (fb_in13 n hs (by decide)) (fb_e13 n ad cI cZ cS cA (2 * s + 1) _) rfl rfl rfl rfl (Nat.le_of_ble_eq_true rfl) ⟨Nat.le_refl _, Nat.le_refl _⟩ md_FB_deliver_74 (fun M3 H3 locs3 h9 hw => ?_)
  refine W.eq (g2 := F0 m 77 ls []) rfl ?_
  refine lv_goto (tgt := 118) Z.1 Z.2.1 md_FB_deliver_77 (by decide) ?_
  refine lv_aload_n Z.1 Z.2.1 md_FB_deliver_118 rfl (lv_at hl 1 rfl) ?_
  refine xb_get (v := .int (M3 (6, 0) 0)) Z hw (fb_in6 n) (fb_e6 n ad cI cZ cS cA) rfl tb_iMsg 0 (by decide) mk_FB_91 rfl rfl md_FB_deliver_119 ?_
  refine xi_re (show M3 (6, 0) 0 = nI (g 0) from (by rw [h9.2]; exact ht.2.1)) ?_
  refine xw_iret Z hr hlk hw md_FB_deliver_122 rfl ⟨pz_deliver_Inv Q I hg, ?_⟩
  unfold pz_hear
  rw [h4, if_neg (fun y => y hh), if_neg (by decide), if_neg (by decide), hs1]
  exact fr_fin2 h9.1 (fun s' c' hs' _ => pz_pw_9 (fun d => by unfold pz_l2; rw [pz_u_k (by decide), pz_u_k (by decide)]))
set_option maxHeartbeats 4000000 in
theorem k_deliver_C1 (l : Launch) (D : va_G) {n : Nat} (ad : Nat × Nat → Nat) (cI cZ cS cA : ClassId) {M : fr_M} {q f : Nat} {S : pz_T} (hn : n ≤ 5) (hq5 : q ≤ 5) (hf5 : f ≤ 5) (Q : pz_Q n q f) (hI : fr_I n q f S M) {j s : Nat} {g : pz_M} (hg : S.1[j]? = some g) (hs1 : g 1 = s) {c : Nat} (hc : c < 2) (h4 : g 4 = 8 + c) (hh : S.2 3 14 (8 + c) 0 = 0) (hk : g 0 = 1) : fb_C l D n ad cI cZ cS cA my_FB_deliver mb_FB_deliver 4 (some .int) 6 135 M [.ref (ad (0, 0)), .int (nI (j))] (some (.int (nI (g 0)))) (fr_I n q f (pz_hear n q f (pz_rm S j) g)) := by
  have h := hI.2
  have I := hI.1
  have h60 := I.1
  have hj : j < S.1.length := (List.getElem?_eq_some_iff.mp hg).1
  obtain ⟨hs0, hms⟩ := I.2.2.1 g (List.mem_of_getElem? hg)
  have hs : s < 3 := by omega
  rw [hs1] at hms
  have IV := I.2.1 s hs
  have cl := pz_ci_lt (g 2)
  refine xw_start [.ref (ad (0, 0)), .int (nI (j))] (by decide) (Nat.le_of_ble_eq_true rfl) ?_
  intro p e st m below meth cd0 ls Z hml hr hlk hN hl hw
  have hl : lv_has ls 4 [(0, .ref (ad (0, 0))), (1, .int (nI (j)))] := hl
  refine lv_aload_n Z.1 Z.2.1 md_FB_deliver_0 rfl (lv_at hl 0 rfl) ?_
  refine xb_get (v := .ref (ad (2, 0))) Z hw (fb_in0 n) (fb_e0 n ad cI cZ cS cA) rfl tb_iFB 1 (by decide) mk_FB_21 rfl rfl md_FB_deliver_1 ?_
  refine lv_iload_n Z.1 Z.2.1 md_FB_deliver_4 rfl (lv_at hl 1 rfl) ?_
  refine xw_cV (n := 1) (rest := []) Z hml hl.1 hN hw (k_has1 l D ad cI cZ cS cA (M := M) h.2.1 h60 hj) tb_g mc_Mail_has mk_FB_76 mi_Mail_has ms_Mail_has mz_Mail ⟨by decide, by decide, by decide +kernel⟩ ⟨Nat.le_of_ble_eq_true rfl, Nat.le_of_ble_eq_true rfl⟩ (fb_in2 n) (fb_e2 n ad cI cZ cS cA _) rfl rfl rfl rfl (Nat.le_of_ble_eq_true rfl) ⟨Nat.le_refl _, Nat.le_refl _⟩ md_FB_deliver_5 (fun M1 H1 locs1 e1 hw => ?_)
  have ey1 := e1.symm
  subst ey1
  refine W.eq (g2 := F0 m 8 ls [.int (nI (1))]) rfl ?_
  refine xi_if_ne (tgt := 13) Z md_FB_deliver_8 (by decide) (by omega) (fun h8 => ?_) (fun h8 => by exfalso; omega)
  refine lv_aload_n Z.1 Z.2.1 md_FB_deliver_13 rfl (lv_at hl 0 rfl) ?_
  refine xb_get (v := .ref (ad (2, 0))) Z hw (fb_in0 n) (fb_e0 n ad cI cZ cS cA) rfl tb_iFB 1 (by decide) mk_FB_21 rfl rfl md_FB_deliver_14 ?_
  refine lv_iload_n Z.1 Z.2.1 md_FB_deliver_17 rfl (lv_at hl 1 rfl) ?_
  refine xw_cV (n := 1) (rest := []) Z hml hl.1 hN hw (k_take l D ad cI cZ cS cA h h60 hg) tb_g mc_Mail_take mk_FB_79 mi_Mail_take ms_Mail_take mz_Mail ⟨by decide, by decide, by decide +kernel⟩ ⟨Nat.le_of_ble_eq_true rfl, Nat.le_of_ble_eq_true rfl⟩ (fb_in2 n) (fb_e2 n ad cI cZ cS cA _) rfl rfl rfl rfl (Nat.le_of_ble_eq_true rfl) ⟨Nat.le_refl _, Nat.le_refl _⟩ md_FB_deliver_18 (fun M2 H2 locs2 ht hw => ?_)
  refine W.eq (g2 := F0 m 21 ls [.ref (ad (6, 0))]) rfl ?_
  refine lv_astore_n Z.1 Z.2.1 md_FB_deliver_21 rfl hl (by decide) rfl (fun ls hl => ?_)
  have hl : lv_has ls 4 [(2, .ref (ad (6, 0))), (0, .ref (ad (0, 0))), (1, .int (nI (j)))] := hl
  refine lv_aload_n Z.1 Z.2.1 md_FB_deliver_22 rfl (lv_at hl 1 rfl) ?_
  refine xb_get (v := .ref (ad (3, 0))) Z hw (fb_in0 n) (fb_e0 n ad cI cZ cS cA) rfl tb_iFB 2 (by decide) mk_FB_31 rfl rfl md_FB_deliver_23 ?_
  refine lv_aload_n Z.1 Z.2.1 md_FB_deliver_26 rfl (lv_at hl 0 rfl) ?_
  refine xb_get (v := .int (M2 (6, 0) 1)) Z hw (fb_in6 n) (fb_e6 n ad cI cZ cS cA) rfl tb_iMsg 1 (by decide) mk_FB_83 rfl rfl md_FB_deliver_27 ?_
  refine xi_re (show M2 (6, 0) 1 = nI (s) from (by rw [ht.2.2.1]; exact congrArg nI hs1)) ?_
  refine xw_aald (a := ad (7, s)) Z hw (fb_in3 n) (fb_e3 n ad cI cZ cS cA (M2 (3, 0))) 2 rfl (s) rfl hs (by omega) rfl md_FB_deliver_30 ?_
  refine lv_astore_n Z.1 Z.2.1 md_FB_deliver_31 rfl hl (by decide) rfl (fun ls hl => ?_)
  have hl : lv_has ls 4 [(3, .ref (ad (7, s))), (2, .ref (ad (6, 0))), (0, .ref (ad (0, 0))), (1, .int (nI (j)))] := hl
  refine lv_aload_n Z.1 Z.2.1 md_FB_deliver_32 rfl (lv_at hl 2 rfl) ?_
  refine xb_get (v := .ref (ad (4, 0))) Z hw (fb_in0 n) (fb_e0 n ad cI cZ cS cA) rfl tb_iFB 3 (by decide) mk_FB_25 rfl rfl md_FB_deliver_33 ?_
  refine lv_aload_n Z.1 Z.2.1 md_FB_deliver_36 rfl (lv_at hl 1 rfl) ?_
  refine xb_get (v := .int (M2 (6, 0) 4)) Z hw (fb_in6 n) (fb_e6 n ad cI cZ cS cA) rfl tb_iMsg 4 (by decide) mk_FB_88 rfl rfl md_FB_deliver_37 ?_
  refine xi_re (show M2 (6, 0) 4 = nI (8 + c) from (by rw [ht.2.2.2.2.2.1]; exact congrArg nI h4)) ?_
  refine xw_zald Z hw (fb_in4 n) (fb_e4 n ad cI cZ cS cA) 1 rfl (8 + c) rfl (by omega) (by omega) md_FB_deliver_40 ?_
  refine xi_re (show M2 (4, 0) (8 + c) = nI (S.2 3 14 (8 + c) 0) from ht.1.2.2.1 (8 + c) (by omega)) ?_
  have l14 := I.2.2.2 (8 + c)
  refine xi_if_eq (tgt := 49) Z md_FB_deliver_41 (by decide) (by omega) (fun h41 => ?_) (fun h41 => by exfalso; omega)
  refine lv_aload_n Z.1 Z.2.1 md_FB_deliver_49 rfl (lv_at hl 1 rfl) ?_
  refine xb_get (v := .int (M2 (6, 0) 4)) Z hw (fb_in6 n) (fb_e6 n ad cI cZ cS cA) rfl tb_iMsg 4 (by decide) mk_FB_88 rfl rfl md_FB_deliver_50 ?_
  refine xi_re (show M2 (6, 0) 4 = nI (8 + c) from (by rw [ht.2.2.2.2.2.1]; exact congrArg nI h4)) ?_
  refine lv_bipush (v := nI 10) Z.1 Z.2.1 md_FB_deliver_53 (by decide) ?_
  refine xi_icmp_ne (tgt := 80) Z md_FB_deliver_55 (by decide) (by omega) (by omega) (fun h55 => ?_) (fun h55 => by exfalso; omega)
  refine lv_aload_n Z.1 Z.2.1 md_FB_deliver_80 rfl (lv_at hl 1 rfl) ?_
  refine xb_get (v := .int (M2 (6, 0) 4)) Z hw (fb_in6 n) (fb_e6 n ad cI cZ cS cA) rfl tb_iMsg 4 (by decide) mk_FB_88 rfl rfl md_FB_deliver_81 ?_
  refine xi_re (show M2 (6, 0) 4 = nI (8 + c) from (by rw [ht.2.2.2.2.2.1]; exact congrArg nI h4)) ?_
  refine xw_cS (n := 1) (rest := []) Z hml hl.1 hN hw (k_isCoordinator1 l D ad cI cZ cS cA (M := M2) (show 8 + c = 8 ∨ 8 + c = 9 by omega)) tb_g mc_FB_isCoordinator mk_FB_112 mt_FB_isCoordinator mz_FB ⟨by decide, by decide, by decide +kernel⟩ ⟨Nat.le_of_ble_eq_true rfl, Nat.le_of_ble_eq_true rfl⟩ rfl rfl (Nat.le_of_ble_eq_true rfl) ⟨Nat.le_refl _, Nat.le_refl _⟩ md_FB_deliver_84 (fun M3 H3 locs3 e3 hw => ?_)
  have ey3 := e3.symm
  subst ey3
  refine W.eq (g2 := F0 m 87 ls [.int (nI (1))]) rfl ?_
  refine xi_if_eq (tgt := 105) Z md_FB_deliver_87 (by decide) (by omega) (fun h87 => by exfalso; omega) (fun h87 => ?_)
  refine lv_aload_n Z.1 Z.2.1 md_FB_deliver_90 rfl (lv_at hl 0 rfl) ?_
  refine lv_aload_n Z.1 Z.2.1 md_FB_deliver_91 rfl (lv_at hl 1 rfl) ?_
  refine xb_get (v := .int (M2 (6, 0) 4)) Z hw (fb_in6 n) (fb_e6 n ad cI cZ cS cA) rfl tb_iMsg 4 (by decide) mk_FB_88 rfl rfl md_FB_deliver_92 ?_
  refine xi_re (show M2 (6, 0) 4 = nI (8 + c) from (by rw [ht.2.2.2.2.2.1]; exact congrArg nI h4)) ?_
  refine xw_cV (n := 1) (rest := []) Z hml hl.1 hN hw (k_coordinator l D ad cI cZ cS cA (M := M2) hs hc) tb_g mc_Slt_coordinator mk_FB_63 mi_Slt_coordinator ms_Slt_coordinator mz_Slt ⟨by decide, by decide, by decide +kernel⟩ ⟨Nat.le_of_ble_eq_true rfl, Nat.le_of_ble_eq_true rfl⟩ (fb_in7 n hs) (fb_e7 n ad cI cZ cS cA (s) _) rfl rfl rfl rfl (Nat.le_of_ble_eq_true rfl) ⟨Nat.le_refl _, Nat.le_refl _⟩ md_FB_deliver_95 (fun M4 H4 locs4 e4 hw => ?_)
  have ey4 := e4.symm
  subst ey4
  refine W.eq (g2 := F0 m 98 ls [.ref (ad (9, 2 * s + c))]) rfl ?_
  refine lv_aload_n Z.1 Z.2.1 md_FB_deliver_98 rfl (lv_at hl 1 rfl) ?_
  refine xw_cV (n := 1) (rest := []) Z hml hl.1 hN hw (k_Chear1 (S := pz_rm S j) l D ad cI cZ cS cA hn hq5 hf5 ht.1 (show (pz_rm S j).1.length ≤ 60 from (pz_rm_Inv I).1) Q IV hs hc ht.2 hms hk (by rcases hms with ⟨_, _, _, _, z⟩ | ⟨a, _⟩ | ⟨a, _⟩ | ⟨a, _⟩ | ⟨a, _⟩ <;> omega)) tb_g mc_Cor_hear mk_FB_115 mi_Cor_hear ms_Cor_hear mz_Cor ⟨by decide, by decide, by decide +kernel⟩ ⟨Nat.le_of_ble_eq_true rfl, Nat.le_of_ble_eq_true rfl⟩ (fb_in9 n hs hc) (fb_e9 n ad cI cZ cS cA (2 * s + c) _) rfl rfl rfl rfl (Nat.le_of_ble_eq_true rfl) ⟨Nat.le_refl _, Nat.le_refl _⟩ md_FB_deliver_99 (fun M5 H5 locs5 h9 hw => ?_)
  refine W.eq (g2 := F0 m 102 ls []) rfl ?_
  refine lv_goto (tgt := 118) Z.1 Z.2.1 md_FB_deliver_102 (by decide) ?_
  refine lv_aload_n Z.1 Z.2.1 md_FB_deliver_118 rfl (lv_at hl 1 rfl) ?_
  refine xb_get (v := .int (M5 (6, 0) 0)) Z hw (fb_in6 n) (fb_e6 n ad cI cZ cS cA) rfl tb_iMsg 0 (by decide) mk_FB_91 rfl rfl md_FB_deliver_119 ?_
  refine xi_re (show M5 (6, 0) 0 = nI (g 0) from (by rw [h9.2]; exact ht.2.1)) ?_
  refine xw_iret Z hr hlk hw md_FB_deliver_122 rfl ⟨pz_deliver_Inv Q I hg, ?_⟩
  unfold pz_hear
  rw [h4, if_neg (fun y => y hh), if_neg (by omega), if_pos (by omega), hs1, Nat.add_sub_cancel_left]
  exact h9.1
set_option maxHeartbeats 4000000 in
theorem k_deliver_C3 (l : Launch) (D : va_G) {n : Nat} (ad : Nat × Nat → Nat) (cI cZ cS cA : ClassId) {M : fr_M} {q f : Nat} {S : pz_T} (hn : n ≤ 5) (hq5 : q ≤ 5) (hf5 : f ≤ 5) (Q : pz_Q n q f) (hI : fr_I n q f S M) {j s : Nat} {g : pz_M} (hg : S.1[j]? = some g) (hs1 : g 1 = s) {c : Nat} (hc : c < 2) (h4 : g 4 = 8 + c) (hh : S.2 3 14 (8 + c) 0 = 0) (hk : g 0 = 3) : fb_C l D n ad cI cZ cS cA my_FB_deliver mb_FB_deliver 4 (some .int) 6 135 M [.ref (ad (0, 0)), .int (nI (j))] (some (.int (nI (g 0)))) (fr_I n q f (pz_hear n q f (pz_rm S j) g)) := by
  have h := hI.2
  have I := hI.1
  have h60 := I.1
  have hj : j < S.1.length := (List.getElem?_eq_some_iff.mp hg).1
  obtain ⟨hs0, hms⟩ := I.2.2.1 g (List.mem_of_getElem? hg)
  have hs : s < 3 := by omega
  rw [hs1] at hms
  have IV := I.2.1 s hs
  have cl := pz_ci_lt (g 2)
  refine xw_start [.ref (ad (0, 0)), .int (nI (j))] (by decide) (Nat.le_of_ble_eq_true rfl) ?_
  intro p e st m below meth cd0 ls Z hml hr hlk hN hl hw
  have hl : lv_has ls 4 [(0, .ref (ad (0, 0))), (1, .int (nI (j)))] := hl
  refine lv_aload_n Z.1 Z.2.1 md_FB_deliver_0 rfl (lv_at hl 0 rfl) ?_
  refine xb_get (v := .ref (ad (2, 0))) Z hw (fb_in0 n) (fb_e0 n ad cI cZ cS cA) rfl tb_iFB 1 (by decide) mk_FB_21 rfl rfl md_FB_deliver_1 ?_
  refine lv_iload_n Z.1 Z.2.1 md_FB_deliver_4 rfl (lv_at hl 1 rfl) ?_
  refine xw_cV (n := 1) (rest := []) Z hml hl.1 hN hw (k_has1 l D ad cI cZ cS cA (M := M) h.2.1 h60 hj) tb_g mc_Mail_has mk_FB_76 mi_Mail_has ms_Mail_has mz_Mail ⟨by decide, by decide, by decide +kernel⟩ ⟨Nat.le_of_ble_eq_true rfl, Nat.le_of_ble_eq_true rfl⟩ (fb_in2 n) (fb_e2 n ad cI cZ cS cA _) rfl rfl rfl rfl (Nat.le_of_ble_eq_true rfl) ⟨Nat.le_refl _, Nat.le_refl _⟩ md_FB_deliver_5 (fun M1 H1 locs1 e1 hw => ?_)
  have ey1 := e1.symm
  subst ey1
  refine W.eq (g2 := F0 m 8 ls [.int (nI (1))]) rfl ?_
  refine xi_if_ne (tgt := 13) Z md_FB_deliver_8 (by decide) (by omega) (fun h8 => ?_) (fun h8 => by exfalso; omega)
  refine lv_aload_n Z.1 Z.2.1 md_FB_deliver_13 rfl (lv_at hl 0 rfl) ?_
  refine xb_get (v := .ref (ad (2, 0))) Z hw (fb_in0 n) (fb_e0 n ad cI cZ cS cA) rfl tb_iFB 1 (by decide) mk_FB_21 rfl rfl md_FB_deliver_14 ?_
  refine lv_iload_n Z.1 Z.2.1 md_FB_deliver_17 rfl (lv_at hl 1 rfl) ?_
  refine xw_cV (n := 1) (rest := []) Z hml hl.1 hN hw (k_take l D ad cI cZ cS cA h h60 hg) tb_g mc_Mail_take mk_FB_79 mi_Mail_take ms_Mail_take mz_Mail ⟨by decide, by decide, by decide +kernel⟩ ⟨Nat.le_of_ble_eq_true rfl, Nat.le_of_ble_eq_true rfl⟩ (fb_in2 n) (fb_e2 n ad cI cZ cS cA _) rfl rfl rfl rfl (Nat.le_of_ble_eq_true rfl) ⟨Nat.le_refl _, Nat.le_refl _⟩ md_FB_deliver_18 (fun M2 H2 locs2 ht hw => ?_)
  refine W.eq (g2 := F0 m 21 ls [.ref (ad (6, 0))]) rfl ?_
  refine lv_astore_n Z.1 Z.2.1 md_FB_deliver_21 rfl hl (by decide) rfl (fun ls hl => ?_)
  have hl : lv_has ls 4 [(2, .ref (ad (6, 0))), (0, .ref (ad (0, 0))), (1, .int (nI (j)))] := hl
  refine lv_aload_n Z.1 Z.2.1 md_FB_deliver_22 rfl (lv_at hl 1 rfl) ?_
  refine xb_get (v := .ref (ad (3, 0))) Z hw (fb_in0 n) (fb_e0 n ad cI cZ cS cA) rfl tb_iFB 2 (by decide) mk_FB_31 rfl rfl md_FB_deliver_23 ?_
  refine lv_aload_n Z.1 Z.2.1 md_FB_deliver_26 rfl (lv_at hl 0 rfl) ?_
  refine xb_get (v := .int (M2 (6, 0) 1)) Z hw (fb_in6 n) (fb_e6 n ad cI cZ cS cA) rfl tb_iMsg 1 (by decide) mk_FB_83 rfl rfl md_FB_deliver_27 ?_
  refine xi_re (show M2 (6, 0) 1 = nI (s) from (by rw [ht.2.2.1]; exact congrArg nI hs1)) ?_
  refine xw_aald (a := ad (7, s)) Z hw (fb_in3 n) (fb_e3 n ad cI cZ cS cA (M2 (3, 0))) 2 rfl (s) rfl hs (by omega) rfl md_FB_deliver_30 ?_
  refine lv_astore_n Z.1 Z.2.1 md_FB_deliver_31 rfl hl (by decide) rfl (fun ls hl => ?_)
  have hl : lv_has ls 4 [(3, .ref (ad (7, s))), (2, .ref (ad (6, 0))), (0, .ref (ad (0, 0))), (1, .int (nI (j)))] := hl
  refine lv_aload_n Z.1 Z.2.1 md_FB_deliver_32 rfl (lv_at hl 2 rfl) ?_
  refine xb_get (v := .ref (ad (4, 0))) Z hw (fb_in0 n) (fb_e0 n ad cI cZ cS cA) rfl tb_iFB 3 (by decide) mk_FB_25 rfl rfl md_FB_deliver_33 ?_
  refine lv_aload_n Z.1 Z.2.1 md_FB_deliver_36 rfl (lv_at hl 1 rfl) ?_
  refine xb_get (v := .int (M2 (6, 0) 4)) Z hw (fb_in6 n) (fb_e6 n ad cI cZ cS cA) rfl tb_iMsg 4 (by decide) mk_FB_88 rfl rfl md_FB_deliver_37 ?_
  refine xi_re (show M2 (6, 0) 4 = nI (8 + c) from (by rw [ht.2.2.2.2.2.1]; exact congrArg nI h4)) ?_
  refine xw_zald Z hw (fb_in4 n) (fb_e4 n ad cI cZ cS cA) 1 rfl (8 + c) rfl (by omega) (by omega) md_FB_deliver_40 ?_
  refine xi_re (show M2 (4, 0) (8 + c) = nI (S.2 3 14 (8 + c) 0) from ht.1.2.2.1 (8 + c) (by omega)) ?_
  have l14 := I.2.2.2 (8 + c)
  refine xi_if_eq (tgt := 49) Z md_FB_deliver_41 (by decide) (by omega) (fun h41 => ?_) (fun h41 => by exfalso; omega)
  refine lv_aload_n Z.1 Z.2.1 md_FB_deliver_49 rfl (lv_at hl 1 rfl) ?_
  refine xb_get (v := .int (M2 (6, 0) 4)) Z hw (fb_in6 n) (fb_e6 n ad cI cZ cS cA) rfl tb_iMsg 4 (by decide) mk_FB_88 rfl rfl md_FB_deliver_50 ?_
  refine xi_re (show M2 (6, 0) 4 = nI (8 + c) from (by rw [ht.2.2.2.2.2.1]; exact congrArg nI h4)) ?_
  refine lv_bipush (v := nI 10) Z.1 Z.2.1 md_FB_deliver_53 (by decide) ?_
  refine xi_icmp_ne (tgt := 80) Z md_FB_deliver_55 (by decide) (by omega) (by omega) (fun h55 => ?_) (fun h55 => by exfalso; omega)
  refine lv_aload_n Z.1 Z.2.1 md_FB_deliver_80 rfl (lv_at hl 1 rfl) ?_
  refine xb_get (v := .int (M2 (6, 0) 4)) Z hw (fb_in6 n) (fb_e6 n ad cI cZ cS cA) rfl tb_iMsg 4 (by decide) mk_FB_88 rfl rfl md_FB_deliver_81 ?_
  refine xi_re (show M2 (6, 0) 4 = nI (8 + c) from (by rw [ht.2.2.2.2.2.1]; exact congrArg nI h4)) ?_
  refine xw_cS (n := 1) (rest := []) Z hml hl.1 hN hw (k_isCoordinator1 l D ad cI cZ cS cA (M := M2) (show 8 + c = 8 ∨ 8 + c = 9 by omega)) tb_g mc_FB_isCoordinator mk_FB_112 mt_FB_isCoordinator mz_FB ⟨by decide, by decide, by decide +kernel⟩ ⟨Nat.le_of_ble_eq_true rfl, Nat.le_of_ble_eq_true rfl⟩ rfl rfl (Nat.le_of_ble_eq_true rfl) ⟨Nat.le_refl _, Nat.le_refl _⟩ md_FB_deliver_84 (fun M3 H3 locs3 e3 hw => ?_)
  have ey3 := e3.symm
  subst ey3
  refine W.eq (g2 := F0 m 87 ls [.int (nI (1))]) rfl ?_
  refine xi_if_eq (tgt := 105) Z md_FB_deliver_87 (by decide) (by omega) (fun h87 => by exfalso; omega) (fun h87 => ?_)
  refine lv_aload_n Z.1 Z.2.1 md_FB_deliver_90 rfl (lv_at hl 0 rfl) ?_
  refine lv_aload_n Z.1 Z.2.1 md_FB_deliver_91 rfl (lv_at hl 1 rfl) ?_
  refine xb_get (v := .int (M2 (6, 0) 4)) Z hw (fb_in6 n) (fb_e6 n ad cI cZ cS cA) rfl tb_iMsg 4 (by decide) mk_FB_88 rfl rfl md_FB_deliver_92 ?_
  refine xi_re (show M2 (6, 0) 4 = nI (8 + c) from (by rw [ht.2.2.2.2.2.1]; exact congrArg nI h4)) ?_
  refine xw_cV (n := 1) (rest := []) Z hml hl.1 hN hw (k_coordinator l D ad cI cZ cS cA (M := M2) hs hc) tb_g mc_Slt_coordinator mk_FB_63 mi_Slt_coordinator ms_Slt_coordinator mz_Slt ⟨by decide, by decide, by decide +kernel⟩ ⟨Nat.le_of_ble_eq_true rfl, Nat.le_of_ble_eq_true rfl⟩ (fb_in7 n hs) (fb_e7 n ad cI cZ cS cA (s) _) rfl rfl rfl rfl (Nat.le_of_ble_eq_true rfl) ⟨Nat.le_refl _, Nat.le_refl _⟩ md_FB_deliver_95 (fun M4 H4 locs4 e4 hw => ?_)
  have ey4 := e4.symm
  subst ey4
  refine W.eq (g2 := F0 m 98 ls [.ref (ad (9, 2 * s + c))]) rfl ?_
  refine lv_aload_n Z.1 Z.2.1 md_FB_deliver_98 rfl (lv_at hl 1 rfl) ?_
  refine xw_cV (n := 1) (rest := []) Z hml hl.1 hN hw (k_Chear3 (S := pz_rm S j) l D ad cI cZ cS cA hn hq5 hf5 ht.1 (show (pz_rm S j).1.length ≤ 60 from (pz_rm_Inv I).1) Q IV hs hc ht.2 hms hk) tb_g mc_Cor_hear mk_FB_115 mi_Cor_hear ms_Cor_hear mz_Cor ⟨by decide, by decide, by decide +kernel⟩ ⟨Nat.le_of_ble_eq_true rfl, Nat.le_of_ble_eq_true rfl⟩ (fb_in9 n hs hc) (fb_e9 n ad cI cZ cS cA (2 * s + c) _) rfl rfl rfl rfl (Nat.le_of_ble_eq_true rfl) ⟨Nat.le_refl _, Nat.le_refl _⟩ md_FB_deliver_99 (fun M5 H5 locs5 h9 hw => ?_)
  refine W.eq (g2 := F0 m 102 ls []) rfl ?_
  refine lv_goto (tgt := 118) Z.1 Z.2.1 md_FB_deliver_102 (by decide) ?_
  refine lv_aload_n Z.1 Z.2.1 md_FB_deliver_118 rfl (lv_at hl 1 rfl) ?_
  refine xb_get (v := .int (M5 (6, 0) 0)) Z hw (fb_in6 n) (fb_e6 n ad cI cZ cS cA) rfl tb_iMsg 0 (by decide) mk_FB_91 rfl rfl md_FB_deliver_119 ?_
  refine xi_re (show M5 (6, 0) 0 = nI (g 0) from (by rw [h9.2]; exact ht.2.1)) ?_
  refine xw_iret Z hr hlk hw md_FB_deliver_122 rfl ⟨pz_deliver_Inv Q I hg, ?_⟩
  unfold pz_hear
  rw [h4, if_neg (fun y => y hh), if_neg (by omega), if_pos (by omega), hs1, Nat.add_sub_cancel_left]
  exact h9.1
set_option maxHeartbeats 4000000 in
theorem k_deliver_C5 (l : Launch) (D : va_G) {n : Nat} (ad : Nat × Nat → Nat) (cI cZ cS cA : ClassId) {M : fr_M} {q f : Nat} {S : pz_T} (hn : n ≤ 5) (hq5 : q ≤ 5) (hf5 : f ≤ 5) (Q : pz_Q n q f) (hI : fr_I n q f S M) {j s : Nat} {g : pz_M} (hg : S.1[j]? = some g) (hs1 : g 1 = s) {c : Nat} (hc : c < 2) (h4 : g 4 = 8 + c) (hh : S.2 3 14 (8 + c) 0 = 0) (hk : g 0 = 5) : fb_C l D n ad cI cZ cS cA my_FB_deliver mb_FB_deliver 4 (some .int) 6 135 M [.ref (ad (0, 0)), .int (nI (j))] (some (.int (nI (g 0)))) (fr_I n q f (pz_hear n q f (pz_rm S j) g)) := by
  have h := hI.2
  have I := hI.1
  have h60 := I.1
  have hj : j < S.1.length := (List.getElem?_eq_some_iff.mp hg).1
  obtain ⟨hs0, hms⟩ := I.2.2.1 g (List.mem_of_getElem? hg)
  have hs : s < 3 := by omega
  rw [hs1] at hms
  have IV := I.2.1 s hs
  have cl := pz_ci_lt (g 2)
  refine xw_start [.ref (ad (0, 0)), .int (nI (j))] (by decide) (Nat.le_of_ble_eq_true rfl) ?_
  intro p e st m below meth cd0 ls Z hml hr hlk hN hl hw
  have hl : lv_has ls 4 [(0, .ref (ad (0, 0))), (1, .int (nI (j)))] := hl
  refine lv_aload_n Z.1 Z.2.1 md_FB_deliver_0 rfl (lv_at hl 0 rfl) ?_
  refine xb_get (v := .ref (ad (2, 0))) Z hw (fb_in0 n) (fb_e0 n ad cI cZ cS cA) rfl tb_iFB 1 (by decide) mk_FB_21 rfl rfl md_FB_deliver_1 ?_
  refine lv_iload_n Z.1 Z.2.1 md_FB_deliver_4 rfl (lv_at hl 1 rfl) ?_
  refine xw_cV (n := 1) (rest := []) Z hml hl.1 hN hw (k_has1 l D ad cI cZ cS cA (M := M) h.2.1 h60 hj) tb_g mc_Mail_has mk_FB_76 mi_Mail_has ms_Mail_has mz_Mail ⟨by decide, by decide, by decide +kernel⟩ ⟨Nat.le_of_ble_eq_true rfl, Nat.le_of_ble_eq_true rfl⟩ (fb_in2 n) (fb_e2 n ad cI cZ cS cA _) rfl rfl rfl rfl (Nat.le_of_ble_eq_true rfl) ⟨Nat.le_refl _, Nat.le_refl _⟩ md_FB_deliver_5 (fun M1 H1 locs1 e1 hw => ?_)
  have ey1 := e1.symm
  subst ey1
  refine W.eq (g2 := F0 m 8 ls [.int (nI (1))]) rfl ?_
  refine xi_if_ne (tgt := 13) Z md_FB_deliver_8 (by decide) (by omega) (fun h8 => ?_) (fun h8 => by exfalso; omega)
  refine lv_aload_n Z.1 Z.2.1 md_FB_deliver_13 rfl (lv_at hl 0 rfl) ?_
  refine xb_get (v := .ref (ad (2, 0))) Z hw (fb_in0 n) (fb_e0 n ad cI cZ cS cA) rfl tb_iFB 1 (by decide) mk_FB_21 rfl rfl md_FB_deliver_14 ?_
  refine lv_iload_n Z.1 Z.2.1 md_FB_deliver_17 rfl (lv_at hl 1 rfl) ?_
  refine xw_cV (n := 1) (rest := []) Z hml hl.1 hN hw (k_take l D ad cI cZ cS cA h h60 hg) tb_g mc_Mail_take mk_FB_79 mi_Mail_take ms_Mail_take mz_Mail ⟨by decide, by decide, by decide +kernel⟩ ⟨Nat.le_of_ble_eq_true rfl, Nat.le_of_ble_eq_true rfl⟩ (fb_in2 n) (fb_e2 n ad cI cZ cS cA _) rfl rfl rfl rfl (Nat.le_of_ble_eq_true rfl) ⟨Nat.le_refl _, Nat.le_refl _⟩ md_FB_deliver_18 (fun M2 H2 locs2 ht hw => ?_)
  refine W.eq (g2 := F0 m 21 ls [.ref (ad (6, 0))]) rfl ?_
  refine lv_astore_n Z.1 Z.2.1 md_FB_deliver_21 rfl hl (by decide) rfl (fun ls hl => ?_)
  have hl : lv_has ls 4 [(2, .ref (ad (6, 0))), (0, .ref (ad (0, 0))), (1, .int (nI (j)))] := hl
  refine lv_aload_n Z.1 Z.2.1 md_FB_deliver_22 rfl (lv_at hl 1 rfl) ?_
  refine xb_get (v := .ref (ad (3, 0))) Z hw (fb_in0 n) (fb_e0 n ad cI cZ cS cA) rfl tb_iFB 2 (by decide) mk_FB_31 rfl rfl md_FB_deliver_23 ?_
  refine lv_aload_n Z.1 Z.2.1 md_FB_deliver_26 rfl (lv_at hl 0 rfl) ?_
  refine xb_get (v := .int (M2 (6, 0) 1)) Z hw (fb_in6 n) (fb_e6 n ad cI cZ cS cA) rfl tb_iMsg 1 (by decide) mk_FB_83 rfl rfl md_FB_deliver_27 ?_
  refine xi_re (show M2 (6, 0) 1 = nI (s) from (by rw [ht.2.2.1]; exact congrArg nI hs1)) ?_
  refine xw_aald (a := ad (7, s)) Z hw (fb_in3 n) (fb_e3 n ad cI cZ cS cA (M2 (3, 0))) 2 rfl (s) rfl hs (by omega) rfl md_FB_deliver_30 ?_
  refine lv_astore_n Z.1 Z.2.1 md_FB_deliver_31 rfl hl (by decide) rfl (fun ls hl => ?_)
  have hl : lv_has ls 4 [(3, .ref (ad (7, s))), (2, .ref (ad (6, 0))), (0, .ref (ad (0, 0))), (1, .int (nI (j)))] := hl
  refine lv_aload_n Z.1 Z.2.1 md_FB_deliver_32 rfl (lv_at hl 2 rfl) ?_
  refine xb_get (v := .ref (ad (4, 0))) Z hw (fb_in0 n) (fb_e0 n ad cI cZ cS cA) rfl tb_iFB 3 (by decide) mk_FB_25 rfl rfl md_FB_deliver_33 ?_
  refine lv_aload_n Z.1 Z.2.1 md_FB_deliver_36 rfl (lv_at hl 1 rfl) ?_
  refine xb_get (v := .int (M2 (6, 0) 4)) Z hw (fb_in6 n) (fb_e6 n ad cI cZ cS cA) rfl tb_iMsg 4 (by decide) mk_FB_88 rfl rfl md_FB_deliver_37 ?_
  refine xi_re (show M2 (6, 0) 4 = nI (8 + c) from (by rw [ht.2.2.2.2.2.1]; exact congrArg nI h4)) ?_
  refine xw_zald Z hw (fb_in4 n) (fb_e4 n ad cI cZ cS cA) 1 rfl (8 + c) rfl (by omega) (by omega) md_FB_deliver_40 ?_
  refine xi_re (show M2 (4, 0) (8 + c) = nI (S.2 3 14 (8 + c) 0) from ht.1.2.2.1 (8 + c) (by omega)) ?_
  have l14 := I.2.2.2 (8 + c)
  refine xi_if_eq (tgt := 49) Z md_FB_deliver_41 (by decide) (by omega) (fun h41 => ?_) (fun h41 => by exfalso; omega)
  refine lv_aload_n Z.1 Z.2.1 md_FB_deliver_49 rfl (lv_at hl 1 rfl) ?_
  refine xb_get (v := .int (M2 (6, 0) 4)) Z hw (fb_in6 n) (fb_e6 n ad cI cZ cS cA) rfl tb_iMsg 4 (by decide) mk_FB_88 rfl rfl md_FB_deliver_50 ?_
  refine xi_re (show M2 (6, 0) 4 = nI (8 + c) from (by rw [ht.2.2.2.2.2.1]; exact congrArg nI h4)) ?_
  refine lv_bipush (v := nI 10) Z.1 Z.2.1 md_FB_deliver_53 (by decide) ?_
  refine xi_icmp_ne (tgt := 80) Z md_FB_deliver_55 (by decide) (by omega) (by omega) (fun h55 => ?_) (fun h55 => by exfalso; omega)
  refine lv_aload_n Z.1 Z.2.1 md_FB_deliver_80 rfl (lv_at hl 1 rfl) ?_
  refine xb_get (v := .int (M2 (6, 0) 4)) Z hw (fb_in6 n) (fb_e6 n ad cI cZ cS cA) rfl tb_iMsg 4 (by decide) mk_FB_88 rfl rfl md_FB_deliver_81 ?_
  refine xi_re (show M2 (6, 0) 4 = nI (8 + c) from (by rw [ht.2.2.2.2.2.1]; exact congrArg nI h4)) ?_
  refine xw_cS (n := 1) (rest := []) Z hml hl.1 hN hw (k_isCoordinator1 l D ad cI cZ cS cA (M := M2) (show 8 + c = 8 ∨ 8 + c = 9 by omega)) tb_g mc_FB_isCoordinator mk_FB_112 mt_FB_isCoordinator mz_FB ⟨by decide, by decide, by decide +kernel⟩ ⟨Nat.le_of_ble_eq_true rfl, Nat.le_of_ble_eq_true rfl⟩ rfl rfl (Nat.le_of_ble_eq_true rfl) ⟨Nat.le_refl _, Nat.le_refl _⟩ md_FB_deliver_84 (fun M3 H3 locs3 e3 hw => ?_)
  have ey3 := e3.symm
  subst ey3
  refine W.eq (g2 := F0 m 87 ls [.int (nI (1))]) rfl ?_
  refine xi_if_eq (tgt := 105) Z md_FB_deliver_87 (by decide) (by omega) (fun h87 => by exfalso; omega) (fun h87 => ?_)
  refine lv_aload_n Z.1 Z.2.1 md_FB_deliver_90 rfl (lv_at hl 0 rfl) ?_
  refine lv_aload_n Z.1 Z.2.1 md_FB_deliver_91 rfl (lv_at hl 1 rfl) ?_
  refine xb_get (v := .int (M2 (6, 0) 4)) Z hw (fb_in6 n) (fb_e6 n ad cI cZ cS cA) rfl tb_iMsg 4 (by decide) mk_FB_88 rfl rfl md_FB_deliver_92 ?_
  refine xi_re (show M2 (6, 0) 4 = nI (8 + c) from (by rw [ht.2.2.2.2.2.1]; exact congrArg nI h4)) ?_
  refine xw_cV (n := 1) (rest := []) Z hml hl.1 hN hw (k_coordinator l D ad cI cZ cS cA (M := M2) hs hc) tb_g mc_Slt_coordinator mk_FB_63 mi_Slt_coordinator ms_Slt_coordinator mz_Slt ⟨by decide, by decide, by decide +kernel⟩ ⟨Nat.le_of_ble_eq_true rfl, Nat.le_of_ble_eq_true rfl⟩ (fb_in7 n hs) (fb_e7 n ad cI cZ cS cA (s) _) rfl rfl rfl rfl (Nat.le_of_ble_eq_true rfl) ⟨Nat.le_refl _, Nat.le_refl _⟩ md_FB_deliver_95 (fun M4 H4 locs4 e4 hw => ?_)
  have ey4 := e4.symm
  subst ey4
  refine W.eq (g2 := F0 m 98 ls [.ref (ad (9, 2 * s + c))]) rfl ?_
  refine lv_aload_n Z.1 Z.2.1 md_FB_deliver_98 rfl (lv_at hl 1 rfl) ?_
  refine xw_cV (n := 1) (rest := []) Z hml hl.1 hN hw (k_Chear5 (S := pz_rm S j) l D ad cI cZ cS cA hn hq5 hf5 ht.1 (show (pz_rm S j).1.length ≤ 60 from (pz_rm_Inv I).1) Q IV hs hc ht.2 hms hk) tb_g mc_Cor_hear mk_FB_115 mi_Cor_hear ms_Cor_hear mz_Cor ⟨by decide, by decide, by decide +kernel⟩ ⟨Nat.le_of_ble_eq_true rfl, Nat.le_of_ble_eq_true rfl⟩ (fb_in9 n hs hc) (fb_e9 n ad cI cZ cS cA (2 * s + c) _) rfl rfl rfl rfl (Nat.le_of_ble_eq_true rfl) ⟨Nat.le_refl _, Nat.le_refl _⟩ md_FB_deliver_99 (fun M5 H5 locs5 h9 hw => ?_)
  refine W.eq (g2 := F0 m 102 ls []) rfl ?_
  refine lv_goto (tgt := 118) Z.1 Z.2.1 md_FB_deliver_102 (by decide) ?_
  refine lv_aload_n Z.1 Z.2.1 md_FB_deliver_118 rfl (lv_at hl 1 rfl) ?_
  refine xb_get (v := .int (M5 (6, 0) 0)) Z hw (fb_in6 n) (fb_e6 n ad cI cZ cS cA) rfl tb_iMsg 0 (by decide) mk_FB_91 rfl rfl md_FB_deliver_119 ?_
  refine xi_re (show M5 (6, 0) 0 = nI (g 0) from (by rw [h9.2]; exact ht.2.1)) ?_
  refine xw_iret Z hr hlk hw md_FB_deliver_122 rfl ⟨pz_deliver_Inv Q I hg, ?_⟩
  unfold pz_hear
  rw [h4, if_neg (fun y => y hh), if_neg (by omega), if_pos (by omega), hs1, Nat.add_sub_cancel_left]
  exact h9.1
set_option maxHeartbeats 4000000 in
theorem k_deliver_A1 (l : Launch) (D : va_G) {n : Nat} (ad : Nat × Nat → Nat) (cI cZ cS cA : ClassId) {M : fr_M} {q f : Nat} {S : pz_T} (hn : n ≤ 5) (hq5 : q ≤ 5) (hf5 : f ≤ 5) (Q : pz_Q n q f) (hI : fr_I n q f S M) {j s : Nat} {g : pz_M} (hg : S.1[j]? = some g) (hs1 : g 1 = s) {a : Nat} (ha : a < n) (h4 : g 4 = a) (hh : S.2 3 14 a 0 = 0) (hk : g 0 = 1) : fb_C l D n ad cI cZ cS cA my_FB_deliver mb_FB_deliver 4 (some .int) 6 135 M [.ref (ad (0, 0)), .int (nI (j))] (some (.int (nI (g 0)))) (fr_I n q f (pz_hear n q f (pz_rm S j) g)) := by
  have h := hI.2
  have I := hI.1
  have h60 := I.1
  have hj : j < S.1.length := (List.getElem?_eq_some_iff.mp hg).1
  obtain ⟨hs0, hms⟩ := I.2.2.1 g (List.mem_of_getElem? hg)
  have hs : s < 3 := by omega
  rw [hs1] at hms
  have IV := I.2.1 s hs
  have cl := pz_ci_lt (g 2)
  refine xw_start [.ref (ad (0, 0)), .int (nI (j))] (by decide) (Nat.le_of_ble_eq_true rfl) ?_
  intro p e st m below meth cd0 ls Z hml hr hlk hN hl hw
  have hl : lv_has ls 4 [(0, .ref (ad (0, 0))), (1, .int (nI (j)))] := hl
  refine lv_aload_n Z.1 Z.2.1 md_FB_deliver_0 rfl (lv_at hl 0 rfl) ?_
  refine xb_get (v := .ref (ad (2, 0))) Z hw (fb_in0 n) (fb_e0 n ad cI cZ cS cA) rfl tb_iFB 1 (by decide) mk_FB_21 rfl rfl md_FB_deliver_1 ?_
  refine lv_iload_n Z.1 Z.2.1 md_FB_deliver_4 rfl (lv_at hl 1 rfl) ?_
  refine xw_cV (n := 1) (rest := []) Z hml hl.1 hN hw (k_has1 l D ad cI cZ cS cA (M := M) h.2.1 h60 hj) tb_g mc_Mail_has mk_FB_76 mi_Mail_has ms_Mail_has mz_Mail ⟨by decide, by decide, by decide +kernel⟩ ⟨Nat.le_of_ble_eq_true rfl, Nat.le_of_ble_eq_true rfl⟩ (fb_in2 n) (fb_e2 n ad cI cZ cS cA _) rfl rfl rfl rfl (Nat.le_of_ble_eq_true rfl) ⟨Nat.le_refl _, Nat.le_refl _⟩ md_FB_deliver_5 (fun M1 H1 locs1 e1 hw => ?_)
  have ey1 := e1.symm
  subst ey1
  refine W.eq (g2 := F0 m 8 ls [.int (nI (1))]) rfl ?_
  refine xi_if_ne (tgt := 13) Z md_FB_deliver_8 (by decide) (by omega) (fun h8 => ?_) (fun h8 => by exfalso; omega)
  refine lv_aload_n Z.1 Z.2.1 md_FB_deliver_13 rfl (lv_at hl 0 rfl) ?_
  refine xb_get (v := .ref (ad (2, 0))) Z hw (fb_in0 n) (fb_e0 n ad cI cZ cS cA) rfl tb_iFB 1 (by decide) mk_FB_21 rfl rfl md_FB_deliver_14 ?_
  refine lv_iload_n Z.1 Z.2.1 md_FB_deliver_17 rfl (lv_at hl 1 rfl) ?_
  refine xw_cV (n := 1) (rest := []) Z hml hl.1 hN hw (k_take l D ad cI cZ cS cA h h60 hg) tb_g mc_Mail_take mk_FB_79 mi_Mail_take ms_Mail_take mz_Mail ⟨by decide, by decide, by decide +kernel⟩ ⟨Nat.le_of_ble_eq_true rfl, Nat.le_of_ble_eq_true rfl⟩ (fb_in2 n) (fb_e2 n ad cI cZ cS cA _) rfl rfl rfl rfl (Nat.le_of_ble_eq_true rfl) ⟨Nat.le_refl _, Nat.le_refl _⟩ md_FB_deliver_18 (fun M2 H2 locs2 ht hw => ?_)
  refine W.eq (g2 := F0 m 21 ls [.ref (ad (6, 0))]) rfl ?_
  refine lv_astore_n Z.1 Z.2.1 md_FB_deliver_21 rfl hl (by decide) rfl (fun ls hl => ?_)
  have hl : lv_has ls 4 [(2, .ref (ad (6, 0))), (0, .ref (ad (0, 0))), (1, .int (nI (j)))] := hl
  refine lv_aload_n Z.1 Z.2.1 md_FB_deliver_22 rfl (lv_at hl 1 rfl) ?_
  refine xb_get (v := .ref (ad (3, 0))) Z hw (fb_in0 n) (fb_e0 n ad cI cZ cS cA) rfl tb_iFB 2 (by decide) mk_FB_31 rfl rfl md_FB_deliver_23 ?_
  refine lv_aload_n Z.1 Z.2.1 md_FB_deliver_26 rfl (lv_at hl 0 rfl) ?_
  refine xb_get (v := .int (M2 (6, 0) 1)) Z hw (fb_in6 n) (fb_e6 n ad cI cZ cS cA) rfl tb_iMsg 1 (by decide) mk_FB_83 rfl rfl md_FB_deliver_27 ?_
  refine xi_re (show M2 (6, 0) 1 = nI (s) from (by rw [ht.2.2.1]; exact congrArg nI hs1)) ?_
  refine xw_aald (a := ad (7, s)) Z hw (fb_in3 n) (fb_e3 n ad cI cZ cS cA (M2 (3, 0))) 2 rfl (s) rfl hs (by omega) rfl md_FB_deliver_30 ?_
  refine lv_astore_n Z.1 Z.2.1 md_FB_deliver_31 rfl hl (by decide) rfl (fun ls hl => ?_)
  have hl : lv_has ls 4 [(3, .ref (ad (7, s))), (2, .ref (ad (6, 0))), (0, .ref (ad (0, 0))), (1, .int (nI (j)))] := hl
  refine lv_aload_n Z.1 Z.2.1 md_FB_deliver_32 rfl (lv_at hl 2 rfl) ?_
  refine xb_get (v := .ref (ad (4, 0))) Z hw (fb_in0 n) (fb_e0 n ad cI cZ cS cA) rfl tb_iFB 3 (by decide) mk_FB_25 rfl rfl md_FB_deliver_33 ?_
  refine lv_aload_n Z.1 Z.2.1 md_FB_deliver_36 rfl (lv_at hl 1 rfl) ?_
  refine xb_get (v := .int (M2 (6, 0) 4)) Z hw (fb_in6 n) (fb_e6 n ad cI cZ cS cA) rfl tb_iMsg 4 (by decide) mk_FB_88 rfl rfl md_FB_deliver_37 ?_
  refine xi_re (show M2 (6, 0) 4 = nI (a) from (by rw [ht.2.2.2.2.2.1]; exact congrArg nI h4)) ?_
  refine xw_zald Z hw (fb_in4 n) (fb_e4 n ad cI cZ cS cA) 1 rfl (a) rfl (by omega) (by omega) md_FB_deliver_40 ?_
  refine xi_re (show M2 (4, 0) (a) = nI (S.2 3 14 (a) 0) from ht.1.2.2.1 (a) (by omega)) ?_
  have l14 := I.2.2.2 (a)
  refine xi_if_eq (tgt := 49) Z md_FB_deliver_41 (by decide) (by omega) (fun h41 => ?_) (fun h41 => by exfalso; omega)
  refine lv_aload_n Z.1 Z.2.1 md_FB_deliver_49 rfl (lv_at hl 1 rfl) ?_
  refine xb_get (v := .int (M2 (6, 0) 4)) Z hw (fb_in6 n) (fb_e6 n ad cI cZ cS cA) rfl tb_iMsg 4 (by decide) mk_FB_88 rfl rfl md_FB_deliver_50 ?_
  refine xi_re (show M2 (6, 0) 4 = nI (a) from (by rw [ht.2.2.2.2.2.1]; exact congrArg nI h4)) ?_
  refine lv_bipush (v := nI 10) Z.1 Z.2.1 md_FB_deliver_53 (by decide) ?_
  refine xi_icmp_ne (tgt := 80) Z md_FB_deliver_55 (by decide) (by omega) (by omega) (fun h55 => ?_) (fun h55 => by exfalso; omega)
  refine lv_aload_n Z.1 Z.2.1 md_FB_deliver_80 rfl (lv_at hl 1 rfl) ?_
  refine xb_get (v := .int (M2 (6, 0) 4)) Z hw (fb_in6 n) (fb_e6 n ad cI cZ cS cA) rfl tb_iMsg 4 (by decide) mk_FB_88 rfl rfl md_FB_deliver_81 ?_
  refine xi_re (show M2 (6, 0) 4 = nI (a) from (by rw [ht.2.2.2.2.2.1]; exact congrArg nI h4)) ?_
  refine xw_cS (n := 1) (rest := []) Z hml hl.1 hN hw (k_isCoordinator0 l D ad cI cZ cS cA (M := M2) (fun y => by have := (nI_eq (by omega) (by decide)).mp y; omega) (fun y => by have := (nI_eq (by omega) (by decide)).mp y; omega)) tb_g mc_FB_isCoordinator mk_FB_112 mt_FB_isCoordinator mz_FB ⟨by decide, by decide, by decide +kernel⟩ ⟨Nat.le_of_ble_eq_true rfl, Nat.le_of_ble_eq_true rfl⟩ rfl rfl (Nat.le_of_ble_eq_true rfl) ⟨Nat.le_refl _, Nat.le_refl _⟩ md_FB_deliver_84 (fun M3 H3 locs3 e3 hw => ?_)
  have ey3 := e3.symm
  subst ey3
  refine W.eq (g2 := F0 m 87 ls [.int (nI (0))]) rfl ?_
  refine xi_if_eq (tgt := 105) Z md_FB_deliver_87 (by decide) (by omega) (fun h87 => ?_) (fun h87 => by exfalso; omega)
  refine lv_aload_n Z.1 Z.2.1 md_FB_deliver_105 rfl (lv_at hl 0 rfl) ?_
  refine xb_get (v := .ref (ad (8, s))) Z hw (fb_in7 n hs) (fb_e7 n ad cI cZ cS cA (s)) rfl tb_iSlt 0 (by decide) mk_FB_119 rfl rfl md_FB_deliver_106 ?_
  refine lv_aload_n Z.1 Z.2.1 md_FB_deliver_109 rfl (lv_at hl 1 rfl) ?_
  refine xb_get (v := .int (M2 (6, 0) 4)) Z hw (fb_in6 n) (fb_e6 n ad cI cZ cS cA) rfl tb_iMsg 4 (by decide) mk_FB_88 rfl rfl md_FB_deliver_110 ?_
  refine xi_re (show M2 (6, 0) 4 = nI (a) from (by rw [ht.2.2.2.2.2.1]; exact congrArg nI h4)) ?_
  refine xw_aald (a := ad (15, 5 * s + a)) Z hw (fb_in8 n hs) (fb_e8 n ad cI cZ cS cA (s) (M2 (8, s))) 3 rfl (a) rfl ha (by omega) rfl md_FB_deliver_113 ?_
  refine lv_aload_n Z.1 Z.2.1 md_FB_deliver_114 rfl (lv_at hl 1 rfl) ?_
  have mv : g 5 ≤ 1000 := by rcases hms with ⟨_, _, _, _, z⟩ | ⟨a, _⟩ | ⟨a, _⟩ | ⟨a, _⟩ | ⟨a, _⟩ <;> omega
  refine xw_cV (n := 1) (rest := []) Z hml hl.1 hN hw (k_Ahear1 (S := pz_rm S j) l D ad cI cZ cS cA hn hq5 hf5 ht.1 (show (pz_rm S j).1.length ≤ 60 from (pz_rm_Inv I).1) IV hs ha ht.2 hk (by omega)) tb_g mc_Acc_hear mk_FB_122 mi_Acc_hear ms_Acc_hear mz_Acc ⟨by decide, by decide, by decide +kernel⟩ ⟨Nat.le_of_ble_eq_true rfl, Nat.le_of_ble_eq_true rfl⟩ (fb_in15 hn hs ha) (fb_e15 n ad cI cZ cS cA (5 * s + a) _) rfl rfl rfl rfl (Nat.le_of_ble_eq_true rfl) ⟨Nat.le_refl _, Nat.le_refl _⟩ md_FB_deliver_115 (fun M4 H4 locs4 h9 hw => ?_)
  refine W.eq (g2 := F0 m 118 ls []) rfl ?_
  refine lv_aload_n Z.1 Z.2.1 md_FB_deliver_118 rfl (lv_at hl 1 rfl) ?_
  refine xb_get (v := .int (M4 (6, 0) 0)) Z hw (fb_in6 n) (fb_e6 n ad cI cZ cS cA) rfl tb_iMsg 0 (by decide) mk_FB_91 rfl rfl md_FB_deliver_119 ?_
  refine xi_re (show M4 (6, 0) 0 = nI (g 0) from (by rw [h9.2]; exact ht.2.1)) ?_
  refine xw_iret Z hr hlk hw md_FB_deliver_122 rfl ⟨pz_deliver_Inv Q I hg, ?_⟩
  unfold pz_hear
  rw [h4, if_neg (fun y => y hh), if_pos (by omega), hs1]
  exact fr_fin2 h9.1 (fun s' c' hs' _ => pz_accept_9 hs')
set_option maxHeartbeats 4000000 in
theorem k_deliver_A2 (l : Launch) (D : va_G) {n : Nat} (ad : Nat × Nat → Nat) (cI cZ cS cA : ClassId) {M : fr_M} {q f : Nat} {S : pz_T} (hn : n ≤ 5) (hq5 : q ≤ 5) (hf5 : f ≤ 5) (Q : pz_Q n q f) (hI : fr_I n q f S M) {j s : Nat} {g : pz_M} (hg : S.1[j]? = some g) (hs1 : g 1 = s) {a : Nat} (ha : a < n) (h4 : g 4 = a) (hh : S.2 3 14 a 0 = 0) (hk : g 0 = 2) : fb_C l D n ad cI cZ cS cA my_FB_deliver mb_FB_deliver 4 (some .int) 6 135 M [.ref (ad (0, 0)), .int (nI (j))] (some (.int (nI (g 0)))) (fr_I n q f (pz_hear n q f (pz_rm S j) g)) := by
  have h := hI.2
  have I := hI.1
  have h60 := I.1
  have hj : j < S.1.length := (List.getElem?_eq_some_iff.mp hg).1
  obtain ⟨hs0, hms⟩ := I.2.2.1 g (List.mem_of_getElem? hg)
  have hs : s < 3 := by omega
  rw [hs1] at hms
  have IV := I.2.1 s hs
  have cl := pz_ci_lt (g 2)
  refine xw_start [.ref (ad (0, 0)), .int (nI (j))] (by decide) (Nat.le_of_ble_eq_true rfl) ?_
  intro p e st m below meth cd0 ls Z hml hr hlk hN hl hw
  have hl : lv_has ls 4 [(0, .ref (ad (0, 0))), (1, .int (nI (j)))] := hl
  refine lv_aload_n Z.1 Z.2.1 md_FB_deliver_0 rfl (lv_at hl 0 rfl) ?_
  refine xb_get (v := .ref (ad (2, 0))) Z hw (fb_in0 n) (fb_e0 n ad cI cZ cS cA) rfl tb_iFB 1 (by decide) mk_FB_21 rfl rfl md_FB_deliver_1 ?_
  refine lv_iload_n Z.1 Z.2.1 md_FB_deliver_4 rfl (lv_at hl 1 rfl) ?_
  refine xw_cV (n := 1) (rest := []) Z hml hl.1 hN hw (k_has1 l D ad cI cZ cS cA (M := M) h.2.1 h60 hj) tb_g mc_Mail_has mk_FB_76 mi_Mail_has ms_Mail_has mz_Mail ⟨by decide, by decide, by decide +kernel⟩ ⟨Nat.le_of_ble_eq_true rfl, Nat.le_of_ble_eq_true rfl⟩ (fb_in2 n) (fb_e2 n ad cI cZ cS cA _) rfl rfl rfl rfl (Nat.le_of_ble_eq_true rfl) ⟨Nat.le_refl _, Nat.le_refl _⟩ md_FB_deliver_5 (fun M1 H1 locs1 e1 hw => ?_)
  have ey1 := e1.symm
  subst ey1
  refine W.eq (g2 := F0 m 8 ls [.int (nI (1))]) rfl ?_
  refine xi_if_ne (tgt := 13) Z md_FB_deliver_8 (by decide) (by omega) (fun h8 => ?_) (fun h8 => by exfalso; omega)
  refine lv_aload_n Z.1 Z.2.1 md_FB_deliver_13 rfl (lv_at hl 0 rfl) ?_
  refine xb_get (v := .ref (ad (2, 0))) Z hw (fb_in0 n) (fb_e0 n ad cI cZ cS cA) rfl tb_iFB 1 (by decide) mk_FB_21 rfl rfl md_FB_deliver_14 ?_
  refine lv_iload_n Z.1 Z.2.1 md_FB_deliver_17 rfl (lv_at hl 1 rfl) ?_
  refine xw_cV (n := 1) (rest := []) Z hml hl.1 hN hw (k_take l D ad cI cZ cS cA h h60 hg) tb_g mc_Mail_take mk_FB_79 mi_Mail_take ms_Mail_take mz_Mail ⟨by decide, by decide, by decide +kernel⟩ ⟨Nat.le_of_ble_eq_true rfl, Nat.le_of_ble_eq_true rfl⟩ (fb_in2 n) (fb_e2 n ad cI cZ cS cA _) rfl rfl rfl rfl (Nat.le_of_ble_eq_true rfl) ⟨Nat.le_refl _, Nat.le_refl _⟩ md_FB_deliver_18 (fun M2 H2 locs2 ht hw => ?_)
  refine W.eq (g2 := F0 m 21 ls [.ref (ad (6, 0))]) rfl ?_
  refine lv_astore_n Z.1 Z.2.1 md_FB_deliver_21 rfl hl (by decide) rfl (fun ls hl => ?_)
  have hl : lv_has ls 4 [(2, .ref (ad (6, 0))), (0, .ref (ad (0, 0))), (1, .int (nI (j)))] := hl
  refine lv_aload_n Z.1 Z.2.1 md_FB_deliver_22 rfl (lv_at hl 1 rfl) ?_
  refine xb_get (v := .ref (ad (3, 0))) Z hw (fb_in0 n) (fb_e0 n ad cI cZ cS cA) rfl tb_iFB 2 (by decide) mk_FB_31 rfl rfl md_FB_deliver_23 ?_
  refine lv_aload_n Z.1 Z.2.1 md_FB_deliver_26 rfl (lv_at hl 0 rfl) ?_
  refine xb_get (v := .int (M2 (6, 0) 1)) Z hw (fb_in6 n) (fb_e6 n ad cI cZ cS cA) rfl tb_iMsg 1 (by decide) mk_FB_83 rfl rfl md_FB_deliver_27 ?_
  refine xi_re (show M2 (6, 0) 1 = nI (s) from (by rw [ht.2.2.1]; exact congrArg nI hs1)) ?_
  refine xw_aald (a := ad (7, s)) Z hw (fb_in3 n) (fb_e3 n ad cI cZ cS cA (M2 (3, 0))) 2 rfl (s) rfl hs (by omega) rfl md_FB_deliver_30 ?_
  refine lv_astore_n Z.1 Z.2.1 md_FB_deliver_31 rfl hl (by decide) rfl (fun ls hl => ?_)
  have hl : lv_has ls 4 [(3, .ref (ad (7, s))), (2, .ref (ad (6, 0))), (0, .ref (ad (0, 0))), (1, .int (nI (j)))] := hl
  refine lv_aload_n Z.1 Z.2.1 md_FB_deliver_32 rfl (lv_at hl 2 rfl) ?_
  refine xb_get (v := .ref (ad (4, 0))) Z hw (fb_in0 n) (fb_e0 n ad cI cZ cS cA) rfl tb_iFB 3 (by decide) mk_FB_25 rfl rfl md_FB_deliver_33 ?_
  refine lv_aload_n Z.1 Z.2.1 md_FB_deliver_36 rfl (lv_at hl 1 rfl) ?_
  refine xb_get (v := .int (M2 (6, 0) 4)) Z hw (fb_in6 n) (fb_e6 n ad cI cZ cS cA) rfl tb_iMsg 4 (by decide) mk_FB_88 rfl rfl md_FB_deliver_37 ?_
  refine xi_re (show M2 (6, 0) 4 = nI (a) from (by rw [ht.2.2.2.2.2.1]; exact congrArg nI h4)) ?_
  refine xw_zald Z hw (fb_in4 n) (fb_e4 n ad cI cZ cS cA) 1 rfl (a) rfl (by omega) (by omega) md_FB_deliver_40 ?_
  refine xi_re (show M2 (4, 0) (a) = nI (S.2 3 14 (a) 0) from ht.1.2.2.1 (a) (by omega)) ?_
  have l14 := I.2.2.2 (a)
  refine xi_if_eq (tgt := 49) Z md_FB_deliver_41 (by decide) (by omega) (fun h41 => ?_) (fun h41 => by exfalso; omega)
  refine lv_aload_n Z.1 Z.2.1 md_FB_deliver_49 rfl (lv_at hl 1 rfl) ?_
  refine xb_get (v := .int (M2 (6, 0) 4)) Z hw (fb_in6 n) (fb_e6 n ad cI cZ cS cA) rfl tb_iMsg 4 (by decide) mk_FB_88 rfl rfl md_FB_deliver_50 ?_
  refine xi_re (show M2 (6, 0) 4 = nI (a) from (by rw [ht.2.2.2.2.2.1]; exact congrArg nI h4)) ?_
  refine lv_bipush (v := nI 10) Z.1 Z.2.1 md_FB_deliver_53 (by decide) ?_
  refine xi_icmp_ne (tgt := 80) Z md_FB_deliver_55 (by decide) (by omega) (by omega) (fun h55 => ?_) (fun h55 => by exfalso; omega)
  refine lv_aload_n Z.1 Z.2.1 md_FB_deliver_80 rfl (lv_at hl 1 rfl) ?_
  refine xb_get (v := .int (M2 (6, 0) 4)) Z hw (fb_in6 n) (fb_e6 n ad cI cZ cS cA) rfl tb_iMsg 4 (by decide) mk_FB_88 rfl rfl md_FB_deliver_81 ?_
  refine xi_re (show M2 (6, 0) 4 = nI (a) from (by rw [ht.2.2.2.2.2.1]; exact congrArg nI h4)) ?_
  refine xw_cS (n := 1) (rest := []) Z hml hl.1 hN hw (k_isCoordinator0 l D ad cI cZ cS cA (M := M2) (fun y => by have := (nI_eq (by omega) (by decide)).mp y; omega) (fun y => by have := (nI_eq (by omega) (by decide)).mp y; omega)) tb_g mc_FB_isCoordinator mk_FB_112 mt_FB_isCoordinator mz_FB ⟨by decide, by decide, by decide +kernel⟩ ⟨Nat.le_of_ble_eq_true rfl, Nat.le_of_ble_eq_true rfl⟩ rfl rfl (Nat.le_of_ble_eq_true rfl) ⟨Nat.le_refl _, Nat.le_refl _⟩ md_FB_deliver_84 (fun M3 H3 locs3 e3 hw => ?_)
  have ey3 := e3.symm
  subst ey3
  refine W.eq (g2 := F0 m 87 ls [.int (nI (0))]) rfl ?_
  refine xi_if_eq (tgt := 105) Z md_FB_deliver_87 (by decide) (by omega) (fun h87 => ?_) (fun h87 => by exfalso; omega)
  refine lv_aload_n Z.1 Z.2.1 md_FB_deliver_105 rfl (lv_at hl 0 rfl) ?_
  refine xb_get (v := .ref (ad (8, s))) Z hw (fb_in7 n hs) (fb_e7 n ad cI cZ cS cA (s)) rfl tb_iSlt 0 (by decide) mk_FB_119 rfl rfl md_FB_deliver_106 ?_
  refine lv_aload_n Z.1 Z.2.1 md_FB_deliver_109 rfl (lv_at hl 1 rfl) ?_
  refine xb_get (v := .int (M2 (6, 0) 4)) Z hw (fb_in6 n) (fb_e6 n ad cI cZ cS cA) rfl tb_iMsg 4 (by decide) mk_FB_88 rfl rfl md_FB_deliver_110 ?_
  refine xi_re (show M2 (6, 0) 4 = nI (a) from (by rw [ht.2.2.2.2.2.1]; exact congrArg nI h4)) ?_
  refine xw_aald (a := ad (15, 5 * s + a)) Z hw (fb_in8 n hs) (fb_e8 n ad cI cZ cS cA (s) (M2 (8, s))) 3 rfl (a) rfl ha (by omega) rfl md_FB_deliver_113 ?_
  refine lv_aload_n Z.1 Z.2.1 md_FB_deliver_114 rfl (lv_at hl 1 rfl) ?_
  obtain ⟨m1, m2⟩ : 1 ≤ g 2 ∧ g 2 ≤ 12 := by rcases hms with ⟨a, _⟩ | ⟨_, x, y, _⟩ | ⟨a, _⟩ | ⟨a, _⟩ | ⟨a, _⟩ <;> omega
  refine xw_cV (n := 1) (rest := []) Z hml hl.1 hN hw (k_Ahear2 (S := pz_rm S j) l D ad cI cZ cS cA hn hq5 hf5 ht.1 (show (pz_rm S j).1.length ≤ 60 from (pz_rm_Inv I).1) IV hs ha ht.2 hk m1 m2) tb_g mc_Acc_hear mk_FB_122 mi_Acc_hear ms_Acc_hear mz_Acc ⟨by decide, by decide, by decide +kernel⟩ ⟨Nat.le_of_ble_eq_true rfl, Nat.le_of_ble_eq_true rfl⟩ (fb_in15 hn hs ha) (fb_e15 n ad cI cZ cS cA (5 * s + a) _) rfl rfl rfl rfl (Nat.le_of_ble_eq_true rfl) ⟨Nat.le_refl _, Nat.le_refl _⟩ md_FB_deliver_115 (fun M4 H4 locs4 h9 hw => ?_)
  refine W.eq (g2 := F0 m 118 ls []) rfl ?_
  refine lv_aload_n Z.1 Z.2.1 md_FB_deliver_118 rfl (lv_at hl 1 rfl) ?_
  refine xb_get (v := .int (M4 (6, 0) 0)) Z hw (fb_in6 n) (fb_e6 n ad cI cZ cS cA) rfl tb_iMsg 0 (by decide) mk_FB_91 rfl rfl md_FB_deliver_119 ?_
  refine xi_re (show M4 (6, 0) 0 = nI (g 0) from (by rw [h9.2]; exact ht.2.1)) ?_
  refine xw_iret Z hr hlk hw md_FB_deliver_122 rfl ⟨pz_deliver_Inv Q I hg, ?_⟩
  unfold pz_hear
  rw [h4, if_neg (fun y => y hh), if_pos (by omega), hs1]
  exact fr_fin2 h9.1 (fun s' c' hs' _ => pz_accept_9 hs')
set_option maxHeartbeats 4000000 in
theorem k_deliver_A4 (l : Launch) (D : va_G) {n : Nat} (ad : Nat × Nat → Nat) (cI cZ cS cA : ClassId) {M : fr_M} {q f : Nat} {S : pz_T} (hn : n ≤ 5) (hq5 : q ≤ 5) (hf5 : f ≤ 5) (Q : pz_Q n q f) (hI : fr_I n q f S M) {j s : Nat} {g : pz_M} (hg : S.1[j]? = some g) (hs1 : g 1 = s) {a : Nat} (ha : a < n) (h4 : g 4 = a) (hh : S.2 3 14 a 0 = 0) (hk : g 0 = 4) : fb_C l D n ad cI cZ cS cA my_FB_deliver mb_FB_deliver 4 (some .int) 6 135 M [.ref (ad (0, 0)), .int (nI (j))] (some (.int (nI (g 0)))) (fr_I n q f (pz_hear n q f (pz_rm S j) g)) := by
  have h := hI.2
  have I := hI.1
  have h60 := I.1
  have hj : j < S.1.length := (List.getElem?_eq_some_iff.mp hg).1
  obtain ⟨hs0, hms⟩ := I.2.2.1 g (List.mem_of_getElem? hg)
  have hs : s < 3 := by omega
  rw [hs1] at hms
  have IV := I.2.1 s hs
  have cl := pz_ci_lt (g 2)
  refine xw_start [.ref (ad (0, 0)), .int (nI (j))] (by decide) (Nat.le_of_ble_eq_true rfl) ?_
  intro p e st m below meth cd0 ls Z hml hr hlk hN hl hw
  have hl : lv_has ls 4 [(0, .ref (ad (0, 0))), (1, .int (nI (j)))] := hl
  refine lv_aload_n Z.1 Z.2.1 md_FB_deliver_0 rfl (lv_at hl 0 rfl) ?_
  refine xb_get (v := .ref (ad (2, 0))) Z hw (fb_in0 n) (fb_e0 n ad cI cZ cS cA) rfl tb_iFB 1 (by decide) mk_FB_21 rfl rfl md_FB_deliver_1 ?_
  refine lv_iload_n Z.1 Z.2.1 md_FB_deliver_4 rfl (lv_at hl 1 rfl) ?_
  refine xw_cV (n := 1) (rest := []) Z hml hl.1 hN hw (k_has1 l D ad cI cZ cS cA (M := M) h.2.1 h60 hj) tb_g mc_Mail_has mk_FB_76 mi_Mail_has ms_Mail_has mz_Mail ⟨by decide, by decide, by decide +kernel⟩ ⟨Nat.le_of_ble_eq_true rfl, Nat.le_of_ble_eq_true rfl⟩ (fb_in2 n) (fb_e2 n ad cI cZ cS cA _) rfl rfl rfl rfl (Nat.le_of_ble_eq_true rfl) ⟨Nat.le_refl _, Nat.le_refl _⟩ md_FB_deliver_5 (fun M1 H1 locs1 e1 hw => ?_)
  have ey1 := e1.symm
  subst ey1
  refine W.eq (g2 := F0 m 8 ls [.int (nI (1))]) rfl ?_
  refine xi_if_ne (tgt := 13) Z md_FB_deliver_8 (by decide) (by omega) (fun h8 => ?_) (fun h8 => by exfalso; omega)
  refine lv_aload_n Z.1 Z.2.1 md_FB_deliver_13 rfl (lv_at hl 0 rfl) ?_
  refine xb_get (v := .ref (ad (2, 0))) Z hw (fb_in0 n) (fb_e0 n ad cI cZ cS cA) rfl tb_iFB 1 (by decide) mk_FB_21 rfl rfl md_FB_deliver_14 ?_
  refine lv_iload_n Z.1 Z.2.1 md_FB_deliver_17 rfl (lv_at hl 1 rfl) ?_
  refine xw_cV (n := 1) (rest := []) Z hml hl.1 hN hw (k_take l D ad cI cZ cS cA h h60 hg) tb_g mc_Mail_take mk_FB_79 mi_Mail_take ms_Mail_take mz_Mail ⟨by decide, by decide, by decide +kernel⟩ ⟨Nat.le_of_ble_eq_true rfl, Nat.le_of_ble_eq_true rfl⟩ (fb_in2 n) (fb_e2 n ad cI cZ cS cA _) rfl rfl rfl rfl (Nat.le_of_ble_eq_true rfl) ⟨Nat.le_refl _, Nat.le_refl _⟩ md_FB_deliver_18 (fun M2 H2 locs2 ht hw => ?_)
  refine W.eq (g2 := F0 m 21 ls [.ref (ad (6, 0))]) rfl ?_
  refine lv_astore_n Z.1 Z.2.1 md_FB_deliver_21 rfl hl (by decide) rfl (fun ls hl => ?_)
  have hl : lv_has ls 4 [(2, .ref (ad (6, 0))), (0, .ref (ad (0, 0))), (1, .int (nI (j)))] := hl
  refine lv_aload_n Z.1 Z.2.1 md_FB_deliver_22 rfl (lv_at hl 1 rfl) ?_
  refine xb_get (v := .ref (ad (3, 0))) Z hw (fb_in0 n) (fb_e0 n ad cI cZ cS cA) rfl tb_iFB 2 (by decide) mk_FB_31 rfl rfl md_FB_deliver_23 ?_
  refine lv_aload_n Z.1 Z.2.1 md_FB_deliver_26 rfl (lv_at hl 0 rfl) ?_
  refine xb_get (v := .int (M2 (6, 0) 1)) Z hw (fb_in6 n) (fb_e6 n ad cI cZ cS cA) rfl tb_iMsg 1 (by decide) mk_FB_83 rfl rfl md_FB_deliver_27 ?_
  refine xi_re (show M2 (6, 0) 1 = nI (s) from (by rw [ht.2.2.1]; exact congrArg nI hs1)) ?_
  refine xw_aald (a := ad (7, s)) Z hw (fb_in3 n) (fb_e3 n ad cI cZ cS cA (M2 (3, 0))) 2 rfl (s) rfl hs (by omega) rfl md_FB_deliver_30 ?_
  refine lv_astore_n Z.1 Z.2.1 md_FB_deliver_31 rfl hl (by decide) rfl (fun ls hl => ?_)
  have hl : lv_has ls 4 [(3, .ref (ad (7, s))), (2, .ref (ad (6, 0))), (0, .ref (ad (0, 0))), (1, .int (nI (j)))] := hl
  refine lv_aload_n Z.1 Z.2.1 md_FB_deliver_32 rfl (lv_at hl 2 rfl) ?_
  refine xb_get (v := .ref (ad (4, 0))) Z hw (fb_in0 n) (fb_e0 n ad cI cZ cS cA) rfl tb_iFB 3 (by decide) mk_FB_25 rfl rfl md_FB_deliver_33 ?_
  refine lv_aload_n Z.1 Z.2.1 md_FB_deliver_36 rfl (lv_at hl 1 rfl) ?_
  refine xb_get (v := .int (M2 (6, 0) 4)) Z hw (fb_in6 n) (fb_e6 n ad cI cZ cS cA) rfl tb_iMsg 4 (by decide) mk_FB_88 rfl rfl md_FB_deliver_37 ?_
  refine xi_re (show M2 (6, 0) 4 = nI (a) from (by rw [ht.2.2.2.2.2.1]; exact congrArg nI h4)) ?_
  refine xw_zald Z hw (fb_in4 n) (fb_e4 n ad cI cZ cS cA) 1 rfl (a) rfl (by omega) (by omega) md_FB_deliver_40 ?_
  refine xi_re (show M2 (4, 0) (a) = nI (S.2 3 14 (a) 0) from ht.1.2.2.1 (a) (by omega)) ?_
  have l14 := I.2.2.2 (a)
  refine xi_if_eq (tgt := 49) Z md_FB_deliver_41 (by decide) (by omega) (fun h41 => ?_) (fun h41 => by exfalso; omega)
  refine lv_aload_n Z.1 Z.2.1 md_FB_deliver_49 rfl (lv_at hl 1 rfl) ?_
  refine xb_get (v := .int (M2 (6, 0) 4)) Z hw (fb_in6 n) (fb_e6 n ad cI cZ cS cA) rfl tb_iMsg 4 (by decide) mk_FB_88 rfl rfl md_FB_deliver_50 ?_
  refine xi_re (show M2 (6, 0) 4 = nI (a) from (by rw [ht.2.2.2.2.2.1]; exact congrArg nI h4)) ?_
  refine lv_bipush (v := nI 10) Z.1 Z.2.1 md_FB_deliver_53 (by decide) ?_
  refine xi_icmp_ne (tgt := 80) Z md_FB_deliver_55 (by decide) (by omega) (by omega) (fun h55 => ?_) (fun h55 => by exfalso; omega)
  refine lv_aload_n Z.1 Z.2.1 md_FB_deliver_80 rfl (lv_at hl 1 rfl) ?_
  refine xb_get (v := .int (M2 (6, 0) 4)) Z hw (fb_in6 n) (fb_e6 n ad cI cZ cS cA) rfl tb_iMsg 4 (by decide) mk_FB_88 rfl rfl md_FB_deliver_81 ?_
  refine xi_re (show M2 (6, 0) 4 = nI (a) from (by rw [ht.2.2.2.2.2.1]; exact congrArg nI h4)) ?_
  refine xw_cS (n := 1) (rest := []) Z hml hl.1 hN hw (k_isCoordinator0 l D ad cI cZ cS cA (M := M2) (fun y => by have := (nI_eq (by omega) (by decide)).mp y; omega) (fun y => by have := (nI_eq (by omega) (by decide)).mp y; omega)) tb_g mc_FB_isCoordinator mk_FB_112 mt_FB_isCoordinator mz_FB ⟨by decide, by decide, by decide +kernel⟩ ⟨Nat.le_of_ble_eq_true rfl, Nat.le_of_ble_eq_true rfl⟩ rfl rfl (Nat.le_of_ble_eq_true rfl) ⟨Nat.le_refl _, Nat.le_refl _⟩ md_FB_deliver_84 (fun M3 H3 locs3 e3 hw => ?_)
  have ey3 := e3.symm
  subst ey3
  refine W.eq (g2 := F0 m 87 ls [.int (nI (0))]) rfl ?_
  refine xi_if_eq (tgt := 105) Z md_FB_deliver_87 (by decide) (by omega) (fun h87 => ?_) (fun h87 => by exfalso; omega)
  refine lv_aload_n Z.1 Z.2.1 md_FB_deliver_105 rfl (lv_at hl 0 rfl) ?_
  refine xb_get (v := .ref (ad (8, s))) Z hw (fb_in7 n hs) (fb_e7 n ad cI cZ cS cA (s)) rfl tb_iSlt 0 (by decide) mk_FB_119 rfl rfl md_FB_deliver_106 ?_
  refine lv_aload_n Z.1 Z.2.1 md_FB_deliver_109 rfl (lv_at hl 1 rfl) ?_
  refine xb_get (v := .int (M2 (6, 0) 4)) Z hw (fb_in6 n) (fb_e6 n ad cI cZ cS cA) rfl tb_iMsg 4 (by decide) mk_FB_88 rfl rfl md_FB_deliver_110 ?_
  refine xi_re (show M2 (6, 0) 4 = nI (a) from (by rw [ht.2.2.2.2.2.1]; exact congrArg nI h4)) ?_
  refine xw_aald (a := ad (15, 5 * s + a)) Z hw (fb_in8 n hs) (fb_e8 n ad cI cZ cS cA (s) (M2 (8, s))) 3 rfl (a) rfl ha (by omega) rfl md_FB_deliver_113 ?_
  refine lv_aload_n Z.1 Z.2.1 md_FB_deliver_114 rfl (lv_at hl 1 rfl) ?_
  obtain ⟨m1, m2, mv⟩ : 1 ≤ g 2 ∧ g 2 ≤ 12 ∧ g 5 ≤ 1000 := by rcases hms with ⟨a, _⟩ | ⟨a, _⟩ | ⟨a, _⟩ | ⟨_, x, y, _, z, _⟩ | ⟨a, _⟩ <;> omega
  refine xw_cV (n := 1) (rest := []) Z hml hl.1 hN hw (k_Ahear4 (S := pz_rm S j) l D ad cI cZ cS cA hn hq5 hf5 ht.1 (show (pz_rm S j).1.length ≤ 60 from (pz_rm_Inv I).1) IV hs ha ht.2 hk m1 m2 (by omega)) tb_g mc_Acc_hear mk_FB_122 mi_Acc_hear ms_Acc_hear mz_Acc ⟨by decide, by decide, by decide +kernel⟩ ⟨Nat.le_of_ble_eq_true rfl, Nat.le_of_ble_eq_true rfl⟩ (fb_in15 hn hs ha) (fb_e15 n ad cI cZ cS cA (5 * s + a) _) rfl rfl rfl rfl (Nat.le_of_ble_eq_true rfl) ⟨Nat.le_refl _, Nat.le_refl _⟩ md_FB_deliver_115 (fun M4 H4 locs4 h9 hw => ?_)
  refine W.eq (g2 := F0 m 118 ls []) rfl ?_
  refine lv_aload_n Z.1 Z.2.1 md_FB_deliver_118 rfl (lv_at hl 1 rfl) ?_
  refine xb_get (v := .int (M4 (6, 0) 0)) Z hw (fb_in6 n) (fb_e6 n ad cI cZ cS cA) rfl tb_iMsg 0 (by decide) mk_FB_91 rfl rfl md_FB_deliver_119 ?_
  refine xi_re (show M4 (6, 0) 0 = nI (g 0) from (by rw [h9.2]; exact ht.2.1)) ?_
  refine xw_iret Z hr hlk hw md_FB_deliver_122 rfl ⟨pz_deliver_Inv Q I hg, ?_⟩
  unfold pz_hear
  rw [h4, if_neg (fun y => y hh), if_pos (by omega), hs1]
  exact fr_fin2 h9.1 (fun s' c' hs' _ => pz_accept_9 hs')
/-- a message is delivered -/
theorem k_deliver (l : Launch) (D : va_G) {n : Nat} (ad : Nat × Nat → Nat) (cI cZ cS cA : ClassId) {M : fr_M} {q f : Nat} {S : pz_T} (hn : n ≤ 5) (hq5 : q ≤ 5) (hf5 : f ≤ 5) (Q : pz_Q n q f) (hI : fr_I n q f S M) {j : Nat} {g : pz_M} (hg : S.1[j]? = some g) : fb_C l D n ad cI cZ cS cA my_FB_deliver mb_FB_deliver 4 (some .int) 6 135 M [.ref (ad (0, 0)), .int (nI j)] (some (.int (nI (g 0)))) (fr_I n q f (pz_hear n q f (pz_rm S j) g)) := by
  obtain ⟨hs0, hms⟩ := hI.1.2.2.1 g (List.mem_of_getElem? hg)
  have cl := pz_ci_lt (g 2)
  have q2 := Q.2.1
  by_cases hh : S.2 3 14 (g 4) 0 = 0
  · rcases hms with ⟨k, _, z | z | z, _⟩ | ⟨k, _, _, z, _⟩ | ⟨k, _, _, _, z, _⟩ | ⟨k, _, _, z, _⟩ | ⟨k, _, _, _, z | z, _⟩
    · exact k_deliver_A1 l D ad cI cZ cS cA hn hq5 hf5 Q hI hg rfl z rfl hh k
    · exact k_deliver_C1 l D ad cI cZ cS cA hn hq5 hf5 Q hI hg rfl (c := 0) (by decide) z (by rw [z] at hh; exact hh) k
    · exact k_deliver_C1 l D ad cI cZ cS cA hn hq5 hf5 Q hI hg rfl (c := 1) (by decide) z (by rw [z] at hh; exact hh) k
    · exact k_deliver_A2 l D ad cI cZ cS cA hn hq5 hf5 Q hI hg rfl z rfl hh k
    · exact k_deliver_C3 l D ad cI cZ cS cA hn hq5 hf5 Q hI hg rfl cl z (by rw [z] at hh; exact hh) k
    · exact k_deliver_A4 l D ad cI cZ cS cA hn hq5 hf5 Q hI hg rfl z rfl hh k
    · exact k_deliver_C5 l D ad cI cZ cS cA hn hq5 hf5 Q hI hg rfl cl z (by rw [z] at hh; exact hh) k
    · exact k_deliver_L l D ad cI cZ cS cA hn hq5 hf5 Q hI hg rfl z (by rw [z] at hh; exact hh) k
  · refine k_deliver_h l D ad cI cZ cS cA hn hq5 hf5 Q hI hg rfl rfl ?_ hh
    rcases hms with ⟨k, _, z | z | z, _⟩ | ⟨k, _, _, z, _⟩ | ⟨k, _, _, _, z, _⟩ | ⟨k, _, _, z, _⟩ | ⟨k, _, _, _, z | z, _⟩ <;> omega
set_option maxHeartbeats 4000000 in
theorem k_deliver_b (l : Launch) (D : va_G) {n : Nat} (ad : Nat × Nat → Nat) (cI cZ cS cA : ClassId) {M : fr_M} {q f : Nat} {S : pz_T} (hn : n ≤ 5) (hI : fr_I n q f S M) {x : Int32} (hx : x < 0 ∨ nI S.1.length ≤ x) : fb_C l D n ad cI cZ cS cA my_FB_deliver mb_FB_deliver 4 (some .int) 1 21 M [.ref (ad (0, 0)), .int (x)] (some (.int (-1))) (fun M' => M' = M) := by
  have h := hI.2
  have I := hI.1
  have h60 := I.1
  refine xw_start [.ref (ad (0, 0)), .int (x)] (by decide) (Nat.le_of_ble_eq_true rfl) ?_
  intro p e st m below meth cd0 ls Z hml hr hlk hN hl hw
  have hl : lv_has ls 4 [(0, .ref (ad (0, 0))), (1, .int (x))] := hl
  refine lv_aload_n Z.1 Z.2.1 md_FB_deliver_0 rfl (lv_at hl 0 rfl) ?_
  refine xb_get (v := .ref (ad (2, 0))) Z hw (fb_in0 n) (fb_e0 n ad cI cZ cS cA) rfl tb_iFB 1 (by decide) mk_FB_21 rfl rfl md_FB_deliver_1 ?_
  refine lv_iload_n Z.1 Z.2.1 md_FB_deliver_4 rfl (lv_at hl 1 rfl) ?_
  refine xw_cV (n := 1) (rest := []) Z hml hl.1 hN hw (k_has0 l D ad cI cZ cS cA (M := M) h.2.1 hx) tb_g mc_Mail_has mk_FB_76 mi_Mail_has ms_Mail_has mz_Mail ⟨by decide, by decide, by decide +kernel⟩ ⟨Nat.le_of_ble_eq_true rfl, Nat.le_of_ble_eq_true rfl⟩ (fb_in2 n) (fb_e2 n ad cI cZ cS cA _) rfl rfl rfl rfl (Nat.le_of_ble_eq_true rfl) ⟨Nat.le_refl _, Nat.le_refl _⟩ md_FB_deliver_5 (fun M1 H1 locs1 e1 hw => ?_)
  have ey1 := e1.symm
  subst ey1
  refine W.eq (g2 := F0 m 8 ls [.int (nI (0))]) rfl ?_
  refine xi_if_ne (tgt := 13) Z md_FB_deliver_8 (by decide) (by omega) (fun h8 => by exfalso; omega) (fun h8 => ?_)
  refine lv_iconst (v := -1) Z.1 Z.2.1 md_FB_deliver_11 (by decide) ?_
  exact xw_iret Z hr hlk hw md_FB_deliver_12 rfl rfl
end
section
/-! The world of the reference: its object is (0,0), the row of its field j is (j,0). -/
def gm_ids : List (Nat × Nat) := [(0, 0), (3, 0), (6, 0), (7, 0), (8, 0), (9, 0), (10, 0), (11, 0), (12, 0), (13, 0), (14, 0), (15, 0), (16, 0), (17, 0), (18, 0), (19, 0), (20, 0), (21, 0), (22, 0), (23, 0), (24, 0), (25, 0), (26, 0)]
theorem gm_in {k : Nat} (h : (k, 0) ∈ gm_ids) : (k, 0) ∈ gm_ids := h
def gm_k (ad : Nat × Nat → Nat) (cI cZ : ClassId) : Nat × Nat → (Nat → Int32) → va_E := fun k g => match k with
  | (0, _) => .inr (8, [.int (g 0), .int (g 1), .int (g 2), .ref (ad (3, 0)), .int (g 4), .int (g 5), .ref (ad (6, 0)), .ref (ad (7, 0)), .ref (ad (8, 0)), .ref (ad (9, 0)), .ref (ad (10, 0)), .ref (ad (11, 0)), .ref (ad (12, 0)), .ref (ad (13, 0)), .ref (ad (14, 0)), .ref (ad (15, 0)), .ref (ad (16, 0)), .ref (ad (17, 0)), .ref (ad (18, 0)), .ref (ad (19, 0)), .ref (ad (20, 0)), .ref (ad (21, 0)), .ref (ad (22, 0)), .ref (ad (23, 0)), .ref (ad (24, 0)), .ref (ad (25, 0)), .ref (ad (26, 0))])
  | (3, _) => .inl (cZ, 11, .inl g)
  | (6, _) => .inl (cI, 60, .inl g)
  | (7, _) => .inl (cI, 60, .inl g)
  | (8, _) => .inl (cI, 60, .inl g)
  | (9, _) => .inl (cI, 60, .inl g)
  | (10, _) => .inl (cI, 60, .inl g)
  | (11, _) => .inl (cI, 60, .inl g)
  | (12, _) => .inl (cI, 60, .inl g)
  | (13, _) => .inl (cI, 15, .inl g)
  | (14, _) => .inl (cI, 15, .inl g)
  | (15, _) => .inl (cI, 15, .inl g)
  | (16, _) => .inl (cI, 15, .inl g)
  | (17, _) => .inl (cI, 15, .inl g)
  | (18, _) => .inl (cI, 195, .inl g)
  | (19, _) => .inl (cI, 195, .inl g)
  | (20, _) => .inl (cI, 3, .inl g)
  | (21, _) => .inl (cI, 6, .inl g)
  | (22, _) => .inl (cI, 6, .inl g)
  | (23, _) => .inl (cI, 6, .inl g)
  | (24, _) => .inl (cZ, 30, .inl g)
  | (25, _) => .inl (cI, 30, .inl g)
  | (26, _) => .inl (cI, 30, .inl g)
  | _ => .inr (0, [])
def gm_f (ad : Nat × Nat → Nat) (g : Nat → Int32) : List Value := [.int (g 0), .int (g 1), .int (g 2), .ref (ad (3, 0)), .int (g 4), .int (g 5), .ref (ad (6, 0)), .ref (ad (7, 0)), .ref (ad (8, 0)), .ref (ad (9, 0)), .ref (ad (10, 0)), .ref (ad (11, 0)), .ref (ad (12, 0)), .ref (ad (13, 0)), .ref (ad (14, 0)), .ref (ad (15, 0)), .ref (ad (16, 0)), .ref (ad (17, 0)), .ref (ad (18, 0)), .ref (ad (19, 0)), .ref (ad (20, 0)), .ref (ad (21, 0)), .ref (ad (22, 0)), .ref (ad (23, 0)), .ref (ad (24, 0)), .ref (ad (25, 0)), .ref (ad (26, 0))]
theorem gm_e0 (ad : Nat × Nat → Nat) (cI cZ : ClassId) (g : Nat → Int32) : gm_k ad cI cZ (0, 0) g = .inr (8, gm_f ad g) := rfl
theorem gm_e3 (ad : Nat × Nat → Nat) (cI cZ : ClassId) (g : Nat → Int32) : gm_k ad cI cZ (3, 0) g = .inl (cZ, 11, .inl g) := rfl
theorem gm_e6 (ad : Nat × Nat → Nat) (cI cZ : ClassId) (g : Nat → Int32) : gm_k ad cI cZ (6, 0) g = .inl (cI, 60, .inl g) := rfl
theorem gm_e7 (ad : Nat × Nat → Nat) (cI cZ : ClassId) (g : Nat → Int32) : gm_k ad cI cZ (7, 0) g = .inl (cI, 60, .inl g) := rfl
theorem gm_e8 (ad : Nat × Nat → Nat) (cI cZ : ClassId) (g : Nat → Int32) : gm_k ad cI cZ (8, 0) g = .inl (cI, 60, .inl g) := rfl
theorem gm_e9 (ad : Nat × Nat → Nat) (cI cZ : ClassId) (g : Nat → Int32) : gm_k ad cI cZ (9, 0) g = .inl (cI, 60, .inl g) := rfl
theorem gm_e10 (ad : Nat × Nat → Nat) (cI cZ : ClassId) (g : Nat → Int32) : gm_k ad cI cZ (10, 0) g = .inl (cI, 60, .inl g) := rfl
theorem gm_e11 (ad : Nat × Nat → Nat) (cI cZ : ClassId) (g : Nat → Int32) : gm_k ad cI cZ (11, 0) g = .inl (cI, 60, .inl g) := rfl
theorem gm_e12 (ad : Nat × Nat → Nat) (cI cZ : ClassId) (g : Nat → Int32) : gm_k ad cI cZ (12, 0) g = .inl (cI, 60, .inl g) := rfl
theorem gm_e13 (ad : Nat × Nat → Nat) (cI cZ : ClassId) (g : Nat → Int32) : gm_k ad cI cZ (13, 0) g = .inl (cI, 15, .inl g) := rfl
theorem gm_e14 (ad : Nat × Nat → Nat) (cI cZ : ClassId) (g : Nat → Int32) : gm_k ad cI cZ (14, 0) g = .inl (cI, 15, .inl g) := rfl
theorem gm_e15 (ad : Nat × Nat → Nat) (cI cZ : ClassId) (g : Nat → Int32) : gm_k ad cI cZ (15, 0) g = .inl (cI, 15, .inl g) := rfl
theorem gm_e16 (ad : Nat × Nat → Nat) (cI cZ : ClassId) (g : Nat → Int32) : gm_k ad cI cZ (16, 0) g = .inl (cI, 15, .inl g) := rfl
theorem gm_e17 (ad : Nat × Nat → Nat) (cI cZ : ClassId) (g : Nat → Int32) : gm_k ad cI cZ (17, 0) g = .inl (cI, 15, .inl g) := rfl
theorem gm_e18 (ad : Nat × Nat → Nat) (cI cZ : ClassId) (g : Nat → Int32) : gm_k ad cI cZ (18, 0) g = .inl (cI, 195, .inl g) := rfl
theorem gm_e19 (ad : Nat × Nat → Nat) (cI cZ : ClassId) (g : Nat → Int32) : gm_k ad cI cZ (19, 0) g = .inl (cI, 195, .inl g) := rfl
theorem gm_e20 (ad : Nat × Nat → Nat) (cI cZ : ClassId) (g : Nat → Int32) : gm_k ad cI cZ (20, 0) g = .inl (cI, 3, .inl g) := rfl
theorem gm_e21 (ad : Nat × Nat → Nat) (cI cZ : ClassId) (g : Nat → Int32) : gm_k ad cI cZ (21, 0) g = .inl (cI, 6, .inl g) := rfl
theorem gm_e22 (ad : Nat × Nat → Nat) (cI cZ : ClassId) (g : Nat → Int32) : gm_k ad cI cZ (22, 0) g = .inl (cI, 6, .inl g) := rfl
theorem gm_e23 (ad : Nat × Nat → Nat) (cI cZ : ClassId) (g : Nat → Int32) : gm_k ad cI cZ (23, 0) g = .inl (cI, 6, .inl g) := rfl
theorem gm_e24 (ad : Nat × Nat → Nat) (cI cZ : ClassId) (g : Nat → Int32) : gm_k ad cI cZ (24, 0) g = .inl (cZ, 30, .inl g) := rfl
theorem gm_e25 (ad : Nat × Nat → Nat) (cI cZ : ClassId) (g : Nat → Int32) : gm_k ad cI cZ (25, 0) g = .inl (cI, 30, .inl g) := rfl
theorem gm_e26 (ad : Nat × Nat → Nat) (cI cZ : ClassId) (g : Nat → Int32) : gm_k ad cI cZ (26, 0) g = .inl (cI, 30, .inl g) := rfl
theorem gm_s0_0 (ad : Nat × Nat → Nat) (v : Int32) (g : Nat → Int32) : 0 < (gm_f ad g).length ∧ (gm_f ad g).set 0 (.int v) = gm_f ad (upd g 0 v) := ⟨by simp [gm_f], by simp [gm_f, upd]⟩
theorem gm_s0_1 (ad : Nat × Nat → Nat) (v : Int32) (g : Nat → Int32) : 1 < (gm_f ad g).length ∧ (gm_f ad g).set 1 (.int v) = gm_f ad (upd g 1 v) := ⟨by simp [gm_f], by simp [gm_f, upd]⟩
theorem gm_s0_2 (ad : Nat × Nat → Nat) (v : Int32) (g : Nat → Int32) : 2 < (gm_f ad g).length ∧ (gm_f ad g).set 2 (.int v) = gm_f ad (upd g 2 v) := ⟨by simp [gm_f], by simp [gm_f, upd]⟩
theorem gm_s0_4 (ad : Nat × Nat → Nat) (v : Int32) (g : Nat → Int32) : 4 < (gm_f ad g).length ∧ (gm_f ad g).set 4 (.int v) = gm_f ad (upd g 4 v) := ⟨by simp [gm_f], by simp [gm_f, upd]⟩
theorem gm_s0_5 (ad : Nat × Nat → Nat) (v : Int32) (g : Nat → Int32) : 5 < (gm_f ad g).length ∧ (gm_f ad g).set 5 (.int v) = gm_f ad (upd g 5 v) := ⟨by simp [gm_f], by simp [gm_f, upd]⟩
abbrev gm_ty (cI cZ : ClassId) : List (ClassId × FieldType) := [(cI, .int), (cZ, .boolean)]
def gm_C (l : Launch) (D : va_G) (ad : Nat × Nat → Nat) (cI cZ : ClassId) (y : MethodName) (b : ByteArray) (mL : Nat) (ret : Option FieldType) (fr lo : Nat) (M : fr_M) (av : List Value) (r : Option Value) (Pm : fr_M → Prop) : Prop :=
  Met l y (Cond.code y b mL ret :: tb_W) { frames := fr, cells := 0, slots := 0, locals := lo } (xw_Pc D tb_cl (gm_ty cI cZ) gm_ids ad (gm_k ad cI cZ) tb_nl M av) (xw_Qc D tb_cl gm_ids ad (gm_k ad cI cZ) r Pm) 0 0 (xw_A gm_ids ad)
def gm_ix (k s x y : Nat) : Nat := if k ≤ 4 then 5 * s + x else if k ≤ 6 then 65 * s + 5 * x + y else if k ≤ 7 then s else if k ≤ 10 then 3 * x + s else 5 * (3 * x + s) + y
def gm_dom (k x y : Nat) : Prop := (k ≤ 4 → x < 5 ∧ y = 0) ∧ (4 < k → k ≤ 6 → x ≤ 12 ∧ y < 5) ∧ (k = 7 → x = 0 ∧ y = 0) ∧ (7 < k → k ≤ 10 → x < 2 ∧ y = 0) ∧ (10 < k → x < 2 ∧ y < 5)
theorem gm_inj {k s x y s' x' y' : Nat} (hk : k ≤ 13) (hs : s < 3) (hs' : s' < 3) (h : gm_dom k x y) (h' : gm_dom k x' y') (e : gm_ix k s x y = gm_ix k s' x' y') : s = s' ∧ x = x' ∧ y = y' := by
  unfold gm_ix at e
  unfold gm_dom at h h'
  by_cases k4 : k ≤ 4
  · rw [if_pos k4, if_pos k4] at e; omega
  · rw [if_neg k4, if_neg k4] at e
    by_cases k6 : k ≤ 6
    · rw [if_pos k6, if_pos k6] at e; omega
    · rw [if_neg k6, if_neg k6] at e
      by_cases k7 : k ≤ 7
      · rw [if_pos k7, if_pos k7] at e; omega
      · rw [if_neg k7, if_neg k7] at e
        by_cases k10 : k ≤ 10
        · rw [if_pos k10, if_pos k10] at e; omega
        · rw [if_neg k10, if_neg k10] at e; omega
def gm_1 (n q f : Nat) (M : fr_M) : Prop := M (0, 0) 0 = nI n ∧ M (0, 0) 1 = nI q ∧ M (0, 0) 2 = nI f
def gm_2 (S : pz_T) (M : fr_M) : Prop := M (0, 0) 4 = nI S.1.length ∧ M (0, 0) 5 = nI (S.2 3 15 0 0)
def gm_3 (S : pz_T) (M : fr_M) : Prop := ∀ w, w < 11 → M (3, 0) w = nI (S.2 3 14 w 0)
def gm_4 (S : pz_T) (M : fr_M) : Prop := ∀ i g, S.1[i]? = some g → M (6, 0) i = nI (g 0) ∧ M (7, 0) i = nI (g 1) ∧ M (8, 0) i = nI (g 2) ∧ M (9, 0) i = nI (g 4) ∧ M (10, 0) i = nI (g 3) ∧ M (11, 0) i = nI (g 5) ∧ M (12, 0) i = nI (g 6)
def gm_5 (S : pz_T) (M : fr_M) : Prop := ∀ k s x y, k ≤ 13 → s < 3 → gm_dom k x y → M (13 + k, 0) (gm_ix k s x y) = nI (S.2 s k x y)
def gm_R (n q f : Nat) (S : pz_T) (M : fr_M) : Prop := gm_1 n q f M ∧ gm_2 S M ∧ gm_3 S M ∧ gm_4 S M ∧ gm_5 S M
theorem gm_set {n q f k s x y v : Nat} {S : pz_T} {p : pz_P} {M M' : fr_M} (h : gm_R n q f (pz_pw S s p) M) (hk : k ≤ 13) (hs : s < 3) (hd : gm_dom k x y) (e : M' = xw_mw M (13 + k, 0) (upd (M (13 + k, 0)) (gm_ix k s x y) (nI v))) : gm_R n q f (pz_pw S s (pz_u p k x y v)) M' := by
  obtain ⟨a1, a2, a3, a4, a5⟩ := h
  have m : ∀ z, z ≤ 12 → M' (z, 0) = M (z, 0) := fun z hz => by rw [e, xw_mw_n (fr_pair (by omega))]
  have s3 : ∀ p', (pz_pw S s p').2 3 = S.2 3 := fun p' => pz_w_n (by omega)
  refine ⟨?_, ?_, ?_, ?_, ?_⟩
  · unfold gm_1; rw [m 0 (by omega)]; exact a1
  · unfold gm_2; rw [m 0 (by omega), s3]; unfold gm_2 at a2; rw [s3] at a2; exact a2
  · intro w hw; rw [m 3 (by omega), s3]; have := a3 w hw; rw [s3] at this; exact this
  · intro i g hg
    rw [m 6 (by omega), m 7 (by omega), m 8 (by omega), m 9 (by omega), m 10 (by omega), m 11 (by omega), m 12 (by omega)]
    exact a4 i g hg
  · intro k' s' x' y' hk' hs' hd'
    have old := a5 k' s' x' y' hk' hs' hd'
    by_cases ek : k' = k
    · subst ek
      rw [e, xw_mw_s]
      unfold upd
      by_cases ei : gm_ix k' s' x' y' = gm_ix k' s x y
      · obtain ⟨rfl, rfl, rfl⟩ := gm_inj hk hs' hs hd' hd ei
        rw [if_pos rfl, pz_pw_s, pz_u_s]
      · rw [if_neg ei, old]
        by_cases es : s' = s
        · subst es
          rw [pz_pw_s, pz_pw_s]
          unfold pz_u
          rw [if_neg (fun z => ei (by rw [z.2.1, z.2.2]))]
        · show nI (pz_w S.2 s p s' k' x' y') = nI (pz_w S.2 s _ s' k' x' y')
          rw [pz_w_n es, pz_w_n es]
    · rw [e, xw_mw_n (fr_pair (by omega)), old]
      by_cases es : s' = s
      · subst es; rw [pz_pw_s, pz_pw_s, pz_u_k ek]
      · show nI (pz_w S.2 s p s' k' x' y') = nI (pz_w S.2 s _ s' k' x' y')
        rw [pz_w_n es, pz_w_n es]
theorem gm_sE {n q f : Nat} {S S' : pz_T} {M : fr_M} (h : gm_R n q f S M) (h1 : S'.1 = S.1) (h2 : ∀ s k x y, k ≠ 17 → k ≠ 16 → S'.2 s k x y = S.2 s k x y) : gm_R n q f S' M := by
  obtain ⟨a1, a2, a3, a4, a5⟩ := h
  refine ⟨a1, ⟨by rw [h1]; exact a2.1, by rw [h2 3 15 0 0 (by omega) (by omega)]; exact a2.2⟩, fun w hw => by rw [h2 3 14 w 0 (by omega) (by omega)]; exact a3 w hw, fun i g hg => a4 i g (by rw [← h1]; exact hg), fun k s x y hk hs hd => by rw [h2 s k x y (by omega) (by omega)]; exact a5 k s x y hk hs hd⟩
theorem gm_send1 {n q f : Nat} {S : pz_T} {M M' : fr_M} {g : pz_M} (h : gm_R n q f S M) (hl : S.1.length < 60) (hk : ∀ k, ¬ (6 ≤ k ∧ k ≤ 12) → k ≠ 0 → M' (k, 0) = M (k, 0)) (h0 : ∀ j, j ≠ 4 → M' (0, 0) j = M (0, 0) j) (h4 : M' (0, 0) 4 = nI (S.1.length + 1)) (hr : ∀ k, 6 ≤ k → k ≤ 12 → M' (k, 0) = upd (M (k, 0)) S.1.length (M' (k, 0) S.1.length))
    (hv : M' (6, 0) S.1.length = nI (g 0) ∧ M' (7, 0) S.1.length = nI (g 1) ∧ M' (8, 0) S.1.length = nI (g 2) ∧ M' (9, 0) S.1.length = nI (g 4) ∧ M' (10, 0) S.1.length = nI (g 3) ∧ M' (11, 0) S.1.length = nI (g 5) ∧ M' (12, 0) S.1.length = nI (g 6)) : gm_R n q f (pz_sd S g) M' := by
  obtain ⟨a1, a2, a3, a4, a5⟩ := h
  have e : pz_sd S g = (S.1 ++ [g], S.2) := by unfold pz_sd; rw [if_pos hl]
  rw [e]
  refine ⟨?_, ⟨?_, ?_⟩, ?_, ?_, ?_⟩
  · unfold gm_1; rw [h0 0 (by omega), h0 1 (by omega), h0 2 (by omega)]; exact a1
  · rw [h4]; simp
  · rw [h0 5 (by omega)]; exact a2.2
  · intro w hw; rw [hk 3 (by omega) (by omega)]; exact a3 w hw
  · intro i x hx
    by_cases hi : i < S.1.length
    · rw [List.getElem?_append_left hi] at hx
      have o := a4 i x hx
      have u : ∀ k, 6 ≤ k → k ≤ 12 → M' (k, 0) i = M (k, 0) i := fun k k1 k2 => by rw [hr k k1 k2]; unfold upd; rw [if_neg (by omega)]
      rw [u 6 (by omega) (by omega), u 7 (by omega) (by omega), u 8 (by omega) (by omega), u 9 (by omega) (by omega), u 10 (by omega) (by omega), u 11 (by omega) (by omega), u 12 (by omega) (by omega)]
      exact o
    · rw [List.getElem?_append_right (by omega)] at hx
      have hz : i - S.1.length < 1 := (List.getElem?_eq_some_iff.mp hx).1
      have hi0 : i = S.1.length := by omega
      subst hi0
      rw [Nat.sub_self] at hx
      cases hx
      exact hv
  · intro k s x y hk' hs hd; rw [hk (13 + k) (by omega) (by omega)]; exact a5 k s x y hk' hs hd
theorem gm_send2 {n q f : Nat} {S : pz_T} {M M' : fr_M} {g : pz_M} (h : gm_R n q f S M) (hl : ¬ S.1.length < 60) (hk : ∀ k, k ≠ 0 → M' (k, 0) = M (k, 0)) (h0 : ∀ j, j ≠ 5 → M' (0, 0) j = M (0, 0) j) (h5 : M' (0, 0) 5 = nI (S.2 3 15 0 0 + 1)) : gm_R n q f (pz_sd S g) M' := by
  obtain ⟨a1, a2, a3, a4, a5⟩ := h
  have e : pz_sd S g = (S.1, pz_w S.2 3 (pz_u (S.2 3) 15 0 0 (S.2 3 15 0 0 + 1))) := by unfold pz_sd; rw [if_neg hl]
  have ss : ∀ s, s < 3 → pz_w S.2 3 (pz_u (S.2 3) 15 0 0 (S.2 3 15 0 0 + 1)) s = S.2 s := fun s hs => pz_w_n (by omega)
  have s3 : pz_w S.2 3 (pz_u (S.2 3) 15 0 0 (S.2 3 15 0 0 + 1)) 3 = pz_u (S.2 3) 15 0 0 (S.2 3 15 0 0 + 1) := pz_w_s _ _ _
  rw [e]
  refine ⟨?_, ⟨?_, ?_⟩, ?_, ?_, ?_⟩
  · unfold gm_1; rw [h0 0 (by omega), h0 1 (by omega), h0 2 (by omega)]; exact a1
  · rw [h0 4 (by omega)]; exact a2.1
  · show _ = nI (pz_w S.2 3 (pz_u (S.2 3) 15 0 0 (S.2 3 15 0 0 + 1)) 3 15 0 0)
    rw [h5, s3, pz_u_s]
  · intro w hw
    show _ = nI (pz_w S.2 3 (pz_u (S.2 3) 15 0 0 (S.2 3 15 0 0 + 1)) 3 14 w 0)
    rw [hk 3 (by omega), s3, pz_u_k (by omega)]; exact a3 w hw
  · intro i x hx
    rw [hk 6 (by omega), hk 7 (by omega), hk 8 (by omega), hk 9 (by omega), hk 10 (by omega), hk 11 (by omega), hk 12 (by omega)]
    exact a4 i x hx
  · intro k s x y hk' hs hd
    rw [hk (13 + k) (by omega)]
    show _ = nI (pz_w S.2 3 (pz_u (S.2 3) 15 0 0 (S.2 3 15 0 0 + 1)) s k x y)
    rw [ss s hs]; exact a5 k s x y hk' hs hd
theorem gm_rm {n q f i : Nat} {S : pz_T} {M M' : fr_M} (h : gm_R n q f S M) (hi : i < S.1.length) (hk : ∀ k, ¬ (6 ≤ k ∧ k ≤ 12) → k ≠ 0 → M' (k, 0) = M (k, 0)) (h0 : ∀ j, j ≠ 4 → M' (0, 0) j = M (0, 0) j) (h4 : M' (0, 0) 4 = nI (S.1.length - 1)) (hlo : ∀ k j, 6 ≤ k → k ≤ 12 → j < i → M' (k, 0) j = M (k, 0) j) (hhi : ∀ k j, 6 ≤ k → k ≤ 12 → i ≤ j → j < S.1.length - 1 → M' (k, 0) j = M (k, 0) (j + 1)) : gm_R n q f (pz_rm S i) M' := by
  obtain ⟨a1, a2, a3, a4, a5⟩ := h
  have hlen : (S.1.eraseIdx i).length = S.1.length - 1 := by rw [List.length_eraseIdx]; simp [hi]
  refine ⟨?_, ⟨?_, ?_⟩, ?_, ?_, ?_⟩
  · unfold gm_1; rw [h0 0 (by omega), h0 1 (by omega), h0 2 (by omega)]; exact a1
  · rw [h4]; show _ = nI (S.1.eraseIdx i).length; rw [hlen]
  · rw [h0 5 (by omega)]; exact a2.2
  · intro w hw; rw [hk 3 (by omega) (by omega)]; exact a3 w hw
  · intro j g hg
    have hg : (S.1.eraseIdx i)[j]? = some g := hg
    have hj : j < S.1.length - 1 := by rw [← hlen]; exact (List.getElem?_eq_some_iff.mp hg).1
    by_cases hji : j < i
    · rw [List.getElem?_eraseIdx_of_lt hji] at hg
      have u : ∀ k, 6 ≤ k → k ≤ 12 → M' (k, 0) j = M (k, 0) j := fun k k1 k2 => hlo k j k1 k2 hji
      rw [u 6 (by omega) (by omega), u 7 (by omega) (by omega), u 8 (by omega) (by omega), u 9 (by omega) (by omega), u 10 (by omega) (by omega), u 11 (by omega) (by omega), u 12 (by omega) (by omega)]
      exact a4 j g hg
    · rw [List.getElem?_eraseIdx_of_ge (by omega)] at hg
      have u : ∀ k, 6 ≤ k → k ≤ 12 → M' (k, 0) j = M (k, 0) (j + 1) := fun k k1 k2 => hhi k j k1 k2 (by omega) hj
      rw [u 6 (by omega) (by omega), u 7 (by omega) (by omega), u 8 (by omega) (by omega), u 9 (by omega) (by omega), u 10 (by omega) (by omega), u 11 (by omega) (by omega), u 12 (by omega) (by omega)]
      exact a4 (j + 1) g hg
  · intro k s x y hk' hs hd; rw [hk (13 + k) (by omega) (by omega)]; exact a5 k s x y hk' hs hd
theorem gm_halt {n q f w b : Nat} {S : pz_T} {M M' : fr_M} (h : gm_R n q f S M) (e : M' = xw_mw M (3, 0) (upd (M (3, 0)) w (nI b))) : gm_R n q f (pz_halt S w b) M' := by
  obtain ⟨a1, a2, a3, a4, a5⟩ := h
  have m : ∀ z, z ≠ 3 → M' (z, 0) = M (z, 0) := fun z hz => by rw [e, xw_mw_n (fr_pair hz)]
  have ss : ∀ s, s < 3 → (pz_halt S w b).2 s = S.2 s := fun s hs => pz_w_n (by omega)
  have s3 : (pz_halt S w b).2 3 = pz_u (S.2 3) 14 w 0 b := pz_w_s S.2 3 (pz_u (S.2 3) 14 w 0 b)
  refine ⟨?_, ⟨?_, ?_⟩, ?_, ?_, ?_⟩
  · unfold gm_1; rw [m 0 (by omega)]; exact a1
  · rw [m 0 (by omega)]; exact a2.1
  · rw [m 0 (by omega), s3, pz_u_k (by omega)]; exact a2.2
  · intro x hx
    rw [e, xw_mw_s, s3]
    unfold upd
    by_cases ex : x = w
    · subst ex; rw [if_pos rfl, pz_u_s]
    · rw [if_neg ex, pz_u_x ex]; exact a3 x hx
  · intro i g hg
    rw [m 6 (by omega), m 7 (by omega), m 8 (by omega), m 9 (by omega), m 10 (by omega), m 11 (by omega), m 12 (by omega)]
    exact a4 i g hg
  · intro k s x y hk' hs hd; rw [m (13 + k) (by omega), ss s hs]; exact a5 k s x y hk' hs hd
theorem gm_g0 {n q f s a : Nat} {S : pz_T} {M : fr_M} (h : gm_R n q f S M) (hs : s < 3) (ha : a < 5) : M (13, 0) (5 * s + a) = nI (S.2 s 0 a 0) := h.2.2.2.2 0 s a 0 (by decide) hs (by unfold gm_dom; omega)
theorem gm_w0 {n q f s a v : Nat} {S : pz_T} {p : pz_P} {M M' : fr_M} (h : gm_R n q f (pz_pw S s p) M) (hs : s < 3) (ha : a < 5) (e : M' = xw_mw M (13, 0) (upd (M (13, 0)) (5 * s + a) (nI v))) : gm_R n q f (pz_pw S s (pz_u p 0 a 0 v)) M' := gm_set h (by decide) hs (by unfold gm_dom; omega) e
theorem gm_g1 {n q f s a : Nat} {S : pz_T} {M : fr_M} (h : gm_R n q f S M) (hs : s < 3) (ha : a < 5) : M (14, 0) (5 * s + a) = nI (S.2 s 1 a 0) := h.2.2.2.2 1 s a 0 (by decide) hs (by unfold gm_dom; omega)
theorem gm_w1 {n q f s a v : Nat} {S : pz_T} {p : pz_P} {M M' : fr_M} (h : gm_R n q f (pz_pw S s p) M) (hs : s < 3) (ha : a < 5) (e : M' = xw_mw M (14, 0) (upd (M (14, 0)) (5 * s + a) (nI v))) : gm_R n q f (pz_pw S s (pz_u p 1 a 0 v)) M' := gm_set h (by decide) hs (by unfold gm_dom; omega) e
theorem gm_g2 {n q f s a : Nat} {S : pz_T} {M : fr_M} (h : gm_R n q f S M) (hs : s < 3) (ha : a < 5) : M (15, 0) (5 * s + a) = nI (S.2 s 2 a 0) := h.2.2.2.2 2 s a 0 (by decide) hs (by unfold gm_dom; omega)
theorem gm_w2 {n q f s a v : Nat} {S : pz_T} {p : pz_P} {M M' : fr_M} (h : gm_R n q f (pz_pw S s p) M) (hs : s < 3) (ha : a < 5) (e : M' = xw_mw M (15, 0) (upd (M (15, 0)) (5 * s + a) (nI v))) : gm_R n q f (pz_pw S s (pz_u p 2 a 0 v)) M' := gm_set h (by decide) hs (by unfold gm_dom; omega) e
theorem gm_g3 {n q f s a : Nat} {S : pz_T} {M : fr_M} (h : gm_R n q f S M) (hs : s < 3) (ha : a < 5) : M (16, 0) (5 * s + a) = nI (S.2 s 3 a 0) := h.2.2.2.2 3 s a 0 (by decide) hs (by unfold gm_dom; omega)
theorem gm_w3 {n q f s a v : Nat} {S : pz_T} {p : pz_P} {M M' : fr_M} (h : gm_R n q f (pz_pw S s p) M) (hs : s < 3) (ha : a < 5) (e : M' = xw_mw M (16, 0) (upd (M (16, 0)) (5 * s + a) (nI v))) : gm_R n q f (pz_pw S s (pz_u p 3 a 0 v)) M' := gm_set h (by decide) hs (by unfold gm_dom; omega) e
theorem gm_g4 {n q f s a : Nat} {S : pz_T} {M : fr_M} (h : gm_R n q f S M) (hs : s < 3) (ha : a < 5) : M (17, 0) (5 * s + a) = nI (S.2 s 4 a 0) := h.2.2.2.2 4 s a 0 (by decide) hs (by unfold gm_dom; omega)
theorem gm_w4 {n q f s a v : Nat} {S : pz_T} {p : pz_P} {M M' : fr_M} (h : gm_R n q f (pz_pw S s p) M) (hs : s < 3) (ha : a < 5) (e : M' = xw_mw M (17, 0) (upd (M (17, 0)) (5 * s + a) (nI v))) : gm_R n q f (pz_pw S s (pz_u p 4 a 0 v)) M' := gm_set h (by decide) hs (by unfold gm_dom; omega) e
theorem gm_g5 {n q f s a r : Nat} {S : pz_T} {M : fr_M} (h : gm_R n q f S M) (hs : s < 3) (hr : r ≤ 12) (ha : a < 5) : M (18, 0) (65 * s + 5 * r + a) = nI (S.2 s 5 r a) := h.2.2.2.2 5 s r a (by decide) hs (by unfold gm_dom; omega)
theorem gm_w5 {n q f s a r v : Nat} {S : pz_T} {p : pz_P} {M M' : fr_M} (h : gm_R n q f (pz_pw S s p) M) (hs : s < 3) (hr : r ≤ 12) (ha : a < 5) (e : M' = xw_mw M (18, 0) (upd (M (18, 0)) (65 * s + 5 * r + a) (nI v))) : gm_R n q f (pz_pw S s (pz_u p 5 r a v)) M' := gm_set h (by decide) hs (by unfold gm_dom; omega) e
theorem gm_g6 {n q f s a r : Nat} {S : pz_T} {M : fr_M} (h : gm_R n q f S M) (hs : s < 3) (hr : r ≤ 12) (ha : a < 5) : M (19, 0) (65 * s + 5 * r + a) = nI (S.2 s 6 r a) := h.2.2.2.2 6 s r a (by decide) hs (by unfold gm_dom; omega)
theorem gm_w6 {n q f s a r v : Nat} {S : pz_T} {p : pz_P} {M M' : fr_M} (h : gm_R n q f (pz_pw S s p) M) (hs : s < 3) (hr : r ≤ 12) (ha : a < 5) (e : M' = xw_mw M (19, 0) (upd (M (19, 0)) (65 * s + 5 * r + a) (nI v))) : gm_R n q f (pz_pw S s (pz_u p 6 r a v)) M' := gm_set h (by decide) hs (by unfold gm_dom; omega) e
theorem gm_g7 {n q f s  : Nat} {S : pz_T} {M : fr_M} (h : gm_R n q f S M) (hs : s < 3) : M (20, 0) (s) = nI (S.2 s 7 0 0) := h.2.2.2.2 7 s 0 0 (by decide) hs (by unfold gm_dom; omega)
theorem gm_w7 {n q f s  v : Nat} {S : pz_T} {p : pz_P} {M M' : fr_M} (h : gm_R n q f (pz_pw S s p) M) (hs : s < 3) (e : M' = xw_mw M (20, 0) (upd (M (20, 0)) (s) (nI v))) : gm_R n q f (pz_pw S s (pz_u p 7 0 0 v)) M' := gm_set h (by decide) hs (by unfold gm_dom; omega) e
theorem gm_g8 {n q f s c : Nat} {S : pz_T} {M : fr_M} (h : gm_R n q f S M) (hs : s < 3) (hc : c < 2) : M (21, 0) (3 * c + s) = nI (S.2 s 8 c 0) := h.2.2.2.2 8 s c 0 (by decide) hs (by unfold gm_dom; omega)
theorem gm_w8 {n q f s c v : Nat} {S : pz_T} {p : pz_P} {M M' : fr_M} (h : gm_R n q f (pz_pw S s p) M) (hs : s < 3) (hc : c < 2) (e : M' = xw_mw M (21, 0) (upd (M (21, 0)) (3 * c + s) (nI v))) : gm_R n q f (pz_pw S s (pz_u p 8 c 0 v)) M' := gm_set h (by decide) hs (by unfold gm_dom; omega) e
theorem gm_g9 {n q f s c : Nat} {S : pz_T} {M : fr_M} (h : gm_R n q f S M) (hs : s < 3) (hc : c < 2) : M (22, 0) (3 * c + s) = nI (S.2 s 9 c 0) := h.2.2.2.2 9 s c 0 (by decide) hs (by unfold gm_dom; omega)
theorem gm_w9 {n q f s c v : Nat} {S : pz_T} {p : pz_P} {M M' : fr_M} (h : gm_R n q f (pz_pw S s p) M) (hs : s < 3) (hc : c < 2) (e : M' = xw_mw M (22, 0) (upd (M (22, 0)) (3 * c + s) (nI v))) : gm_R n q f (pz_pw S s (pz_u p 9 c 0 v)) M' := gm_set h (by decide) hs (by unfold gm_dom; omega) e
theorem gm_g10 {n q f s c : Nat} {S : pz_T} {M : fr_M} (h : gm_R n q f S M) (hs : s < 3) (hc : c < 2) : M (23, 0) (3 * c + s) = nI (S.2 s 10 c 0) := h.2.2.2.2 10 s c 0 (by decide) hs (by unfold gm_dom; omega)
theorem gm_w10 {n q f s c v : Nat} {S : pz_T} {p : pz_P} {M M' : fr_M} (h : gm_R n q f (pz_pw S s p) M) (hs : s < 3) (hc : c < 2) (e : M' = xw_mw M (23, 0) (upd (M (23, 0)) (3 * c + s) (nI v))) : gm_R n q f (pz_pw S s (pz_u p 10 c 0 v)) M' := gm_set h (by decide) hs (by unfold gm_dom; omega) e
theorem gm_g11 {n q f s a c : Nat} {S : pz_T} {M : fr_M} (h : gm_R n q f S M) (hs : s < 3) (hc : c < 2) (ha : a < 5) : M (24, 0) (5 * (3 * c + s) + a) = nI (S.2 s 11 c a) := h.2.2.2.2 11 s c a (by decide) hs (by unfold gm_dom; omega)
theorem gm_w11 {n q f s a c v : Nat} {S : pz_T} {p : pz_P} {M M' : fr_M} (h : gm_R n q f (pz_pw S s p) M) (hs : s < 3) (hc : c < 2) (ha : a < 5) (e : M' = xw_mw M (24, 0) (upd (M (24, 0)) (5 * (3 * c + s) + a) (nI v))) : gm_R n q f (pz_pw S s (pz_u p 11 c a v)) M' := gm_set h (by decide) hs (by unfold gm_dom; omega) e
theorem gm_g12 {n q f s a c : Nat} {S : pz_T} {M : fr_M} (h : gm_R n q f S M) (hs : s < 3) (hc : c < 2) (ha : a < 5) : M (25, 0) (5 * (3 * c + s) + a) = nI (S.2 s 12 c a) := h.2.2.2.2 12 s c a (by decide) hs (by unfold gm_dom; omega)
theorem gm_w12 {n q f s a c v : Nat} {S : pz_T} {p : pz_P} {M M' : fr_M} (h : gm_R n q f (pz_pw S s p) M) (hs : s < 3) (hc : c < 2) (ha : a < 5) (e : M' = xw_mw M (25, 0) (upd (M (25, 0)) (5 * (3 * c + s) + a) (nI v))) : gm_R n q f (pz_pw S s (pz_u p 12 c a v)) M' := gm_set h (by decide) hs (by unfold gm_dom; omega) e
theorem gm_g13 {n q f s a c : Nat} {S : pz_T} {M : fr_M} (h : gm_R n q f S M) (hs : s < 3) (hc : c < 2) (ha : a < 5) : M (26, 0) (5 * (3 * c + s) + a) = nI (S.2 s 13 c a) := h.2.2.2.2 13 s c a (by decide) hs (by unfold gm_dom; omega)
theorem gm_w13 {n q f s a c v : Nat} {S : pz_T} {p : pz_P} {M M' : fr_M} (h : gm_R n q f (pz_pw S s p) M) (hs : s < 3) (hc : c < 2) (ha : a < 5) (e : M' = xw_mw M (26, 0) (upd (M (26, 0)) (5 * (3 * c + s) + a) (nI v))) : gm_R n q f (pz_pw S s (pz_u p 13 c a v)) M' := gm_set h (by decide) hs (by unfold gm_dom; omega) e
end
section
/-! The reference's small methods. -/
theorem md_Mod_isSlot_0 : decode mb_Mod_isSlot 0 = .ok (.iload_n 0, 1) := by decide +kernel
theorem md_Mod_isSlot_1 : decode mb_Mod_isSlot 1 = .ok (.ifCond .lt 12, 3) := by decide +kernel
theorem md_Mod_isSlot_4 : decode mb_Mod_isSlot 4 = .ok (.iload_n 0, 1) := by decide +kernel
theorem md_Mod_isSlot_5 : decode mb_Mod_isSlot 5 = .ok (.iconst 3, 1) := by decide +kernel
theorem md_Mod_isSlot_6 : decode mb_Mod_isSlot 6 = .ok (.if_icmp .ge 7, 3) := by decide +kernel
theorem md_Mod_isSlot_9 : decode mb_Mod_isSlot 9 = .ok (.iconst 1, 1) := by decide +kernel
theorem md_Mod_isSlot_10 : decode mb_Mod_isSlot 10 = .ok (.goto 4, 3) := by decide +kernel
theorem md_Mod_isSlot_13 : decode mb_Mod_isSlot 13 = .ok (.iconst 0, 1) := by decide +kernel
theorem md_Mod_isSlot_14 : decode mb_Mod_isSlot 14 = .ok (.ireturn, 1) := by decide +kernel
theorem md_Mod_isRound_0 : decode mb_Mod_isRound 0 = .ok (.iload_n 0, 1) := by decide +kernel
theorem md_Mod_isRound_1 : decode mb_Mod_isRound 1 = .ok (.iconst 1, 1) := by decide +kernel
theorem md_Mod_isRound_2 : decode mb_Mod_isRound 2 = .ok (.if_icmp .lt 13, 3) := by decide +kernel
theorem md_Mod_isRound_5 : decode mb_Mod_isRound 5 = .ok (.iload_n 0, 1) := by decide +kernel
theorem md_Mod_isRound_6 : decode mb_Mod_isRound 6 = .ok (.bipush 12, 2) := by decide +kernel
theorem md_Mod_isRound_8 : decode mb_Mod_isRound 8 = .ok (.if_icmp .gt 7, 3) := by decide +kernel
theorem md_Mod_isRound_11 : decode mb_Mod_isRound 11 = .ok (.iconst 1, 1) := by decide +kernel
theorem md_Mod_isRound_12 : decode mb_Mod_isRound 12 = .ok (.goto 4, 3) := by decide +kernel
theorem md_Mod_isRound_15 : decode mb_Mod_isRound 15 = .ok (.iconst 0, 1) := by decide +kernel
theorem md_Mod_isRound_16 : decode mb_Mod_isRound 16 = .ok (.ireturn, 1) := by decide +kernel
theorem md_Mod_isValue_0 : decode mb_Mod_isValue 0 = .ok (.iload_n 0, 1) := by decide +kernel
theorem md_Mod_isValue_1 : decode mb_Mod_isValue 1 = .ok (.iconst 1, 1) := by decide +kernel
theorem md_Mod_isValue_2 : decode mb_Mod_isValue 2 = .ok (.if_icmp .lt 14, 3) := by decide +kernel
theorem md_Mod_isValue_5 : decode mb_Mod_isValue 5 = .ok (.iload_n 0, 1) := by decide +kernel
theorem md_Mod_isValue_6 : decode mb_Mod_isValue 6 = .ok (.sipush 1000, 3) := by decide +kernel
theorem md_Mod_isValue_9 : decode mb_Mod_isValue 9 = .ok (.if_icmp .gt 7, 3) := by decide +kernel
theorem md_Mod_isValue_12 : decode mb_Mod_isValue 12 = .ok (.iconst 1, 1) := by decide +kernel
theorem md_Mod_isValue_13 : decode mb_Mod_isValue 13 = .ok (.goto 4, 3) := by decide +kernel
theorem md_Mod_isValue_16 : decode mb_Mod_isValue 16 = .ok (.iconst 0, 1) := by decide +kernel
theorem md_Mod_isValue_17 : decode mb_Mod_isValue 17 = .ok (.ireturn, 1) := by decide +kernel
theorem md_Mod_isFast_0 : decode mb_Mod_isFast 0 = .ok (.iload_n 0, 1) := by decide +kernel
theorem md_Mod_isFast_1 : decode mb_Mod_isFast 1 = .ok (.iconst 2, 1) := by decide +kernel
theorem md_Mod_isFast_2 : decode mb_Mod_isFast 2 = .ok (.irem, 1) := by decide +kernel
theorem md_Mod_isFast_3 : decode mb_Mod_isFast 3 = .ok (.iconst 1, 1) := by decide +kernel
theorem md_Mod_isFast_4 : decode mb_Mod_isFast 4 = .ok (.if_icmp .ne 7, 3) := by decide +kernel
theorem md_Mod_isFast_7 : decode mb_Mod_isFast 7 = .ok (.iconst 1, 1) := by decide +kernel
theorem md_Mod_isFast_8 : decode mb_Mod_isFast 8 = .ok (.goto 4, 3) := by decide +kernel
theorem md_Mod_isFast_11 : decode mb_Mod_isFast 11 = .ok (.iconst 0, 1) := by decide +kernel
theorem md_Mod_isFast_12 : decode mb_Mod_isFast 12 = .ok (.ireturn, 1) := by decide +kernel
theorem md_Mod_coordinatorOf_0 : decode mb_Mod_coordinatorOf 0 = .ok (.iload_n 0, 1) := by decide +kernel
theorem md_Mod_coordinatorOf_1 : decode mb_Mod_coordinatorOf 1 = .ok (.iconst 1, 1) := by decide +kernel
theorem md_Mod_coordinatorOf_2 : decode mb_Mod_coordinatorOf 2 = .ok (.iadd, 1) := by decide +kernel
theorem md_Mod_coordinatorOf_3 : decode mb_Mod_coordinatorOf 3 = .ok (.iconst 2, 1) := by decide +kernel
theorem md_Mod_coordinatorOf_4 : decode mb_Mod_coordinatorOf 4 = .ok (.idiv, 1) := by decide +kernel
theorem md_Mod_coordinatorOf_5 : decode mb_Mod_coordinatorOf 5 = .ok (.iconst 2, 1) := by decide +kernel
theorem md_Mod_coordinatorOf_6 : decode mb_Mod_coordinatorOf 6 = .ok (.irem, 1) := by decide +kernel
theorem md_Mod_coordinatorOf_7 : decode mb_Mod_coordinatorOf 7 = .ok (.iconst 1, 1) := by decide +kernel
theorem md_Mod_coordinatorOf_8 : decode mb_Mod_coordinatorOf 8 = .ok (.if_icmp .ne 8, 3) := by decide +kernel
theorem md_Mod_coordinatorOf_11 : decode mb_Mod_coordinatorOf 11 = .ok (.bipush 8, 2) := by decide +kernel
theorem md_Mod_coordinatorOf_13 : decode mb_Mod_coordinatorOf 13 = .ok (.goto 5, 3) := by decide +kernel
theorem md_Mod_coordinatorOf_16 : decode mb_Mod_coordinatorOf 16 = .ok (.bipush 9, 2) := by decide +kernel
theorem md_Mod_coordinatorOf_18 : decode mb_Mod_coordinatorOf 18 = .ok (.ireturn, 1) := by decide +kernel
theorem md_Mod_isCoordinator_0 : decode mb_Mod_isCoordinator 0 = .ok (.iload_n 0, 1) := by decide +kernel
theorem md_Mod_isCoordinator_1 : decode mb_Mod_isCoordinator 1 = .ok (.bipush 8, 2) := by decide +kernel
theorem md_Mod_isCoordinator_3 : decode mb_Mod_isCoordinator 3 = .ok (.if_icmp .eq 9, 3) := by decide +kernel
theorem md_Mod_isCoordinator_6 : decode mb_Mod_isCoordinator 6 = .ok (.iload_n 0, 1) := by decide +kernel
theorem md_Mod_isCoordinator_7 : decode mb_Mod_isCoordinator 7 = .ok (.bipush 9, 2) := by decide +kernel
theorem md_Mod_isCoordinator_9 : decode mb_Mod_isCoordinator 9 = .ok (.if_icmp .ne 7, 3) := by decide +kernel
theorem md_Mod_isCoordinator_12 : decode mb_Mod_isCoordinator 12 = .ok (.iconst 1, 1) := by decide +kernel
theorem md_Mod_isCoordinator_13 : decode mb_Mod_isCoordinator 13 = .ok (.goto 4, 3) := by decide +kernel
theorem md_Mod_isCoordinator_16 : decode mb_Mod_isCoordinator 16 = .ok (.iconst 0, 1) := by decide +kernel
theorem md_Mod_isCoordinator_17 : decode mb_Mod_isCoordinator 17 = .ok (.ireturn, 1) := by decide +kernel
theorem md_Mod_isAcceptor_0 : decode mb_Mod_isAcceptor 0 = .ok (.iload_n 1, 1) := by decide +kernel
theorem md_Mod_isAcceptor_1 : decode mb_Mod_isAcceptor 1 = .ok (.ifCond .lt 15, 3) := by decide +kernel
theorem md_Mod_isAcceptor_4 : decode mb_Mod_isAcceptor 4 = .ok (.iload_n 1, 1) := by decide +kernel
theorem md_Mod_isAcceptor_5 : decode mb_Mod_isAcceptor 5 = .ok (.aload_n 0, 1) := by decide +kernel
theorem md_Mod_isAcceptor_6 : decode mb_Mod_isAcceptor 6 = .ok (.getfield 77, 3) := by decide +kernel
theorem md_Mod_isAcceptor_9 : decode mb_Mod_isAcceptor 9 = .ok (.if_icmp .ge 7, 3) := by decide +kernel
theorem md_Mod_isAcceptor_12 : decode mb_Mod_isAcceptor 12 = .ok (.iconst 1, 1) := by decide +kernel
theorem md_Mod_isAcceptor_13 : decode mb_Mod_isAcceptor 13 = .ok (.goto 4, 3) := by decide +kernel
theorem md_Mod_isAcceptor_16 : decode mb_Mod_isAcceptor 16 = .ok (.iconst 0, 1) := by decide +kernel
theorem md_Mod_isAcceptor_17 : decode mb_Mod_isAcceptor 17 = .ok (.ireturn, 1) := by decide +kernel
theorem md_Mod_isMessage_0 : decode mb_Mod_isMessage 0 = .ok (.iload_n 1, 1) := by decide +kernel
theorem md_Mod_isMessage_1 : decode mb_Mod_isMessage 1 = .ok (.ifCond .lt 15, 3) := by decide +kernel
theorem md_Mod_isMessage_4 : decode mb_Mod_isMessage 4 = .ok (.iload_n 1, 1) := by decide +kernel
theorem md_Mod_isMessage_5 : decode mb_Mod_isMessage 5 = .ok (.aload_n 0, 1) := by decide +kernel
theorem md_Mod_isMessage_6 : decode mb_Mod_isMessage 6 = .ok (.getfield 91, 3) := by decide +kernel
theorem md_Mod_isMessage_9 : decode mb_Mod_isMessage 9 = .ok (.if_icmp .ge 7, 3) := by decide +kernel
theorem md_Mod_isMessage_12 : decode mb_Mod_isMessage 12 = .ok (.iconst 1, 1) := by decide +kernel
theorem md_Mod_isMessage_13 : decode mb_Mod_isMessage 13 = .ok (.goto 4, 3) := by decide +kernel
theorem md_Mod_isMessage_16 : decode mb_Mod_isMessage 16 = .ok (.iconst 0, 1) := by decide +kernel
theorem md_Mod_isMessage_17 : decode mb_Mod_isMessage 17 = .ok (.ireturn, 1) := by decide +kernel
theorem md_Mod_enough_0 : decode mb_Mod_enough 0 = .ok (.iload_n 1, 1) := by decide +kernel
theorem md_Mod_enough_1 : decode mb_Mod_enough 1 = .ok (.invokestatic 87, 3) := by decide +kernel
theorem md_Mod_enough_4 : decode mb_Mod_enough 4 = .ok (.ifCond .eq 10, 3) := by decide +kernel
theorem md_Mod_enough_7 : decode mb_Mod_enough 7 = .ok (.aload_n 0, 1) := by decide +kernel
theorem md_Mod_enough_8 : decode mb_Mod_enough 8 = .ok (.getfield 84, 3) := by decide +kernel
theorem md_Mod_enough_11 : decode mb_Mod_enough 11 = .ok (.goto 7, 3) := by decide +kernel
theorem md_Mod_enough_14 : decode mb_Mod_enough 14 = .ok (.aload_n 0, 1) := by decide +kernel
theorem md_Mod_enough_15 : decode mb_Mod_enough 15 = .ok (.getfield 81, 3) := by decide +kernel
theorem md_Mod_enough_18 : decode mb_Mod_enough 18 = .ok (.ireturn, 1) := by decide +kernel
theorem md_Mod_send_0 : decode mb_Mod_send 0 = .ok (.aload_n 0, 1) := by decide +kernel
theorem md_Mod_send_1 : decode mb_Mod_send 1 = .ok (.getfield 91, 3) := by decide +kernel
theorem md_Mod_send_4 : decode mb_Mod_send 4 = .ok (.bipush 60, 2) := by decide +kernel
theorem md_Mod_send_6 : decode mb_Mod_send 6 = .ok (.if_icmp .ne 14, 3) := by decide +kernel
theorem md_Mod_send_9 : decode mb_Mod_send 9 = .ok (.aload_n 0, 1) := by decide +kernel
theorem md_Mod_send_10 : decode mb_Mod_send 10 = .ok (.dup, 1) := by decide +kernel
theorem md_Mod_send_11 : decode mb_Mod_send 11 = .ok (.getfield 94, 3) := by decide +kernel
theorem md_Mod_send_14 : decode mb_Mod_send 14 = .ok (.iconst 1, 1) := by decide +kernel
theorem md_Mod_send_15 : decode mb_Mod_send 15 = .ok (.iadd, 1) := by decide +kernel
theorem md_Mod_send_16 : decode mb_Mod_send 16 = .ok (.putfield 94, 3) := by decide +kernel
theorem md_Mod_send_19 : decode mb_Mod_send 19 = .ok (.return_, 1) := by decide +kernel
theorem md_Mod_send_20 : decode mb_Mod_send 20 = .ok (.aload_n 0, 1) := by decide +kernel
theorem md_Mod_send_21 : decode mb_Mod_send 21 = .ok (.getfield 13, 3) := by decide +kernel
theorem md_Mod_send_24 : decode mb_Mod_send 24 = .ok (.aload_n 0, 1) := by decide +kernel
theorem md_Mod_send_25 : decode mb_Mod_send 25 = .ok (.getfield 91, 3) := by decide +kernel
theorem md_Mod_send_28 : decode mb_Mod_send 28 = .ok (.iload_n 1, 1) := by decide +kernel
theorem md_Mod_send_29 : decode mb_Mod_send 29 = .ok (.iastore, 1) := by decide +kernel
theorem md_Mod_send_30 : decode mb_Mod_send 30 = .ok (.aload_n 0, 1) := by decide +kernel
theorem md_Mod_send_31 : decode mb_Mod_send 31 = .ok (.getfield 17, 3) := by decide +kernel
theorem md_Mod_send_34 : decode mb_Mod_send 34 = .ok (.aload_n 0, 1) := by decide +kernel
theorem md_Mod_send_35 : decode mb_Mod_send 35 = .ok (.getfield 91, 3) := by decide +kernel
theorem md_Mod_send_38 : decode mb_Mod_send 38 = .ok (.iload_n 2, 1) := by decide +kernel
theorem md_Mod_send_39 : decode mb_Mod_send 39 = .ok (.iastore, 1) := by decide +kernel
theorem md_Mod_send_40 : decode mb_Mod_send 40 = .ok (.aload_n 0, 1) := by decide +kernel
theorem md_Mod_send_41 : decode mb_Mod_send 41 = .ok (.getfield 20, 3) := by decide +kernel
theorem md_Mod_send_44 : decode mb_Mod_send 44 = .ok (.aload_n 0, 1) := by decide +kernel
theorem md_Mod_send_45 : decode mb_Mod_send 45 = .ok (.getfield 91, 3) := by decide +kernel
theorem md_Mod_send_48 : decode mb_Mod_send 48 = .ok (.iload_n 3, 1) := by decide +kernel
theorem md_Mod_send_49 : decode mb_Mod_send 49 = .ok (.iastore, 1) := by decide +kernel
theorem md_Mod_send_50 : decode mb_Mod_send 50 = .ok (.aload_n 0, 1) := by decide +kernel
theorem md_Mod_send_51 : decode mb_Mod_send 51 = .ok (.getfield 26, 3) := by decide +kernel
theorem md_Mod_send_54 : decode mb_Mod_send 54 = .ok (.aload_n 0, 1) := by decide +kernel
theorem md_Mod_send_55 : decode mb_Mod_send 55 = .ok (.getfield 91, 3) := by decide +kernel
theorem md_Mod_send_58 : decode mb_Mod_send 58 = .ok (.iload 4, 2) := by decide +kernel
theorem md_Mod_send_60 : decode mb_Mod_send 60 = .ok (.iastore, 1) := by decide +kernel
theorem md_Mod_send_61 : decode mb_Mod_send 61 = .ok (.aload_n 0, 1) := by decide +kernel
theorem md_Mod_send_62 : decode mb_Mod_send 62 = .ok (.getfield 23, 3) := by decide +kernel
theorem md_Mod_send_65 : decode mb_Mod_send 65 = .ok (.aload_n 0, 1) := by decide +kernel
theorem md_Mod_send_66 : decode mb_Mod_send 66 = .ok (.getfield 91, 3) := by decide +kernel
theorem md_Mod_send_69 : decode mb_Mod_send 69 = .ok (.iload 5, 2) := by decide +kernel
theorem md_Mod_send_71 : decode mb_Mod_send 71 = .ok (.iastore, 1) := by decide +kernel
theorem md_Mod_send_72 : decode mb_Mod_send 72 = .ok (.aload_n 0, 1) := by decide +kernel
theorem md_Mod_send_73 : decode mb_Mod_send 73 = .ok (.getfield 29, 3) := by decide +kernel
theorem md_Mod_send_76 : decode mb_Mod_send 76 = .ok (.aload_n 0, 1) := by decide +kernel
theorem md_Mod_send_77 : decode mb_Mod_send 77 = .ok (.getfield 91, 3) := by decide +kernel
theorem md_Mod_send_80 : decode mb_Mod_send 80 = .ok (.iload 6, 2) := by decide +kernel
theorem md_Mod_send_82 : decode mb_Mod_send 82 = .ok (.iastore, 1) := by decide +kernel
theorem md_Mod_send_83 : decode mb_Mod_send 83 = .ok (.aload_n 0, 1) := by decide +kernel
theorem md_Mod_send_84 : decode mb_Mod_send 84 = .ok (.getfield 32, 3) := by decide +kernel
theorem md_Mod_send_87 : decode mb_Mod_send 87 = .ok (.aload_n 0, 1) := by decide +kernel
theorem md_Mod_send_88 : decode mb_Mod_send 88 = .ok (.getfield 91, 3) := by decide +kernel
theorem md_Mod_send_91 : decode mb_Mod_send 91 = .ok (.iload 7, 2) := by decide +kernel
theorem md_Mod_send_93 : decode mb_Mod_send 93 = .ok (.iastore, 1) := by decide +kernel
theorem md_Mod_send_94 : decode mb_Mod_send 94 = .ok (.aload_n 0, 1) := by decide +kernel
theorem md_Mod_send_95 : decode mb_Mod_send 95 = .ok (.dup, 1) := by decide +kernel
theorem md_Mod_send_96 : decode mb_Mod_send 96 = .ok (.getfield 91, 3) := by decide +kernel
theorem md_Mod_send_99 : decode mb_Mod_send 99 = .ok (.iconst 1, 1) := by decide +kernel
theorem md_Mod_send_100 : decode mb_Mod_send 100 = .ok (.iadd, 1) := by decide +kernel
theorem md_Mod_send_101 : decode mb_Mod_send 101 = .ok (.putfield 91, 3) := by decide +kernel
theorem md_Mod_send_104 : decode mb_Mod_send 104 = .ok (.return_, 1) := by decide +kernel
theorem md_Mod_sendAll_0 : decode mb_Mod_sendAll 0 = .ok (.iconst 0, 1) := by decide +kernel
theorem md_Mod_sendAll_1 : decode mb_Mod_sendAll 1 = .ok (.istore 5, 2) := by decide +kernel
theorem md_Mod_sendAll_3 : decode mb_Mod_sendAll 3 = .ok (.iload 5, 2) := by decide +kernel
theorem md_Mod_sendAll_5 : decode mb_Mod_sendAll 5 = .ok (.aload_n 0, 1) := by decide +kernel
theorem md_Mod_sendAll_6 : decode mb_Mod_sendAll 6 = .ok (.getfield 77, 3) := by decide +kernel
theorem md_Mod_sendAll_9 : decode mb_Mod_sendAll 9 = .ok (.if_icmp .ge 22, 3) := by decide +kernel
theorem md_Mod_sendAll_12 : decode mb_Mod_sendAll 12 = .ok (.aload_n 0, 1) := by decide +kernel
theorem md_Mod_sendAll_13 : decode mb_Mod_sendAll 13 = .ok (.iload_n 1, 1) := by decide +kernel
theorem md_Mod_sendAll_14 : decode mb_Mod_sendAll 14 = .ok (.iload_n 2, 1) := by decide +kernel
theorem md_Mod_sendAll_15 : decode mb_Mod_sendAll 15 = .ok (.iload_n 3, 1) := by decide +kernel
theorem md_Mod_sendAll_16 : decode mb_Mod_sendAll 16 = .ok (.iconst 0, 1) := by decide +kernel
theorem md_Mod_sendAll_17 : decode mb_Mod_sendAll 17 = .ok (.iload 5, 2) := by decide +kernel
theorem md_Mod_sendAll_19 : decode mb_Mod_sendAll 19 = .ok (.iload 4, 2) := by decide +kernel
theorem md_Mod_sendAll_21 : decode mb_Mod_sendAll 21 = .ok (.iconst 0, 1) := by decide +kernel
theorem md_Mod_sendAll_22 : decode mb_Mod_sendAll 22 = .ok (.invokevirtual 97, 3) := by decide +kernel
theorem md_Mod_sendAll_25 : decode mb_Mod_sendAll 25 = .ok (.iinc 5 1, 3) := by decide +kernel
theorem md_Mod_sendAll_28 : decode mb_Mod_sendAll 28 = .ok (.goto (-25), 3) := by decide +kernel
theorem md_Mod_sendAll_31 : decode mb_Mod_sendAll 31 = .ok (.return_, 1) := by decide +kernel
theorem md_Mod_takeOut_0 : decode mb_Mod_takeOut 0 = .ok (.aload_n 0, 1) := by decide +kernel
theorem md_Mod_takeOut_1 : decode mb_Mod_takeOut 1 = .ok (.dup, 1) := by decide +kernel
theorem md_Mod_takeOut_2 : decode mb_Mod_takeOut 2 = .ok (.getfield 91, 3) := by decide +kernel
theorem md_Mod_takeOut_5 : decode mb_Mod_takeOut 5 = .ok (.iconst 1, 1) := by decide +kernel
theorem md_Mod_takeOut_6 : decode mb_Mod_takeOut 6 = .ok (.isub, 1) := by decide +kernel
theorem md_Mod_takeOut_7 : decode mb_Mod_takeOut 7 = .ok (.putfield 91, 3) := by decide +kernel
theorem md_Mod_takeOut_10 : decode mb_Mod_takeOut 10 = .ok (.iload_n 1, 1) := by decide +kernel
theorem md_Mod_takeOut_11 : decode mb_Mod_takeOut 11 = .ok (.istore_n 2, 1) := by decide +kernel
theorem md_Mod_takeOut_12 : decode mb_Mod_takeOut 12 = .ok (.iload_n 2, 1) := by decide +kernel
theorem md_Mod_takeOut_13 : decode mb_Mod_takeOut 13 = .ok (.aload_n 0, 1) := by decide +kernel
theorem md_Mod_takeOut_14 : decode mb_Mod_takeOut 14 = .ok (.getfield 91, 3) := by decide +kernel
theorem md_Mod_takeOut_17 : decode mb_Mod_takeOut 17 = .ok (.if_icmp .ge 107, 3) := by decide +kernel
theorem md_Mod_takeOut_20 : decode mb_Mod_takeOut 20 = .ok (.aload_n 0, 1) := by decide +kernel
theorem md_Mod_takeOut_21 : decode mb_Mod_takeOut 21 = .ok (.getfield 13, 3) := by decide +kernel
theorem md_Mod_takeOut_24 : decode mb_Mod_takeOut 24 = .ok (.iload_n 2, 1) := by decide +kernel
theorem md_Mod_takeOut_25 : decode mb_Mod_takeOut 25 = .ok (.aload_n 0, 1) := by decide +kernel
theorem md_Mod_takeOut_26 : decode mb_Mod_takeOut 26 = .ok (.getfield 13, 3) := by decide +kernel
theorem md_Mod_takeOut_29 : decode mb_Mod_takeOut 29 = .ok (.iload_n 2, 1) := by decide +kernel
theorem md_Mod_takeOut_30 : decode mb_Mod_takeOut 30 = .ok (.iconst 1, 1) := by decide +kernel
theorem md_Mod_takeOut_31 : decode mb_Mod_takeOut 31 = .ok (.iadd, 1) := by decide +kernel
theorem md_Mod_takeOut_32 : decode mb_Mod_takeOut 32 = .ok (.iaload, 1) := by decide +kernel
theorem md_Mod_takeOut_33 : decode mb_Mod_takeOut 33 = .ok (.iastore, 1) := by decide +kernel
theorem md_Mod_takeOut_34 : decode mb_Mod_takeOut 34 = .ok (.aload_n 0, 1) := by decide +kernel
theorem md_Mod_takeOut_35 : decode mb_Mod_takeOut 35 = .ok (.getfield 17, 3) := by decide +kernel
theorem md_Mod_takeOut_38 : decode mb_Mod_takeOut 38 = .ok (.iload_n 2, 1) := by decide +kernel
theorem md_Mod_takeOut_39 : decode mb_Mod_takeOut 39 = .ok (.aload_n 0, 1) := by decide +kernel
theorem md_Mod_takeOut_40 : decode mb_Mod_takeOut 40 = .ok (.getfield 17, 3) := by decide +kernel
theorem md_Mod_takeOut_43 : decode mb_Mod_takeOut 43 = .ok (.iload_n 2, 1) := by decide +kernel
theorem md_Mod_takeOut_44 : decode mb_Mod_takeOut 44 = .ok (.iconst 1, 1) := by decide +kernel
theorem md_Mod_takeOut_45 : decode mb_Mod_takeOut 45 = .ok (.iadd, 1) := by decide +kernel
theorem md_Mod_takeOut_46 : decode mb_Mod_takeOut 46 = .ok (.iaload, 1) := by decide +kernel
theorem md_Mod_takeOut_47 : decode mb_Mod_takeOut 47 = .ok (.iastore, 1) := by decide +kernel
theorem md_Mod_takeOut_48 : decode mb_Mod_takeOut 48 = .ok (.aload_n 0, 1) := by decide +kernel
theorem md_Mod_takeOut_49 : decode mb_Mod_takeOut 49 = .ok (.getfield 20, 3) := by decide +kernel
theorem md_Mod_takeOut_52 : decode mb_Mod_takeOut 52 = .ok (.iload_n 2, 1) := by decide +kernel
theorem md_Mod_takeOut_53 : decode mb_Mod_takeOut 53 = .ok (.aload_n 0, 1) := by decide +kernel
theorem md_Mod_takeOut_54 : decode mb_Mod_takeOut 54 = .ok (.getfield 20, 3) := by decide +kernel
theorem md_Mod_takeOut_57 : decode mb_Mod_takeOut 57 = .ok (.iload_n 2, 1) := by decide +kernel
theorem md_Mod_takeOut_58 : decode mb_Mod_takeOut 58 = .ok (.iconst 1, 1) := by decide +kernel
theorem md_Mod_takeOut_59 : decode mb_Mod_takeOut 59 = .ok (.iadd, 1) := by decide +kernel
theorem md_Mod_takeOut_60 : decode mb_Mod_takeOut 60 = .ok (.iaload, 1) := by decide +kernel
theorem md_Mod_takeOut_61 : decode mb_Mod_takeOut 61 = .ok (.iastore, 1) := by decide +kernel
theorem md_Mod_takeOut_62 : decode mb_Mod_takeOut 62 = .ok (.aload_n 0, 1) := by decide +kernel
theorem md_Mod_takeOut_63 : decode mb_Mod_takeOut 63 = .ok (.getfield 26, 3) := by decide +kernel
theorem md_Mod_takeOut_66 : decode mb_Mod_takeOut 66 = .ok (.iload_n 2, 1) := by decide +kernel
theorem md_Mod_takeOut_67 : decode mb_Mod_takeOut 67 = .ok (.aload_n 0, 1) := by decide +kernel
theorem md_Mod_takeOut_68 : decode mb_Mod_takeOut 68 = .ok (.getfield 26, 3) := by decide +kernel
theorem md_Mod_takeOut_71 : decode mb_Mod_takeOut 71 = .ok (.iload_n 2, 1) := by decide +kernel
theorem md_Mod_takeOut_72 : decode mb_Mod_takeOut 72 = .ok (.iconst 1, 1) := by decide +kernel
theorem md_Mod_takeOut_73 : decode mb_Mod_takeOut 73 = .ok (.iadd, 1) := by decide +kernel
theorem md_Mod_takeOut_74 : decode mb_Mod_takeOut 74 = .ok (.iaload, 1) := by decide +kernel
theorem md_Mod_takeOut_75 : decode mb_Mod_takeOut 75 = .ok (.iastore, 1) := by decide +kernel
theorem md_Mod_takeOut_76 : decode mb_Mod_takeOut 76 = .ok (.aload_n 0, 1) := by decide +kernel
theorem md_Mod_takeOut_77 : decode mb_Mod_takeOut 77 = .ok (.getfield 23, 3) := by decide +kernel
theorem md_Mod_takeOut_80 : decode mb_Mod_takeOut 80 = .ok (.iload_n 2, 1) := by decide +kernel
theorem md_Mod_takeOut_81 : decode mb_Mod_takeOut 81 = .ok (.aload_n 0, 1) := by decide +kernel
theorem md_Mod_takeOut_82 : decode mb_Mod_takeOut 82 = .ok (.getfield 23, 3) := by decide +kernel
theorem md_Mod_takeOut_85 : decode mb_Mod_takeOut 85 = .ok (.iload_n 2, 1) := by decide +kernel
theorem md_Mod_takeOut_86 : decode mb_Mod_takeOut 86 = .ok (.iconst 1, 1) := by decide +kernel
theorem md_Mod_takeOut_87 : decode mb_Mod_takeOut 87 = .ok (.iadd, 1) := by decide +kernel
theorem md_Mod_takeOut_88 : decode mb_Mod_takeOut 88 = .ok (.iaload, 1) := by decide +kernel
theorem md_Mod_takeOut_89 : decode mb_Mod_takeOut 89 = .ok (.iastore, 1) := by decide +kernel
theorem md_Mod_takeOut_90 : decode mb_Mod_takeOut 90 = .ok (.aload_n 0, 1) := by decide +kernel
theorem md_Mod_takeOut_91 : decode mb_Mod_takeOut 91 = .ok (.getfield 29, 3) := by decide +kernel
theorem md_Mod_takeOut_94 : decode mb_Mod_takeOut 94 = .ok (.iload_n 2, 1) := by decide +kernel
theorem md_Mod_takeOut_95 : decode mb_Mod_takeOut 95 = .ok (.aload_n 0, 1) := by decide +kernel
theorem md_Mod_takeOut_96 : decode mb_Mod_takeOut 96 = .ok (.getfield 29, 3) := by decide +kernel
theorem md_Mod_takeOut_99 : decode mb_Mod_takeOut 99 = .ok (.iload_n 2, 1) := by decide +kernel
theorem md_Mod_takeOut_100 : decode mb_Mod_takeOut 100 = .ok (.iconst 1, 1) := by decide +kernel
theorem md_Mod_takeOut_101 : decode mb_Mod_takeOut 101 = .ok (.iadd, 1) := by decide +kernel
theorem md_Mod_takeOut_102 : decode mb_Mod_takeOut 102 = .ok (.iaload, 1) := by decide +kernel
theorem md_Mod_takeOut_103 : decode mb_Mod_takeOut 103 = .ok (.iastore, 1) := by decide +kernel
theorem md_Mod_takeOut_104 : decode mb_Mod_takeOut 104 = .ok (.aload_n 0, 1) := by decide +kernel
theorem md_Mod_takeOut_105 : decode mb_Mod_takeOut 105 = .ok (.getfield 32, 3) := by decide +kernel
theorem md_Mod_takeOut_108 : decode mb_Mod_takeOut 108 = .ok (.iload_n 2, 1) := by decide +kernel
theorem md_Mod_takeOut_109 : decode mb_Mod_takeOut 109 = .ok (.aload_n 0, 1) := by decide +kernel
theorem md_Mod_takeOut_110 : decode mb_Mod_takeOut 110 = .ok (.getfield 32, 3) := by decide +kernel
theorem md_Mod_takeOut_113 : decode mb_Mod_takeOut 113 = .ok (.iload_n 2, 1) := by decide +kernel
theorem md_Mod_takeOut_114 : decode mb_Mod_takeOut 114 = .ok (.iconst 1, 1) := by decide +kernel
theorem md_Mod_takeOut_115 : decode mb_Mod_takeOut 115 = .ok (.iadd, 1) := by decide +kernel
theorem md_Mod_takeOut_116 : decode mb_Mod_takeOut 116 = .ok (.iaload, 1) := by decide +kernel
theorem md_Mod_takeOut_117 : decode mb_Mod_takeOut 117 = .ok (.iastore, 1) := by decide +kernel
theorem md_Mod_takeOut_118 : decode mb_Mod_takeOut 118 = .ok (.iinc 2 1, 3) := by decide +kernel
theorem md_Mod_takeOut_121 : decode mb_Mod_takeOut 121 = .ok (.goto (-109), 3) := by decide +kernel
theorem md_Mod_takeOut_124 : decode mb_Mod_takeOut 124 = .ok (.return_, 1) := by decide +kernel
theorem md_Mod_lead_0 : decode mb_Mod_lead 0 = .ok (.aload_n 0, 1) := by decide +kernel
theorem md_Mod_lead_1 : decode mb_Mod_lead 1 = .ok (.getfield 59, 3) := by decide +kernel
theorem md_Mod_lead_4 : decode mb_Mod_lead 4 = .ok (.iload_n 1, 1) := by decide +kernel
theorem md_Mod_lead_5 : decode mb_Mod_lead 5 = .ok (.iload_n 2, 1) := by decide +kernel
theorem md_Mod_lead_6 : decode mb_Mod_lead 6 = .ok (.iastore, 1) := by decide +kernel
theorem md_Mod_lead_7 : decode mb_Mod_lead 7 = .ok (.aload_n 0, 1) := by decide +kernel
theorem md_Mod_lead_8 : decode mb_Mod_lead 8 = .ok (.getfield 62, 3) := by decide +kernel
theorem md_Mod_lead_11 : decode mb_Mod_lead 11 = .ok (.iload_n 1, 1) := by decide +kernel
theorem md_Mod_lead_12 : decode mb_Mod_lead 12 = .ok (.iload_n 3, 1) := by decide +kernel
theorem md_Mod_lead_13 : decode mb_Mod_lead 13 = .ok (.iastore, 1) := by decide +kernel
theorem md_Mod_lead_14 : decode mb_Mod_lead 14 = .ok (.iconst 0, 1) := by decide +kernel
theorem md_Mod_lead_15 : decode mb_Mod_lead 15 = .ok (.istore 4, 2) := by decide +kernel
theorem md_Mod_lead_17 : decode mb_Mod_lead 17 = .ok (.iload 4, 2) := by decide +kernel
theorem md_Mod_lead_19 : decode mb_Mod_lead 19 = .ok (.iconst 5, 1) := by decide +kernel
theorem md_Mod_lead_20 : decode mb_Mod_lead 20 = .ok (.if_icmp .ge 21, 3) := by decide +kernel
theorem md_Mod_lead_23 : decode mb_Mod_lead 23 = .ok (.aload_n 0, 1) := by decide +kernel
theorem md_Mod_lead_24 : decode mb_Mod_lead 24 = .ok (.getfield 68, 3) := by decide +kernel
theorem md_Mod_lead_27 : decode mb_Mod_lead 27 = .ok (.iconst 5, 1) := by decide +kernel
theorem md_Mod_lead_28 : decode mb_Mod_lead 28 = .ok (.iload_n 1, 1) := by decide +kernel
theorem md_Mod_lead_29 : decode mb_Mod_lead 29 = .ok (.imul, 1) := by decide +kernel
theorem md_Mod_lead_30 : decode mb_Mod_lead 30 = .ok (.iload 4, 2) := by decide +kernel
theorem md_Mod_lead_32 : decode mb_Mod_lead 32 = .ok (.iadd, 1) := by decide +kernel
theorem md_Mod_lead_33 : decode mb_Mod_lead 33 = .ok (.iconst 0, 1) := by decide +kernel
theorem md_Mod_lead_34 : decode mb_Mod_lead 34 = .ok (.bastore, 1) := by decide +kernel
theorem md_Mod_lead_35 : decode mb_Mod_lead 35 = .ok (.iinc 4 1, 3) := by decide +kernel
theorem md_Mod_lead_38 : decode mb_Mod_lead 38 = .ok (.goto (-21), 3) := by decide +kernel
theorem md_Mod_lead_41 : decode mb_Mod_lead 41 = .ok (.return_, 1) := by decide +kernel
theorem md_Mod_tellers_0 : decode mb_Mod_tellers 0 = .ok (.iconst 0, 1) := by decide +kernel
theorem md_Mod_tellers_1 : decode mb_Mod_tellers 1 = .ok (.istore_n 2, 1) := by decide +kernel
theorem md_Mod_tellers_2 : decode mb_Mod_tellers 2 = .ok (.iconst 0, 1) := by decide +kernel
theorem md_Mod_tellers_3 : decode mb_Mod_tellers 3 = .ok (.istore_n 3, 1) := by decide +kernel
theorem md_Mod_tellers_4 : decode mb_Mod_tellers 4 = .ok (.iload_n 3, 1) := by decide +kernel
theorem md_Mod_tellers_5 : decode mb_Mod_tellers 5 = .ok (.aload_n 0, 1) := by decide +kernel
theorem md_Mod_tellers_6 : decode mb_Mod_tellers 6 = .ok (.getfield 77, 3) := by decide +kernel
theorem md_Mod_tellers_9 : decode mb_Mod_tellers 9 = .ok (.if_icmp .ge 30, 3) := by decide +kernel
theorem md_Mod_tellers_12 : decode mb_Mod_tellers 12 = .ok (.iload_n 2, 1) := by decide +kernel
theorem md_Mod_tellers_13 : decode mb_Mod_tellers 13 = .ok (.aload_n 0, 1) := by decide +kernel
theorem md_Mod_tellers_14 : decode mb_Mod_tellers 14 = .ok (.getfield 68, 3) := by decide +kernel
theorem md_Mod_tellers_17 : decode mb_Mod_tellers 17 = .ok (.iconst 5, 1) := by decide +kernel
theorem md_Mod_tellers_18 : decode mb_Mod_tellers 18 = .ok (.iload_n 1, 1) := by decide +kernel
theorem md_Mod_tellers_19 : decode mb_Mod_tellers 19 = .ok (.imul, 1) := by decide +kernel
theorem md_Mod_tellers_20 : decode mb_Mod_tellers 20 = .ok (.iload_n 3, 1) := by decide +kernel
theorem md_Mod_tellers_21 : decode mb_Mod_tellers 21 = .ok (.iadd, 1) := by decide +kernel
theorem md_Mod_tellers_22 : decode mb_Mod_tellers 22 = .ok (.baload, 1) := by decide +kernel
theorem md_Mod_tellers_23 : decode mb_Mod_tellers 23 = .ok (.ifCond .eq 7, 3) := by decide +kernel
theorem md_Mod_tellers_26 : decode mb_Mod_tellers 26 = .ok (.iconst 1, 1) := by decide +kernel
theorem md_Mod_tellers_27 : decode mb_Mod_tellers 27 = .ok (.goto 4, 3) := by decide +kernel
theorem md_Mod_tellers_30 : decode mb_Mod_tellers 30 = .ok (.iconst 0, 1) := by decide +kernel
theorem md_Mod_tellers_31 : decode mb_Mod_tellers 31 = .ok (.iadd, 1) := by decide +kernel
theorem md_Mod_tellers_32 : decode mb_Mod_tellers 32 = .ok (.istore_n 2, 1) := by decide +kernel
theorem md_Mod_tellers_33 : decode mb_Mod_tellers 33 = .ok (.iinc 3 1, 3) := by decide +kernel
theorem md_Mod_tellers_36 : decode mb_Mod_tellers 36 = .ok (.goto (-32), 3) := by decide +kernel
theorem md_Mod_tellers_39 : decode mb_Mod_tellers 39 = .ok (.iload_n 2, 1) := by decide +kernel
theorem md_Mod_tellers_40 : decode mb_Mod_tellers 40 = .ok (.ireturn, 1) := by decide +kernel
theorem md_Mod_toldFor_0 : decode mb_Mod_toldFor 0 = .ok (.iconst 0, 1) := by decide +kernel
theorem md_Mod_toldFor_1 : decode mb_Mod_toldFor 1 = .ok (.istore 4, 2) := by decide +kernel
theorem md_Mod_toldFor_3 : decode mb_Mod_toldFor 3 = .ok (.iconst 0, 1) := by decide +kernel
theorem md_Mod_toldFor_4 : decode mb_Mod_toldFor 4 = .ok (.istore 5, 2) := by decide +kernel
theorem md_Mod_toldFor_6 : decode mb_Mod_toldFor 6 = .ok (.iload 5, 2) := by decide +kernel
theorem md_Mod_toldFor_8 : decode mb_Mod_toldFor 8 = .ok (.aload_n 0, 1) := by decide +kernel
theorem md_Mod_toldFor_9 : decode mb_Mod_toldFor 9 = .ok (.getfield 77, 3) := by decide +kernel
theorem md_Mod_toldFor_12 : decode mb_Mod_toldFor 12 = .ok (.if_icmp .ge 63, 3) := by decide +kernel
theorem md_Mod_toldFor_15 : decode mb_Mod_toldFor 15 = .ok (.iload 4, 2) := by decide +kernel
theorem md_Mod_toldFor_17 : decode mb_Mod_toldFor 17 = .ok (.aload_n 0, 1) := by decide +kernel
theorem md_Mod_toldFor_18 : decode mb_Mod_toldFor 18 = .ok (.getfield 68, 3) := by decide +kernel
theorem md_Mod_toldFor_21 : decode mb_Mod_toldFor 21 = .ok (.iconst 5, 1) := by decide +kernel
theorem md_Mod_toldFor_22 : decode mb_Mod_toldFor 22 = .ok (.iload_n 1, 1) := by decide +kernel
theorem md_Mod_toldFor_23 : decode mb_Mod_toldFor 23 = .ok (.imul, 1) := by decide +kernel
theorem md_Mod_toldFor_24 : decode mb_Mod_toldFor 24 = .ok (.iload 5, 2) := by decide +kernel
theorem md_Mod_toldFor_26 : decode mb_Mod_toldFor 26 = .ok (.iadd, 1) := by decide +kernel
theorem md_Mod_toldFor_27 : decode mb_Mod_toldFor 27 = .ok (.baload, 1) := by decide +kernel
theorem md_Mod_toldFor_28 : decode mb_Mod_toldFor 28 = .ok (.ifCond .eq 37, 3) := by decide +kernel
theorem md_Mod_toldFor_31 : decode mb_Mod_toldFor 31 = .ok (.aload_n 0, 1) := by decide +kernel
theorem md_Mod_toldFor_32 : decode mb_Mod_toldFor 32 = .ok (.getfield 74, 3) := by decide +kernel
theorem md_Mod_toldFor_35 : decode mb_Mod_toldFor 35 = .ok (.iconst 5, 1) := by decide +kernel
theorem md_Mod_toldFor_36 : decode mb_Mod_toldFor 36 = .ok (.iload_n 1, 1) := by decide +kernel
theorem md_Mod_toldFor_37 : decode mb_Mod_toldFor 37 = .ok (.imul, 1) := by decide +kernel
theorem md_Mod_toldFor_38 : decode mb_Mod_toldFor 38 = .ok (.iload 5, 2) := by decide +kernel
theorem md_Mod_toldFor_40 : decode mb_Mod_toldFor 40 = .ok (.iadd, 1) := by decide +kernel
theorem md_Mod_toldFor_41 : decode mb_Mod_toldFor 41 = .ok (.iaload, 1) := by decide +kernel
theorem md_Mod_toldFor_42 : decode mb_Mod_toldFor 42 = .ok (.iload_n 2, 1) := by decide +kernel
theorem md_Mod_toldFor_43 : decode mb_Mod_toldFor 43 = .ok (.if_icmp .ne 22, 3) := by decide +kernel
theorem md_Mod_toldFor_46 : decode mb_Mod_toldFor 46 = .ok (.aload_n 0, 1) := by decide +kernel
theorem md_Mod_toldFor_47 : decode mb_Mod_toldFor 47 = .ok (.getfield 71, 3) := by decide +kernel
theorem md_Mod_toldFor_50 : decode mb_Mod_toldFor 50 = .ok (.iconst 5, 1) := by decide +kernel
theorem md_Mod_toldFor_51 : decode mb_Mod_toldFor 51 = .ok (.iload_n 1, 1) := by decide +kernel
theorem md_Mod_toldFor_52 : decode mb_Mod_toldFor 52 = .ok (.imul, 1) := by decide +kernel
theorem md_Mod_toldFor_53 : decode mb_Mod_toldFor 53 = .ok (.iload 5, 2) := by decide +kernel
theorem md_Mod_toldFor_55 : decode mb_Mod_toldFor 55 = .ok (.iadd, 1) := by decide +kernel
theorem md_Mod_toldFor_56 : decode mb_Mod_toldFor 56 = .ok (.iaload, 1) := by decide +kernel
theorem md_Mod_toldFor_57 : decode mb_Mod_toldFor 57 = .ok (.iload_n 3, 1) := by decide +kernel
theorem md_Mod_toldFor_58 : decode mb_Mod_toldFor 58 = .ok (.if_icmp .ne 7, 3) := by decide +kernel
theorem md_Mod_toldFor_61 : decode mb_Mod_toldFor 61 = .ok (.iconst 1, 1) := by decide +kernel
theorem md_Mod_toldFor_62 : decode mb_Mod_toldFor 62 = .ok (.goto 4, 3) := by decide +kernel
theorem md_Mod_toldFor_65 : decode mb_Mod_toldFor 65 = .ok (.iconst 0, 1) := by decide +kernel
theorem md_Mod_toldFor_66 : decode mb_Mod_toldFor 66 = .ok (.iadd, 1) := by decide +kernel
theorem md_Mod_toldFor_67 : decode mb_Mod_toldFor 67 = .ok (.istore 4, 2) := by decide +kernel
theorem md_Mod_toldFor_69 : decode mb_Mod_toldFor 69 = .ok (.iinc 5 1, 3) := by decide +kernel
theorem md_Mod_toldFor_72 : decode mb_Mod_toldFor 72 = .ok (.goto (-66), 3) := by decide +kernel
theorem md_Mod_toldFor_75 : decode mb_Mod_toldFor 75 = .ok (.iload 4, 2) := by decide +kernel
theorem md_Mod_toldFor_77 : decode mb_Mod_toldFor 77 = .ok (.ireturn, 1) := by decide +kernel
theorem md_Mod_tell_0 : decode mb_Mod_tell 0 = .ok (.aload_n 0, 1) := by decide +kernel
theorem md_Mod_tell_1 : decode mb_Mod_tell 1 = .ok (.getfield 68, 3) := by decide +kernel
theorem md_Mod_tell_4 : decode mb_Mod_tell 4 = .ok (.iconst 5, 1) := by decide +kernel
theorem md_Mod_tell_5 : decode mb_Mod_tell 5 = .ok (.iload_n 1, 1) := by decide +kernel
theorem md_Mod_tell_6 : decode mb_Mod_tell 6 = .ok (.imul, 1) := by decide +kernel
theorem md_Mod_tell_7 : decode mb_Mod_tell 7 = .ok (.iload_n 2, 1) := by decide +kernel
theorem md_Mod_tell_8 : decode mb_Mod_tell 8 = .ok (.iadd, 1) := by decide +kernel
theorem md_Mod_tell_9 : decode mb_Mod_tell 9 = .ok (.iconst 1, 1) := by decide +kernel
theorem md_Mod_tell_10 : decode mb_Mod_tell 10 = .ok (.bastore, 1) := by decide +kernel
theorem md_Mod_tell_11 : decode mb_Mod_tell 11 = .ok (.aload_n 0, 1) := by decide +kernel
theorem md_Mod_tell_12 : decode mb_Mod_tell 12 = .ok (.getfield 71, 3) := by decide +kernel
theorem md_Mod_tell_15 : decode mb_Mod_tell 15 = .ok (.iconst 5, 1) := by decide +kernel
theorem md_Mod_tell_16 : decode mb_Mod_tell 16 = .ok (.iload_n 1, 1) := by decide +kernel
theorem md_Mod_tell_17 : decode mb_Mod_tell 17 = .ok (.imul, 1) := by decide +kernel
theorem md_Mod_tell_18 : decode mb_Mod_tell 18 = .ok (.iload_n 2, 1) := by decide +kernel
theorem md_Mod_tell_19 : decode mb_Mod_tell 19 = .ok (.iadd, 1) := by decide +kernel
theorem md_Mod_tell_20 : decode mb_Mod_tell 20 = .ok (.iload_n 3, 1) := by decide +kernel
theorem md_Mod_tell_21 : decode mb_Mod_tell 21 = .ok (.iastore, 1) := by decide +kernel
theorem md_Mod_tell_22 : decode mb_Mod_tell 22 = .ok (.aload_n 0, 1) := by decide +kernel
theorem md_Mod_tell_23 : decode mb_Mod_tell 23 = .ok (.getfield 74, 3) := by decide +kernel
theorem md_Mod_tell_26 : decode mb_Mod_tell 26 = .ok (.iconst 5, 1) := by decide +kernel
theorem md_Mod_tell_27 : decode mb_Mod_tell 27 = .ok (.iload_n 1, 1) := by decide +kernel
theorem md_Mod_tell_28 : decode mb_Mod_tell 28 = .ok (.imul, 1) := by decide +kernel
theorem md_Mod_tell_29 : decode mb_Mod_tell 29 = .ok (.iload_n 2, 1) := by decide +kernel
theorem md_Mod_tell_30 : decode mb_Mod_tell 30 = .ok (.iadd, 1) := by decide +kernel
theorem md_Mod_tell_31 : decode mb_Mod_tell 31 = .ok (.iload 4, 2) := by decide +kernel
theorem md_Mod_tell_33 : decode mb_Mod_tell 33 = .ok (.iastore, 1) := by decide +kernel
theorem md_Mod_tell_34 : decode mb_Mod_tell 34 = .ok (.return_, 1) := by decide +kernel
theorem md_Mod_leastTold_0 : decode mb_Mod_leastTold 0 = .ok (.iconst 0, 1) := by decide +kernel
theorem md_Mod_leastTold_1 : decode mb_Mod_leastTold 1 = .ok (.istore_n 3, 1) := by decide +kernel
theorem md_Mod_leastTold_2 : decode mb_Mod_leastTold 2 = .ok (.sipush 1000, 3) := by decide +kernel
theorem md_Mod_leastTold_5 : decode mb_Mod_leastTold 5 = .ok (.istore 4, 2) := by decide +kernel
theorem md_Mod_leastTold_7 : decode mb_Mod_leastTold 7 = .ok (.iload 4, 2) := by decide +kernel
theorem md_Mod_leastTold_9 : decode mb_Mod_leastTold 9 = .ok (.iconst 1, 1) := by decide +kernel
theorem md_Mod_leastTold_10 : decode mb_Mod_leastTold 10 = .ok (.if_icmp .lt 27, 3) := by decide +kernel
theorem md_Mod_leastTold_13 : decode mb_Mod_leastTold 13 = .ok (.aload_n 0, 1) := by decide +kernel
theorem md_Mod_leastTold_14 : decode mb_Mod_leastTold 14 = .ok (.iload_n 1, 1) := by decide +kernel
theorem md_Mod_leastTold_15 : decode mb_Mod_leastTold 15 = .ok (.iload_n 2, 1) := by decide +kernel
theorem md_Mod_leastTold_16 : decode mb_Mod_leastTold 16 = .ok (.iload 4, 2) := by decide +kernel
theorem md_Mod_leastTold_18 : decode mb_Mod_leastTold 18 = .ok (.invokevirtual 145, 3) := by decide +kernel
theorem md_Mod_leastTold_21 : decode mb_Mod_leastTold 21 = .ok (.ifCond .le 8, 3) := by decide +kernel
theorem md_Mod_leastTold_24 : decode mb_Mod_leastTold 24 = .ok (.iload 4, 2) := by decide +kernel
theorem md_Mod_leastTold_26 : decode mb_Mod_leastTold 26 = .ok (.goto 4, 3) := by decide +kernel
theorem md_Mod_leastTold_29 : decode mb_Mod_leastTold 29 = .ok (.iload_n 3, 1) := by decide +kernel
theorem md_Mod_leastTold_30 : decode mb_Mod_leastTold 30 = .ok (.istore_n 3, 1) := by decide +kernel
theorem md_Mod_leastTold_31 : decode mb_Mod_leastTold 31 = .ok (.iinc 4 (-1), 3) := by decide +kernel
theorem md_Mod_leastTold_34 : decode mb_Mod_leastTold 34 = .ok (.goto (-27), 3) := by decide +kernel
theorem md_Mod_leastTold_37 : decode mb_Mod_leastTold 37 = .ok (.iload_n 3, 1) := by decide +kernel
theorem md_Mod_leastTold_38 : decode mb_Mod_leastTold 38 = .ok (.ireturn, 1) := by decide +kernel
theorem md_Mod_voteFor_0 : decode mb_Mod_voteFor 0 = .ok (.aload_n 0, 1) := by decide +kernel
theorem md_Mod_voteFor_1 : decode mb_Mod_voteFor 1 = .ok (.getfield 62, 3) := by decide +kernel
theorem md_Mod_voteFor_4 : decode mb_Mod_voteFor 4 = .ok (.iload_n 1, 1) := by decide +kernel
theorem md_Mod_voteFor_5 : decode mb_Mod_voteFor 5 = .ok (.iconst 3, 1) := by decide +kernel
theorem md_Mod_voteFor_6 : decode mb_Mod_voteFor 6 = .ok (.iastore, 1) := by decide +kernel
theorem md_Mod_voteFor_7 : decode mb_Mod_voteFor 7 = .ok (.aload_n 0, 1) := by decide +kernel
theorem md_Mod_voteFor_8 : decode mb_Mod_voteFor 8 = .ok (.iconst 4, 1) := by decide +kernel
theorem md_Mod_voteFor_9 : decode mb_Mod_voteFor 9 = .ok (.iload_n 2, 1) := by decide +kernel
theorem md_Mod_voteFor_10 : decode mb_Mod_voteFor 10 = .ok (.aload_n 0, 1) := by decide +kernel
theorem md_Mod_voteFor_11 : decode mb_Mod_voteFor 11 = .ok (.getfield 59, 3) := by decide +kernel
theorem md_Mod_voteFor_14 : decode mb_Mod_voteFor 14 = .ok (.iload_n 1, 1) := by decide +kernel
theorem md_Mod_voteFor_15 : decode mb_Mod_voteFor 15 = .ok (.iaload, 1) := by decide +kernel
theorem md_Mod_voteFor_16 : decode mb_Mod_voteFor 16 = .ok (.iload_n 3, 1) := by decide +kernel
theorem md_Mod_voteFor_17 : decode mb_Mod_voteFor 17 = .ok (.invokevirtual 107, 3) := by decide +kernel
theorem md_Mod_voteFor_20 : decode mb_Mod_voteFor 20 = .ok (.return_, 1) := by decide +kernel
theorem md_Mod_inRow_0 : decode mb_Mod_inRow 0 = .ok (.iconst 0, 1) := by decide +kernel
theorem md_Mod_inRow_1 : decode mb_Mod_inRow 1 = .ok (.istore 4, 2) := by decide +kernel
theorem md_Mod_inRow_3 : decode mb_Mod_inRow 3 = .ok (.iconst 0, 1) := by decide +kernel
theorem md_Mod_inRow_4 : decode mb_Mod_inRow 4 = .ok (.istore 5, 2) := by decide +kernel
theorem md_Mod_inRow_6 : decode mb_Mod_inRow 6 = .ok (.iload 5, 2) := by decide +kernel
theorem md_Mod_inRow_8 : decode mb_Mod_inRow 8 = .ok (.iconst 5, 1) := by decide +kernel
theorem md_Mod_inRow_9 : decode mb_Mod_inRow 9 = .ok (.if_icmp .ge 36, 3) := by decide +kernel
theorem md_Mod_inRow_12 : decode mb_Mod_inRow 12 = .ok (.iload 4, 2) := by decide +kernel
theorem md_Mod_inRow_14 : decode mb_Mod_inRow 14 = .ok (.aload_n 0, 1) := by decide +kernel
theorem md_Mod_inRow_15 : decode mb_Mod_inRow 15 = .ok (.bipush 65, 2) := by decide +kernel
theorem md_Mod_inRow_17 : decode mb_Mod_inRow 17 = .ok (.iload_n 1, 1) := by decide +kernel
theorem md_Mod_inRow_18 : decode mb_Mod_inRow 18 = .ok (.imul, 1) := by decide +kernel
theorem md_Mod_inRow_19 : decode mb_Mod_inRow 19 = .ok (.iconst 5, 1) := by decide +kernel
theorem md_Mod_inRow_20 : decode mb_Mod_inRow 20 = .ok (.iload_n 2, 1) := by decide +kernel
theorem md_Mod_inRow_21 : decode mb_Mod_inRow 21 = .ok (.imul, 1) := by decide +kernel
theorem md_Mod_inRow_22 : decode mb_Mod_inRow 22 = .ok (.iadd, 1) := by decide +kernel
theorem md_Mod_inRow_23 : decode mb_Mod_inRow 23 = .ok (.iload 5, 2) := by decide +kernel
theorem md_Mod_inRow_25 : decode mb_Mod_inRow 25 = .ok (.iadd, 1) := by decide +kernel
theorem md_Mod_inRow_26 : decode mb_Mod_inRow 26 = .ok (.iaload, 1) := by decide +kernel
theorem md_Mod_inRow_27 : decode mb_Mod_inRow 27 = .ok (.iload_n 3, 1) := by decide +kernel
theorem md_Mod_inRow_28 : decode mb_Mod_inRow 28 = .ok (.if_icmp .ne 7, 3) := by decide +kernel
theorem md_Mod_inRow_31 : decode mb_Mod_inRow 31 = .ok (.iconst 1, 1) := by decide +kernel
theorem md_Mod_inRow_32 : decode mb_Mod_inRow 32 = .ok (.goto 4, 3) := by decide +kernel
theorem md_Mod_inRow_35 : decode mb_Mod_inRow 35 = .ok (.iconst 0, 1) := by decide +kernel
theorem md_Mod_inRow_36 : decode mb_Mod_inRow 36 = .ok (.iadd, 1) := by decide +kernel
theorem md_Mod_inRow_37 : decode mb_Mod_inRow 37 = .ok (.istore 4, 2) := by decide +kernel
theorem md_Mod_inRow_39 : decode mb_Mod_inRow 39 = .ok (.iinc 5 1, 3) := by decide +kernel
theorem md_Mod_inRow_42 : decode mb_Mod_inRow 42 = .ok (.goto (-36), 3) := by decide +kernel
theorem md_Mod_inRow_45 : decode mb_Mod_inRow 45 = .ok (.iload 4, 2) := by decide +kernel
theorem md_Mod_inRow_47 : decode mb_Mod_inRow 47 = .ok (.ireturn, 1) := by decide +kernel
set_option maxHeartbeats 4000000 in
theorem r_isSlot1 (l : Launch) (D : va_G) (ad : Nat × Nat → Nat) (cI cZ : ClassId) {M : fr_M} {j : Nat} (hj : j < 3) : gm_C l D ad cI cZ my_Mod_isSlot mb_Mod_isSlot 1 (some .boolean) 0 0 M [.int (nI (j))] (some (.int (nI 1))) (fun M' => M' = M) := by
  refine xw_start [.int (nI (j))] (by decide) (Nat.le_of_ble_eq_true rfl) ?_
  intro p e st m below meth cd0 ls Z hml hr hlk hN hl hw
  have hl : lv_has ls 1 [(0, .int (nI (j)))] := hl
  refine lv_iload_n Z.1 Z.2.1 md_Mod_isSlot_0 rfl (lv_at hl 0 rfl) ?_
  refine lv_if_lt (tgt := 13) Z.1 Z.2.1 md_Mod_isSlot_1 (by decide) (fun h1 => by exfalso; exact nI_pos (by omega) h1) (fun h1 => ?_)
  refine lv_iload_n Z.1 Z.2.1 md_Mod_isSlot_4 rfl (lv_at hl 0 rfl) ?_
  refine lv_iconst (v := nI 3) Z.1 Z.2.1 md_Mod_isSlot_5 (by decide) ?_
  refine xi_icmp_ge (tgt := 13) Z md_Mod_isSlot_6 (by decide) (by omega) (by omega) (fun h6 => by exfalso; omega) (fun h6 => ?_)
  refine lv_iconst (v := nI 1) Z.1 Z.2.1 md_Mod_isSlot_9 (by decide) ?_
  refine lv_goto (tgt := 14) Z.1 Z.2.1 md_Mod_isSlot_10 (by decide) ?_
  exact xw_zret Z hr hlk hw md_Mod_isSlot_14 rfl rfl rfl
set_option maxHeartbeats 4000000 in
theorem r_isSlot0 (l : Launch) (D : va_G) (ad : Nat × Nat → Nat) (cI cZ : ClassId) {M : fr_M} {x : Int32} (hx : x < 0 ∨ nI 3 ≤ x) : gm_C l D ad cI cZ my_Mod_isSlot mb_Mod_isSlot 1 (some .boolean) 0 0 M [.int (x)] (some (.int (nI 0))) (fun M' => M' = M) := by
  refine xw_start [.int (x)] (by decide) (Nat.le_of_ble_eq_true rfl) ?_
  intro p e st m below meth cd0 ls Z hml hr hlk hN hl hw
  have hl : lv_has ls 1 [(0, .int (x))] := hl
  refine lv_iload_n Z.1 Z.2.1 md_Mod_isSlot_0 rfl (lv_at hl 0 rfl) ?_
  refine lv_if_lt (tgt := 13) Z.1 Z.2.1 md_Mod_isSlot_1 (by decide) (fun h1 => ?_) (fun h1 => ?_)
  · refine lv_iconst (v := nI 0) Z.1 Z.2.1 md_Mod_isSlot_13 (by decide) ?_
    exact xw_zret Z hr hlk hw md_Mod_isSlot_14 rfl rfl rfl
  · refine lv_iload_n Z.1 Z.2.1 md_Mod_isSlot_4 rfl (lv_at hl 0 rfl) ?_
    refine lv_iconst (v := nI 3) Z.1 Z.2.1 md_Mod_isSlot_5 (by decide) ?_
    refine lv_icmp_ge (tgt := 13) Z.1 Z.2.1 md_Mod_isSlot_6 (by decide) (fun h6 => ?_) (fun h6 => by exfalso; exact hx.elim h1 h6)
    refine lv_iconst (v := nI 0) Z.1 Z.2.1 md_Mod_isSlot_13 (by decide) ?_
    exact xw_zret Z hr hlk hw md_Mod_isSlot_14 rfl rfl rfl
set_option maxHeartbeats 4000000 in
theorem r_isRound1 (l : Launch) (D : va_G) (ad : Nat × Nat → Nat) (cI cZ : ClassId) {M : fr_M} {j : Nat} (hj : 1 ≤ j) (hj2 : j ≤ 12) : gm_C l D ad cI cZ my_Mod_isRound mb_Mod_isRound 1 (some .boolean) 0 0 M [.int (nI (j))] (some (.int (nI 1))) (fun M' => M' = M) := by
  refine xw_start [.int (nI (j))] (by decide) (Nat.le_of_ble_eq_true rfl) ?_
  intro p e st m below meth cd0 ls Z hml hr hlk hN hl hw
  have hl : lv_has ls 1 [(0, .int (nI (j)))] := hl
  refine lv_iload_n Z.1 Z.2.1 md_Mod_isRound_0 rfl (lv_at hl 0 rfl) ?_
  refine lv_iconst (v := nI 1) Z.1 Z.2.1 md_Mod_isRound_1 (by decide) ?_
  refine xi_icmp_lt (tgt := 15) Z md_Mod_isRound_2 (by decide) (by omega) (by omega) (fun h2 => by exfalso; omega) (fun h2 => ?_)
  refine lv_iload_n Z.1 Z.2.1 md_Mod_isRound_5 rfl (lv_at hl 0 rfl) ?_
  refine lv_bipush (v := nI 12) Z.1 Z.2.1 md_Mod_isRound_6 (by decide) ?_
  refine xi_icmp_gt (tgt := 15) Z md_Mod_isRound_8 (by decide) (by omega) (by omega) (fun h8 => by exfalso; omega) (fun h8 => ?_)
  refine lv_iconst (v := nI 1) Z.1 Z.2.1 md_Mod_isRound_11 (by decide) ?_
  refine lv_goto (tgt := 16) Z.1 Z.2.1 md_Mod_isRound_12 (by decide) ?_
  exact xw_zret Z hr hlk hw md_Mod_isRound_16 rfl rfl rfl
set_option maxHeartbeats 4000000 in
theorem r_isRound0 (l : Launch) (D : va_G) (ad : Nat × Nat → Nat) (cI cZ : ClassId) {M : fr_M} {x : Int32} (hx : x < nI 1 ∨ nI 12 < x) : gm_C l D ad cI cZ my_Mod_isRound mb_Mod_isRound 1 (some .boolean) 0 0 M [.int (x)] (some (.int (nI 0))) (fun M' => M' = M) := by
  refine xw_start [.int (x)] (by decide) (Nat.le_of_ble_eq_true rfl) ?_
  intro p e st m below meth cd0 ls Z hml hr hlk hN hl hw
  have hl : lv_has ls 1 [(0, .int (x))] := hl
  refine lv_iload_n Z.1 Z.2.1 md_Mod_isRound_0 rfl (lv_at hl 0 rfl) ?_
  refine lv_iconst (v := nI 1) Z.1 Z.2.1 md_Mod_isRound_1 (by decide) ?_
  refine lv_icmp_lt (tgt := 15) Z.1 Z.2.1 md_Mod_isRound_2 (by decide) (fun h2 => ?_) (fun h2 => ?_)
  · refine lv_iconst (v := nI 0) Z.1 Z.2.1 md_Mod_isRound_15 (by decide) ?_
    exact xw_zret Z hr hlk hw md_Mod_isRound_16 rfl rfl rfl
  · refine lv_iload_n Z.1 Z.2.1 md_Mod_isRound_5 rfl (lv_at hl 0 rfl) ?_
    refine lv_bipush (v := nI 12) Z.1 Z.2.1 md_Mod_isRound_6 (by decide) ?_
    refine lv_icmp_gt (tgt := 15) Z.1 Z.2.1 md_Mod_isRound_8 (by decide) (fun h8 => ?_) (fun h8 => by exfalso; exact hx.elim h2 h8)
    refine lv_iconst (v := nI 0) Z.1 Z.2.1 md_Mod_isRound_15 (by decide) ?_
    exact xw_zret Z hr hlk hw md_Mod_isRound_16 rfl rfl rfl
set_option maxHeartbeats 4000000 in
theorem r_isValue1 (l : Launch) (D : va_G) (ad : Nat × Nat → Nat) (cI cZ : ClassId) {M : fr_M} {j : Nat} (hj : 1 ≤ j) (hj2 : j ≤ 1000) : gm_C l D ad cI cZ my_Mod_isValue mb_Mod_isValue 1 (some .boolean) 0 0 M [.int (nI (j))] (some (.int (nI 1))) (fun M' => M' = M) := by
  refine xw_start [.int (nI (j))] (by decide) (Nat.le_of_ble_eq_true rfl) ?_
  intro p e st m below meth cd0 ls Z hml hr hlk hN hl hw
  have hl : lv_has ls 1 [(0, .int (nI (j)))] := hl
  refine lv_iload_n Z.1 Z.2.1 md_Mod_isValue_0 rfl (lv_at hl 0 rfl) ?_
  refine lv_iconst (v := nI 1) Z.1 Z.2.1 md_Mod_isValue_1 (by decide) ?_
  refine xi_icmp_lt (tgt := 16) Z md_Mod_isValue_2 (by decide) (by omega) (by omega) (fun h2 => by exfalso; omega) (fun h2 => ?_)
  refine lv_iload_n Z.1 Z.2.1 md_Mod_isValue_5 rfl (lv_at hl 0 rfl) ?_
  refine lv_sipush (v := nI 1000) Z.1 Z.2.1 md_Mod_isValue_6 (by decide) ?_
  refine xi_icmp_gt (tgt := 16) Z md_Mod_isValue_9 (by decide) (by omega) (by omega) (fun h9 => by exfalso; omega) (fun h9 => ?_)
  refine lv_iconst (v := nI 1) Z.1 Z.2.1 md_Mod_isValue_12 (by decide) ?_
  refine lv_goto (tgt := 17) Z.1 Z.2.1 md_Mod_isValue_13 (by decide) ?_
  exact xw_zret Z hr hlk hw md_Mod_isValue_17 rfl rfl rfl
set_option maxHeartbeats 4000000 in
theorem r_isValue0 (l : Launch) (D : va_G) (ad : Nat × Nat → Nat) (cI cZ : ClassId) {M : fr_M} {x : Int32} (hx : x < nI 1 ∨ nI 1000 < x) : gm_C l D ad cI cZ my_Mod_isValue mb_Mod_isValue 1 (some .boolean) 0 0 M [.int (x)] (some (.int (nI 0))) (fun M' => M' = M) := by
  refine xw_start [.int (x)] (by decide) (Nat.le_of_ble_eq_true rfl) ?_
  intro p e st m below meth cd0 ls Z hml hr hlk hN hl hw
  have hl : lv_has ls 1 [(0, .int (x))] := hl
  refine lv_iload_n Z.1 Z.2.1 md_Mod_isValue_0 rfl (lv_at hl 0 rfl) ?_
  refine lv_iconst (v := nI 1) Z.1 Z.2.1 md_Mod_isValue_1 (by decide) ?_
  refine lv_icmp_lt (tgt := 16) Z.1 Z.2.1 md_Mod_isValue_2 (by decide) (fun h2 => ?_) (fun h2 => ?_)
  · refine lv_iconst (v := nI 0) Z.1 Z.2.1 md_Mod_isValue_16 (by decide) ?_
    exact xw_zret Z hr hlk hw md_Mod_isValue_17 rfl rfl rfl
  · refine lv_iload_n Z.1 Z.2.1 md_Mod_isValue_5 rfl (lv_at hl 0 rfl) ?_
    refine lv_sipush (v := nI 1000) Z.1 Z.2.1 md_Mod_isValue_6 (by decide) ?_
    refine lv_icmp_gt (tgt := 16) Z.1 Z.2.1 md_Mod_isValue_9 (by decide) (fun h9 => ?_) (fun h9 => by exfalso; exact hx.elim h2 h9)
    refine lv_iconst (v := nI 0) Z.1 Z.2.1 md_Mod_isValue_16 (by decide) ?_
    exact xw_zret Z hr hlk hw md_Mod_isValue_17 rfl rfl rfl
set_option maxHeartbeats 4000000 in
theorem r_isFast (l : Launch) (D : va_G) (ad : Nat × Nat → Nat) (cI cZ : ClassId) {M : fr_M} {j : Nat} (hj : j < 2 ^ 31) : gm_C l D ad cI cZ my_Mod_isFast mb_Mod_isFast 1 (some .boolean) 0 0 M [.int (nI (j))] (some (.int (nI (j % 2)))) (fun M' => M' = M) := by
  refine xw_start [.int (nI (j))] (by decide) (Nat.le_of_ble_eq_true rfl) ?_
  intro p e st m below meth cd0 ls Z hml hr hlk hN hl hw
  have hl : lv_has ls 1 [(0, .int (nI (j)))] := hl
  refine lv_iload_n Z.1 Z.2.1 md_Mod_isFast_0 rfl (lv_at hl 0 rfl) ?_
  refine lv_iconst (v := nI 2) Z.1 Z.2.1 md_Mod_isFast_1 (by decide) ?_
  refine xi_rem Z md_Mod_isFast_2 (by omega) (by omega) (by omega) ?_
  refine lv_iconst (v := nI 1) Z.1 Z.2.1 md_Mod_isFast_3 (by decide) ?_
  refine xi_icmp_ne (tgt := 11) Z md_Mod_isFast_4 (by decide) (by omega) (by omega) (fun h4 => ?_) (fun h4 => ?_)
  · refine lv_iconst (v := nI 0) Z.1 Z.2.1 md_Mod_isFast_11 (by decide) ?_
    exact xw_zret Z hr hlk hw md_Mod_isFast_12 (by first | rw [show j % 2 = 1 by omega] | rw [show j % 2 = 0 by omega]) rfl rfl
  · refine lv_iconst (v := nI 1) Z.1 Z.2.1 md_Mod_isFast_7 (by decide) ?_
    refine lv_goto (tgt := 12) Z.1 Z.2.1 md_Mod_isFast_8 (by decide) ?_
    exact xw_zret Z hr hlk hw md_Mod_isFast_12 (by first | rw [show j % 2 = 1 by omega] | rw [show j % 2 = 0 by omega]) rfl rfl
set_option maxHeartbeats 4000000 in
theorem r_coordinatorOf (l : Launch) (D : va_G) (ad : Nat × Nat → Nat) (cI cZ : ClassId) {M : fr_M} {j : Nat} (hj : j < 2 ^ 30) : gm_C l D ad cI cZ my_Mod_coordinatorOf mb_Mod_coordinatorOf 1 (some .int) 0 0 M [.int (nI (j))] (some (.int (nI (8 + pz_ci j)))) (fun M' => M' = M) := by
  refine xw_start [.int (nI (j))] (by decide) (Nat.le_of_ble_eq_true rfl) ?_
  intro p e st m below meth cd0 ls Z hml hr hlk hN hl hw
  have hl : lv_has ls 1 [(0, .int (nI (j)))] := hl
  refine lv_iload_n Z.1 Z.2.1 md_Mod_coordinatorOf_0 rfl (lv_at hl 0 rfl) ?_
  refine lv_iconst (v := nI 1) Z.1 Z.2.1 md_Mod_coordinatorOf_1 (by decide) ?_
  refine xi_add Z md_Mod_coordinatorOf_2 ?_
  refine lv_iconst (v := nI 2) Z.1 Z.2.1 md_Mod_coordinatorOf_3 (by decide) ?_
  refine xi_div Z md_Mod_coordinatorOf_4 (by omega) (by omega) (by omega) ?_
  refine lv_iconst (v := nI 2) Z.1 Z.2.1 md_Mod_coordinatorOf_5 (by decide) ?_
  refine xi_rem Z md_Mod_coordinatorOf_6 (by omega) (by omega) (by omega) ?_
  refine lv_iconst (v := nI 1) Z.1 Z.2.1 md_Mod_coordinatorOf_7 (by decide) ?_
  refine xi_icmp_ne (tgt := 16) Z md_Mod_coordinatorOf_8 (by decide) (by omega) (by omega) (fun h8 => ?_) (fun h8 => ?_)
  · refine lv_bipush (v := nI 9) Z.1 Z.2.1 md_Mod_coordinatorOf_16 (by decide) ?_
    exact xw_iret Z hr hlk hw md_Mod_coordinatorOf_18 (by unfold pz_ci; first | rw [if_pos (by omega)] | rw [if_neg (by omega)]) rfl
  · refine lv_bipush (v := nI 8) Z.1 Z.2.1 md_Mod_coordinatorOf_11 (by decide) ?_
    refine lv_goto (tgt := 18) Z.1 Z.2.1 md_Mod_coordinatorOf_13 (by decide) ?_
    exact xw_iret Z hr hlk hw md_Mod_coordinatorOf_18 (by unfold pz_ci; first | rw [if_pos (by omega)] | rw [if_neg (by omega)]) rfl
set_option maxHeartbeats 4000000 in
theorem r_isCoordinator1 (l : Launch) (D : va_G) (ad : Nat × Nat → Nat) (cI cZ : ClassId) {M : fr_M} {j : Nat} (hj : j = 8 ∨ j = 9) : gm_C l D ad cI cZ my_Mod_isCoordinator mb_Mod_isCoordinator 1 (some .boolean) 0 0 M [.int (nI (j))] (some (.int (nI 1))) (fun M' => M' = M) := by
  refine xw_start [.int (nI (j))] (by decide) (Nat.le_of_ble_eq_true rfl) ?_
  intro p e st m below meth cd0 ls Z hml hr hlk hN hl hw
  have hl : lv_has ls 1 [(0, .int (nI (j)))] := hl
  refine lv_iload_n Z.1 Z.2.1 md_Mod_isCoordinator_0 rfl (lv_at hl 0 rfl) ?_
  refine lv_bipush (v := nI 8) Z.1 Z.2.1 md_Mod_isCoordinator_1 (by decide) ?_
  refine xi_icmp_eq (tgt := 12) Z md_Mod_isCoordinator_3 (by decide) (by omega) (by omega) (fun h3 => ?_) (fun h3 => ?_)
  · refine lv_iconst (v := nI 1) Z.1 Z.2.1 md_Mod_isCoordinator_12 (by decide) ?_
    refine lv_goto (tgt := 17) Z.1 Z.2.1 md_Mod_isCoordinator_13 (by decide) ?_
    exact xw_zret Z hr hlk hw md_Mod_isCoordinator_17 rfl rfl rfl
  · refine lv_iload_n Z.1 Z.2.1 md_Mod_isCoordinator_6 rfl (lv_at hl 0 rfl) ?_
    refine lv_bipush (v := nI 9) Z.1 Z.2.1 md_Mod_isCoordinator_7 (by decide) ?_
    refine xi_icmp_ne (tgt := 16) Z md_Mod_isCoordinator_9 (by decide) (by omega) (by omega) (fun h9 => by exfalso; omega) (fun h9 => ?_)
    refine lv_iconst (v := nI 1) Z.1 Z.2.1 md_Mod_isCoordinator_12 (by decide) ?_
    refine lv_goto (tgt := 17) Z.1 Z.2.1 md_Mod_isCoordinator_13 (by decide) ?_
    exact xw_zret Z hr hlk hw md_Mod_isCoordinator_17 rfl rfl rfl
set_option maxHeartbeats 4000000 in
theorem r_isCoordinator0 (l : Launch) (D : va_G) (ad : Nat × Nat → Nat) (cI cZ : ClassId) {M : fr_M} {x : Int32} (hx8 : ¬ x = nI 8) (hx9 : ¬ x = nI 9) : gm_C l D ad cI cZ my_Mod_isCoordinator mb_Mod_isCoordinator 1 (some .boolean) 0 0 M [.int (x)] (some (.int (nI 0))) (fun M' => M' = M) := by
  refine xw_start [.int (x)] (by decide) (Nat.le_of_ble_eq_true rfl) ?_
  intro p e st m below meth cd0 ls Z hml hr hlk hN hl hw
  have hl : lv_has ls 1 [(0, .int (x))] := hl
  refine lv_iload_n Z.1 Z.2.1 md_Mod_isCoordinator_0 rfl (lv_at hl 0 rfl) ?_
  refine lv_bipush (v := nI 8) Z.1 Z.2.1 md_Mod_isCoordinator_1 (by decide) ?_
  refine lv_icmp_eq (tgt := 12) Z.1 Z.2.1 md_Mod_isCoordinator_3 (by decide) (fun h3 => by exfalso; exact hx8 h3) (fun h3 => ?_)
  refine lv_iload_n Z.1 Z.2.1 md_Mod_isCoordinator_6 rfl (lv_at hl 0 rfl) ?_
  refine lv_bipush (v := nI 9) Z.1 Z.2.1 md_Mod_isCoordinator_7 (by decide) ?_
  refine lv_icmp_ne (tgt := 16) Z.1 Z.2.1 md_Mod_isCoordinator_9 (by decide) (fun h9 => ?_) (fun h9 => by exfalso; exact hx9 h9)
  refine lv_iconst (v := nI 0) Z.1 Z.2.1 md_Mod_isCoordinator_16 (by decide) ?_
  exact xw_zret Z hr hlk hw md_Mod_isCoordinator_17 rfl rfl rfl
set_option maxHeartbeats 4000000 in
theorem r_isAcceptor1 (l : Launch) (D : va_G) (ad : Nat × Nat → Nat) (cI cZ : ClassId) {M : fr_M} {n q f : Nat} {S : pz_T} {j : Nat} (hn : n ≤ 5) (h : gm_1 n q f M) (hj : j < n) : gm_C l D ad cI cZ my_Mod_isAcceptor mb_Mod_isAcceptor 2 (some .boolean) 0 0 M [.ref (ad (0, 0)), .int (nI (j))] (some (.int (nI 1))) (fun M' => M' = M) := by
  refine xw_start [.ref (ad (0, 0)), .int (nI (j))] (by decide) (Nat.le_of_ble_eq_true rfl) ?_
  intro p e st m below meth cd0 ls Z hml hr hlk hN hl hw
  have hl : lv_has ls 2 [(0, .ref (ad (0, 0))), (1, .int (nI (j)))] := hl
  refine lv_iload_n Z.1 Z.2.1 md_Mod_isAcceptor_0 rfl (lv_at hl 1 rfl) ?_
  refine lv_if_lt (tgt := 16) Z.1 Z.2.1 md_Mod_isAcceptor_1 (by decide) (fun h1 => by exfalso; exact nI_pos (by omega) h1) (fun h1 => ?_)
  refine lv_iload_n Z.1 Z.2.1 md_Mod_isAcceptor_4 rfl (lv_at hl 1 rfl) ?_
  refine lv_aload_n Z.1 Z.2.1 md_Mod_isAcceptor_5 rfl (lv_at hl 0 rfl) ?_
  refine xb_get (v := .int (M (0, 0) 0)) Z hw (by decide) (gm_e0 ad cI cZ) rfl tb_iMod 0 (by decide) mk_Mod_77 rfl rfl md_Mod_isAcceptor_6 ?_
  refine xi_re (show M (0, 0) 0 = nI (n) from h.1) ?_
  refine xi_icmp_ge (tgt := 16) Z md_Mod_isAcceptor_9 (by decide) (by omega) (by omega) (fun h9 => by exfalso; omega) (fun h9 => ?_)
  refine lv_iconst (v := nI 1) Z.1 Z.2.1 md_Mod_isAcceptor_12 (by decide) ?_
  refine lv_goto (tgt := 17) Z.1 Z.2.1 md_Mod_isAcceptor_13 (by decide) ?_
  exact xw_zret Z hr hlk hw md_Mod_isAcceptor_17 rfl rfl rfl
set_option maxHeartbeats 4000000 in
theorem r_isAcceptor0 (l : Launch) (D : va_G) (ad : Nat × Nat → Nat) (cI cZ : ClassId) {M : fr_M} {n q f : Nat} {S : pz_T} {x : Int32} (hn : n ≤ 5) (h : gm_1 n q f M) (hx : x < 0 ∨ nI n ≤ x) : gm_C l D ad cI cZ my_Mod_isAcceptor mb_Mod_isAcceptor 2 (some .boolean) 0 0 M [.ref (ad (0, 0)), .int (x)] (some (.int (nI 0))) (fun M' => M' = M) := by
  refine xw_start [.ref (ad (0, 0)), .int (x)] (by decide) (Nat.le_of_ble_eq_true rfl) ?_
  intro p e st m below meth cd0 ls Z hml hr hlk hN hl hw
  have hl : lv_has ls 2 [(0, .ref (ad (0, 0))), (1, .int (x))] := hl
  refine lv_iload_n Z.1 Z.2.1 md_Mod_isAcceptor_0 rfl (lv_at hl 1 rfl) ?_
  refine lv_if_lt (tgt := 16) Z.1 Z.2.1 md_Mod_isAcceptor_1 (by decide) (fun h1 => ?_) (fun h1 => ?_)
  · refine lv_iconst (v := nI 0) Z.1 Z.2.1 md_Mod_isAcceptor_16 (by decide) ?_
    exact xw_zret Z hr hlk hw md_Mod_isAcceptor_17 rfl rfl rfl
  · refine lv_iload_n Z.1 Z.2.1 md_Mod_isAcceptor_4 rfl (lv_at hl 1 rfl) ?_
    refine lv_aload_n Z.1 Z.2.1 md_Mod_isAcceptor_5 rfl (lv_at hl 0 rfl) ?_
    refine xb_get (v := .int (M (0, 0) 0)) Z hw (by decide) (gm_e0 ad cI cZ) rfl tb_iMod 0 (by decide) mk_Mod_77 rfl rfl md_Mod_isAcceptor_6 ?_
    refine xi_re (show M (0, 0) 0 = nI (n) from h.1) ?_
    refine lv_icmp_ge (tgt := 16) Z.1 Z.2.1 md_Mod_isAcceptor_9 (by decide) (fun h9 => ?_) (fun h9 => by exfalso; exact hx.elim h1 h9)
    refine lv_iconst (v := nI 0) Z.1 Z.2.1 md_Mod_isAcceptor_16 (by decide) ?_
    exact xw_zret Z hr hlk hw md_Mod_isAcceptor_17 rfl rfl rfl
set_option maxHeartbeats 4000000 in
theorem r_isMessage1 (l : Launch) (D : va_G) (ad : Nat × Nat → Nat) (cI cZ : ClassId) {M : fr_M} {n q f : Nat} {S : pz_T} {j : Nat} (h60 : S.1.length ≤ 60) (h : gm_2 S M) (hj : j < S.1.length) : gm_C l D ad cI cZ my_Mod_isMessage mb_Mod_isMessage 2 (some .boolean) 0 0 M [.ref (ad (0, 0)), .int (nI (j))] (some (.int (nI 1))) (fun M' => M' = M) := by
  refine xw_start [.ref (ad (0, 0)), .int (nI (j))] (by decide) (Nat.le_of_ble_eq_true rfl) ?_
  intro p e st m below meth cd0 ls Z hml hr hlk hN hl hw
  have hl : lv_has ls 2 [(0, .ref (ad (0, 0))), (1, .int (nI (j)))] := hl
  refine lv_iload_n Z.1 Z.2.1 md_Mod_isMessage_0 rfl (lv_at hl 1 rfl) ?_
  refine lv_if_lt (tgt := 16) Z.1 Z.2.1 md_Mod_isMessage_1 (by decide) (fun h1 => by exfalso; exact nI_pos (by omega) h1) (fun h1 => ?_)
  refine lv_iload_n Z.1 Z.2.1 md_Mod_isMessage_4 rfl (lv_at hl 1 rfl) ?_
  refine lv_aload_n Z.1 Z.2.1 md_Mod_isMessage_5 rfl (lv_at hl 0 rfl) ?_
  refine xb_get (v := .int (M (0, 0) 4)) Z hw (by decide) (gm_e0 ad cI cZ) rfl tb_iMod 4 (by decide) mk_Mod_91 rfl rfl md_Mod_isMessage_6 ?_
  refine xi_re (show M (0, 0) 4 = nI (S.1.length) from h.1) ?_
  refine xi_icmp_ge (tgt := 16) Z md_Mod_isMessage_9 (by decide) (by omega) (by omega) (fun h9 => by exfalso; omega) (fun h9 => ?_)
  refine lv_iconst (v := nI 1) Z.1 Z.2.1 md_Mod_isMessage_12 (by decide) ?_
  refine lv_goto (tgt := 17) Z.1 Z.2.1 md_Mod_isMessage_13 (by decide) ?_
  exact xw_zret Z hr hlk hw md_Mod_isMessage_17 rfl rfl rfl
set_option maxHeartbeats 4000000 in
theorem r_isMessage0 (l : Launch) (D : va_G) (ad : Nat × Nat → Nat) (cI cZ : ClassId) {M : fr_M} {n q f : Nat} {S : pz_T} {x : Int32} (h60 : S.1.length ≤ 60) (h : gm_2 S M) (hx : x < 0 ∨ nI S.1.length ≤ x) : gm_C l D ad cI cZ my_Mod_isMessage mb_Mod_isMessage 2 (some .boolean) 0 0 M [.ref (ad (0, 0)), .int (x)] (some (.int (nI 0))) (fun M' => M' = M) := by
  refine xw_start [.ref (ad (0, 0)), .int (x)] (by decide) (Nat.le_of_ble_eq_true rfl) ?_
  intro p e st m below meth cd0 ls Z hml hr hlk hN hl hw
  have hl : lv_has ls 2 [(0, .ref (ad (0, 0))), (1, .int (x))] := hl
  refine lv_iload_n Z.1 Z.2.1 md_Mod_isMessage_0 rfl (lv_at hl 1 rfl) ?_
  refine lv_if_lt (tgt := 16) Z.1 Z.2.1 md_Mod_isMessage_1 (by decide) (fun h1 => ?_) (fun h1 => ?_)
  · refine lv_iconst (v := nI 0) Z.1 Z.2.1 md_Mod_isMessage_16 (by decide) ?_
    exact xw_zret Z hr hlk hw md_Mod_isMessage_17 rfl rfl rfl
  · refine lv_iload_n Z.1 Z.2.1 md_Mod_isMessage_4 rfl (lv_at hl 1 rfl) ?_
    refine lv_aload_n Z.1 Z.2.1 md_Mod_isMessage_5 rfl (lv_at hl 0 rfl) ?_
    refine xb_get (v := .int (M (0, 0) 4)) Z hw (by decide) (gm_e0 ad cI cZ) rfl tb_iMod 4 (by decide) mk_Mod_91 rfl rfl md_Mod_isMessage_6 ?_
    refine xi_re (show M (0, 0) 4 = nI (S.1.length) from h.1) ?_
    refine lv_icmp_ge (tgt := 16) Z.1 Z.2.1 md_Mod_isMessage_9 (by decide) (fun h9 => ?_) (fun h9 => by exfalso; exact hx.elim h1 h9)
    refine lv_iconst (v := nI 0) Z.1 Z.2.1 md_Mod_isMessage_16 (by decide) ?_
    exact xw_zret Z hr hlk hw md_Mod_isMessage_17 rfl rfl rfl
set_option maxHeartbeats 4000000 in
theorem r_enough (l : Launch) (D : va_G) (ad : Nat × Nat → Nat) (cI cZ : ClassId) {M : fr_M} {n q f r : Nat} (h : gm_1 n q f M) (hr2 : r < 2 ^ 31) : gm_C l D ad cI cZ my_Mod_enough mb_Mod_enough 2 (some .int) 1 20 M [.ref (ad (0, 0)), .int (nI (r))] (some (.int (nI (pz_en q f r)))) (fun M' => M' = M) := by
  refine xw_start [.ref (ad (0, 0)), .int (nI (r))] (by decide) (Nat.le_of_ble_eq_true rfl) ?_
  intro p e st m below meth cd0 ls Z hml hr hlk hN hl hw
  have hl : lv_has ls 2 [(0, .ref (ad (0, 0))), (1, .int (nI (r)))] := hl
  refine lv_iload_n Z.1 Z.2.1 md_Mod_enough_0 rfl (lv_at hl 1 rfl) ?_
  refine xw_cS (n := 1) (rest := []) Z hml hl.1 hN hw (r_isFast l D ad cI cZ (M := M) hr2) tb_g mc_Mod_isFast mk_Mod_87 mt_Mod_isFast mz_Mod ⟨by decide, by decide, by decide +kernel⟩ ⟨Nat.le_of_ble_eq_true rfl, Nat.le_of_ble_eq_true rfl⟩ rfl rfl (Nat.le_of_ble_eq_true rfl) ⟨Nat.le_refl _, Nat.le_refl _⟩ md_Mod_enough_1 (fun M1 H1 locs1 e1 hw => ?_)
  have ey1 := e1.symm
  subst ey1
  refine W.eq (g2 := F0 m 4 ls [.int (nI (r % 2))]) rfl ?_
  refine xi_if_eq (tgt := 14) Z md_Mod_enough_4 (by decide) (by omega) (fun h4 => ?_) (fun h4 => ?_)
  · refine lv_aload_n Z.1 Z.2.1 md_Mod_enough_14 rfl (lv_at hl 0 rfl) ?_
    refine xb_get (v := .int (M (0, 0) 1)) Z hw (by decide) (gm_e0 ad cI cZ) rfl tb_iMod 1 (by decide) mk_Mod_81 rfl rfl md_Mod_enough_15 ?_
    refine xi_re (show M (0, 0) 1 = nI (q) from h.2.1) ?_
    exact xw_iret Z hr hlk hw md_Mod_enough_18 (by unfold pz_en; first | rw [if_pos (by omega)] | rw [if_neg (by omega)]) rfl
  · refine lv_aload_n Z.1 Z.2.1 md_Mod_enough_7 rfl (lv_at hl 0 rfl) ?_
    refine xb_get (v := .int (M (0, 0) 2)) Z hw (by decide) (gm_e0 ad cI cZ) rfl tb_iMod 2 (by decide) mk_Mod_84 rfl rfl md_Mod_enough_8 ?_
    refine xi_re (show M (0, 0) 2 = nI (f) from h.2.2) ?_
    refine lv_goto (tgt := 18) Z.1 Z.2.1 md_Mod_enough_11 (by decide) ?_
    exact xw_iret Z hr hlk hw md_Mod_enough_18 (by unfold pz_en; first | rw [if_pos (by omega)] | rw [if_neg (by omega)]) rfl
set_option maxHeartbeats 4000000 in
theorem r_send (l : Launch) (D : va_G) (ad : Nat × Nat → Nat) (cI cZ : ClassId) {M : fr_M} {n q f : Nat} {S : pz_T} {g : pz_M} (h : gm_R n q f S M) (h60 : S.1.length ≤ 60) : gm_C l D ad cI cZ my_Mod_send mb_Mod_send 8 none 0 0 M [.ref (ad (0, 0)), .int (nI (g 0)), .int (nI (g 1)), .int (nI (g 2)), .int (nI (g 3)), .int (nI (g 4)), .int (nI (g 5)), .int (nI (g 6))] (none) (gm_R n q f (pz_sd S g)) := by
  refine xw_start [.ref (ad (0, 0)), .int (nI (g 0)), .int (nI (g 1)), .int (nI (g 2)), .int (nI (g 3)), .int (nI (g 4)), .int (nI (g 5)), .int (nI (g 6))] (by decide) (Nat.le_of_ble_eq_true rfl) ?_
  intro p e st m below meth cd0 ls Z hml hr hlk hN hl hw
  have hl : lv_has ls 8 [(0, .ref (ad (0, 0))), (1, .int (nI (g 0))), (2, .int (nI (g 1))), (3, .int (nI (g 2))), (4, .int (nI (g 3))), (5, .int (nI (g 4))), (6, .int (nI (g 5))), (7, .int (nI (g 6)))] := hl
  refine lv_aload_n Z.1 Z.2.1 md_Mod_send_0 rfl (lv_at hl 0 rfl) ?_
  refine xb_get (v := .int (M (0, 0) 4)) Z hw (by decide) (gm_e0 ad cI cZ) rfl tb_iMod 4 (by decide) mk_Mod_91 rfl rfl md_Mod_send_1 ?_
  refine xi_re (show M (0, 0) 4 = nI (S.1.length) from h.2.1.1) ?_
  refine lv_bipush (v := nI 60) Z.1 Z.2.1 md_Mod_send_4 (by decide) ?_
  refine xi_icmp_ne (tgt := 20) Z md_Mod_send_6 (by decide) (by omega) (by omega) (fun h6 => ?_) (fun h6 => ?_)
  · refine lv_aload_n Z.1 Z.2.1 md_Mod_send_20 rfl (lv_at hl 0 rfl) ?_
    refine xb_get (v := .ref (ad (6, 0))) Z hw (by decide) (gm_e0 ad cI cZ) rfl tb_iMod 6 (by decide) mk_Mod_13 rfl rfl md_Mod_send_21 ?_
    refine lv_aload_n Z.1 Z.2.1 md_Mod_send_24 rfl (lv_at hl 0 rfl) ?_
    refine xb_get (v := .int (M (0, 0) 4)) Z hw (by decide) (gm_e0 ad cI cZ) rfl tb_iMod 4 (by decide) mk_Mod_91 rfl rfl md_Mod_send_25 ?_
    refine xi_re (show M (0, 0) 4 = nI (S.1.length) from h.2.1.1) ?_
    refine lv_iload_n Z.1 Z.2.1 md_Mod_send_28 rfl (lv_at hl 1 rfl) ?_
    refine xb_iast Z hw (by decide) (gm_e6 ad cI cZ) 0 rfl (S.1.length) rfl (by omega) (by omega) md_Mod_send_29 (fun M1 H1 locs1 e1 hw => ?_)
    refine lv_aload_n Z.1 Z.2.1 md_Mod_send_30 rfl (lv_at hl 0 rfl) ?_
    refine xb_get (v := .ref (ad (7, 0))) Z hw (by decide) (gm_e0 ad cI cZ) rfl tb_iMod 7 (by decide) mk_Mod_17 rfl rfl md_Mod_send_31 ?_
    refine lv_aload_n Z.1 Z.2.1 md_Mod_send_34 rfl (lv_at hl 0 rfl) ?_
    refine xb_get (v := .int (M1 (0, 0) 4)) Z hw (by decide) (gm_e0 ad cI cZ) rfl tb_iMod 4 (by decide) mk_Mod_91 rfl rfl md_Mod_send_35 ?_
    refine xi_re (show M1 (0, 0) 4 = nI (S.1.length) from (by rw [e1, xw_mw_n (by decide)]; exact h.2.1.1)) ?_
    refine lv_iload_n Z.1 Z.2.1 md_Mod_send_38 rfl (lv_at hl 2 rfl) ?_
    refine xb_iast Z hw (by decide) (gm_e7 ad cI cZ) 0 rfl (S.1.length) rfl (by omega) (by omega) md_Mod_send_39 (fun M2 H2 locs2 e2 hw => ?_)
    refine lv_aload_n Z.1 Z.2.1 md_Mod_send_40 rfl (lv_at hl 0 rfl) ?_
    refine xb_get (v := .ref (ad (8, 0))) Z hw (by decide) (gm_e0 ad cI cZ) rfl tb_iMod 8 (by decide) mk_Mod_20 rfl rfl md_Mod_send_41 ?_
    refine lv_aload_n Z.1 Z.2.1 md_Mod_send_44 rfl (lv_at hl 0 rfl) ?_
    refine xb_get (v := .int (M2 (0, 0) 4)) Z hw (by decide) (gm_e0 ad cI cZ) rfl tb_iMod 4 (by decide) mk_Mod_91 rfl rfl md_Mod_send_45 ?_
    refine xi_re (show M2 (0, 0) 4 = nI (S.1.length) from (by rw [e2, xw_mw_n (by decide), e1, xw_mw_n (by decide)]; exact h.2.1.1)) ?_
    refine lv_iload_n Z.1 Z.2.1 md_Mod_send_48 rfl (lv_at hl 3 rfl) ?_
    refine xb_iast Z hw (by decide) (gm_e8 ad cI cZ) 0 rfl (S.1.length) rfl (by omega) (by omega) md_Mod_send_49 (fun M3 H3 locs3 e3 hw => ?_)
    refine lv_aload_n Z.1 Z.2.1 md_Mod_send_50 rfl (lv_at hl 0 rfl) ?_
    refine xb_get (v := .ref (ad (10, 0))) Z hw (by decide) (gm_e0 ad cI cZ) rfl tb_iMod 10 (by decide) mk_Mod_26 rfl rfl md_Mod_send_51 ?_
    refine lv_aload_n Z.1 Z.2.1 md_Mod_send_54 rfl (lv_at hl 0 rfl) ?_
    refine xb_get (v := .int (M3 (0, 0) 4)) Z hw (by decide) (gm_e0 ad cI cZ) rfl tb_iMod 4 (by decide) mk_Mod_91 rfl rfl md_Mod_send_55 ?_
    refine xi_re (show M3 (0, 0) 4 = nI (S.1.length) from (by rw [e3, xw_mw_n (by decide), e2, xw_mw_n (by decide), e1, xw_mw_n (by decide)]; exact h.2.1.1)) ?_
    refine lv_iload Z.1 Z.2.1 md_Mod_send_58 (lv_at hl 4 rfl) ?_
    refine xb_iast Z hw (by decide) (gm_e10 ad cI cZ) 0 rfl (S.1.length) rfl (by omega) (by omega) md_Mod_send_60 (fun M4 H4 locs4 e4 hw => ?_)
    refine lv_aload_n Z.1 Z.2.1 md_Mod_send_61 rfl (lv_at hl 0 rfl) ?_
    refine xb_get (v := .ref (ad (9, 0))) Z hw (by decide) (gm_e0 ad cI cZ) rfl tb_iMod 9 (by decide) mk_Mod_23 rfl rfl md_Mod_send_62 ?_
    refine lv_aload_n Z.1 Z.2.1 md_Mod_send_65 rfl (lv_at hl 0 rfl) ?_
    refine xb_get (v := .int (M4 (0, 0) 4)) Z hw (by decide) (gm_e0 ad cI cZ) rfl tb_iMod 4 (by decide) mk_Mod_91 rfl rfl md_Mod_send_66 ?_
    refine xi_re (show M4 (0, 0) 4 = nI (S.1.length) from (by rw [e4, xw_mw_n (by decide), e3, xw_mw_n (by decide), e2, xw_mw_n (by decide), e1, xw_mw_n (by decide)]; exact h.2.1.1)) ?_
    refine lv_iload Z.1 Z.2.1 md_Mod_send_69 (lv_at hl 5 rfl) ?_
    refine xb_iast Z hw (by decide) (gm_e9 ad cI cZ) 0 rfl (S.1.length) rfl (by omega) (by omega) md_Mod_send_71 (fun M5 H5 locs5 e5 hw => ?_)
    refine lv_aload_n Z.1 Z.2.1 md_Mod_send_72 rfl (lv_at hl 0 rfl) ?_
    refine xb_get (v := .ref (ad (11, 0))) Z hw (by decide) (gm_e0 ad cI cZ) rfl tb_iMod 11 (by decide) mk_Mod_29 rfl rfl md_Mod_send_73 ?_
    refine lv_aload_n Z.1 Z.2.1 md_Mod_send_76 rfl (lv_at hl 0 rfl) ?_
    refine xb_get (v := .int (M5 (0, 0) 4)) Z hw (by decide) (gm_e0 ad cI cZ) rfl tb_iMod 4 (by decide) mk_Mod_91 rfl rfl md_Mod_send_77 ?_
    refine xi_re (show M5 (0, 0) 4 = nI (S.1.length) from (by rw [e5, xw_mw_n (by decide), e4, xw_mw_n (by decide), e3, xw_mw_n (by decide), e2, xw_mw_n (by decide), e1, xw_mw_n (by decide)]; exact h.2.1.1)) ?_
    refine lv_iload Z.1 Z.2.1 md_Mod_send_80 (lv_at hl 6 rfl) ?_
    refine xb_iast Z hw (by decide) (gm_e11 ad cI cZ) 0 rfl (S.1.length) rfl (by omega) (by omega) md_Mod_send_82 (fun M6 H6 locs6 e6 hw => ?_)
    refine lv_aload_n Z.1 Z.2.1 md_Mod_send_83 rfl (lv_at hl 0 rfl) ?_
    refine xb_get (v := .ref (ad (12, 0))) Z hw (by decide) (gm_e0 ad cI cZ) rfl tb_iMod 12 (by decide) mk_Mod_32 rfl rfl md_Mod_send_84 ?_
    refine lv_aload_n Z.1 Z.2.1 md_Mod_send_87 rfl (lv_at hl 0 rfl) ?_
    refine xb_get (v := .int (M6 (0, 0) 4)) Z hw (by decide) (gm_e0 ad cI cZ) rfl tb_iMod 4 (by decide) mk_Mod_91 rfl rfl md_Mod_send_88 ?_
    refine xi_re (show M6 (0, 0) 4 = nI (S.1.length) from (by rw [e6, xw_mw_n (by decide), e5, xw_mw_n (by decide), e4, xw_mw_n (by decide), e3, xw_mw_n (by decide), e2, xw_mw_n (by decide), e1, xw_mw_n (by decide)]; exact h.2.1.1)) ?_
    refine lv_iload Z.1 Z.2.1 md_Mod_send_91 (lv_at hl 7 rfl) ?_
    refine xb_iast Z hw (by decide) (gm_e12 ad cI cZ) 0 rfl (S.1.length) rfl (by omega) (by omega) md_Mod_send_93 (fun M7 H7 locs7 e7 hw => ?_)
    refine lv_aload_n Z.1 Z.2.1 md_Mod_send_94 rfl (lv_at hl 0 rfl) ?_
    refine lv_dup Z.1 Z.2.1 md_Mod_send_95 rfl ?_
    refine xb_get (v := .int (M7 (0, 0) 4)) Z hw (by decide) (gm_e0 ad cI cZ) rfl tb_iMod 4 (by decide) mk_Mod_91 rfl rfl md_Mod_send_96 ?_
    refine xi_re (show M7 (0, 0) 4 = nI (S.1.length) from (by rw [e7, xw_mw_n (by decide), e6, xw_mw_n (by decide), e5, xw_mw_n (by decide), e4, xw_mw_n (by decide), e3, xw_mw_n (by decide), e2, xw_mw_n (by decide), e1, xw_mw_n (by decide)]; exact h.2.1.1)) ?_
    refine lv_iconst (v := nI 1) Z.1 Z.2.1 md_Mod_send_99 (by decide) ?_
    refine xi_add Z md_Mod_send_100 ?_
    refine xb_put Z hw (by decide) (gm_e0 ad cI cZ) rfl tb_iMod tb_tMod tb_yMod tb_nMod 4 (by decide) mk_Mod_91 rfl rfl rfl (gm_s0_4 ad _) md_Mod_send_101 (fun M8 H8 locs8 e8 hw => ?_)
    have hl : S.1.length < 60 := by omega
    have c6 : M8 (6, 0) = upd (M (6, 0)) S.1.length (nI (g 0)) := by rw [e8, xw_mw_n (by decide), e7, xw_mw_n (by decide), e6, xw_mw_n (by decide), e5, xw_mw_n (by decide), e4, xw_mw_n (by decide), e3, xw_mw_n (by decide), e2, xw_mw_n (by decide), e1, xw_mw_s]
    have c7 : M8 (7, 0) = upd (M (7, 0)) S.1.length (nI (g 1)) := by rw [e8, xw_mw_n (by decide), e7, xw_mw_n (by decide), e6, xw_mw_n (by decide), e5, xw_mw_n (by decide), e4, xw_mw_n (by decide), e3, xw_mw_n (by decide), e2, xw_mw_s, e1, xw_mw_n (by decide)]
    have c8 : M8 (8, 0) = upd (M (8, 0)) S.1.length (nI (g 2)) := by rw [e8, xw_mw_n (by decide), e7, xw_mw_n (by decide), e6, xw_mw_n (by decide), e5, xw_mw_n (by decide), e4, xw_mw_n (by decide), e3, xw_mw_s, e2, xw_mw_n (by decide), e1, xw_mw_n (by decide)]
    have c10 : M8 (10, 0) = upd (M (10, 0)) S.1.length (nI (g 3)) := by rw [e8, xw_mw_n (by decide), e7, xw_mw_n (by decide), e6, xw_mw_n (by decide), e5, xw_mw_n (by decide), e4, xw_mw_s, e3, xw_mw_n (by decide), e2, xw_mw_n (by decide), e1, xw_mw_n (by decide)]
    have c9 : M8 (9, 0) = upd (M (9, 0)) S.1.length (nI (g 4)) := by rw [e8, xw_mw_n (by decide), e7, xw_mw_n (by decide), e6, xw_mw_n (by decide), e5, xw_mw_s, e4, xw_mw_n (by decide), e3, xw_mw_n (by decide), e2, xw_mw_n (by decide), e1, xw_mw_n (by decide)]
    have c11 : M8 (11, 0) = upd (M (11, 0)) S.1.length (nI (g 5)) := by rw [e8, xw_mw_n (by decide), e7, xw_mw_n (by decide), e6, xw_mw_s, e5, xw_mw_n (by decide), e4, xw_mw_n (by decide), e3, xw_mw_n (by decide), e2, xw_mw_n (by decide), e1, xw_mw_n (by decide)]
    have c12 : M8 (12, 0) = upd (M (12, 0)) S.1.length (nI (g 6)) := by rw [e8, xw_mw_n (by decide), e7, xw_mw_s, e6, xw_mw_n (by decide), e5, xw_mw_n (by decide), e4, xw_mw_n (by decide), e3, xw_mw_n (by decide), e2, xw_mw_n (by decide), e1, xw_mw_n (by decide)]
    refine xw_vret Z hr hlk hw md_Mod_send_104 (gm_send1 h hl (fun k hk h0 => by rw [e8, xw_mw_n (fr_pair h0), e7, xw_mw_n (fr_pair (by omega)), e6, xw_mw_n (fr_pair (by omega)), e5, xw_mw_n (fr_pair (by omega)), e4, xw_mw_n (fr_pair (by omega)), e3, xw_mw_n (fr_pair (by omega)), e2, xw_mw_n (fr_pair (by omega)), e1, xw_mw_n (fr_pair (by omega))]) (fun j hj => ?_) ?_ (fun k k1 k2 => ?_) ?_)
    · rw [e8, xw_mw_s]; simp only [upd]; rw [if_neg hj]; rw [e7, xw_mw_n (by decide)]; rw [e6, xw_mw_n (by decide)]; rw [e5, xw_mw_n (by decide)]; rw [e4, xw_mw_n (by decide)]; rw [e3, xw_mw_n (by decide)]; rw [e2, xw_mw_n (by decide)]; rw [e1, xw_mw_n (by decide)]
    · rw [e8, xw_mw_s]; simp [upd]
    · have ks : k = 6 ∨ k = 7 ∨ k = 8 ∨ k = 9 ∨ k = 10 ∨ k = 11 ∨ k = 12 := by omega
      rcases ks with e | e | e | e | e | e | e <;> subst e <;> first | rw [c6, pk_us] | rw [c7, pk_us] | rw [c8, pk_us] | rw [c9, pk_us] | rw [c10, pk_us] | rw [c11, pk_us] | rw [c12, pk_us]
    · rw [c6, c7, c8, c9, c10, c11, c12]; exact ⟨pk_us, pk_us, pk_us, pk_us, pk_us, pk_us, pk_us⟩
  · refine lv_aload_n Z.1 Z.2.1 md_Mod_send_9 rfl (lv_at hl 0 rfl) ?_
    refine lv_dup Z.1 Z.2.1 md_Mod_send_10 rfl ?_
    refine xb_get (v := .int (M (0, 0) 5)) Z hw (by decide) (gm_e0 ad cI cZ) rfl tb_iMod 5 (by decide) mk_Mod_94 rfl rfl md_Mod_send_11 ?_
    refine xi_re (show M (0, 0) 5 = nI (S.2 3 15 0 0) from h.2.1.2) ?_
    refine lv_iconst (v := nI 1) Z.1 Z.2.1 md_Mod_send_14 (by decide) ?_
    refine xi_add Z md_Mod_send_15 ?_
    refine xb_put Z hw (by decide) (gm_e0 ad cI cZ) rfl tb_iMod tb_tMod tb_yMod tb_nMod 5 (by decide) mk_Mod_94 rfl rfl rfl (gm_s0_5 ad _) md_Mod_send_16 (fun M9 H9 locs9 e9 hw => ?_)
    refine xw_vret Z hr hlk hw md_Mod_send_19 (gm_send2 h (by omega) (fun k hk => by rw [e9, xw_mw_n (fr_pair hk)]) (fun j hj => ?_) ?_)
    · rw [e9, xw_mw_s]; simp [upd, hj]
    · rw [e9, xw_mw_s]; simp [upd]
set_option maxHeartbeats 4000000 in
theorem r_sendAll (l : Launch) (D : va_G) (ad : Nat × Nat → Nat) (cI cZ : ClassId) {M : fr_M} {n q f : Nat} {S : pz_T} {kd s r v : Nat} (hn : n ≤ 5) (h : gm_R n q f S M) (h60 : S.1.length ≤ 60) : gm_C l D ad cI cZ my_Mod_sendAll mb_Mod_sendAll 6 none 1 27 M [.ref (ad (0, 0)), .int (nI (kd)), .int (nI (s)), .int (nI (r)), .int (nI (v))] (none) (gm_R n q f (pz_sa kd s r v n S)) := by
  refine xw_start [.ref (ad (0, 0)), .int (nI (kd)), .int (nI (s)), .int (nI (r)), .int (nI (v))] (by decide) (Nat.le_of_ble_eq_true rfl) ?_
  intro p e st m below meth cd0 ls Z hml hr hlk hN hl hw
  have hl : lv_has ls 6 [(0, .ref (ad (0, 0))), (1, .int (nI (kd))), (2, .int (nI (s))), (3, .int (nI (r))), (4, .int (nI (v)))] := hl
  refine lv_iconst (v := nI 0) Z.1 Z.2.1 md_Mod_sendAll_0 (by decide) ?_
  refine lv_istore Z.1 Z.2.1 md_Mod_sendAll_1 hl (by decide) rfl (fun ls hl => ?_)
  have hl : lv_has ls 6 [(5, .int (nI (0))), (0, .ref (ad (0, 0))), (1, .int (nI (kd))), (2, .int (nI (s))), (3, .int (nI (r))), (4, .int (nI (v)))] := hl
  have loop3 : ∀ (d i : Nat) (Mi : fr_M) (Hi : Heap) (Li : List Loc) (ls : Array Slot), i + d = n → (gm_R n q f (pz_sa kd s r v i S) Mi) → xw_H D tb_cl (xw_A gm_ids ad) st.heap gm_ids ad (xw_M (gm_k ad cI cZ) Mi) Hi Li → lv_has ls 6 [(5, .int (nI (i))), (0, .ref (ad (0, 0))), (1, .int (nI (kd))), (2, .int (nI (s))), (3, .int (nI (r))), (4, .int (nI (v)))] → W p l e { frames := 1, cells := 0, slots := 0, locals := 27 } st m [.ref (ad (0, 0)), .int (nI (kd)), .int (nI (s)), .int (nI (r)), .int (nI (v))].toArray below meth cd0 Hi Li 0 0 (MQ below (xw_Qc D tb_cl gm_ids ad (gm_k ad cI cZ) (none) (gm_R n q f (pz_sa kd s r v n S))) [.ref (ad (0, 0)), .int (nI (kd)), .int (nI (s)), .int (nI (r)), .int (nI (v))].toArray st 0 0 (xw_A gm_ids ad)) (F0 m 3 ls []) := by
    intro d
    induction d with
    | zero =>
      intro i Mi Hi Li ls hi hinv hw hl
      refine lv_iload Z.1 Z.2.1 md_Mod_sendAll_3 (lv_at hl 0 rfl) ?_
      refine lv_aload_n Z.1 Z.2.1 md_Mod_sendAll_5 rfl (lv_at hl 1 rfl) ?_
      refine xb_get (v := .int (Mi (0, 0) 0)) Z hw (by decide) (gm_e0 ad cI cZ) rfl tb_iMod 0 (by decide) mk_Mod_77 rfl rfl md_Mod_sendAll_6 ?_
      refine xi_re (show Mi (0, 0) 0 = nI (n) from hinv.1.1) ?_
      refine xi_icmp_ge (tgt := 31) Z md_Mod_sendAll_9 (by decide) (by omega) (by omega) (fun h9 => ?_) (fun h9 => by exfalso; omega)
      exact xw_vret Z hr hlk hw md_Mod_sendAll_31 (by rw [show i = n by omega] at hinv; exact hinv)
    | succ d ih =>
      intro i Mi Hi Li ls hi hinv hw hl
      refine lv_iload Z.1 Z.2.1 md_Mod_sendAll_3 (lv_at hl 0 rfl) ?_
      refine lv_aload_n Z.1 Z.2.1 md_Mod_sendAll_5 rfl (lv_at hl 1 rfl) ?_
      refine xb_get (v := .int (Mi (0, 0) 0)) Z hw (by decide) (gm_e0 ad cI cZ) rfl tb_iMod 0 (by decide) mk_Mod_77 rfl rfl md_Mod_sendAll_6 ?_
      refine xi_re (show Mi (0, 0) 0 = nI (n) from hinv.1.1) ?_
      refine xi_icmp_ge (tgt := 31) Z md_Mod_sendAll_9 (by decide) (by omega) (by omega) (fun h9 => by exfalso; omega) (fun h9 => ?_)
      refine lv_aload_n Z.1 Z.2.1 md_Mod_sendAll_12 rfl (lv_at hl 1 rfl) ?_
      refine lv_iload_n Z.1 Z.2.1 md_Mod_sendAll_13 rfl (lv_at hl 2 rfl) ?_
      refine lv_iload_n Z.1 Z.2.1 md_Mod_sendAll_14 rfl (lv_at hl 3 rfl) ?_
      refine lv_iload_n Z.1 Z.2.1 md_Mod_sendAll_15 rfl (lv_at hl 4 rfl) ?_
      refine lv_iconst (v := nI 0) Z.1 Z.2.1 md_Mod_sendAll_16 (by decide) ?_
      refine lv_iload Z.1 Z.2.1 md_Mod_sendAll_17 (lv_at hl 0 rfl) ?_
      refine lv_iload Z.1 Z.2.1 md_Mod_sendAll_19 (lv_at hl 5 rfl) ?_
      refine lv_iconst (v := nI 0) Z.1 Z.2.1 md_Mod_sendAll_21 (by decide) ?_
      refine xw_cV (n := 7) (rest := []) Z hml hl.1 hN hw (r_send (g := pz_mg kd s r 0 i v 0) l D ad cI cZ hinv (fr_sa_len h60 i)) tb_g mc_Mod_send mk_Mod_97 mi_Mod_send ms_Mod_send mz_Mod ⟨by decide, by decide, by decide +kernel⟩ ⟨Nat.le_of_ble_eq_true rfl, Nat.le_of_ble_eq_true rfl⟩ (by decide) (gm_e0 ad cI cZ _) rfl rfl rfl rfl (Nat.le_of_ble_eq_true rfl) ⟨Nat.le_refl _, Nat.le_refl _⟩ md_Mod_sendAll_22 (fun M1 H1 locs1 hp hw => ?_)
      refine W.eq (g2 := F0 m 25 ls []) rfl ?_
      refine lv_iinc Z.1 Z.2.1 md_Mod_sendAll_25 hl (k := 0) rfl (xi_inc1 (i)) (by decide) rfl (fun ls hl => ?_)
      have hl : lv_has ls 6 [(5, .int (nI (i + 1))), (0, .ref (ad (0, 0))), (1, .int (nI (kd))), (2, .int (nI (s))), (3, .int (nI (r))), (4, .int (nI (v)))] := hl
      refine lv_goto (tgt := 3) Z.1 Z.2.1 md_Mod_sendAll_28 (by decide) ?_
      refine ih (i + 1) M1 _ _ ls (by omega) (hp) hw ?_
      exact lv_sub hl [0, 1, 2, 3, 4, 5] rfl
  exact loop3 n (0) M _ _ ls (by omega) h hw (lv_sub hl [0, 1, 2, 3, 4, 5] rfl)
set_option maxHeartbeats 4000000 in
theorem r_takeOut (l : Launch) (D : va_G) (ad : Nat × Nat → Nat) (cI cZ : ClassId) {M : fr_M} {n q f : Nat} {S : pz_T} {j : Nat} (h : gm_R n q f S M) (h60 : S.1.length ≤ 60) (hj : j < S.1.length) : gm_C l D ad cI cZ my_Mod_takeOut mb_Mod_takeOut 3 none 0 0 M [.ref (ad (0, 0)), .int (nI (j))] (none) (gm_R n q f (pz_rm S j)) := by
  refine xw_start [.ref (ad (0, 0)), .int (nI (j))] (by decide) (Nat.le_of_ble_eq_true rfl) ?_
  intro p e st m below meth cd0 ls Z hml hr hlk hN hl hw
  have hl : lv_has ls 3 [(0, .ref (ad (0, 0))), (1, .int (nI (j)))] := hl
  refine lv_aload_n Z.1 Z.2.1 md_Mod_takeOut_0 rfl (lv_at hl 0 rfl) ?_
  refine lv_dup Z.1 Z.2.1 md_Mod_takeOut_1 rfl ?_
  refine xb_get (v := .int (M (0, 0) 4)) Z hw (by decide) (gm_e0 ad cI cZ) rfl tb_iMod 4 (by decide) mk_Mod_91 rfl rfl md_Mod_takeOut_2 ?_
  refine xi_re (show M (0, 0) 4 = nI (S.1.length) from h.2.1.1) ?_
  refine lv_iconst (v := nI 1) Z.1 Z.2.1 md_Mod_takeOut_5 (by decide) ?_
  refine xi_sub Z md_Mod_takeOut_6 (by omega) ?_
  refine xb_put Z hw (by decide) (gm_e0 ad cI cZ) rfl tb_iMod tb_tMod tb_yMod tb_nMod 4 (by decide) mk_Mod_91 rfl rfl rfl (gm_s0_4 ad _) md_Mod_takeOut_7 (fun M1 H1 locs1 e1 hw => ?_)
  refine lv_iload_n Z.1 Z.2.1 md_Mod_takeOut_10 rfl (lv_at hl 1 rfl) ?_
  refine lv_istore_n Z.1 Z.2.1 md_Mod_takeOut_11 rfl hl (by decide) rfl (fun ls hl => ?_)
  have hl : lv_has ls 3 [(2, .int (nI (j))), (0, .ref (ad (0, 0))), (1, .int (nI (j)))] := hl
  have loop12 : ∀ (d i : Nat) (Mi : fr_M) (Hi : Heap) (Li : List Loc) (ls : Array Slot), i + d = (S.1.length - 1) → ((∀ k, ¬ (6 ≤ k ∧ k ≤ 12) → k ≠ 0 → Mi (k, 0) = M (k, 0)) ∧ (∀ t, t ≠ 4 → Mi (0, 0) t = M (0, 0) t) ∧ Mi (0, 0) 4 = nI (S.1.length - 1) ∧ (∀ k t, 6 ≤ k → k ≤ 12 → (t < j ∨ i ≤ t) → Mi (k, 0) t = M (k, 0) t) ∧ (∀ k t, 6 ≤ k → k ≤ 12 → j ≤ t → t < i → Mi (k, 0) t = M (k, 0) (t + 1)) ∧ j ≤ i) → xw_H D tb_cl (xw_A gm_ids ad) st.heap gm_ids ad (xw_M (gm_k ad cI cZ) Mi) Hi Li → lv_has ls 3 [(2, .int (nI (i))), (0, .ref (ad (0, 0))), (1, .int (nI (j)))] → W p l e { frames := 0, cells := 0, slots := 0, locals := 0 } st m [.ref (ad (0, 0)), .int (nI (j))].toArray below meth cd0 Hi Li 0 0 (MQ below (xw_Qc D tb_cl gm_ids ad (gm_k ad cI cZ) (none) (gm_R n q f (pz_rm S j))) [.ref (ad (0, 0)), .int (nI (j))].toArray st 0 0 (xw_A gm_ids ad)) (F0 m 12 ls []) := by
    intro d
    induction d with
    | zero =>
      intro i Mi Hi Li ls hi hinv hw hl
      refine lv_iload_n Z.1 Z.2.1 md_Mod_takeOut_12 rfl (lv_at hl 0 rfl) ?_
      refine lv_aload_n Z.1 Z.2.1 md_Mod_takeOut_13 rfl (lv_at hl 1 rfl) ?_
      refine xb_get (v := .int (Mi (0, 0) 4)) Z hw (by decide) (gm_e0 ad cI cZ) rfl tb_iMod 4 (by decide) mk_Mod_91 rfl rfl md_Mod_takeOut_14 ?_
      refine xi_re (show Mi (0, 0) 4 = nI (S.1.length - 1) from hinv.2.2.1) ?_
      refine xi_icmp_ge (tgt := 124) Z md_Mod_takeOut_17 (by decide) (by omega) (by omega) (fun h17 => ?_) (fun h17 => by exfalso; omega)
      exact xw_vret Z hr hlk hw md_Mod_takeOut_124 (gm_rm h hj hinv.1 hinv.2.1 hinv.2.2.1 (fun k t k1 k2 ht => hinv.2.2.2.1 k t k1 k2 (Or.inl ht)) (fun k t k1 k2 h1 h2 => hinv.2.2.2.2.1 k t k1 k2 h1 (by omega)))
    | succ d ih =>
      intro i Mi Hi Li ls hi hinv hw hl
      refine lv_iload_n Z.1 Z.2.1 md_Mod_takeOut_12 rfl (lv_at hl 0 rfl) ?_
      refine lv_aload_n Z.1 Z.2.1 md_Mod_takeOut_13 rfl (lv_at hl 1 rfl) ?_
      refine xb_get (v := .int (Mi (0, 0) 4)) Z hw (by decide) (gm_e0 ad cI cZ) rfl tb_iMod 4 (by decide) mk_Mod_91 rfl rfl md_Mod_takeOut_14 ?_
      refine xi_re (show Mi (0, 0) 4 = nI (S.1.length - 1) from hinv.2.2.1) ?_
      refine xi_icmp_ge (tgt := 124) Z md_Mod_takeOut_17 (by decide) (by omega) (by omega) (fun h17 => by exfalso; omega) (fun h17 => ?_)
      refine lv_aload_n Z.1 Z.2.1 md_Mod_takeOut_20 rfl (lv_at hl 1 rfl) ?_
      refine xb_get (v := .ref (ad (6, 0))) Z hw (by decide) (gm_e0 ad cI cZ) rfl tb_iMod 6 (by decide) mk_Mod_13 rfl rfl md_Mod_takeOut_21 ?_
      refine lv_iload_n Z.1 Z.2.1 md_Mod_takeOut_24 rfl (lv_at hl 0 rfl) ?_
      refine lv_aload_n Z.1 Z.2.1 md_Mod_takeOut_25 rfl (lv_at hl 1 rfl) ?_
      refine xb_get (v := .ref (ad (6, 0))) Z hw (by decide) (gm_e0 ad cI cZ) rfl tb_iMod 6 (by decide) mk_Mod_13 rfl rfl md_Mod_takeOut_26 ?_
      refine lv_iload_n Z.1 Z.2.1 md_Mod_takeOut_29 rfl (lv_at hl 0 rfl) ?_
      refine lv_iconst (v := nI 1) Z.1 Z.2.1 md_Mod_takeOut_30 (by decide) ?_
      refine xi_add Z md_Mod_takeOut_31 ?_
      refine xw_iald Z hw (by decide) (gm_e6 ad cI cZ) 0 rfl (i + 1) rfl (by omega) (by omega) md_Mod_takeOut_32 ?_
      refine xb_iast Z hw (by decide) (gm_e6 ad cI cZ) 0 rfl (i) rfl (by omega) (by omega) md_Mod_takeOut_33 (fun M2 H2 locs2 e2 hw => ?_)
      refine lv_aload_n Z.1 Z.2.1 md_Mod_takeOut_34 rfl (lv_at hl 1 rfl) ?_
      refine xb_get (v := .ref (ad (7, 0))) Z hw (by decide) (gm_e0 ad cI cZ) rfl tb_iMod 7 (by decide) mk_Mod_17 rfl rfl md_Mod_takeOut_35 ?_
      refine lv_iload_n Z.1 Z.2.1 md_Mod_takeOut_38 rfl (lv_at hl 0 rfl) ?_
      refine lv_aload_n Z.1 Z.2.1 md_Mod_takeOut_39 rfl (lv_at hl 1 rfl) ?_
      refine xb_get (v := .ref (ad (7, 0))) Z hw (by decide) (gm_e0 ad cI cZ) rfl tb_iMod 7 (by decide) mk_Mod_17 rfl rfl md_Mod_takeOut_40 ?_
      refine lv_iload_n Z.1 Z.2.1 md_Mod_takeOut_43 rfl (lv_at hl 0 rfl) ?_
      refine lv_iconst (v := nI 1) Z.1 Z.2.1 md_Mod_takeOut_44 (by decide) ?_
      refine xi_add Z md_Mod_takeOut_45 ?_
      refine xw_iald Z hw (by decide) (gm_e7 ad cI cZ) 0 rfl (i + 1) rfl (by omega) (by omega) md_Mod_takeOut_46 ?_
      refine xb_iast Z hw (by decide) (gm_e7 ad cI cZ) 0 rfl (i) rfl (by omega) (by omega) md_Mod_takeOut_47 (fun M3 H3 locs3 e3 hw => ?_)
      refine lv_aload_n Z.1 Z.2.1 md_Mod_takeOut_48 rfl (lv_at hl 1 rfl) ?_
      refine xb_get (v := .ref (ad (8, 0))) Z hw (by decide) (gm_e0 ad cI cZ) rfl tb_iMod 8 (by decide) mk_Mod_20 rfl rfl md_Mod_takeOut_49 ?_
      refine lv_iload_n Z.1 Z.2.1 md_Mod_takeOut_52 rfl (lv_at hl 0 rfl) ?_
      refine lv_aload_n Z.1 Z.2.1 md_Mod_takeOut_53 rfl (lv_at hl 1 rfl) ?_
      refine xb_get (v := .ref (ad (8, 0))) Z hw (by decide) (gm_e0 ad cI cZ) rfl tb_iMod 8 (by decide) mk_Mod_20 rfl rfl md_Mod_takeOut_54 ?_
      refine lv_iload_n Z.1 Z.2.1 md_Mod_takeOut_57 rfl (lv_at hl 0 rfl) ?_
      refine lv_iconst (v := nI 1) Z.1 Z.2.1 md_Mod_takeOut_58 (by decide) ?_
      refine xi_add Z md_Mod_takeOut_59 ?_
      refine xw_iald Z hw (by decide) (gm_e8 ad cI cZ) 0 rfl (i + 1) rfl (by omega) (by omega) md_Mod_takeOut_60 ?_
      refine xb_iast Z hw (by decide) (gm_e8 ad cI cZ) 0 rfl (i) rfl (by omega) (by omega) md_Mod_takeOut_61 (fun M4 H4 locs4 e4 hw => ?_)
      refine lv_aload_n Z.1 Z.2.1 md_Mod_takeOut_62 rfl (lv_at hl 1 rfl) ?_
      refine xb_get (v := .ref (ad (10, 0))) Z hw (by decide) (gm_e0 ad cI cZ) rfl tb_iMod 10 (by decide) mk_Mod_26 rfl rfl md_Mod_takeOut_63 ?_
      refine lv_iload_n Z.1 Z.2.1 md_Mod_takeOut_66 rfl (lv_at hl 0 rfl) ?_
      refine lv_aload_n Z.1 Z.2.1 md_Mod_takeOut_67 rfl (lv_at hl 1 rfl) ?_
      refine xb_get (v := .ref (ad (10, 0))) Z hw (by decide) (gm_e0 ad cI cZ) rfl tb_iMod 10 (by decide) mk_Mod_26 rfl rfl md_Mod_takeOut_68 ?_
      refine lv_iload_n Z.1 Z.2.1 md_Mod_takeOut_71 rfl (lv_at hl 0 rfl) ?_
      refine lv_iconst (v := nI 1) Z.1 Z.2.1 md_Mod_takeOut_72 (by decide) ?_
      refine xi_add Z md_Mod_takeOut_73 ?_
      refine xw_iald Z hw (by decide) (gm_e10 ad cI cZ) 0 rfl (i + 1) rfl (by omega) (by omega) md_Mod_takeOut_74 ?_
      refine xb_iast Z hw (by decide) (gm_e10 ad cI cZ) 0 rfl (i) rfl (by omega) (by omega) md_Mod_takeOut_75 (fun M5 H5 locs5 e5 hw => ?_)
      refine lv_aload_n Z.1 Z.2.1 md_Mod_takeOut_76 rfl (lv_at hl 1 rfl) ?_
      refine xb_get (v := .ref (ad (9, 0))) Z hw (by decide) (gm_e0 ad cI cZ) rfl tb_iMod 9 (by decide) mk_Mod_23 rfl rfl md_Mod_takeOut_77 ?_
      refine lv_iload_n Z.1 Z.2.1 md_Mod_takeOut_80 rfl (lv_at hl 0 rfl) ?_
      refine lv_aload_n Z.1 Z.2.1 md_Mod_takeOut_81 rfl (lv_at hl 1 rfl) ?_
      refine xb_get (v := .ref (ad (9, 0))) Z hw (by decide) (gm_e0 ad cI cZ) rfl tb_iMod 9 (by decide) mk_Mod_23 rfl rfl md_Mod_takeOut_82 ?_
      refine lv_iload_n Z.1 Z.2.1 md_Mod_takeOut_85 rfl (lv_at hl 0 rfl) ?_
      refine lv_iconst (v := nI 1) Z.1 Z.2.1 md_Mod_takeOut_86 (by decide) ?_
      refine xi_add Z md_Mod_takeOut_87 ?_
      refine xw_iald Z hw (by decide) (gm_e9 ad cI cZ) 0 rfl (i + 1) rfl (by omega) (by omega) md_Mod_takeOut_88 ?_
      refine xb_iast Z hw (by decide) (gm_e9 ad cI cZ) 0 rfl (i) rfl (by omega) (by omega) md_Mod_takeOut_89 (fun M6 H6 locs6 e6 hw => ?_)
      refine lv_aload_n Z.1 Z.2.1 md_Mod_takeOut_90 rfl (lv_at hl 1 rfl) ?_
      refine xb_get (v := .ref (ad (11, 0))) Z hw (by decide) (gm_e0 ad cI cZ) rfl tb_iMod 11 (by decide) mk_Mod_29 rfl rfl md_Mod_takeOut_91 ?_
      refine lv_iload_n Z.1 Z.2.1 md_Mod_takeOut_94 rfl (lv_at hl 0 rfl) ?_
      refine lv_aload_n Z.1 Z.2.1 md_Mod_takeOut_95 rfl (lv_at hl 1 rfl) ?_
      refine xb_get (v := .ref (ad (11, 0))) Z hw (by decide) (gm_e0 ad cI cZ) rfl tb_iMod 11 (by decide) mk_Mod_29 rfl rfl md_Mod_takeOut_96 ?_
      refine lv_iload_n Z.1 Z.2.1 md_Mod_takeOut_99 rfl (lv_at hl 0 rfl) ?_
      refine lv_iconst (v := nI 1) Z.1 Z.2.1 md_Mod_takeOut_100 (by decide) ?_
      refine xi_add Z md_Mod_takeOut_101 ?_
      refine xw_iald Z hw (by decide) (gm_e11 ad cI cZ) 0 rfl (i + 1) rfl (by omega) (by omega) md_Mod_takeOut_102 ?_
      refine xb_iast Z hw (by decide) (gm_e11 ad cI cZ) 0 rfl (i) rfl (by omega) (by omega) md_Mod_takeOut_103 (fun M7 H7 locs7 e7 hw => ?_)
      refine lv_aload_n Z.1 Z.2.1 md_Mod_takeOut_104 rfl (lv_at hl 1 rfl) ?_
      refine xb_get (v := .ref (ad (12, 0))) Z hw (by decide) (gm_e0 ad cI cZ) rfl tb_iMod 12 (by decide) mk_Mod_32 rfl rfl md_Mod_takeOut_105 ?_
      refine lv_iload_n Z.1 Z.2.1 md_Mod_takeOut_108 rfl (lv_at hl 0 rfl) ?_
      refine lv_aload_n Z.1 Z.2.1 md_Mod_takeOut_109 rfl (lv_at hl 1 rfl) ?_
      refine xb_get (v := .ref (ad (12, 0))) Z hw (by decide) (gm_e0 ad cI cZ) rfl tb_iMod 12 (by decide) mk_Mod_32 rfl rfl md_Mod_takeOut_110 ?_
      refine lv_iload_n Z.1 Z.2.1 md_Mod_takeOut_113 rfl (lv_at hl 0 rfl) ?_
      refine lv_iconst (v := nI 1) Z.1 Z.2.1 md_Mod_takeOut_114 (by decide) ?_
      refine xi_add Z md_Mod_takeOut_115 ?_
      refine xw_iald Z hw (by decide) (gm_e12 ad cI cZ) 0 rfl (i + 1) rfl (by omega) (by omega) md_Mod_takeOut_116 ?_
      refine xb_iast Z hw (by decide) (gm_e12 ad cI cZ) 0 rfl (i) rfl (by omega) (by omega) md_Mod_takeOut_117 (fun M8 H8 locs8 e8 hw => ?_)
      refine lv_iinc Z.1 Z.2.1 md_Mod_takeOut_118 hl (k := 0) rfl (xi_inc1 (i)) (by decide) rfl (fun ls hl => ?_)
      have hl : lv_has ls 3 [(2, .int (nI (i + 1))), (0, .ref (ad (0, 0))), (1, .int (nI (j)))] := hl
      refine lv_goto (tgt := 12) Z.1 Z.2.1 md_Mod_takeOut_121 (by decide) ?_
      have eo : ∀ k, ¬ (6 ≤ k ∧ k ≤ 12) → M8 (k, 0) = Mi (k, 0) := fun k hk => by rw [e8, xw_mw_n (fr_pair (by omega)), e7, xw_mw_n (fr_pair (by omega)), e6, xw_mw_n (fr_pair (by omega)), e5, xw_mw_n (fr_pair (by omega)), e4, xw_mw_n (fr_pair (by omega)), e3, xw_mw_n (fr_pair (by omega)), e2, xw_mw_n (fr_pair (by omega))]
      have c12 : M8 (12, 0) = upd (Mi (12, 0)) i (Mi (12, 0) (i + 1)) := by rw [e8, xw_mw_s, e7, xw_mw_n (by decide), e6, xw_mw_n (by decide), e5, xw_mw_n (by decide), e4, xw_mw_n (by decide), e3, xw_mw_n (by decide), e2, xw_mw_n (by decide)]
      have c11 : M8 (11, 0) = upd (Mi (11, 0)) i (Mi (11, 0) (i + 1)) := by rw [e8, xw_mw_n (by decide), e7, xw_mw_s, e6, xw_mw_n (by decide), e5, xw_mw_n (by decide), e4, xw_mw_n (by decide), e3, xw_mw_n (by decide), e2, xw_mw_n (by decide)]
      have c9 : M8 (9, 0) = upd (Mi (9, 0)) i (Mi (9, 0) (i + 1)) := by rw [e8, xw_mw_n (by decide), e7, xw_mw_n (by decide), e6, xw_mw_s, e5, xw_mw_n (by decide), e4, xw_mw_n (by decide), e3, xw_mw_n (by decide), e2, xw_mw_n (by decide)]
      have c10 : M8 (10, 0) = upd (Mi (10, 0)) i (Mi (10, 0) (i + 1)) := by rw [e8, xw_mw_n (by decide), e7, xw_mw_n (by decide), e6, xw_mw_n (by decide), e5, xw_mw_s, e4, xw_mw_n (by decide), e3, xw_mw_n (by decide), e2, xw_mw_n (by decide)]
      have c8 : M8 (8, 0) = upd (Mi (8, 0)) i (Mi (8, 0) (i + 1)) := by rw [e8, xw_mw_n (by decide), e7, xw_mw_n (by decide), e6, xw_mw_n (by decide), e5, xw_mw_n (by decide), e4, xw_mw_s, e3, xw_mw_n (by decide), e2, xw_mw_n (by decide)]
      have c7 : M8 (7, 0) = upd (Mi (7, 0)) i (Mi (7, 0) (i + 1)) := by rw [e8, xw_mw_n (by decide), e7, xw_mw_n (by decide), e6, xw_mw_n (by decide), e5, xw_mw_n (by decide), e4, xw_mw_n (by decide), e3, xw_mw_s, e2, xw_mw_n (by decide)]
      have c6 : M8 (6, 0) = upd (Mi (6, 0)) i (Mi (6, 0) (i + 1)) := by rw [e8, xw_mw_n (by decide), e7, xw_mw_n (by decide), e6, xw_mw_n (by decide), e5, xw_mw_n (by decide), e4, xw_mw_n (by decide), e3, xw_mw_n (by decide), e2, xw_mw_s]
      have ca : ∀ k, 6 ≤ k → k ≤ 12 → M8 (k, 0) = upd (Mi (k, 0)) i (Mi (k, 0) (i + 1)) := fun k k1 k2 => by
        have ks : k = 6 ∨ k = 7 ∨ k = 8 ∨ k = 9 ∨ k = 10 ∨ k = 11 ∨ k = 12 := by omega
        rcases ks with e | e | e | e | e | e | e <;> subst e <;> first | exact c6 | exact c7 | exact c8 | exact c9 | exact c10 | exact c11 | exact c12
      refine ih (i + 1) M8 _ _ ls (by omega) (⟨fun k hk h0 => by rw [eo k hk]; exact hinv.1 k hk h0, fun t ht => by rw [eo 0 (by omega)]; exact hinv.2.1 t ht, by rw [eo 0 (by omega)]; exact hinv.2.2.1, fun k t k1 k2 ht => by rw [ca k k1 k2]; unfold upd; rw [if_neg (by have := hinv.2.2.2.2.2; omega)]; exact hinv.2.2.2.1 k t k1 k2 (by omega), fun k t k1 k2 h1 h2 => by rw [ca k k1 k2]; unfold upd; by_cases e : t = i; (rw [if_pos e, e]; exact hinv.2.2.2.1 k (i + 1) k1 k2 (by omega)); (rw [if_neg e]; exact hinv.2.2.2.2.1 k t k1 k2 h1 (by omega)), by have := hinv.2.2.2.2.2; omega⟩) hw ?_
      exact lv_sub hl [0, 1, 2] rfl
  exact loop12 (S.1.length - 1 - j) (j) M1 _ _ ls (by omega) ⟨fun k _ h0 => by rw [e1, xw_mw_n (fr_pair h0)], fun t ht => by rw [e1, xw_mw_s]; simp [upd, ht], by rw [e1, xw_mw_s]; simp [upd], fun k t _ _ _ => by rw [e1, xw_mw_n (fr_pair (by omega))], fun k t _ _ h1 h2 => by omega, Nat.le_refl _⟩ hw (lv_sub hl [0, 1, 2] rfl)
end
section
/-! What the reference's own ways of counting give. -/
theorem gm_eqd {n q f s : Nat} {S : pz_T} {p p' : pz_P} {M : fr_M} (h : gm_R n q f (pz_pw S s p) M) (he : ∀ k x y, k ≤ 13 → gm_dom k x y → p' k x y = p k x y) (hs : s < 3) : gm_R n q f (pz_pw S s p') M := by
  obtain ⟨a1, a2, a3, a4, a5⟩ := h
  have s3 : ∀ p', (pz_pw S s p').2 3 = S.2 3 := fun p' => pz_w_n (by omega)
  refine ⟨a1, ⟨a2.1, by rw [s3]; have := a2.2; rw [s3] at this; exact this⟩, fun w hw => by rw [s3]; have := a3 w hw; rw [s3] at this; exact this, a4, fun k z x y hk hz hd => ?_⟩
  rw [a5 k z x y hk hz hd]
  by_cases e : z = s
  · subst e; rw [pz_pw_s, pz_pw_s, he k x y hk hd]
  · show nI (pz_w S.2 s p z k x y) = nI (pz_w S.2 s p' z k x y)
    rw [pz_w_n e, pz_w_n e]
def gm_E (S S' : pz_T) : Prop := S'.1 = S.1 ∧ ∀ s k x y, k ≠ 17 → k ≠ 16 → S'.2 s k x y = S.2 s k x y
theorem gm_E_R {n q f : Nat} {S S' : pz_T} {M : fr_M} (h : gm_R n q f S M) (e : gm_E S S') : gm_R n q f S' M := gm_sE h e.1 e.2
theorem gm_E_sd {S S' : pz_T} (h : gm_E S S') (g : pz_M) : gm_E (pz_sd S g) (pz_sd S' g) := by
  obtain ⟨h1, h2⟩ := h
  unfold pz_sd
  rw [h1]
  split
  · exact ⟨rfl, h2⟩
  · refine ⟨rfl, fun s k x y hk hk2 => ?_⟩
    show pz_w S'.2 3 _ s k x y = pz_w S.2 3 _ s k x y
    unfold pz_w
    split
    · unfold pz_u
      rw [h2 3 15 0 0 (by omega) (by omega), h2 3 k x y hk hk2]
    · exact h2 s k x y hk hk2
theorem gm_E_sa {S S' : pz_T} (h : gm_E S S') (kd s r v : Nat) : ∀ i, gm_E (pz_sa kd s r v i S) (pz_sa kd s r v i S')
  | 0 => h
  | i + 1 => gm_E_sd (gm_E_sa h kd s r v i) _
theorem gm_E_pw {S : pz_T} {s : Nat} {p p' : pz_P} (h : ∀ k x y, k ≠ 17 → k ≠ 16 → p' k x y = p k x y) : gm_E (pz_pw S s p) (pz_pw S s p') := by
  refine ⟨rfl, fun z k x y hk hk2 => ?_⟩
  show pz_w S.2 s p' z k x y = pz_w S.2 s p z k x y
  unfold pz_w
  split
  · exact h k x y hk hk2
  · rfl
def pz_clr (p : pz_P) (c i : Nat) : pz_P := fun k x y => if k = 11 ∧ x = c ∧ y < i then 0 else p k x y
theorem pz_clr_0 (p : pz_P) (c : Nat) : pz_clr p c 0 = p := by
  funext k x y; unfold pz_clr; rw [if_neg (by omega)]
theorem pz_clr_s (p : pz_P) (c i : Nat) : pz_u (pz_clr p c i) 11 c i 0 = pz_clr p c (i + 1) := by
  funext k x y
  unfold pz_u pz_clr
  by_cases h : k = 11 ∧ x = c ∧ y = i
  · rw [if_pos h, if_pos (by omega)]
  · rw [if_neg h]
    by_cases h2 : k = 11 ∧ x = c ∧ y < i
    · rw [if_pos h2, if_pos (by omega)]
    · rw [if_neg h2, if_neg (by omega)]
theorem pz_clr_ld {p : pz_P} {c r w k x y : Nat} (hd : gm_dom k x y) : pz_ld p c r w k x y = pz_clr (pz_u (pz_u p 8 c 0 r) 9 c 0 w) c 5 k x y := by
  unfold pz_ld pz_clr pz_u
  unfold gm_dom at hd
  by_cases h8 : x = c ∧ k = 8 ∧ y = 0
  · rw [if_pos h8, if_neg (by omega), if_neg (by omega), if_pos (by omega)]
  · rw [if_neg h8]
    by_cases h9 : x = c ∧ k = 9 ∧ y = 0
    · rw [if_pos h9, if_neg (by omega), if_pos (by omega)]
    · rw [if_neg h9]
      by_cases h11 : x = c ∧ k = 11
      · rw [if_pos h11, if_pos (by omega)]
      · rw [if_neg h11, if_neg (by omega), if_neg (by omega), if_neg (by omega)]
theorem pz_sm_ext {g : Nat → Nat} {n : Nat} : ∀ m, n ≤ m → (∀ a, n ≤ a → a < m → g a = 0) → pz_sm m g = pz_sm n g
  | 0, h, _ => by have e : n = 0 := by omega
                  subst e; rfl
  | m + 1, h, H => by
    by_cases e : n = m + 1
    · subst e; rfl
    · simp only [pz_sm]
      rw [H m (by omega) (by omega), pz_sm_ext m (by omega) (fun a h1 h2 => H a h1 (by omega))]; rfl
def pz_sc (n : Nat) (p : pz_P) (c r : Nat) : Nat → Nat
  | 0 => 0
  | i + 1 => if 0 < pz_tf n p c r (1000 - i) then 1000 - i else pz_sc n p c r i
theorem pz_sc_ex {n : Nat} {p : pz_P} {c r : Nat} : ∀ i, i ≤ 1000 → (pz_sc n p c r i = 0 ∧ ∀ v, 1000 - i < v → v ≤ 1000 → pz_tf n p c r v = 0) ∨ (1000 - i < pz_sc n p c r i ∧ pz_sc n p c r i ≤ 1000 ∧ 0 < pz_tf n p c r (pz_sc n p c r i) ∧ ∀ v, 1000 - i < v → v < pz_sc n p c r i → pz_tf n p c r v = 0)
  | 0, _ => Or.inl ⟨rfl, fun v h1 h2 => by omega⟩
  | i + 1, hi => by
    simp only [pz_sc]
    by_cases e : 0 < pz_tf n p c r (1000 - i)
    · rw [if_pos e]; exact Or.inr ⟨by omega, by omega, e, fun v h1 h2 => by omega⟩
    · rw [if_neg e]
      rcases pz_sc_ex (n := n) (p := p) (c := c) (r := r) i (by omega) with ⟨z1, z2⟩ | ⟨z1, z2, z3, z4⟩
      · refine Or.inl ⟨z1, fun v h1 h2 => ?_⟩
        by_cases ev : v = 1000 - i
        · subst ev; omega
        · exact z2 v (by omega) h2
      · refine Or.inr ⟨by omega, z2, z3, fun v h1 h2 => ?_⟩
        by_cases ev : v = 1000 - i
        · subst ev; omega
        · exact z4 v (by omega) h2
theorem pz_ls_min {p : pz_P} {c r : Nat} : ∀ n, (∀ b, b < n → p 11 c b ≠ 0 → p 13 c b = r → p 12 c b ≠ 0) → ∀ a, a < n → p 11 c a ≠ 0 → p 13 c a = r → pz_ls p c r n ≤ p 12 c a
  | 0, _, a, h, _, _ => absurd h (Nat.not_lt_zero a)
  | k + 1, H, a, h1, h2, h3 => by
    simp only [pz_ls]
    by_cases e : p 11 c k ≠ 0 ∧ p 13 c k = r ∧ (pz_ls p c r k = 0 ∨ p 12 c k < pz_ls p c r k)
    · rw [if_pos e]
      by_cases ea : a = k
      · subst ea; exact Nat.le_refl _
      · have i1 := pz_ls_min k (fun b hb => H b (by omega)) a (by omega) h2 h3
        have i2 := pz_ls_ne k (fun b hb => H b (by omega)) ⟨a, by omega, h2, h3⟩
        omega
    · rw [if_neg e]
      by_cases ea : a = k
      · subst ea
        have : ¬ (pz_ls p c r a = 0 ∨ p 12 c a < pz_ls p c r a) := fun z => e ⟨h2, h3, z⟩
        omega
      · exact pz_ls_min k (fun b hb => H b (by omega)) a (by omega) h2 h3
theorem pz_tf_pos {n : Nat} {p : pz_P} {c r v : Nat} : 0 < pz_tf n p c r v ↔ ∃ a, a < n ∧ p 11 c a ≠ 0 ∧ p 13 c a = r ∧ p 12 c a = v := by
  constructor
  · intro h
    obtain ⟨a, ha, e⟩ := pz_sm_pos n h
    by_cases z : p 11 c a ≠ 0 ∧ p 13 c a = r ∧ p 12 c a = v
    · exact ⟨a, ha, z⟩
    · rw [if_neg z] at e; exact absurd e (Nat.lt_irrefl 0)
  · rintro ⟨a, ha, z⟩
    have := pz_sm_one (g := fun a => if p 11 c a ≠ 0 ∧ p 13 c a = r ∧ p 12 c a = v then 1 else 0) n a ha
    rw [if_pos z] at this
    exact this
theorem pz_sc_ls {n : Nat} {p : pz_P} {c r : Nat} (H : ∀ a, a < n → p 11 c a ≠ 0 → p 13 c a = r → p 12 c a ≠ 0 ∧ p 12 c a ≤ 1000) : pz_sc n p c r 1000 = pz_ls p c r n := by
  have nz : ∀ b, b < n → p 11 c b ≠ 0 → p 13 c b = r → p 12 c b ≠ 0 := fun b hb h1 h2 => (H b hb h1 h2).1
  rcases pz_ls_ex p c r n with z | ⟨b, b1, b2, b3, b4⟩
  · rcases pz_sc_ex (n := n) (p := p) (c := c) (r := r) 1000 (Nat.le_refl _) with ⟨y, -⟩ | ⟨y1, y2, y3, y4⟩
    · rw [y, z]
    · obtain ⟨a, a1, a2, a3, a4⟩ := pz_tf_pos.mp y3
      exact absurd z (pz_ls_ne n nz ⟨a, a1, a2, a3⟩)
  · have hb := H b b1 b2 b3
    have tfb : 0 < pz_tf n p c r (pz_ls p c r n) := pz_tf_pos.mpr ⟨b, b1, b2, b3, b4⟩
    rcases pz_sc_ex (n := n) (p := p) (c := c) (r := r) 1000 (Nat.le_refl _) with ⟨y, y2⟩ | ⟨y1, y2, y3, y4⟩
    · have := y2 (pz_ls p c r n) (by omega) (by omega)
      omega
    · obtain ⟨a, a1, a2, a3, a4⟩ := pz_tf_pos.mp y3
      have m := pz_ls_min n nz a a1 a2 a3
      by_cases e : pz_ls p c r n < pz_sc n p c r 1000
      · have := y4 (pz_ls p c r n) (by omega) e
        omega
      · omega
theorem pz_tf_te {n : Nat} {p : pz_P} {c r v : Nat} (h : ∀ a, p 11 c a ≤ 1) : pz_tf n p c r v ≤ pz_te n p c := pz_sm_le n (fun a _ => by
  by_cases z : p 11 c a ≠ 0 ∧ p 13 c a = r ∧ p 12 c a = v
  · rw [if_pos z]; omega
  · rw [if_neg z]; exact Nat.zero_le _)
theorem xi_dec1 {a b : Nat} (h : a = b + 1) : nI a + Int32.ofInt (-1) = nI b := by subst h; rw [litm1]; exact pk_m1 b
end
