section
/-! Pure part 1: one slot of the protocol (p k x y: what is kept, by kind, place and place), its invariant, what keeps it, and that no two values are chosen. -/
def pz_sm : Nat → (Nat → Nat) → Nat
  | 0, _ => 0
  | k + 1, g => pz_sm k g + g k
theorem pz_sm_le {g h : Nat → Nat} : ∀ (n : Nat), (∀ a, a < n → g a ≤ h a) → pz_sm n g ≤ pz_sm n h
  | 0, _ => Nat.le_refl _
  | k + 1, H => Nat.add_le_add (pz_sm_le k (fun a ha => H a (Nat.lt_succ_of_lt ha))) (H k (Nat.lt_succ_self k))
theorem pz_sm_eq {g h : Nat → Nat} (n : Nat) (H : ∀ a, a < n → g a = h a) : pz_sm n g = pz_sm n h :=
  Nat.le_antisymm (pz_sm_le n (fun a ha => Nat.le_of_eq (H a ha))) (pz_sm_le n (fun a ha => Nat.le_of_eq (H a ha).symm))
theorem pz_sm_add (g h : Nat → Nat) : ∀ n : Nat, pz_sm n (fun a => g a + h a) = pz_sm n g + pz_sm n h
  | 0 => rfl
  | k + 1 => by simp only [pz_sm, pz_sm_add g h k]; omega
theorem pz_sm_const (c : Nat) : ∀ n : Nat, pz_sm n (fun _ => c) = n * c
  | 0 => by simp [pz_sm]
  | k + 1 => by simp only [pz_sm, pz_sm_const c k, Nat.succ_mul]
theorem pz_sm_pos {g : Nat → Nat} : ∀ n : Nat, 0 < pz_sm n g → ∃ a, a < n ∧ 0 < g a
  | 0, h => absurd h (Nat.lt_irrefl 0)
  | k + 1, h => by
    by_cases h1 : 0 < pz_sm k g
    · obtain ⟨a, h2, h3⟩ := pz_sm_pos k h1
      exact ⟨a, Nat.lt_succ_of_lt h2, h3⟩
    · simp only [pz_sm] at h
      exact ⟨k, Nat.lt_succ_self k, by omega⟩
theorem pz_sm_one {g : Nat → Nat} : ∀ (n : Nat) (a : Nat), a < n → g a ≤ pz_sm n g
  | 0, a, h => absurd h (Nat.not_lt_zero a)
  | k + 1, a, h => by
    simp only [pz_sm]
    by_cases e : a = k
    · subst e; omega
    · have := pz_sm_one (g := g) k a (by omega)
      omega
theorem pz_sm_zero {g : Nat → Nat} (n : Nat) (h : ∀ a, a < n → g a = 0) : pz_sm n g = 0 := by
  rw [pz_sm_eq (h := fun _ => 0) n h, pz_sm_const, Nat.mul_zero]
theorem pz_count {n : Nat} {u v z : Nat → Nat} (H : ∀ a, a < n → u a + v a ≤ 1 + z a) : pz_sm n u + pz_sm n v ≤ n + pz_sm n z := by
  have h := pz_sm_le (g := fun a => u a + v a) (h := fun a => 1 + z a) n H
  rw [pz_sm_add, pz_sm_add (fun _ => 1), pz_sm_const] at h
  omega
theorem pz_count2 {n : Nat} {u v z : Nat → Nat} (H : ∀ a, a < n → u a + v a ≤ z a) : pz_sm n u + pz_sm n v ≤ pz_sm n z := by
  have h := pz_sm_le (g := fun a => u a + v a) (h := z) n H
  rw [pz_sm_add] at h
  exact h

abbrev pz_P : Type := Nat → Nat → Nat → Nat
/-- of a round: its coordinator, 0 or 1 -/
def pz_ci (r : Nat) : Nat := if (r + 1) / 2 % 2 = 1 then 0 else 1
theorem pz_ci_lt (r : Nat) : pz_ci r < 2 := by unfold pz_ci; split <;> omega
theorem pz_ci_succ {r : Nat} (h : r % 2 = 1) : pz_ci (r + 1) = pz_ci r := by
  unfold pz_ci
  have e : (r + 1 + 1) / 2 = (r + 1) / 2 := by omega
  rw [e]
/-- of a round: how many votes choose -/
def pz_en (q f r : Nat) : Nat := if r % 2 = 1 then f else q
/-- the sizes -/
def pz_Q (n q f : Nat) : Prop := 3 ≤ n ∧ n ≤ 5 ∧ 1 ≤ q ∧ q ≤ n ∧ 1 ≤ f ∧ f ≤ n ∧ n < 2 * q ∧ 2 * n < q + 2 * f
theorem pz_en_pos {n q f : Nat} (Q : pz_Q n q f) (r : Nat) : 0 < pz_en q f r := by
  obtain ⟨q1, q2, q3, q4, q5, q6, q7, q8⟩ := Q
  unfold pz_en; split <;> omega
theorem pz_en_two {n q f : Nat} (Q : pz_Q n q f) (r : Nat) : n < 2 * pz_en q f r := by
  obtain ⟨q1, q2, q3, q4, q5, q6, q7, q8⟩ := Q
  unfold pz_en; split <;> omega
theorem pz_en_q {n q f : Nat} (Q : pz_Q n q f) (r : Nat) : n < q + pz_en q f r := by
  obtain ⟨q1, q2, q3, q4, q5, q6, q7, q8⟩ := Q
  unfold pz_en; split <;> omega
/-- who has voted for w in r, or still can -/
def pz_cc (p : pz_P) (n r w : Nat) : Nat := pz_sm n (fun a => if p 5 r a = w ∨ (p 5 r a = 0 ∧ p 0 a 0 ≤ r) then 1 else 0)
def pz_cv (p : pz_P) (n r w : Nat) : Nat := pz_sm n (fun a => if p 5 r a = w then 1 else 0)
theorem pz_cv_le (p : pz_P) (n r w : Nat) : pz_cv p n r w ≤ pz_cc p n r w := by
  unfold pz_cv pz_cc
  refine pz_sm_le n (fun a _ => ?_)
  by_cases h : p 5 r a = w
  · rw [if_pos h, if_pos (Or.inl h)]; exact Nat.le_refl 1
  · rw [if_neg h]; exact Nat.zero_le _
/-- w can't be chosen in r any more -/
def pz_ND (n q f : Nat) (p : pz_P) (r w : Nat) : Prop := pz_cc p n r w < pz_en q f r
/-- what a promise for r says of a's votes -/
def pz_PF (p : pz_P) (r a v k : Nat) : Prop := r ≤ p 0 a 0 ∧ k < r ∧ (∀ x, x < r → p 5 x a ≠ 0 → x ≤ k) ∧ ((k = 0 ∧ v = 0) ∨ (0 < k ∧ p 5 k a = v ∧ v ≠ 0))
/-- time goes on: rounds don't fall, votes stay, and what was asked for stays -/
def pz_St (n : Nat) (p p' : pz_P) : Prop := (∀ a, a < n → p 0 a 0 ≤ p' 0 a 0) ∧ (∀ r a, a < n → p' 5 r a = p 5 r a ∨ (p 5 r a = 0 ∧ p 0 a 0 ≤ r)) ∧ ∀ r, p 17 r 0 ≠ 0 → p' 17 r 0 = p 17 r 0
theorem pz_St_same {n : Nat} {p p' : pz_P} (h0 : ∀ a, p' 0 a 0 = p 0 a 0) (h5 : ∀ r a, p' 5 r a = p 5 r a) (h17 : ∀ r, p 17 r 0 ≠ 0 → p' 17 r 0 = p 17 r 0) : pz_St n p p' :=
  ⟨fun a _ => Nat.le_of_eq (h0 a).symm, fun r a _ => Or.inl (h5 r a), h17⟩
theorem pz_ND_st {n q f : Nat} {p p' : pz_P} (h : pz_St n p p') {x w : Nat} (k : pz_ND n q f p x w) : pz_ND n q f p' x w := by
  unfold pz_ND at k ⊢
  refine Nat.lt_of_le_of_lt ?_ k
  unfold pz_cc
  refine pz_sm_le n (fun a ha => ?_)
  have h0 := h.1 a ha
  by_cases c' : p' 5 x a = w ∨ (p' 5 x a = 0 ∧ p' 0 a 0 ≤ x)
  · have c : p 5 x a = w ∨ (p 5 x a = 0 ∧ p 0 a 0 ≤ x) := by
      rcases h.2.1 x a ha with e | ⟨e1, e2⟩
      · rw [e] at c'
        rcases c' with c' | ⟨c1, c2⟩
        · exact Or.inl c'
        · exact Or.inr ⟨c1, by omega⟩
      · exact Or.inr ⟨e1, e2⟩
    rw [if_pos c', if_pos c]; exact Nat.le_refl 1
  · rw [if_neg c']; exact Nat.zero_le _
theorem pz_vd_st {n : Nat} {p p' : pz_P} (h : pz_St n p p') {r a v : Nat} (ha : a < n) (e : p 5 r a = v) (hv : v ≠ 0) : p' 5 r a = v := by
  rcases h.2.1 r a ha with e1 | ⟨e1, -⟩
  · rw [e1]; exact e
  · exact absurd (e.symm.trans e1) hv
theorem pz_PF_st {n : Nat} {p p' : pz_P} (h : pz_St n p p') {r a v k : Nat} (ha : a < n) (g : pz_PF p r a v k) : pz_PF p' r a v k := by
  obtain ⟨h1, h2, h3, h4⟩ := g
  refine ⟨Nat.le_trans h1 (h.1 a ha), h2, fun x hx hne => ?_, ?_⟩
  · rcases h.2.1 x a ha with e | ⟨e1, e2⟩
    · exact h3 x hx (by rw [← e]; exact hne)
    · omega
  · rcases h4 with h4 | ⟨g1, g2, g3⟩
    · exact Or.inl h4
    · exact Or.inr ⟨g1, pz_vd_st h ha g2 g3, g3⟩
theorem pz_PF_eq {p : pz_P} {r a v k v' k' : Nat} (h1 : pz_PF p r a v k) (h2 : pz_PF p r a v' k') : v = v' ∧ k = k' := by
  obtain ⟨-, b1, c1, d1⟩ := h1
  obtain ⟨-, b2, c2, d2⟩ := h2
  rcases d1 with ⟨x1, y1⟩ | ⟨x1, y1, z1⟩ <;> rcases d2 with ⟨x2, y2⟩ | ⟨x2, y2, z2⟩
  · exact ⟨by omega, by omega⟩
  · have := c1 k' b2 (by rw [y2]; exact z2)
    omega
  · have := c2 k b1 (by rw [y1]; exact z1)
    omega
  · have e1 := c2 k b1 (by rw [y1]; exact z1)
    have e2 := c1 k' b2 (by rw [y2]; exact z2)
    have e : k = k' := by omega
    subst e
    exact ⟨y1.symm.trans y2, rfl⟩

/-- the acceptors' votes -/
def pz_A (n : Nat) (p : pz_P) : Prop := ∀ a, a < n → p 2 a 0 ≤ p 0 a 0 ∧ p 0 a 0 ≤ 12 ∧ (∀ r, p 5 r a ≠ 0 → 1 ≤ r ∧ r ≤ p 2 a 0 ∧ p 5 r a ≤ 1000) ∧ ((p 2 a 0 = 0 ∧ p 1 a 0 = 0) ∨ (0 < p 2 a 0 ∧ p 5 (p 2 a 0) a = p 1 a 0 ∧ p 1 a 0 ≠ 0))
/-- where an acceptor may vote for what it hears first -/
def pz_O (n : Nat) (p : pz_P) : Prop := ∀ a, a < n → p 4 a 0 ≤ p 0 a 0 ∧ p 3 a 0 ≤ 1000 ∧ (0 < p 0 a 0 → p 4 a 0 = p 0 a 0 → p 17 (p 0 a 0) 0 = 1 ∧ (p 3 a 0 ≠ 0 → p 2 a 0 = p 0 a 0))
/-- what was asked for in a round: 0 nothing, 1 any, v + 1 the value v -/
def pz_G1 (p : pz_P) : Prop := ∀ r, p 17 r 0 ≠ 0 → 1 ≤ r ∧ r ≤ 12 ∧ r ≤ p 8 (pz_ci r) 0 ∧ (p 8 (pz_ci r) 0 = r → p 9 (pz_ci r) 0 = 3) ∧ p 17 r 0 ≤ 1001 ∧ (p 17 r 0 = 1 → r % 2 = 1)
def pz_G2 (n : Nat) (p : pz_P) : Prop := ∀ r a, a < n → p 5 r a ≠ 0 → p 17 r 0 = 1 ∨ p 17 r 0 = p 5 r a + 1
def pz_G3 (n q f : Nat) (p : pz_P) : Prop := ∀ x r w, p 17 r 0 ≠ 0 → 1 ≤ x → x < r → w ≠ 0 → p 17 r 0 ≠ w + 1 → pz_ND n q f p x w
/-- a coordinator -/
def pz_Cc (n q f : Nat) (p : pz_P) (c : Nat) : Prop := p 8 c 0 ≤ 12 ∧ p 9 c 0 ≤ 3 ∧ p 10 c 0 ≤ 1000 ∧ (p 9 c 0 ≠ 0 → 1 ≤ p 8 c 0 ∧ pz_ci (p 8 c 0) = c) ∧ (∀ a, p 11 c a ≤ 1) ∧
  (p 9 c 0 = 1 → pz_sm n (fun a => p 11 c a) < q ∧ ∀ a, a < n → p 11 c a ≠ 0 → pz_PF p (p 8 c 0) a (p 12 c a) (p 13 c a)) ∧
  (p 9 c 0 = 2 → p 10 c 0 = 0 ∧ p 8 c 0 % 2 = 0 ∧ (∀ a, p 11 c a = 0) ∧ ∀ x w, 1 ≤ x → x < p 8 c 0 → w ≠ 0 → pz_ND n q f p x w) ∧
  (p 9 c 0 = 3 → p 17 (p 8 c 0) 0 ≠ 0 ∧ ∀ a, a < n → p 11 c a ≠ 0 → p 13 c a = p 8 c 0 ∧ p 5 (p 8 c 0) a = p 12 c a ∧ p 12 c a ≠ 0)
/-- no acceptor but the n -/
def pz_Z (n : Nat) (p : pz_P) : Prop := ∀ r a, n ≤ a → p 5 r a = 0 ∧ p 6 r a = 0
/-- the first value that was chosen -/
def pz_S (n q f : Nat) (p : pz_P) : Prop := (p 16 0 0 = 0 ∧ ∀ r w, w ≠ 0 → pz_cv p n r w < pz_en q f r) ∨ (p 16 0 0 ≠ 0 ∧ ∃ r, pz_en q f r ≤ pz_cv p n r (p 16 0 0))
def pz_IV (n q f : Nat) (p : pz_P) : Prop := pz_A n p ∧ pz_O n p ∧ pz_G1 p ∧ pz_G2 n p ∧ pz_G3 n q f p ∧ (∀ c, c < 2 → pz_Cc n q f p c) ∧ pz_Z n p ∧ pz_S n q f p

theorem pz_Cc_st {n q f : Nat} {p p' : pz_P} (h : pz_St n p p') {c : Nat} (hk : ∀ k y, 8 ≤ k → k ≤ 13 → p' k c y = p k c y) (C : pz_Cc n q f p c) : pz_Cc n q f p' c := by
  obtain ⟨c1, c2, c3, c4, c5, c6, c7, c8⟩ := C
  have e8 := hk 8 0 (by omega) (by omega)
  have e9 := hk 9 0 (by omega) (by omega)
  have e10 := hk 10 0 (by omega) (by omega)
  have e11 : ∀ a, p' 11 c a = p 11 c a := fun a => hk 11 a (by omega) (by omega)
  have e12 : ∀ a, p' 12 c a = p 12 c a := fun a => hk 12 a (by omega) (by omega)
  have e13 : ∀ a, p' 13 c a = p 13 c a := fun a => hk 13 a (by omega) (by omega)
  unfold pz_Cc
  simp only [e8, e9, e10, e11, e12, e13]
  refine ⟨c1, c2, c3, c4, c5, fun z => ⟨(c6 z).1, fun a ha t => pz_PF_st h ha ((c6 z).2 a ha t)⟩, fun z => ?_, fun z => ?_⟩
  · obtain ⟨d1, d2, d3, d4⟩ := c7 z
    exact ⟨d1, d2, d3, fun x w hx hr hw => pz_ND_st h (d4 x w hx hr hw)⟩
  · obtain ⟨d1, d2⟩ := c8 z
    refine ⟨by rw [h.2.2 _ d1]; exact d1, fun a ha t => ?_⟩
    obtain ⟨g1, g2, g3⟩ := d2 a ha t
    exact ⟨g1, pz_vd_st h ha g2 g3, g3⟩
theorem pz_G3_st {n q f : Nat} {p p' : pz_P} (h : pz_St n p p') (h17 : ∀ r, p' 17 r 0 = p 17 r 0) (G : pz_G3 n q f p) : pz_G3 n q f p' := by
  intro x r w h1 h2 h3 h4 h5
  rw [h17] at h1 h5
  exact pz_ND_st h (G x r w h1 h2 h3 h4 h5)
/-- no two values are chosen -/
theorem pz_uniq_lt {n q f : Nat} {p : pz_P} (Q : pz_Q n q f) (I : pz_IV n q f p) {x y v w : Nat} (hxy : x < y) (hv : v ≠ 0) (hw : w ≠ 0) (h1 : pz_en q f x ≤ pz_cv p n x v) (h2 : pz_en q f y ≤ pz_cv p n y w) : v = w := by
  obtain ⟨A, -, -, G2, G3, -, -, -⟩ := I
  have p1 := pz_en_pos Q x
  have p2 := pz_en_pos Q y
  obtain ⟨a, ha, ea⟩ := pz_sm_pos n (Nat.lt_of_lt_of_le p1 h1)
  obtain ⟨b, hb, eb⟩ := pz_sm_pos n (Nat.lt_of_lt_of_le p2 h2)
  have ea : p 5 x a = v := by
    by_cases z : p 5 x a = v
    · exact z
    · rw [if_neg z] at ea; exact absurd ea (Nat.lt_irrefl 0)
  have eb : p 5 y b = w := by
    by_cases z : p 5 y b = w
    · exact z
    · rw [if_neg z] at eb; exact absurd eb (Nat.lt_irrefl 0)
  have hx1 := ((A a ha).2.2.1 x (by rw [ea]; exact hv)).1
  by_cases e : v = w
  · exact e
  · have g := G2 y b hb (by rw [eb]; exact hw)
    rw [eb] at g
    have nd : pz_ND n q f p x v := G3 x y v (by omega) hx1 hxy hv (by omega)
    have := pz_cv_le p n x v
    unfold pz_ND at nd
    omega
theorem pz_uniq {n q f : Nat} {p : pz_P} (Q : pz_Q n q f) (I : pz_IV n q f p) {x y v w : Nat} (hv : v ≠ 0) (hw : w ≠ 0) (h1 : pz_en q f x ≤ pz_cv p n x v) (h2 : pz_en q f y ≤ pz_cv p n y w) : v = w := by
  rcases Nat.lt_trichotomy x y with h | h | h
  · exact pz_uniq_lt Q I h hv hw h1 h2
  · subst h
    by_cases e : v = w
    · exact e
    · have k : pz_cv p n x v + pz_cv p n x w ≤ pz_sm n (fun _ => 1) := by
        unfold pz_cv
        refine pz_count2 (fun a _ => ?_)
        by_cases e1 : p 5 x a = v
        · rw [if_pos e1, if_neg (fun z => e (e1.symm.trans z))]; exact Nat.le_refl 1
        · rw [if_neg e1]; split <;> omega
      rw [pz_sm_const] at k
      have := pz_en_two Q x
      omega
  · exact (pz_uniq_lt Q I h hw hv h2 h1).symm
end
section
/-! Pure part 2: what an acceptor's and a coordinator's steps keep. -/
def pz_u (p : pz_P) (k x y v : Nat) : pz_P := fun k' x' y' => if k' = k ∧ x' = x ∧ y' = y then v else p k' x' y'
theorem pz_u_s (p : pz_P) (k x y v : Nat) : pz_u p k x y v k x y = v := by simp [pz_u]
theorem pz_u_k {p : pz_P} {k x y v k' x' y' : Nat} (h : k' ≠ k) : pz_u p k x y v k' x' y' = p k' x' y' := by simp [pz_u, h]
theorem pz_u_x {p : pz_P} {k x y v k' x' y' : Nat} (h : x' ≠ x) : pz_u p k x y v k' x' y' = p k' x' y' := by simp [pz_u, h]
theorem pz_u_y {p : pz_P} {k x y v k' x' y' : Nat} (h : y' ≠ y) : pz_u p k x y v k' x' y' = p k' x' y' := by simp [pz_u, h]
/-- an acceptor's step without a vote -/
theorem pz_acc0 {n q f : Nat} {p p' : pz_P} {b : Nat} (I : pz_IV n q f p) (hk : ∀ k x y, 5 ≤ k → p' k x y = p k x y) (ho : ∀ k a, k ≤ 4 → a ≠ b → p' k a 0 = p k a 0)
    (h1 : p' 1 b 0 = p 1 b 0) (h2 : p' 2 b 0 = p 2 b 0) (h0 : p 0 b 0 ≤ p' 0 b 0) (h12 : p' 0 b 0 ≤ 12)
    (hO : p' 4 b 0 ≤ p' 0 b 0 ∧ p' 3 b 0 ≤ 1000 ∧ (0 < p' 0 b 0 → p' 4 b 0 = p' 0 b 0 → p 17 (p' 0 b 0) 0 = 1 ∧ (p' 3 b 0 ≠ 0 → p 2 b 0 = p' 0 b 0))) : pz_IV n q f p' ∧ pz_St n p p' := by
  obtain ⟨A, O, G1, G2, G3, C, Z, S⟩ := I
  have e5 : ∀ r a, p' 5 r a = p 5 r a := fun r a => hk 5 r a (by omega)
  have e17 : ∀ r, p' 17 r 0 = p 17 r 0 := fun r => hk 17 r 0 (by omega)
  have st : pz_St n p p' := by
    refine ⟨fun a _ => ?_, fun r a _ => Or.inl (e5 r a), fun r _ => e17 r⟩
    by_cases e : a = b
    · subst e; exact h0
    · rw [ho 0 a (by omega) e]; exact Nat.le_refl _
  refine ⟨⟨?_, ?_, ?_, ?_, pz_G3_st st e17 G3, fun c hc => pz_Cc_st st (fun k y _ _ => hk k c y (by omega)) (C c hc), ?_, ?_⟩, st⟩
  · intro a ha
    obtain ⟨a1, a2, a3, a4⟩ := A a ha
    by_cases e : a = b
    · subst e
      rw [h1, h2]
      refine ⟨by omega, h12, fun r hr => ?_, ?_⟩
      · rw [e5] at hr ⊢; exact a3 r hr
      · rw [e5]; exact a4
    · rw [ho 0 a (by omega) e, ho 1 a (by omega) e, ho 2 a (by omega) e]
      refine ⟨a1, a2, fun r hr => ?_, ?_⟩
      · rw [e5] at hr ⊢; exact a3 r hr
      · rw [e5]; exact a4
  · intro a ha
    by_cases e : a = b
    · subst e
      rw [h2, e17]
      exact hO
    · rw [ho 0 a (by omega) e, ho 2 a (by omega) e, ho 3 a (by omega) e, ho 4 a (by omega) e, e17]
      exact O a ha
  · intro r hr
    rw [e17] at hr
    rw [e17, hk 8 _ 0 (by omega), hk 9 _ 0 (by omega)]
    exact G1 r hr
  · intro r a ha hr
    rw [e5] at hr
    rw [e5, e17]
    exact G2 r a ha hr
  · intro r a ha
    rw [e5, hk 6 r a (by omega)]
    exact Z r a ha
  · have ec : ∀ r w, pz_cv p' n r w = pz_cv p n r w := fun r w => by unfold pz_cv; simp only [e5]
    unfold pz_S
    rw [hk 16 0 0 (by omega)]
    simp only [ec]
    exact S
/-- an acceptor votes -/
theorem pz_acc1 {n q f : Nat} {p p' : pz_P} {b r v : Nat} (Q : pz_Q n q f) (hb : b < n) (I : pz_IV n q f p) (hk : ∀ k x y, 6 ≤ k → k ≠ 16 → p' k x y = p k x y) (ho : ∀ k a, k ≤ 4 → a ≠ b → p' k a 0 = p k a 0)
    (h5 : ∀ x a, ¬ (x = r ∧ a = b) → p' 5 x a = p 5 x a) (h5' : p' 5 r b = v) (h1 : p' 1 b 0 = v) (h2 : p' 2 b 0 = r) (h0 : p' 0 b 0 = r) (hr0 : p 0 b 0 ≤ r) (hr12 : r ≤ 12) (hr2 : p 2 b 0 < r) (hv : v ≠ 0) (hv2 : v ≤ 1000)
    (hg : p 17 r 0 = 1 ∨ p 17 r 0 = v + 1) (hO4 : p' 4 b 0 ≤ r) (hO3 : p' 3 b 0 ≤ 1000) (hO : p' 4 b 0 = r → p 17 r 0 = 1)
    (hS : p' 16 0 0 = if p 16 0 0 = 0 ∧ pz_en q f r ≤ pz_cv p' n r v then v else p 16 0 0) : pz_IV n q f p' ∧ pz_St n p p' := by
  obtain ⟨A, O, G1, G2, G3, C, Z, S⟩ := I
  have e17 : ∀ r, p' 17 r 0 = p 17 r 0 := fun r => hk 17 r 0 (by omega) (by omega)
  have old : p 5 r b = 0 := by
    by_cases z : p 5 r b = 0
    · exact z
    · have := ((A b hb).2.2.1 r z).2.1
      omega
  have st : pz_St n p p' := by
    refine ⟨fun a _ => ?_, fun x a _ => ?_, fun r _ => e17 r⟩
    · by_cases e : a = b
      · subst e; omega
      · rw [ho 0 a (by omega) e]; exact Nat.le_refl _
    · by_cases e : x = r ∧ a = b
      · obtain ⟨rfl, rfl⟩ := e
        exact Or.inr ⟨old, hr0⟩
      · exact Or.inl (h5 x a e)
  refine ⟨⟨?_, ?_, ?_, ?_, pz_G3_st st e17 G3, fun c hc => pz_Cc_st st (fun k y _ _ => hk k c y (by omega) (by omega)) (C c hc), ?_, ?_⟩, st⟩
  · intro a ha
    obtain ⟨a1, a2, a3, a4⟩ := A a ha
    by_cases e : a = b
    · subst e
      rw [h1, h2, h0]
      refine ⟨Nat.le_refl _, hr12, fun x hx => ?_, Or.inr ⟨by omega, h5', hv⟩⟩
      by_cases ex : x = r
      · subst ex
        rw [h5']
        exact ⟨by omega, Nat.le_refl _, hv2⟩
      · rw [h5 x a (fun z => ex z.1)] at hx ⊢
        obtain ⟨b1, b2, b3⟩ := a3 x hx
        exact ⟨b1, by omega, b3⟩
    · have e5 : ∀ x, p' 5 x a = p 5 x a := fun x => h5 x a (fun z => e z.2)
      rw [ho 0 a (by omega) e, ho 1 a (by omega) e, ho 2 a (by omega) e]
      refine ⟨a1, a2, fun x hx => ?_, ?_⟩
      · rw [e5] at hx ⊢; exact a3 x hx
      · rw [e5]; exact a4
  · intro a ha
    by_cases e : a = b
    · subst e
      rw [h2, h0, e17]
      exact ⟨hO4, hO3, fun _ z => ⟨hO z, fun _ => rfl⟩⟩
    · rw [ho 0 a (by omega) e, ho 2 a (by omega) e, ho 3 a (by omega) e, ho 4 a (by omega) e, e17]
      exact O a ha
  · intro x hx
    rw [e17] at hx
    rw [e17, hk 8 _ 0 (by omega) (by omega), hk 9 _ 0 (by omega) (by omega)]
    exact G1 x hx
  · intro x a ha hx
    rw [e17]
    by_cases e : x = r ∧ a = b
    · obtain ⟨rfl, rfl⟩ := e
      rw [h5']
      exact hg
    · rw [h5 x a e] at hx ⊢
      exact G2 x a ha hx
  · intro x a ha
    rw [h5 x a (fun z => by omega), hk 6 x a (by omega) (by omega)]
    exact Z x a ha
  · rcases S with ⟨s1, s2⟩ | ⟨s1, x, s2⟩
    · by_cases z : pz_en q f r ≤ pz_cv p' n r v
      · rw [if_pos ⟨s1, z⟩] at hS
        exact Or.inr ⟨by rw [hS]; exact hv, r, by rw [hS]; exact z⟩
      · rw [if_neg (fun y => z y.2), s1] at hS
        refine Or.inl ⟨hS, fun x w hw => ?_⟩
        by_cases e : x = r ∧ w = v
        · obtain ⟨rfl, rfl⟩ := e
          omega
        · refine Nat.lt_of_le_of_lt ?_ (s2 x w hw)
          unfold pz_cv
          refine pz_sm_le n (fun a _ => ?_)
          by_cases ea : x = r ∧ a = b
          · obtain ⟨rfl, rfl⟩ := ea
            rw [h5', if_neg (fun y => e ⟨rfl, y.symm⟩)]
            exact Nat.zero_le _
          · rw [h5 x a ea]; exact Nat.le_refl _
    · rw [if_neg (fun y => s1 y.1)] at hS
      refine Or.inr ⟨by rw [hS]; exact s1, x, Nat.le_trans s2 ?_⟩
      rw [hS]
      unfold pz_cv
      refine pz_sm_le n (fun a ha => ?_)
      by_cases ea : p 5 x a = p 16 0 0
      · rw [if_pos ea, if_pos (pz_vd_st st ha ea s1)]; exact Nat.le_refl _
      · rw [if_neg ea]; exact Nat.zero_le _
/-- a coordinator's step that asks for nothing -/
theorem pz_cor0 {n q f : Nat} {p p' : pz_P} {c : Nat} (I : pz_IV n q f p) (hk : ∀ k x y, k ≤ 7 ∨ 14 ≤ k → p' k x y = p k x y) (ho : ∀ k d y, 8 ≤ k → k ≤ 13 → d ≠ c → p' k d y = p k d y)
    (hG : ∀ r, p 17 r 0 ≠ 0 → pz_ci r = c → r ≤ p' 8 c 0 ∧ (p' 8 c 0 = r → p' 9 c 0 = 3)) (hC : pz_St n p p' → pz_Cc n q f p' c) : pz_IV n q f p' ∧ pz_St n p p' := by
  obtain ⟨A, O, G1, G2, G3, C, Z, S⟩ := I
  have e17 : ∀ r, p' 17 r 0 = p 17 r 0 := fun r => hk 17 r 0 (by omega)
  have e5 : ∀ r a, p' 5 r a = p 5 r a := fun r a => hk 5 r a (by omega)
  have st : pz_St n p p' := pz_St_same (fun a => hk 0 a 0 (by omega)) e5 (fun r _ => e17 r)
  refine ⟨⟨?_, ?_, ?_, ?_, pz_G3_st st e17 G3, fun d hd => ?_, ?_, ?_⟩, st⟩
  · intro a ha
    rw [hk 0 a 0 (by omega), hk 1 a 0 (by omega), hk 2 a 0 (by omega)]
    simp only [e5]
    exact A a ha
  · intro a ha
    rw [hk 0 a 0 (by omega), hk 2 a 0 (by omega), hk 3 a 0 (by omega), hk 4 a 0 (by omega), e17]
    exact O a ha
  · intro r hr
    rw [e17] at hr
    obtain ⟨g1, g2, g3, g4, g5, g6⟩ := G1 r hr
    rw [e17]
    by_cases e : pz_ci r = c
    · rw [e]
      obtain ⟨k1, k2⟩ := hG r hr e
      exact ⟨g1, g2, k1, k2, g5, g6⟩
    · rw [ho 8 _ 0 (by omega) (by omega) e, ho 9 _ 0 (by omega) (by omega) e]
      exact ⟨g1, g2, g3, g4, g5, g6⟩
  · intro r a ha hr
    rw [e5] at hr
    rw [e5, e17]
    exact G2 r a ha hr
  · by_cases e : d = c
    · subst e; exact hC st
    · exact pz_Cc_st st (fun k y h8 h13 => ho k d y h8 h13 e) (C d hd)
  · intro r a ha
    rw [e5, hk 6 r a (by omega)]
    exact Z r a ha
  · have ec : ∀ r w, pz_cv p' n r w = pz_cv p n r w := fun r w => by unfold pz_cv; simp only [e5]
    unfold pz_S
    rw [hk 16 0 0 (by omega)]
    simp only [ec]
    exact S
/-- a coordinator asks for x in its round R -/
theorem pz_cor1 {n q f : Nat} {p p' : pz_P} {c R x : Nat} (I : pz_IV n q f p) (hk : ∀ k x y, k ≤ 7 ∨ k = 16 → p' k x y = p k x y) (ho : ∀ k d y, 8 ≤ k → k ≤ 13 → d ≠ c → p' k d y = p k d y)
    (h17 : ∀ r, r ≠ R → p' 17 r 0 = p 17 r 0) (h17R : p 17 R 0 = 0) (h17x : p' 17 R 0 = x + 1) (hx : x ≤ 1000) (hx0 : x = 0 → R % 2 = 1) (hR1 : 1 ≤ R) (hR2 : R ≤ 12) (hRc : pz_ci R = c) (h8 : p' 8 c 0 = R) (h9 : p' 9 c 0 = 3) (h8p : p 8 c 0 ≤ R)
    (hND : ∀ y w, 1 ≤ y → y < R → w ≠ 0 → w ≠ x → pz_ND n q f p y w) (hC : pz_St n p p' → pz_Cc n q f p' c) : pz_IV n q f p' ∧ pz_St n p p' := by
  obtain ⟨A, O, G1, G2, G3, C, Z, S⟩ := I
  have e5 : ∀ r a, p' 5 r a = p 5 r a := fun r a => hk 5 r a (by omega)
  have n17 : ∀ r, p 17 r 0 ≠ 0 → p' 17 r 0 = p 17 r 0 := fun r hr => h17 r (fun z => hr (by rw [z]; exact h17R))
  have st : pz_St n p p' := pz_St_same (fun a => hk 0 a 0 (by omega)) e5 n17
  refine ⟨⟨?_, ?_, ?_, ?_, ?_, fun d hd => ?_, ?_, ?_⟩, st⟩
  · intro a ha
    rw [hk 0 a 0 (by omega), hk 1 a 0 (by omega), hk 2 a 0 (by omega)]
    simp only [e5]
    exact A a ha
  · intro a ha
    rw [hk 0 a 0 (by omega), hk 2 a 0 (by omega), hk 3 a 0 (by omega), hk 4 a 0 (by omega)]
    obtain ⟨o1, o2, o3⟩ := O a ha
    refine ⟨o1, o2, fun z1 z2 => ?_⟩
    obtain ⟨o4, o5⟩ := o3 z1 z2
    exact ⟨by rw [n17 _ (by omega)]; exact o4, o5⟩
  · intro r hr
    by_cases eR : r = R
    · subst eR
      rw [h17x, hRc, h8, h9]
      exact ⟨hR1, hR2, Nat.le_refl _, fun _ => rfl, by omega, fun z => hx0 (by omega)⟩
    · rw [h17 r eR] at hr ⊢
      obtain ⟨g1, g2, g3, g4, g5, g6⟩ := G1 r hr
      by_cases e : pz_ci r = c
      · rw [e, h8, h9]
        rw [e] at g3
        exact ⟨g1, g2, by omega, fun _ => rfl, g5, g6⟩
      · rw [ho 8 _ 0 (by omega) (by omega) e, ho 9 _ 0 (by omega) (by omega) e]
        exact ⟨g1, g2, g3, g4, g5, g6⟩
  · intro r a ha hr
    rw [e5] at hr ⊢
    have g := G2 r a ha hr
    rw [n17 r (by omega)]
    exact g
  · intro y r w h1 h2 h3 h4 h5
    by_cases eR : r = R
    · subst eR
      rw [h17x] at h5
      exact pz_ND_st st (hND y w h2 h3 h4 (by omega))
    · rw [h17 r eR] at h1 h5
      exact pz_ND_st st (G3 y r w h1 h2 h3 h4 h5)
  · by_cases e : d = c
    · subst e; exact hC st
    · exact pz_Cc_st st (fun k y h8 h13 => ho k d y h8 h13 e) (C d hd)
  · intro r a ha
    rw [e5, hk 6 r a (by omega)]
    exact Z r a ha
  · have ec : ∀ r w, pz_cv p' n r w = pz_cv p n r w := fun r w => by unfold pz_cv; simp only [e5]
    unfold pz_S
    rw [hk 16 0 0 (by omega)]
    simp only [ec]
    exact S
/-- what a quorum of promises for r says of the rounds before it -/
theorem pz_told {n q f : Nat} {p : pz_P} {r y w : Nat} {t v k : Nat → Nat} (ht : ∀ a, a < n → t a ≤ 1) (hF : ∀ a, a < n → t a ≠ 0 → pz_PF p r a (v a) (k a)) (hy : y < r) :
    pz_cc p n y w + pz_sm n t ≤ n + pz_sm n (fun a => if t a ≠ 0 ∧ p 5 y a = w then 1 else 0) := by
  unfold pz_cc
  refine pz_count (fun a ha => ?_)
  have h1 := ht a ha
  by_cases z : t a ≠ 0
  · have h2 := (hF a ha z).1
    by_cases e : p 5 y a = w
    · rw [if_pos (Or.inl e), if_pos ⟨z, e⟩]; omega
    · rw [if_neg (fun d => by rcases d with d | ⟨d1, d2⟩ <;> omega), if_neg (fun d => e d.2)]; omega
  · rw [if_neg (c := t a ≠ 0 ∧ p 5 y a = w) (fun d => z d.1)]
    split <;> omega
def pz_tl (n : Nat) (t v k : Nat → Nat) (K w : Nat) : Nat := pz_sm n (fun a => if t a ≠ 0 ∧ k a = K ∧ v a = w then 1 else 0)
theorem pz_pick {n q f : Nat} {p : pz_P} (Q : pz_Q n q f) (I : pz_IV n q f p) {r K x : Nat} {t v k : Nat → Nat} (ht : ∀ a, a < n → t a ≤ 1) (hT : pz_sm n t = q) (hF : ∀ a, a < n → t a ≠ 0 → pz_PF p r a (v a) (k a)) (hK : ∀ a, a < n → t a ≠ 0 → k a ≤ K)
    (hx : K = 0 ∨ (0 < K ∧ (∃ b, b < n ∧ t b ≠ 0 ∧ k b = K ∧ v b = x) ∧ (K % 2 = 1 → q + f ≤ pz_tl n t v k K x + n ∨ ∀ b, b < n → t b ≠ 0 → k b = K → pz_tl n t v k K (v b) + n < q + f))) :
    ∀ y w, 1 ≤ y → y < r → w ≠ 0 → w ≠ x → pz_ND n q f p y w := by
  obtain ⟨A, -, G1, G2, G3, -, -, -⟩ := I
  intro y w hy1 hy hw hwx
  have base := pz_told (q := q) (f := f) (w := w) ht hF hy
  rw [hT] at base
  have enq := pz_en_q Q y
  have zero : pz_sm n (fun a => if t a ≠ 0 ∧ p 5 y a = w then 1 else 0) = 0 → pz_ND n q f p y w := fun z => by
    rw [z] at base
    unfold pz_ND
    omega
  -- a told vote for w in y
  have seen : ∀ a, a < n → t a ≠ 0 → p 5 y a = w → y ≤ k a := fun a ha h1 h2 => (hF a ha h1).2.2.1 y hy (by rw [h2]; exact hw)
  by_cases hyK : K < y
  · refine zero (pz_sm_zero n (fun a ha => ?_))
    rw [if_neg]
    intro d
    have h1 := seen a ha d.1 d.2
    have h2 := hK a ha d.1
    omega
  · rcases hx with hx | ⟨hK0, ⟨b, hb, hb1, hb2, hb3⟩, hx⟩
    · omega
    · have fb := hF b hb hb1
      have vb : p 5 K b = x ∧ x ≠ 0 := by
        rcases fb.2.2.2 with ⟨d, -⟩ | ⟨-, d1, d2⟩
        · omega
        · rw [hb2, hb3] at d1; rw [hb3] at d2; exact ⟨d1, d2⟩
      have gK := G2 K b hb (by rw [vb.1]; exact vb.2)
      rw [vb.1] at gK
      by_cases hyK2 : y < K
      · exact G3 y K w (by omega) hy1 hyK2 hw (by omega)
      · have e : y = K := by omega
        subst e
        by_cases hodd : y % 2 = 1
        · have hle : pz_sm n (fun a => if t a ≠ 0 ∧ p 5 y a = w then 1 else 0) ≤ pz_tl n t v k y w := by
            unfold pz_tl
            refine pz_sm_le n (fun a ha => ?_)
            by_cases d : t a ≠ 0 ∧ p 5 y a = w
            · have h1 := seen a ha d.1 d.2
              have h2 := hK a ha d.1
              have h3 : k a = y := by omega
              have h4 : v a = w := by
                rcases (hF a ha d.1).2.2.2 with ⟨z, -⟩ | ⟨-, d1, d2⟩
                · omega
                · rw [h3, d.2] at d1; exact d1.symm
              rw [if_pos d, if_pos ⟨d.1, h3, h4⟩]; exact Nat.le_refl _
            · rw [if_neg d]; exact Nat.zero_le _
          have enf : pz_en q f y = f := by unfold pz_en; rw [if_pos hodd]
          have hn1 : q ≤ n := Q.2.2.2.1
          have hn2 : 2 * n < q + 2 * f := Q.2.2.2.2.2.2.2
          unfold pz_ND
          rw [enf]
          rcases hx hodd with h | h
          · have two : pz_tl n t v k y w + pz_tl n t v k y x ≤ pz_sm n t := by
              unfold pz_tl
              refine pz_count2 (fun a ha => ?_)
              have h1 := ht a ha
              by_cases z : t a ≠ 0
              · by_cases z2 : v a = w
                · rw [if_neg (c := t a ≠ 0 ∧ k a = y ∧ v a = x) (fun d => hwx (z2.symm.trans d.2.2))]
                  split <;> omega
                · rw [if_neg (fun d => z2 d.2.2)]
                  split <;> omega
              · rw [if_neg (fun d => z d.1), if_neg (fun d => z d.1)]; exact Nat.zero_le _
            omega
          · by_cases z : pz_tl n t v k y w = 0
            · omega
            · obtain ⟨a, ha, ea⟩ := pz_sm_pos n (Nat.pos_of_ne_zero z)
              have d : t a ≠ 0 ∧ k a = y ∧ v a = w := by
                by_cases d : t a ≠ 0 ∧ k a = y ∧ v a = w
                · exact d
                · rw [if_neg d] at ea; exact absurd ea (Nat.lt_irrefl 0)
              have := h a ha d.1 d.2.1
              rw [d.2.2] at this
              omega
        · have g1 := (G1 y (by omega)).2.2.2.2.2
          refine zero (pz_sm_zero n (fun a ha => ?_))
          rw [if_neg]
          intro d
          have := G2 y a ha (by rw [d.2]; exact hw)
          rw [d.2] at this
          omega
/-- what a quorum of votes of a fast round says, where none can be chosen in it -/
theorem pz_recover {n q f : Nat} {p : pz_P} (I : pz_IV n q f p) {r x B : Nat} {t v : Nat → Nat} (ht : ∀ a, a < n → t a ≤ 1) (hodd : r % 2 = 1) (hF : ∀ a, a < n → t a ≠ 0 → p 5 r a = v a ∧ v a ≠ 0) (hg : p 17 r 0 ≠ 0)
    (hB : ∀ b, b < n → t b ≠ 0 → pz_sm n (fun a => if t a ≠ 0 ∧ v a = v b then 1 else 0) ≤ B) (hf : B + n < f + pz_sm n t) (hx : ∃ b, b < n ∧ t b ≠ 0 ∧ v b = x) :
    ∀ y w, 1 ≤ y → y < r + 1 → w ≠ 0 → w ≠ x → pz_ND n q f p y w := by
  obtain ⟨A, -, G1, G2, G3, -, -, -⟩ := I
  obtain ⟨b, hb, hb1, hb2⟩ := hx
  intro y w hy1 hy hw hwx
  by_cases e : y = r
  · subst e
    have base : pz_cc p n y w + pz_sm n t ≤ n + pz_sm n (fun a => if t a ≠ 0 ∧ v a = w then 1 else 0) := by
      unfold pz_cc
      refine pz_count (fun a ha => ?_)
      have h1 := ht a ha
      by_cases z : t a ≠ 0
      · obtain ⟨h2, h3⟩ := hF a ha z
        rw [h2]
        by_cases ev : v a = w
        · rw [if_pos (Or.inl ev), if_pos ⟨z, ev⟩]; omega
        · rw [if_neg (fun d => by rcases d with d | ⟨d1, d2⟩ <;> omega), if_neg (fun d => ev d.2)]; omega
      · rw [if_neg (c := t a ≠ 0 ∧ v a = w) (fun d => z d.1)]
        split <;> omega
    have le : pz_sm n (fun a => if t a ≠ 0 ∧ v a = w then 1 else 0) ≤ B := by
      by_cases z : pz_sm n (fun a => if t a ≠ 0 ∧ v a = w then 1 else 0) = 0
      · omega
      · obtain ⟨a, ha, ea⟩ := pz_sm_pos n (Nat.pos_of_ne_zero z)
        have d : t a ≠ 0 ∧ v a = w := by
          by_cases d : t a ≠ 0 ∧ v a = w
          · exact d
          · rw [if_neg d] at ea; exact absurd ea (Nat.lt_irrefl 0)
        have := hB a ha d.1
        rw [d.2] at this
        exact this
    unfold pz_ND pz_en
    rw [if_pos hodd]
    omega
  · obtain ⟨h2, h3⟩ := hF b hb hb1
    have g := G2 r b hb (by rw [h2]; exact h3)
    rw [h2, hb2] at g
    exact G3 y r w hg hy1 (by omega) hw (by omega)
end
section
/-! Pure part 3: the whole state (the messages that wait, and what is kept by slot; at 3 what belongs to no slot), its steps, its invariant. -/
abbrev pz_M : Type := Nat → Nat
abbrev pz_T : Type := List pz_M × (Nat → pz_P)
def pz_mg (k s r fr to v o : Nat) : pz_M := fun i => match i with
  | 0 => k
  | 1 => s
  | 2 => r
  | 3 => fr
  | 4 => to
  | 5 => v
  | _ => o
def pz_w (T : Nat → pz_P) (s : Nat) (p : pz_P) : Nat → pz_P := fun s' => if s' = s then p else T s'
theorem pz_w_s (T : Nat → pz_P) (s : Nat) (p : pz_P) : pz_w T s p s = p := by simp [pz_w]
theorem pz_w_n {T : Nat → pz_P} {s s' : Nat} {p : pz_P} (h : s' ≠ s) : pz_w T s p s' = T s' := by simp [pz_w, h]
def pz_pw (S : pz_T) (s : Nat) (p : pz_P) : pz_T := (S.1, pz_w S.2 s p)
def pz_sd (S : pz_T) (g : pz_M) : pz_T := if S.1.length < 60 then (S.1 ++ [g], S.2) else (S.1, pz_w S.2 3 (pz_u (S.2 3) 15 0 0 (S.2 3 15 0 0 + 1)))
def pz_sa (kd s r v : Nat) : Nat → pz_T → pz_T
  | 0, S => S
  | i + 1, S => pz_sd (pz_sa kd s r v i S) (pz_mg kd s r 0 i v 0)
def pz_ld (p : pz_P) (c r h : Nat) : pz_P := fun k x y => if x = c ∧ k = 8 ∧ y = 0 then r else if x = c ∧ k = 9 ∧ y = 0 then h else if x = c ∧ k = 11 then 0 else p k x y
def pz_tll (p : pz_P) (c a v r : Nat) : pz_P := pz_u (pz_u (pz_u p 11 c a 1) 12 c a v) 13 c a r
def pz_mx : Nat → (Nat → Nat) → Nat
  | 0, _ => 0
  | k + 1, g => if pz_mx k g < g k then g k else pz_mx k g
def pz_te (n : Nat) (p : pz_P) (c : Nat) : Nat := pz_sm n (fun a => p 11 c a)
def pz_tf (n : Nat) (p : pz_P) (c r v : Nat) : Nat := pz_sm n (fun a => if p 11 c a ≠ 0 ∧ p 13 c a = r ∧ p 12 c a = v then 1 else 0)
def pz_kk (n : Nat) (p : pz_P) (c : Nat) : Nat := pz_mx n (fun a => if p 11 c a ≠ 0 then p 13 c a else 0)
/-- the least told value of a round -/
def pz_ls (p : pz_P) (c r : Nat) : Nat → Nat
  | 0 => 0
  | k + 1 => if p 11 c k ≠ 0 ∧ p 13 c k = r ∧ (pz_ls p c r k = 0 ∨ p 12 c k < pz_ls p c r k) then p 12 c k else pz_ls p c r k
/-- the last told value that must be kept -/
def pz_hl (n f : Nat) (p : pz_P) (c K : Nat) : Nat → Nat
  | 0 => 0
  | k + 1 => if p 11 c k ≠ 0 ∧ p 13 c k = K ∧ (K % 2 = 0 ∨ pz_te n p c - pz_tf n p c K (p 12 c k) ≤ n - f) then p 12 c k else pz_hl n f p c K k
def pz_pk (n f : Nat) (p : pz_P) (c : Nat) : Nat :=
  if pz_kk n p c = 0 then 0 else if pz_hl n f p c (pz_kk n p c) n ≠ 0 then pz_hl n f p c (pz_kk n p c) n else pz_ls p c (pz_kk n p c) n
def pz_be (n : Nat) (p : pz_P) (c r : Nat) : Nat := pz_mx n (fun a => if p 11 c a ≠ 0 then pz_tf n p c r (p 12 c a) else 0)
def pz_propose (n : Nat) (S : pz_T) (s v : Nat) : pz_T := pz_sd (pz_sd (pz_sa 1 s 0 v n S) (pz_mg 1 s 0 0 8 v 0)) (pz_mg 1 s 0 0 9 v 0)
def pz_begin (n : Nat) (S : pz_T) (s r : Nat) : pz_T := pz_sa 2 s r 0 n (pz_pw S s (pz_ld (S.2 s) (pz_ci r) r 1))
def pz_vf (n : Nat) (S : pz_T) (s c v : Nat) : pz_T := pz_sa 4 s (S.2 s 8 c 0) v n (pz_pw S s (pz_u (pz_u (S.2 s) 9 c 0 3) 17 (S.2 s 8 c 0) 0 (v + 1)))
def pz_go (n f : Nat) (S : pz_T) (s c : Nat) : pz_T :=
  if pz_pk n f (S.2 s) c ≠ 0 then pz_vf n (pz_pw S s (pz_ld (S.2 s) c (S.2 s 8 c 0) 2)) s c (pz_pk n f (S.2 s) c)
  else if S.2 s 8 c 0 % 2 = 1 then pz_vf n (pz_pw S s (pz_ld (S.2 s) c (S.2 s 8 c 0) 2)) s c 0
  else if S.2 s 10 c 0 ≠ 0 then pz_vf n (pz_pw S s (pz_ld (S.2 s) c (S.2 s 8 c 0) 2)) s c (S.2 s 10 c 0)
  else pz_pw S s (pz_ld (S.2 s) c (S.2 s 8 c 0) 2)
def pz_rec (n q f : Nat) (S : pz_T) (s c r : Nat) : pz_T :=
  if pz_te n (S.2 s) c < q ∨ f + pz_te n (S.2 s) c ≤ pz_be n (S.2 s) c r + n then S
  else pz_vf n (pz_pw S s (pz_ld (S.2 s) c (r + 1) 3)) s c (pz_ls (S.2 s) c r n)
def pz_coord (n q f : Nat) (S : pz_T) (s c kd r fr v o : Nat) : pz_T :=
  if kd = 1 then
    if S.2 s 10 c 0 = 0 then
      if S.2 s 9 c 0 = 2 then pz_vf n (pz_pw S s (pz_u (S.2 s) 10 c 0 v)) s c v else pz_pw S s (pz_u (S.2 s) 10 c 0 v)
    else S
  else if kd = 3 then
    if S.2 s 8 c 0 = r ∧ S.2 s 9 c 0 = 1 then
      if pz_te n (pz_tll (S.2 s) c fr v o) c = q then pz_go n f (pz_pw S s (pz_tll (S.2 s) c fr v o)) s c else pz_pw S s (pz_tll (S.2 s) c fr v o)
    else S
  else if kd = 5 ∧ S.2 s 8 c 0 = r ∧ r % 2 = 1 ∧ S.2 s 9 c 0 = 3 then pz_rec n q f (pz_pw S s (pz_tll (S.2 s) c fr v r)) s c r
  else S
def pz_v1 (p : pz_P) (a r v : Nat) : pz_P := pz_u (pz_u (pz_u p 1 a 0 v) 2 a 0 r) 5 r a v
def pz_v2 (n q f : Nat) (p : pz_P) (a r v : Nat) : pz_P := pz_u (pz_v1 p a r v) 16 0 0 (if p 16 0 0 = 0 ∧ pz_en q f r ≤ pz_cv (pz_v1 p a r v) n r v then v else p 16 0 0)
def pz_cast (n q f : Nat) (S : pz_T) (s a r v : Nat) : pz_T := pz_sd (pz_sd (pz_pw S s (pz_v2 n q f (S.2 s) a r v)) (pz_mg 5 s r a (8 + pz_ci r) v 0)) (pz_mg 5 s r a 10 v 0)
def pz_accept (n q f : Nat) (S : pz_T) (s a kd r v : Nat) : pz_T :=
  if kd = 2 then
    if S.2 s 0 a 0 < r then pz_sd (pz_pw S s (pz_u (S.2 s) 0 a 0 r)) (pz_mg 3 s r a (8 + pz_ci r) (S.2 s 1 a 0) (S.2 s 2 a 0)) else S
  else if kd = 4 then
    if S.2 s 0 a 0 ≤ r ∧ S.2 s 2 a 0 < r then
      if v ≠ 0 then pz_cast n q f (pz_pw S s (pz_u (S.2 s) 0 a 0 r)) s a r v
      else if S.2 s 3 a 0 ≠ 0 then pz_cast n q f (pz_pw S s (pz_u (pz_u (S.2 s) 0 a 0 r) 4 a 0 r)) s a r (S.2 s 3 a 0)
      else pz_pw S s (pz_u (pz_u (S.2 s) 0 a 0 r) 4 a 0 r)
    else S
  else if kd = 1 then
    if S.2 s 3 a 0 = 0 then
      if 0 < S.2 s 0 a 0 ∧ S.2 s 4 a 0 = S.2 s 0 a 0 ∧ S.2 s 2 a 0 < S.2 s 0 a 0 then pz_cast n q f (pz_pw S s (pz_u (S.2 s) 3 a 0 v)) s a (S.2 s 0 a 0) v
      else pz_pw S s (pz_u (S.2 s) 3 a 0 v)
    else S
  else S
def pz_hv (p : pz_P) (n r w : Nat) : Nat := pz_sm n (fun a => if p 6 r a = w then 1 else 0)
def pz_l2 (n q f : Nat) (p : pz_P) (r a v : Nat) : pz_P := pz_u (pz_u p 6 r a v) 7 0 0 (if p 7 0 0 = 0 ∧ pz_en q f r ≤ pz_hv (pz_u p 6 r a v) n r v then v else p 7 0 0)
def pz_hear (n q f : Nat) (S : pz_T) (g : pz_M) : pz_T :=
  if S.2 3 14 (g 4) 0 ≠ 0 then S
  else if g 4 < 8 then pz_accept n q f S (g 1) (g 4) (g 0) (g 2) (g 5)
  else if g 4 < 10 then pz_coord n q f S (g 1) (g 4 - 8) (g 0) (g 2) (g 3) (g 5) (g 6)
  else pz_pw S (g 1) (pz_l2 n q f (S.2 (g 1)) (g 2) (g 3) (g 5))
def pz_rm (S : pz_T) (i : Nat) : pz_T := (S.1.eraseIdx i, S.2)
def pz_halt (S : pz_T) (w b : Nat) : pz_T := pz_pw S 3 (pz_u (S.2 3) 14 w 0 b)

/-- what holds of a message that waits -/
def pz_MS (n : Nat) (p : pz_P) (g : pz_M) : Prop :=
  (g 0 = 1 ∧ g 2 = 0 ∧ (g 4 < n ∨ g 4 = 8 ∨ g 4 = 9) ∧ 1 ≤ g 5 ∧ g 5 ≤ 1000) ∨ (g 0 = 2 ∧ 1 ≤ g 2 ∧ g 2 ≤ 12 ∧ g 4 < n ∧ g 5 = 0) ∨
  (g 0 = 3 ∧ 1 ≤ g 2 ∧ g 2 ≤ 12 ∧ g 3 < n ∧ g 4 = 8 + pz_ci (g 2) ∧ g 5 ≤ 1000 ∧ pz_PF p (g 2) (g 3) (g 5) (g 6)) ∨
  (g 0 = 4 ∧ 1 ≤ g 2 ∧ g 2 ≤ 12 ∧ g 4 < n ∧ g 5 ≤ 1000 ∧ p 17 (g 2) 0 = g 5 + 1) ∨
  (g 0 = 5 ∧ 1 ≤ g 2 ∧ g 2 ≤ 12 ∧ g 3 < n ∧ (g 4 = 8 + pz_ci (g 2) ∨ g 4 = 10) ∧ g 5 ≤ 1000 ∧ p 5 (g 2) (g 3) = g 5 ∧ g 5 ≠ 0)
theorem pz_MS_st {n : Nat} {p p' : pz_P} (h : pz_St n p p') {g : pz_M} (m : pz_MS n p g) : pz_MS n p' g := by
  rcases m with m | m | ⟨m1, m2, m3, m4, m5, m6, m7⟩ | ⟨m1, m2, m3, m4, m5, m6⟩ | ⟨m1, m2, m3, m4, m5, m6, m7, m8⟩
  · exact Or.inl m
  · exact Or.inr (Or.inl m)
  · exact Or.inr (Or.inr (Or.inl ⟨m1, m2, m3, m4, m5, m6, pz_PF_st h m4 m7⟩))
  · exact Or.inr (Or.inr (Or.inr (Or.inl ⟨m1, m2, m3, m4, m5, by rw [h.2.2 _ (by omega)]; exact m6⟩)))
  · exact Or.inr (Or.inr (Or.inr (Or.inr ⟨m1, m2, m3, m4, m5, m6, pz_vd_st h m4 m7 m8, m8⟩)))
def pz_Inv (n q f : Nat) (S : pz_T) : Prop := S.1.length ≤ 60 ∧ (∀ s, s < 3 → pz_IV n q f (S.2 s)) ∧ (∀ g ∈ S.1, g 1 < 3 ∧ pz_MS n (S.2 (g 1)) g) ∧ ∀ w, S.2 3 14 w 0 ≤ 1
theorem pz_sd_2 (S : pz_T) (g : pz_M) {s : Nat} (h : s < 3) : (pz_sd S g).2 s = S.2 s := by
  unfold pz_sd
  split
  · rfl
  · exact pz_w_n (by omega)
theorem pz_sd_h (S : pz_T) (g : pz_M) (w : Nat) : (pz_sd S g).2 3 14 w 0 = S.2 3 14 w 0 := by
  unfold pz_sd
  split
  · rfl
  · show pz_w S.2 3 (pz_u (S.2 3) 15 0 0 (S.2 3 15 0 0 + 1)) 3 14 w 0 = _
    rw [pz_w_s]
    exact pz_u_k (by omega)
theorem pz_sa_2 (kd s r v : Nat) (S : pz_T) {z : Nat} (h : z < 3) : ∀ i, (pz_sa kd s r v i S).2 z = S.2 z
  | 0 => rfl
  | i + 1 => by rw [pz_sa, pz_sd_2 _ _ h, pz_sa_2 kd s r v S h i]
theorem pz_pw_s (S : pz_T) (s : Nat) (p : pz_P) : (pz_pw S s p).2 s = p := pz_w_s _ _ _
theorem pz_pw_pw (S : pz_T) (s : Nat) (p p' : pz_P) : pz_pw (pz_pw S s p) s p' = pz_pw S s p' := by
  unfold pz_pw
  refine Prod.ext rfl ?_
  funext s'
  by_cases h : s' = s
  · subst h; simp [pz_w]
  · simp [pz_w, h]
theorem pz_sd_Inv {n q f : Nat} {S : pz_T} {g : pz_M} (I : pz_Inv n q f S) (h1 : g 1 < 3) (h2 : pz_MS n (S.2 (g 1)) g) : pz_Inv n q f (pz_sd S g) := by
  obtain ⟨i1, i2, i3, i4⟩ := I
  refine ⟨?_, fun s hs => by rw [pz_sd_2 S g hs]; exact i2 s hs, fun x hx => ?_, fun w => by rw [pz_sd_h]; exact i4 w⟩
  · unfold pz_sd
    split
    · simp; omega
    · exact i1
  · have hm : x ∈ S.1 ∨ x = g := by
      unfold pz_sd at hx
      split at hx
      · simpa using hx
      · exact Or.inl hx
    rcases hm with hm | hm
    · obtain ⟨a, b⟩ := i3 x hm
      exact ⟨a, by rw [pz_sd_2 S g a]; exact b⟩
    · subst hm
      exact ⟨h1, by rw [pz_sd_2 S x h1]; exact h2⟩
theorem pz_sa_Inv {n q f kd s r v : Nat} {S : pz_T} (I : pz_Inv n q f S) (hs : s < 3) : ∀ i, (∀ a, a < i → pz_MS n (S.2 s) (pz_mg kd s r 0 a v 0)) → pz_Inv n q f (pz_sa kd s r v i S)
  | 0, _ => I
  | i + 1, h => by
    refine pz_sd_Inv (pz_sa_Inv I hs i (fun a ha => h a (by omega))) hs ?_
    show pz_MS n ((pz_sa kd s r v i S).2 s) _
    rw [pz_sa_2 kd s r v S hs i]
    exact h i (by omega)
theorem pz_pw_Inv {n q f s : Nat} {S : pz_T} {p : pz_P} (I : pz_Inv n q f S) (hs : s < 3) (h : pz_IV n q f p ∧ pz_St n (S.2 s) p) : pz_Inv n q f (pz_pw S s p) := by
  obtain ⟨i1, i2, i3, i4⟩ := I
  refine ⟨i1, fun z hz => ?_, fun g hg => ?_, fun w => ?_⟩
  · by_cases e : z = s
    · subst e; rw [pz_pw_s]; exact h.1
    · show pz_IV n q f (pz_w S.2 s p z)
      rw [pz_w_n e]; exact i2 z hz
  · obtain ⟨a, b⟩ := i3 g hg
    refine ⟨a, ?_⟩
    show pz_MS n (pz_w S.2 s p (g 1)) g
    by_cases e : g 1 = s
    · rw [e, pz_w_s]
      rw [e] at b
      exact pz_MS_st h.2 b
    · rw [pz_w_n e]; exact b
  · show pz_w S.2 s p 3 14 w 0 ≤ 1
    rw [pz_w_n (by omega)]; exact i4 w
theorem pz_rm_Inv {n q f i : Nat} {S : pz_T} (I : pz_Inv n q f S) : pz_Inv n q f (pz_rm S i) := by
  obtain ⟨i1, i2, i3, i4⟩ := I
  refine ⟨Nat.le_trans (List.length_eraseIdx_le S.1 i) i1, i2, fun g hg => i3 g (List.mem_of_mem_eraseIdx hg), i4⟩
theorem pz_halt_Inv {n q f w b : Nat} {S : pz_T} (I : pz_Inv n q f S) (hb : b ≤ 1) : pz_Inv n q f (pz_halt S w b) := by
  obtain ⟨i1, i2, i3, i4⟩ := I
  refine ⟨i1, fun z hz => ?_, fun g hg => ?_, fun x => ?_⟩
  · show pz_IV n q f (pz_w S.2 3 _ z)
    rw [pz_w_n (by omega)]; exact i2 z hz
  · obtain ⟨a, b⟩ := i3 g hg
    refine ⟨a, ?_⟩
    show pz_MS n (pz_w S.2 3 _ (g 1)) g
    rw [pz_w_n (by omega)]; exact b
  · show pz_w S.2 3 (pz_u (S.2 3) 14 w 0 b) 3 14 x 0 ≤ 1
    rw [pz_w_s]
    by_cases e : x = w
    · subst e; rw [pz_u_s]; exact hb
    · rw [pz_u_x e]; exact i4 x
theorem pz_propose_Inv {n q f s v : Nat} {S : pz_T} (I : pz_Inv n q f S) (hs : s < 3) (h1 : 1 ≤ v) (h2 : v ≤ 1000) : pz_Inv n q f (pz_propose n S s v) :=
  pz_sd_Inv (pz_sd_Inv (pz_sa_Inv I hs n (fun a ha => Or.inl ⟨rfl, rfl, Or.inl ha, h1, h2⟩)) hs (Or.inl ⟨rfl, rfl, Or.inr (Or.inl rfl), h1, h2⟩)) hs (Or.inl ⟨rfl, rfl, Or.inr (Or.inr rfl), h1, h2⟩)
theorem pz_ld_0 {p : pz_P} {c r h k x y : Nat} (e : k ≠ 8 ∧ k ≠ 9 ∧ k ≠ 11) : pz_ld p c r h k x y = p k x y := by simp [pz_ld, e.1, e.2.1, e.2.2]
theorem pz_ld_x {p : pz_P} {c r h k x y : Nat} (e : x ≠ c) : pz_ld p c r h k x y = p k x y := by simp [pz_ld, e]
theorem pz_ld_8 {p : pz_P} {c r h : Nat} : pz_ld p c r h 8 c 0 = r := by simp [pz_ld]
theorem pz_ld_9 {p : pz_P} {c r h : Nat} : pz_ld p c r h 9 c 0 = h := by simp [pz_ld]
theorem pz_ld_11 {p : pz_P} {c r h a : Nat} : pz_ld p c r h 11 c a = 0 := by simp [pz_ld]
theorem pz_begin_Inv {n q f s r : Nat} {S : pz_T} (Q : pz_Q n q f) (I : pz_Inv n q f S) (hs : s < 3) (h1 : 1 ≤ r) (h2 : r ≤ 12) (h3 : S.2 s 8 (pz_ci r) 0 < r) : pz_Inv n q f (pz_begin n S s r) := by
  have IVs := I.2.1 s hs
  have C := IVs.2.2.2.2.2.1 (pz_ci r) (pz_ci_lt r)
  obtain ⟨c1, c2, c3, c4, c5, c6, c7, c8⟩ := C
  unfold pz_begin
  refine pz_sa_Inv (pz_pw_Inv I hs (pz_cor0 (p' := pz_ld (S.2 s) (pz_ci r) r 1) (c := pz_ci r) IVs (fun k x y hk => pz_ld_0 (by omega)) (fun k d y _ _ hd => pz_ld_x hd) (fun x hx hc => ?_) (fun _ => ?_))) hs n (fun a ha => Or.inr (Or.inl ⟨rfl, h1, h2, ha, rfl⟩))
  · have g := (IVs.2.2.1 x hx).2.2.1
    rw [hc] at g
    rw [pz_ld_8]
    exact ⟨by omega, fun z => by omega⟩
  · unfold pz_Cc
    rw [pz_ld_8, pz_ld_9, pz_ld_0 (by omega)]
    simp only [pz_ld_11]
    refine ⟨h2, by omega, c3, fun _ => ⟨h1, trivial⟩, fun _ => by omega, fun _ => ⟨?_, fun a _ z => absurd rfl z⟩, fun z => by omega, fun z => by omega⟩
    rw [pz_sm_const]
    have := Q.2.2.1
    omega
end
section
/-! Pure part 4: every step keeps the invariant. -/
theorem pz_mx_ge {g : Nat → Nat} : ∀ (n a : Nat), a < n → g a ≤ pz_mx n g
  | 0, a, h => absurd h (Nat.not_lt_zero a)
  | k + 1, a, h => by
    simp only [pz_mx]
    by_cases e : a = k
    · subst e; split <;> omega
    · have := pz_mx_ge (g := g) k a (by omega)
      split <;> omega
theorem pz_mx_ex {g : Nat → Nat} : ∀ n : Nat, pz_mx n g ≠ 0 → ∃ a, a < n ∧ g a = pz_mx n g
  | 0, h => absurd rfl h
  | k + 1, h => by
    simp only [pz_mx] at h ⊢
    by_cases e : pz_mx k g < g k
    · rw [if_pos e]; exact ⟨k, by omega, rfl⟩
    · rw [if_neg e] at h ⊢
      obtain ⟨a, h1, h2⟩ := pz_mx_ex k h
      exact ⟨a, by omega, h2⟩
theorem pz_ls_ex (p : pz_P) (c r : Nat) : ∀ n : Nat, pz_ls p c r n = 0 ∨ ∃ b, b < n ∧ p 11 c b ≠ 0 ∧ p 13 c b = r ∧ p 12 c b = pz_ls p c r n
  | 0 => Or.inl rfl
  | k + 1 => by
    simp only [pz_ls]
    by_cases e : p 11 c k ≠ 0 ∧ p 13 c k = r ∧ (pz_ls p c r k = 0 ∨ p 12 c k < pz_ls p c r k)
    · rw [if_pos e]; exact Or.inr ⟨k, by omega, e.1, e.2.1, rfl⟩
    · rw [if_neg e]
      rcases pz_ls_ex p c r k with h | ⟨b, h1, h2⟩
      · exact Or.inl h
      · exact Or.inr ⟨b, by omega, h2⟩
theorem pz_ls_ne {p : pz_P} {c r : Nat} : ∀ n : Nat, (∀ b, b < n → p 11 c b ≠ 0 → p 13 c b = r → p 12 c b ≠ 0) → (∃ b, b < n ∧ p 11 c b ≠ 0 ∧ p 13 c b = r) → pz_ls p c r n ≠ 0
  | 0, _, ⟨b, h, _⟩ => absurd h (Nat.not_lt_zero b)
  | k + 1, H, ⟨b, h1, h2, h3⟩ => by
    simp only [pz_ls]
    by_cases e : p 11 c k ≠ 0 ∧ p 13 c k = r ∧ (pz_ls p c r k = 0 ∨ p 12 c k < pz_ls p c r k)
    · rw [if_pos e]; exact H k (by omega) e.1 e.2.1
    · rw [if_neg e]
      by_cases eb : b = k
      · subst eb
        intro z
        exact e ⟨h2, h3, Or.inl z⟩
      · exact pz_ls_ne k (fun b hb => H b (by omega)) ⟨b, by omega, h2, h3⟩
theorem pz_hl_ex (n f : Nat) (p : pz_P) (c K : Nat) : ∀ m : Nat, pz_hl n f p c K m = 0 ∨ ∃ b, b < m ∧ p 11 c b ≠ 0 ∧ p 13 c b = K ∧ (K % 2 = 0 ∨ pz_te n p c - pz_tf n p c K (p 12 c b) ≤ n - f) ∧ p 12 c b = pz_hl n f p c K m
  | 0 => Or.inl rfl
  | k + 1 => by
    simp only [pz_hl]
    by_cases e : p 11 c k ≠ 0 ∧ p 13 c k = K ∧ (K % 2 = 0 ∨ pz_te n p c - pz_tf n p c K (p 12 c k) ≤ n - f)
    · rw [if_pos e]; exact Or.inr ⟨k, by omega, e.1, e.2.1, e.2.2, rfl⟩
    · rw [if_neg e]
      rcases pz_hl_ex n f p c K k with h | ⟨b, h1, h2⟩
      · exact Or.inl h
      · exact Or.inr ⟨b, by omega, h2⟩
theorem pz_hl_no {n f : Nat} {p : pz_P} {c K : Nat} : ∀ m : Nat, (∀ b, b < m → p 11 c b ≠ 0 → p 13 c b = K → p 12 c b ≠ 0) → pz_hl n f p c K m = 0 → ∀ b, b < m → p 11 c b ≠ 0 → p 13 c b = K → ¬ (K % 2 = 0 ∨ pz_te n p c - pz_tf n p c K (p 12 c b) ≤ n - f)
  | 0, _, _, b, h, _, _ => absurd h (Nat.not_lt_zero b)
  | k + 1, H, hz, b, h1, h2, h3 => by
    simp only [pz_hl] at hz
    by_cases e : p 11 c k ≠ 0 ∧ p 13 c k = K ∧ (K % 2 = 0 ∨ pz_te n p c - pz_tf n p c K (p 12 c k) ≤ n - f)
    · rw [if_pos e] at hz
      exact absurd hz (H k (by omega) e.1 e.2.1)
    · rw [if_neg e] at hz
      by_cases eb : b = k
      · subst eb
        intro z
        exact e ⟨h2, h3, z⟩
      · exact pz_hl_no k (fun b hb => H b (by omega)) hz b (by omega) h2 h3
theorem pz_sm_upd {g h : Nat → Nat} {b : Nat} (hb : h b ≤ 1) (ho : ∀ a, a ≠ b → h a = g a) : ∀ n : Nat, pz_sm n h ≤ pz_sm n g + 1
  | 0 => Nat.zero_le _
  | k + 1 => by
    simp only [pz_sm]
    by_cases e : k = b
    · subst e
      have h1 : pz_sm k h = pz_sm k g := pz_sm_eq k (fun a ha => ho a (by omega))
      omega
    · have h1 := pz_sm_upd hb ho (g := g) (h := h) k
      rw [ho k e]
      omega
theorem pz_vf_eq (n : Nat) (S : pz_T) (s : Nat) (p : pz_P) (c x : Nat) : pz_vf n (pz_pw S s p) s c x = pz_sa 4 s (p 8 c 0) x n (pz_pw S s (pz_u (pz_u p 9 c 0 3) 17 (p 8 c 0) 0 (x + 1))) := by
  unfold pz_vf
  rw [pz_pw_s, pz_pw_pw]
/-- the coordinator c, where it stood as p, goes by p2 to ask for x -/
theorem pz_vf_Inv {n q f s c x R : Nat} {S : pz_T} {p2 : pz_P} (I : pz_Inv n q f S) (hs : s < 3) (hc : c < 2) (hk : ∀ k x y, k ≤ 7 ∨ 14 ≤ k → p2 k x y = S.2 s k x y) (ho : ∀ k d y, 8 ≤ k → k ≤ 13 → d ≠ c → p2 k d y = S.2 s k d y)
    (hR : p2 8 c 0 = R) (h17 : S.2 s 17 R 0 = 0) (hx : x ≤ 1000) (hx0 : x = 0 → R % 2 = 1) (hR1 : 1 ≤ R) (hR2 : R ≤ 12) (hRc : pz_ci R = c) (h8p : S.2 s 8 c 0 ≤ R) (h10 : p2 10 c 0 ≤ 1000) (h11 : ∀ a, p2 11 c a = 0)
    (hND : ∀ y w, 1 ≤ y → y < R → w ≠ 0 → w ≠ x → pz_ND n q f (S.2 s) y w) : pz_Inv n q f (pz_vf n (pz_pw S s p2) s c x) := by
  have IVs := I.2.1 s hs
  rw [pz_vf_eq, hR]
  have e3 : ∀ k d y, k ≠ 9 → k ≠ 17 → pz_u (pz_u p2 9 c 0 3) 17 R 0 (x + 1) k d y = p2 k d y := fun k d y h1 h2 => by rw [pz_u_k h2, pz_u_k h1]
  have e17 : pz_u (pz_u p2 9 c 0 3) 17 R 0 (x + 1) 17 R 0 = x + 1 := pz_u_s _ _ _ _ _
  have e9 : pz_u (pz_u p2 9 c 0 3) 17 R 0 (x + 1) 9 c 0 = 3 := by rw [pz_u_k (by omega), pz_u_s]
  refine pz_sa_Inv (pz_pw_Inv I hs (pz_cor1 (c := c) (R := R) (x := x) IVs (fun k d y h => ?_) (fun k d y h8 h13 hd => ?_) (fun r hr => ?_) h17 e17 hx hx0 hR1 hR2 hRc (by rw [e3 8 c 0 (by omega) (by omega)]; exact hR) e9 h8p hND (fun _ => ?_))) hs n (fun a ha => ?_)
  · rw [e3 k d y (by omega) (by omega)]; exact hk k d y (by omega)
  · rw [pz_u_k (by omega), pz_u_x hd]; exact ho k d y h8 h13 hd
  · rw [pz_u_x hr, pz_u_k (by omega)]; exact hk 17 r 0 (by omega)
  · unfold pz_Cc
    rw [e9, e3 8 c 0 (by omega) (by omega), e3 10 c 0 (by omega) (by omega), hR, e17]
    refine ⟨hR2, by omega, h10, fun _ => ⟨hR1, hRc⟩, fun a => by rw [e3 11 c a (by omega) (by omega), h11]; omega, fun z => by omega, fun z => by omega, fun _ => ⟨by omega, fun a _ z => ?_⟩⟩
    rw [e3 11 c a (by omega) (by omega), h11] at z
    exact absurd rfl z
  · refine Or.inr (Or.inr (Or.inr (Or.inl ⟨rfl, hR1, hR2, ha, hx, ?_⟩)))
    rw [pz_pw_s]
    exact e17
theorem pz_gv0 {n q f : Nat} {p : pz_P} {c : Nat} (I : pz_IV n q f p) (h : pz_ci (p 8 c 0) = c) (h3 : p 9 c 0 ≠ 3) : p 17 (p 8 c 0) 0 = 0 := by
  by_cases z : p 17 (p 8 c 0) 0 = 0
  · exact z
  · have g := (I.2.2.1 _ z).2.2.2.1
    rw [h] at g
    exact absurd (g rfl) h3
theorem pz_tll_k {p : pz_P} {c a v r k x y : Nat} (h : k ≠ 11 ∧ k ≠ 12 ∧ k ≠ 13) : pz_tll p c a v r k x y = p k x y := by
  unfold pz_tll; rw [pz_u_k h.2.2, pz_u_k h.2.1, pz_u_k h.1]
theorem pz_tll_x {p : pz_P} {c a v r k x y : Nat} (h : x ≠ c) : pz_tll p c a v r k x y = p k x y := by
  unfold pz_tll; rw [pz_u_x h, pz_u_x h, pz_u_x h]
theorem pz_tll_y {p : pz_P} {c a v r k x y : Nat} (h : y ≠ a) : pz_tll p c a v r k x y = p k x y := by
  unfold pz_tll; rw [pz_u_y h, pz_u_y h, pz_u_y h]
theorem pz_tll_11 {p : pz_P} {c a v r : Nat} : pz_tll p c a v r 11 c a = 1 := by
  unfold pz_tll; rw [pz_u_k (by omega), pz_u_k (by omega), pz_u_s]
theorem pz_tll_12 {p : pz_P} {c a v r : Nat} : pz_tll p c a v r 12 c a = v := by
  unfold pz_tll; rw [pz_u_k (by omega), pz_u_s]
theorem pz_tll_13 {p : pz_P} {c a v r : Nat} : pz_tll p c a v r 13 c a = r := by
  unfold pz_tll; rw [pz_u_s]
theorem pz_tll_le {p : pz_P} {c b v r : Nat} (h : ∀ a, p 11 c a ≤ 1) (a : Nat) : pz_tll p c b v r 11 c a ≤ 1 := by
  by_cases e : a = b
  · subst e; rw [pz_tll_11]; exact Nat.le_refl _
  · rw [pz_tll_y e]; exact h a
/-- what pick gives, where p1 has the q promises for r -/
theorem pz_pk_ND {n q f : Nat} {p p1 : pz_P} {c r : Nat} (Q : pz_Q n q f) (I : pz_IV n q f p) (h11 : ∀ a, p1 11 c a ≤ 1) (hT : pz_te n p1 c = q) (hF : ∀ a, a < n → p1 11 c a ≠ 0 → pz_PF p r a (p1 12 c a) (p1 13 c a)) :
    ∀ y w, 1 ≤ y → y < r → w ≠ 0 → (w ≠ pz_pk n f p1 c ∨ pz_kk n p1 c = 0) → pz_ND n q f p y w := by
  have hK : ∀ a, a < n → p1 11 c a ≠ 0 → p1 13 c a ≤ pz_kk n p1 c := fun a ha t => by
    have := pz_mx_ge (g := fun a => if p1 11 c a ≠ 0 then p1 13 c a else 0) n a ha
    rw [if_pos t] at this
    exact this
  have nz : ∀ K, K ≠ 0 → ∀ b, b < n → p1 11 c b ≠ 0 → p1 13 c b = K → p1 12 c b ≠ 0 := fun K hK0 b hb t e => by
    rcases (hF b hb t).2.2.2 with ⟨z, -⟩ | ⟨-, -, z⟩
    · omega
    · exact z
  intro y w hy1 hy hw hwx
  by_cases k0 : pz_kk n p1 c = 0
  · refine pz_pick Q I (t := fun a => p1 11 c a) (v := fun a => p1 12 c a) (k := fun a => p1 13 c a) (x := w + 1) (fun a _ => h11 a) hT hF hK (Or.inl k0) y w hy1 hy hw (by omega)
  · have hwx : w ≠ pz_pk n f p1 c := by
      rcases hwx with h | h
      · exact h
      · exact absurd h k0
    obtain ⟨b, hb, eb⟩ := pz_mx_ex n k0
    have tb : p1 11 c b ≠ 0 := fun z => k0 (by rw [if_neg (fun y => y z)] at eb; exact eb.symm)
    rw [if_pos tb] at eb
    have eb : p1 13 c b = pz_kk n p1 c := eb
    refine pz_pick Q I (t := fun a => p1 11 c a) (v := fun a => p1 12 c a) (k := fun a => p1 13 c a) (x := pz_pk n f p1 c) (fun a _ => h11 a) hT hF hK (Or.inr ⟨Nat.pos_of_ne_zero k0, ?_, fun odd => ?_⟩) y w hy1 hy hw hwx
    · unfold pz_pk
      rw [if_neg k0]
      by_cases hz : pz_hl n f p1 c (pz_kk n p1 c) n = 0
      · rw [if_neg (fun y => y hz)]
        rcases pz_ls_ex p1 c (pz_kk n p1 c) n with z | ⟨d, d1, d2, d3, d4⟩
        · exact absurd z (pz_ls_ne n (nz _ k0) ⟨b, hb, tb, eb⟩)
        · exact ⟨d, d1, d2, d3, d4⟩
      · rw [if_pos hz]
        rcases pz_hl_ex n f p1 c (pz_kk n p1 c) n with z | ⟨d, d1, d2, d3, d4, d5⟩
        · exact absurd z hz
        · exact ⟨d, d1, d2, d3, d5⟩
    · have q6 : f ≤ n := Q.2.2.2.2.2.1
      by_cases hz : pz_hl n f p1 c (pz_kk n p1 c) n = 0
      · refine Or.inr (fun d hd t e => ?_)
        have := pz_hl_no n (nz _ k0) hz d hd t e
        rw [hT] at this
        show pz_tf n p1 c (pz_kk n p1 c) (p1 12 c d) + n < q + f
        omega
      · refine Or.inl ?_
        have e : pz_pk n f p1 c = pz_hl n f p1 c (pz_kk n p1 c) n := by unfold pz_pk; rw [if_neg k0, if_pos hz]
        rw [e]
        rcases pz_hl_ex n f p1 c (pz_kk n p1 c) n with z | ⟨d, d1, d2, d3, d4, d5⟩
        · exact absurd z hz
        · rw [d5, hT] at d4
          show q + f ≤ pz_tf n p1 c (pz_kk n p1 c) (pz_hl n f p1 c (pz_kk n p1 c) n) + n
          omega
theorem pz_pk_le {n q f : Nat} {p p1 : pz_P} {c r : Nat} (I : pz_IV n q f p) (hF : ∀ a, a < n → p1 11 c a ≠ 0 → pz_PF p r a (p1 12 c a) (p1 13 c a)) : pz_pk n f p1 c ≤ 1000 := by
  have le : ∀ b, b < n → p1 11 c b ≠ 0 → p1 12 c b ≤ 1000 := fun b hb t => by
    rcases (hF b hb t).2.2.2 with ⟨-, z⟩ | ⟨-, z1, z2⟩
    · omega
    · have := ((I.1 b hb).2.2.1 _ (by rw [z1]; exact z2)).2.2
      omega
  unfold pz_pk
  split
  · omega
  · split
    · rcases pz_hl_ex n f p1 c (pz_kk n p1 c) n with z | ⟨d, d1, d2, d3, d4, d5⟩
      · omega
      · rw [← d5]; exact le d d1 d2
    · rcases pz_ls_ex p1 c (pz_kk n p1 c) n with z | ⟨d, d1, d2, d3, d4⟩
      · omega
      · rw [← d4]; exact le d d1 d2
theorem pz_coord_Inv {n q f s c : Nat} {S : pz_T} {g : pz_M} (Q : pz_Q n q f) (I : pz_Inv n q f S) (hs : s < 3) (hc : c < 2) (hg : pz_MS n (S.2 s) g) (h4 : g 4 = 8 + c) : pz_Inv n q f (pz_coord n q f S s c (g 0) (g 2) (g 3) (g 5) (g 6)) := by
  have IVs := I.2.1 s hs
  obtain ⟨c1, c2, c3, c4, c5, c6, c7, c8⟩ := IVs.2.2.2.2.2.1 c hc
  unfold pz_coord
  by_cases k1 : g 0 = 1
  · rw [if_pos k1]
    have hv : 1 ≤ g 5 ∧ g 5 ≤ 1000 := by
      rcases hg with ⟨_, _, _, a, b⟩ | ⟨a, _⟩ | ⟨a, _⟩ | ⟨a, _⟩ | ⟨a, _⟩
      · exact ⟨a, b⟩
      all_goals omega
    by_cases w0 : S.2 s 10 c 0 = 0
    · rw [if_pos w0]
      by_cases p2 : S.2 s 9 c 0 = 2
      · rw [if_pos p2]
        obtain ⟨d1, d2, d3, d4⟩ := c7 p2
        obtain ⟨e1, e2⟩ := c4 (by omega)
        exact pz_vf_Inv I hs hc (fun k x y h => pz_u_k (by omega)) (fun k d y _ _ hd => pz_u_x hd) (pz_u_k (by omega)) (pz_gv0 IVs e2 (by omega)) hv.2 (fun z => by omega) e1 c1 e2 (Nat.le_refl _) (by rw [pz_u_s]; exact hv.2) (fun a => by rw [pz_u_k (by omega)]; exact d3 a) (fun y w h1 h2 h3 _ => d4 y w h1 h2 h3)
      · rw [if_neg p2]
        refine pz_pw_Inv I hs (pz_cor0 (c := c) IVs (fun k x y h => pz_u_k (by omega)) (fun k d y _ _ hd => pz_u_x hd) (fun r hr e => ?_) (fun st => ?_))
        · rw [pz_u_k (by omega), pz_u_k (by omega)]
          have g1 := (IVs.2.2.1 r hr).2.2
          rw [e] at g1
          exact ⟨g1.1, g1.2.1⟩
        · have ek : ∀ k y, k ≠ 10 → pz_u (S.2 s) 10 c 0 (g 5) k c y = S.2 s k c y := fun k y h => pz_u_k h
          have e17 : ∀ r, pz_u (S.2 s) 10 c 0 (g 5) 17 r 0 = S.2 s 17 r 0 := fun r => pz_u_k (by omega)
          have e5 : ∀ r a, pz_u (S.2 s) 10 c 0 (g 5) 5 r a = S.2 s 5 r a := fun r a => pz_u_k (by omega)
          unfold pz_Cc
          rw [ek 8 0 (by omega), ek 9 0 (by omega), pz_u_s, e17]
          simp only [ek 11 _ (by omega), ek 12 _ (by omega), ek 13 _ (by omega), e5]
          exact ⟨c1, c2, hv.2, c4, c5, fun z => ⟨(c6 z).1, fun a ha t => pz_PF_st st ha ((c6 z).2 a ha t)⟩, fun z => absurd z p2, c8⟩
    · rw [if_neg w0]; exact I
  · rw [if_neg k1]
    by_cases k3 : g 0 = 3
    · rw [if_pos k3]
      have hm : 1 ≤ g 2 ∧ g 2 ≤ 12 ∧ g 3 < n ∧ pz_PF (S.2 s) (g 2) (g 3) (g 5) (g 6) := by
        rcases hg with ⟨a, _⟩ | ⟨a, _⟩ | ⟨_, a, b, d, _, _, e⟩ | ⟨a, _⟩ | ⟨a, _⟩
        · omega
        · omega
        · exact ⟨a, b, d, e⟩
        all_goals omega
      obtain ⟨m1, m2, m3, m4⟩ := hm
      by_cases hp : S.2 s 8 c 0 = g 2 ∧ S.2 s 9 c 0 = 1
      · rw [if_pos hp]
        obtain ⟨e1, e2⟩ := c4 (by omega)
        obtain ⟨d1, d2⟩ := c6 hp.2
        have hF : ∀ a, a < n → pz_tll (S.2 s) c (g 3) (g 5) (g 6) 11 c a ≠ 0 → pz_PF (S.2 s) (S.2 s 8 c 0) a (pz_tll (S.2 s) c (g 3) (g 5) (g 6) 12 c a) (pz_tll (S.2 s) c (g 3) (g 5) (g 6) 13 c a) := fun a ha t => by
          by_cases e : a = g 3
          · rw [e, pz_tll_12, pz_tll_13, hp.1]; exact m4
          · rw [pz_tll_y e] at t
            rw [pz_tll_y e, pz_tll_y e]; exact d2 a ha t
        have h11 : ∀ a, pz_tll (S.2 s) c (g 3) (g 5) (g 6) 11 c a ≤ 1 := pz_tll_le c5
        by_cases ht : pz_te n (pz_tll (S.2 s) c (g 3) (g 5) (g 6)) c = q
        · rw [if_pos ht]
          have hkk := pz_pk_ND Q IVs h11 ht hF
          have hle := pz_pk_le (f := f) IVs hF
          unfold pz_go
          rw [pz_pw_s, pz_pw_pw]
          have e8 : pz_tll (S.2 s) c (g 3) (g 5) (g 6) 8 c 0 = S.2 s 8 c 0 := pz_tll_k (by omega)
          have e10 : pz_tll (S.2 s) c (g 3) (g 5) (g 6) 10 c 0 = S.2 s 10 c 0 := pz_tll_k (by omega)
          rw [e8, e10]
          have V : ∀ x, x ≤ 1000 → (x = 0 → S.2 s 8 c 0 % 2 = 1) → (∀ y w, 1 ≤ y → y < S.2 s 8 c 0 → w ≠ 0 → w ≠ x → pz_ND n q f (S.2 s) y w) → pz_Inv n q f (pz_vf n (pz_pw S s (pz_ld (pz_tll (S.2 s) c (g 3) (g 5) (g 6)) c (S.2 s 8 c 0) 2)) s c x) := fun x hx hx0 hND =>
            pz_vf_Inv I hs hc (fun k x y h => by rw [pz_ld_0 (by omega), pz_tll_k (by omega)]) (fun k d y _ _ hd => by rw [pz_ld_x hd, pz_tll_x hd]) pz_ld_8 (pz_gv0 IVs e2 (by omega)) hx hx0 e1 c1 e2 (Nat.le_refl _) (by rw [pz_ld_0 (by omega), e10]; exact c3) (fun a => pz_ld_11) hND
          by_cases x0 : pz_pk n f (pz_tll (S.2 s) c (g 3) (g 5) (g 6)) c = 0
          · have k0 : pz_kk n (pz_tll (S.2 s) c (g 3) (g 5) (g 6)) c = 0 := by
              by_cases k0 : pz_kk n (pz_tll (S.2 s) c (g 3) (g 5) (g 6)) c = 0
              · exact k0
              · exfalso
                have nz : ∀ b, b < n → pz_tll (S.2 s) c (g 3) (g 5) (g 6) 11 c b ≠ 0 → pz_tll (S.2 s) c (g 3) (g 5) (g 6) 13 c b = pz_kk n (pz_tll (S.2 s) c (g 3) (g 5) (g 6)) c → pz_tll (S.2 s) c (g 3) (g 5) (g 6) 12 c b ≠ 0 := fun b hb t e => by
                  rcases (hF b hb t).2.2.2 with ⟨z, -⟩ | ⟨-, -, z⟩
                  · omega
                  · exact z
                obtain ⟨b, hb, eb⟩ := pz_mx_ex n k0
                have tb : pz_tll (S.2 s) c (g 3) (g 5) (g 6) 11 c b ≠ 0 := fun z => k0 (by rw [if_neg (fun y => y z)] at eb; exact eb.symm)
                rw [if_pos tb] at eb
                unfold pz_pk at x0
                rw [if_neg k0] at x0
                split at x0
                · omega
                · exact pz_ls_ne n nz ⟨b, hb, tb, eb⟩ x0
            rw [if_neg (fun y => y x0)]
            have none : ∀ y w, 1 ≤ y → y < S.2 s 8 c 0 → w ≠ 0 → pz_ND n q f (S.2 s) y w := fun y w h1 h2 h3 => hkk y w h1 h2 h3 (Or.inr k0)
            by_cases odd : S.2 s 8 c 0 % 2 = 1
            · rw [if_pos odd]
              exact V 0 (by omega) (fun _ => odd) (fun y w h1 h2 h3 _ => none y w h1 h2 h3)
            · rw [if_neg odd]
              by_cases w0 : S.2 s 10 c 0 = 0
              · rw [if_neg (fun y => y w0)]
                refine pz_pw_Inv I hs (pz_cor0 (c := c) IVs (fun k x y h => by rw [pz_ld_0 (by omega), pz_tll_k (by omega)]) (fun k d y _ _ hd => by rw [pz_ld_x hd, pz_tll_x hd]) (fun r hr e => ?_) (fun st => ?_))
                · rw [pz_ld_8, pz_ld_9]
                  have g1 := (IVs.2.2.1 r hr).2.2
                  rw [e] at g1
                  exact ⟨g1.1, fun z => by have := g1.2.1 z; omega⟩
                · unfold pz_Cc
                  rw [pz_ld_8, pz_ld_9, pz_ld_0 (k := 10) (by omega), e10]
                  simp only [pz_ld_11]
                  exact ⟨c1, by omega, c3, fun _ => ⟨e1, e2⟩, fun _ => by omega, fun z => by omega, fun _ => ⟨w0, by omega, fun _ => trivial, fun y w h1 h2 h3 => pz_ND_st st (none y w h1 h2 h3)⟩, fun z => by omega⟩
              · rw [if_pos w0]
                exact V _ c3 (fun z => absurd z w0) (fun y w h1 h2 h3 _ => none y w h1 h2 h3)
          · rw [if_pos x0]
            exact V _ hle (fun z => absurd z x0) (fun y w h1 h2 h3 h4 => hkk y w h1 h2 h3 (Or.inl h4))
        · rw [if_neg ht]
          refine pz_pw_Inv I hs (pz_cor0 (c := c) IVs (fun k x y h => pz_tll_k (by omega)) (fun k d y _ _ hd => pz_tll_x hd) (fun r hr e => ?_) (fun st => ?_))
          · rw [pz_tll_k (by omega), pz_tll_k (by omega)]
            have g1 := (IVs.2.2.1 r hr).2.2
            rw [e] at g1
            exact ⟨g1.1, g1.2.1⟩
          · unfold pz_Cc
            rw [pz_tll_k (k := 8) (by omega), pz_tll_k (k := 9) (by omega), pz_tll_k (k := 10) (by omega)]
            have up := pz_sm_upd (g := fun a => S.2 s 11 c a) (h := fun a => pz_tll (S.2 s) c (g 3) (g 5) (g 6) 11 c a) (b := g 3) (h11 _) (fun a e => pz_tll_y e) n
            refine ⟨c1, c2, c3, c4, h11, fun _ => ⟨?_, fun a ha t => pz_PF_st st ha (hF a ha t)⟩, fun z => by omega, fun z => by omega⟩
            unfold pz_te at ht
            omega
      · rw [if_neg hp]; exact I
    · rw [if_neg k3]
      by_cases hp : g 0 = 5 ∧ S.2 s 8 c 0 = g 2 ∧ g 2 % 2 = 1 ∧ S.2 s 9 c 0 = 3
      · rw [if_pos hp]
        obtain ⟨k5, p1, odd, p3⟩ := hp
        have hm : 1 ≤ g 2 ∧ g 2 ≤ 12 ∧ g 3 < n ∧ S.2 s 5 (g 2) (g 3) = g 5 ∧ g 5 ≠ 0 := by
          rcases hg with ⟨a, _⟩ | ⟨a, _⟩ | ⟨a, _⟩ | ⟨a, _⟩ | ⟨_, a, b, d, _, _, e, e'⟩
          · omega
          · omega
          · omega
          · omega
          · exact ⟨a, b, d, e, e'⟩
        obtain ⟨m1, m2, m3, m4, m5⟩ := hm
        obtain ⟨e1, e2⟩ := c4 (by omega)
        obtain ⟨d1, d2⟩ := c8 p3
        have hF : ∀ a, a < n → pz_tll (S.2 s) c (g 3) (g 5) (g 2) 11 c a ≠ 0 → pz_tll (S.2 s) c (g 3) (g 5) (g 2) 13 c a = S.2 s 8 c 0 ∧ S.2 s 5 (S.2 s 8 c 0) a = pz_tll (S.2 s) c (g 3) (g 5) (g 2) 12 c a ∧ pz_tll (S.2 s) c (g 3) (g 5) (g 2) 12 c a ≠ 0 := fun a ha t => by
          by_cases e : a = g 3
          · rw [e, pz_tll_12, pz_tll_13, p1]; exact ⟨rfl, m4, m5⟩
          · rw [pz_tll_y e] at t
            rw [pz_tll_y e, pz_tll_y e]; exact d2 a ha t
        have h11 : ∀ a, pz_tll (S.2 s) c (g 3) (g 5) (g 2) 11 c a ≤ 1 := pz_tll_le c5
        have I1 : pz_Inv n q f (pz_pw S s (pz_tll (S.2 s) c (g 3) (g 5) (g 2))) := by
          refine pz_pw_Inv I hs (pz_cor0 (c := c) IVs (fun k x y h => pz_tll_k (by omega)) (fun k d y _ _ hd => pz_tll_x hd) (fun r hr e => ?_) (fun st => ?_))
          · rw [pz_tll_k (by omega), pz_tll_k (by omega)]
            have g1 := (IVs.2.2.1 r hr).2.2
            rw [e] at g1
            exact ⟨g1.1, g1.2.1⟩
          · unfold pz_Cc
            rw [pz_tll_k (k := 8) (by omega), pz_tll_k (k := 9) (by omega), pz_tll_k (k := 10) (by omega), pz_tll_k (k := 17) (by omega)]
            refine ⟨c1, c2, c3, c4, h11, fun z => by omega, fun z => by omega, fun _ => ⟨d1, fun a ha t => ?_⟩⟩
            rw [pz_tll_k (k := 5) (by omega)]
            exact hF a ha t
        unfold pz_rec
        rw [pz_pw_s]
        by_cases cond : pz_te n (pz_tll (S.2 s) c (g 3) (g 5) (g 2)) c < q ∨ f + pz_te n (pz_tll (S.2 s) c (g 3) (g 5) (g 2)) c ≤ pz_be n (pz_tll (S.2 s) c (g 3) (g 5) (g 2)) c (g 2) + n
        · rw [if_pos cond]; exact I1
        · rw [if_neg cond, pz_pw_pw]
          have q3 := Q.2.2.1
          obtain ⟨b, hb, tb⟩ := pz_sm_pos n (show 0 < pz_te n (pz_tll (S.2 s) c (g 3) (g 5) (g 2)) c by omega)
          have lsx := pz_ls_ne (p := pz_tll (S.2 s) c (g 3) (g 5) (g 2)) (c := c) (r := g 2) n (fun b hb t _ => (hF b hb t).2.2) ⟨b, hb, by omega, by rw [(hF b hb (by omega)).1]; exact p1⟩
          rcases pz_ls_ex (pz_tll (S.2 s) c (g 3) (g 5) (g 2)) c (g 2) n with z | ⟨d, hd1, hd2, hd3, hd4⟩
          · exact absurd z lsx
          · have xle : pz_ls (pz_tll (S.2 s) c (g 3) (g 5) (g 2)) c (g 2) n ≤ 1000 := by
              rw [← hd4]
              obtain ⟨_, f2, f3⟩ := hF d hd1 hd2
              rw [← f2]
              exact ((IVs.1 d hd1).2.2.1 _ (by rw [f2]; exact f3)).2.2
            refine pz_vf_Inv (R := g 2 + 1) I hs hc (fun k x y h => by rw [pz_ld_0 (by omega), pz_tll_k (by omega)]) (fun k d y _ _ hd => by rw [pz_ld_x hd, pz_tll_x hd]) pz_ld_8 ?_ xle (fun z => absurd z lsx) (by omega) (by omega) (by rw [pz_ci_succ odd, ← p1]; exact e2) (by omega) (by rw [pz_ld_0 (by omega), pz_tll_k (by omega)]; exact c3) (fun a => pz_ld_11) ?_
            · by_cases z : S.2 s 17 (g 2 + 1) 0 = 0
              · exact z
              · have g1 := (IVs.2.2.1 _ z).2.2.1
                rw [pz_ci_succ odd, ← p1, e2] at g1
                omega
            · refine pz_recover (B := pz_be n (pz_tll (S.2 s) c (g 3) (g 5) (g 2)) c (g 2)) (t := fun a => pz_tll (S.2 s) c (g 3) (g 5) (g 2) 11 c a) (v := fun a => pz_tll (S.2 s) c (g 3) (g 5) (g 2) 12 c a) IVs (fun a _ => h11 a) odd (fun a ha t => ?_) (by rw [← p1]; exact d1) (fun b hb t => ?_) ?_ ⟨d, hd1, hd2, hd4⟩
              · obtain ⟨_, f2, f3⟩ := hF a ha t
                rw [p1] at f2
                exact ⟨f2, f3⟩
              · have mg := pz_mx_ge (g := fun a => if pz_tll (S.2 s) c (g 3) (g 5) (g 2) 11 c a ≠ 0 then pz_tf n (pz_tll (S.2 s) c (g 3) (g 5) (g 2)) c (g 2) (pz_tll (S.2 s) c (g 3) (g 5) (g 2) 12 c a) else 0) n b hb
                rw [if_pos t] at mg
                refine Nat.le_trans ?_ mg
                unfold pz_tf
                refine pz_sm_le n (fun a ha => ?_)
                by_cases y : pz_tll (S.2 s) c (g 3) (g 5) (g 2) 11 c a ≠ 0 ∧ pz_tll (S.2 s) c (g 3) (g 5) (g 2) 12 c a = pz_tll (S.2 s) c (g 3) (g 5) (g 2) 12 c b
                · rw [if_pos y, if_pos ⟨y.1, by rw [(hF a ha y.1).1]; exact p1, y.2⟩]; exact Nat.le_refl _
                · rw [if_neg y]; exact Nat.zero_le _
              · have := cond
                show pz_be n _ c (g 2) + n < f + pz_te n _ c
                omega
      · rw [if_neg hp]; exact I
theorem pz_cast_Inv {n q f s a r v : Nat} {S : pz_T} {p1 : pz_P} (Q : pz_Q n q f) (I : pz_Inv n q f S) (hs : s < 3) (ha : a < n)
    (hk : ∀ k x y, 5 ≤ k → p1 k x y = S.2 s k x y) (ho : ∀ k b, k ≤ 4 → b ≠ a → p1 k b 0 = S.2 s k b 0) (h0 : p1 0 a 0 = r) (hr0 : S.2 s 0 a 0 ≤ r) (hr12 : r ≤ 12) (hr2 : S.2 s 2 a 0 < r) (hv : v ≠ 0) (hv2 : v ≤ 1000)
    (hg : S.2 s 17 r 0 = 1 ∨ S.2 s 17 r 0 = v + 1) (hO4 : p1 4 a 0 ≤ r) (hO3 : p1 3 a 0 ≤ 1000) (hO : p1 4 a 0 = r → S.2 s 17 r 0 = 1) : pz_Inv n q f (pz_cast n q f (pz_pw S s p1) s a r v) := by
  have IVs := I.2.1 s hs
  unfold pz_cast
  rw [pz_pw_s, pz_pw_pw]
  have e1 : ∀ k x y, k ≠ 1 → k ≠ 2 → k ≠ 5 → k ≠ 16 → pz_v2 n q f p1 a r v k x y = p1 k x y := fun k x y h1 h2 h5 h16 => by
    unfold pz_v2 pz_v1; rw [pz_u_k h16, pz_u_k h5, pz_u_k h2, pz_u_k h1]
  have e5 : ∀ x b, pz_v2 n q f p1 a r v 5 x b = pz_v1 p1 a r v 5 x b := fun x b => by unfold pz_v2; rw [pz_u_k (by omega)]
  have V : pz_v2 n q f p1 a r v 5 r a = v := by rw [e5]; unfold pz_v1; rw [pz_u_s]
  have J : pz_IV n q f (pz_v2 n q f p1 a r v) ∧ pz_St n (S.2 s) (pz_v2 n q f p1 a r v) := by
    refine pz_acc1 (b := a) (r := r) (v := v) Q ha IVs (fun k x y h6 h16 => ?_) (fun k b hk4 hb => ?_) (fun x b h => ?_) V ?_ ?_ ?_ hr0 hr12 hr2 hv hv2 hg ?_ ?_ (fun z => ?_) ?_
    · rw [e1 k x y (by omega) (by omega) (by omega) h16]; exact hk k x y (by omega)
    · unfold pz_v2 pz_v1
      rw [pz_u_k (by omega), pz_u_k (by omega), pz_u_x hb, pz_u_x hb]; exact ho k b hk4 hb
    · rw [e5]
      unfold pz_v1
      have : pz_u (pz_u (pz_u p1 1 a 0 v) 2 a 0 r) 5 r a v 5 x b = pz_u (pz_u p1 1 a 0 v) 2 a 0 r 5 x b := by
        simp only [pz_u]
        rw [if_neg (fun z => h ⟨z.2.1, z.2.2⟩)]
      rw [this, pz_u_k (by omega), pz_u_k (by omega)]
      exact hk 5 x b (by omega)
    · unfold pz_v2 pz_v1; rw [pz_u_k (by omega), pz_u_k (by omega), pz_u_k (by omega), pz_u_s]
    · unfold pz_v2 pz_v1; rw [pz_u_k (by omega), pz_u_k (by omega), pz_u_s]
    · rw [e1 0 a 0 (by omega) (by omega) (by omega) (by omega)]; exact h0
    · rw [e1 4 a 0 (by omega) (by omega) (by omega) (by omega)]; exact hO4
    · rw [e1 3 a 0 (by omega) (by omega) (by omega) (by omega)]; exact hO3
    · rw [e1 4 a 0 (by omega) (by omega) (by omega) (by omega)] at z; exact hO z
    · have ec : pz_cv (pz_v2 n q f p1 a r v) n r v = pz_cv (pz_v1 p1 a r v) n r v := by unfold pz_cv; simp only [e5]
      rw [ec]
      unfold pz_v2
      rw [pz_u_s, hk 16 0 0 (by omega)]
  have I2 := pz_pw_Inv I hs J
  have M : ∀ t, t = 8 + pz_ci r ∨ t = 10 → pz_MS n (pz_v2 n q f p1 a r v) (pz_mg 5 s r a t v 0) := fun t ht => Or.inr (Or.inr (Or.inr (Or.inr ⟨rfl, show 1 ≤ r by omega, hr12, ha, ht, hv2, V, hv⟩)))
  refine pz_sd_Inv (pz_sd_Inv I2 hs ?_) hs ?_
  · show pz_MS n ((pz_pw S s _).2 s) _
    rw [pz_pw_s]
    exact M _ (Or.inl rfl)
  · show pz_MS n ((pz_sd (pz_pw S s _) _).2 s) _
    rw [pz_sd_2 _ _ hs, pz_pw_s]
    exact M _ (Or.inr rfl)
theorem pz_accept_Inv {n q f s a : Nat} {S : pz_T} {g : pz_M} (Q : pz_Q n q f) (I : pz_Inv n q f S) (hs : s < 3) (ha : a < n) (hg : pz_MS n (S.2 s) g) : pz_Inv n q f (pz_accept n q f S s a (g 0) (g 2) (g 5)) := by
  have IVs := I.2.1 s hs
  obtain ⟨a1, a2, a3, a4⟩ := IVs.1 a ha
  obtain ⟨o1, o2, o3⟩ := IVs.2.1 a ha
  unfold pz_accept
  by_cases k2 : g 0 = 2
  · rw [if_pos k2]
    have hm : 1 ≤ g 2 ∧ g 2 ≤ 12 := by
      rcases hg with ⟨z, _⟩ | ⟨_, x, y, _⟩ | ⟨z, _⟩ | ⟨z, _⟩ | ⟨z, _⟩
      · omega
      · exact ⟨x, y⟩
      all_goals omega
    by_cases hr : S.2 s 0 a 0 < g 2
    · rw [if_pos hr]
      have J : pz_IV n q f (pz_u (S.2 s) 0 a 0 (g 2)) ∧ pz_St n (S.2 s) (pz_u (S.2 s) 0 a 0 (g 2)) := by
        refine pz_acc0 (b := a) IVs (fun k x y h => pz_u_k (by omega)) (fun k b _ hb => pz_u_x hb) (pz_u_k (by omega)) (pz_u_k (by omega)) (by rw [pz_u_s]; omega) (by rw [pz_u_s]; exact hm.2) ?_
        rw [pz_u_s, pz_u_k (by omega), pz_u_k (by omega)]
        exact ⟨by omega, o2, fun _ z => by omega⟩
      refine pz_sd_Inv (pz_pw_Inv I hs J) hs ?_
      show pz_MS n ((pz_pw S s _).2 s) _
      rw [pz_pw_s]
      refine Or.inr (Or.inr (Or.inl ⟨rfl, hm.1, hm.2, ha, rfl, ?_, ?_⟩))
      · show S.2 s 1 a 0 ≤ 1000
        rcases a4 with ⟨_, z⟩ | ⟨_, z1, z2⟩
        · omega
        · have := (a3 _ (by rw [z1]; exact z2)).2.2
          omega
      · show pz_PF _ (g 2) a (S.2 s 1 a 0) (S.2 s 2 a 0)
        refine ⟨by rw [pz_u_s]; exact Nat.le_refl _, by omega, fun x hx hne => ?_, ?_⟩
        · rw [pz_u_k (by omega)] at hne
          exact (a3 x hne).2.1
        · rw [pz_u_k (by omega)]
          exact a4
    · rw [if_neg hr]; exact I
  · rw [if_neg k2]
    by_cases k4 : g 0 = 4
    · rw [if_pos k4]
      have hm : 1 ≤ g 2 ∧ g 2 ≤ 12 ∧ g 5 ≤ 1000 ∧ S.2 s 17 (g 2) 0 = g 5 + 1 := by
        rcases hg with ⟨z, _⟩ | ⟨z, _⟩ | ⟨z, _⟩ | ⟨_, x, y, _, w, z⟩ | ⟨z, _⟩
        · omega
        · omega
        · omega
        · exact ⟨x, y, w, z⟩
        · omega
      obtain ⟨m1, m2, m3, m4⟩ := hm
      by_cases hr : S.2 s 0 a 0 ≤ g 2 ∧ S.2 s 2 a 0 < g 2
      · rw [if_pos hr]
        by_cases hv : g 5 = 0
        · rw [if_neg (fun z => z hv)]
          have g1 : S.2 s 17 (g 2) 0 = 1 := by omega
          have E0 : pz_u (pz_u (S.2 s) 0 a 0 (g 2)) 4 a 0 (g 2) 0 a 0 = g 2 := by rw [pz_u_k (by omega), pz_u_s]
          have E3 : pz_u (pz_u (S.2 s) 0 a 0 (g 2)) 4 a 0 (g 2) 3 a 0 = S.2 s 3 a 0 := by rw [pz_u_k (by omega), pz_u_k (by omega)]
          have E4 : pz_u (pz_u (S.2 s) 0 a 0 (g 2)) 4 a 0 (g 2) 4 a 0 = g 2 := pz_u_s _ _ _ _ _
          by_cases hp : S.2 s 3 a 0 = 0
          · rw [if_neg (fun z => z hp)]
            refine pz_pw_Inv I hs (pz_acc0 (b := a) IVs (fun k x y h => by rw [pz_u_k (by omega), pz_u_k (by omega)]) (fun k b _ hb => by rw [pz_u_x hb, pz_u_x hb]) (by rw [pz_u_k (by omega), pz_u_k (by omega)]) (by rw [pz_u_k (by omega), pz_u_k (by omega)]) (by rw [E0]; exact hr.1) (by rw [E0]; exact m2) ?_)
            rw [E0, E3, E4]
            exact ⟨Nat.le_refl _, o2, fun _ _ => ⟨g1, fun z => absurd hp z⟩⟩
          · rw [if_pos hp]
            exact pz_cast_Inv Q I hs ha (fun k x y h => by rw [pz_u_k (by omega), pz_u_k (by omega)]) (fun k b _ hb => by rw [pz_u_x hb, pz_u_x hb]) E0 hr.1 m2 hr.2 hp o2 (Or.inl g1) (by rw [E4]; exact Nat.le_refl _) (by rw [E3]; exact o2) (fun _ => g1)
        · rw [if_pos hv]
          refine pz_cast_Inv Q I hs ha (fun k x y h => pz_u_k (by omega)) (fun k b _ hb => pz_u_x hb) (pz_u_s _ _ _ _ _) hr.1 m2 hr.2 hv m3 (Or.inr m4) (by rw [pz_u_k (by omega)]; omega) (by rw [pz_u_k (by omega)]; exact o2) (fun z => ?_)
          rw [pz_u_k (by omega)] at z
          have e : S.2 s 0 a 0 = g 2 := by omega
          have := (o3 (by omega) (by omega)).1
          rw [e] at this
          exact this
      · rw [if_neg hr]; exact I
    · rw [if_neg k4]
      by_cases k1 : g 0 = 1
      · rw [if_pos k1]
        have hm : 1 ≤ g 5 ∧ g 5 ≤ 1000 := by
          rcases hg with ⟨_, _, _, x, y⟩ | ⟨z, _⟩ | ⟨z, _⟩ | ⟨z, _⟩ | ⟨z, _⟩
          · exact ⟨x, y⟩
          all_goals omega
        by_cases hp : S.2 s 3 a 0 = 0
        · rw [if_pos hp]
          by_cases ho : 0 < S.2 s 0 a 0 ∧ S.2 s 4 a 0 = S.2 s 0 a 0 ∧ S.2 s 2 a 0 < S.2 s 0 a 0
          · rw [if_pos ho]
            have g1 := (o3 ho.1 ho.2.1).1
            exact pz_cast_Inv Q I hs ha (fun k x y h => pz_u_k (by omega)) (fun k b _ hb => pz_u_x hb) (pz_u_k (by omega)) (Nat.le_refl _) a2 ho.2.2 (by omega) hm.2 (Or.inl g1) (by rw [pz_u_k (by omega)]; exact o1) (by rw [pz_u_s]; exact hm.2) (fun _ => g1)
          · rw [if_neg ho]
            refine pz_pw_Inv I hs (pz_acc0 (b := a) IVs (fun k x y h => pz_u_k (by omega)) (fun k b _ hb => pz_u_x hb) (pz_u_k (by omega)) (pz_u_k (by omega)) (by rw [pz_u_k (by omega)]; exact Nat.le_refl _) (by rw [pz_u_k (by omega)]; exact a2) ?_)
            rw [pz_u_s, pz_u_k (k' := 4) (by omega), pz_u_k (k' := 0) (by omega)]
            exact ⟨o1, hm.2, fun z1 z2 => ⟨(o3 z1 z2).1, fun _ => by omega⟩⟩
        · rw [if_neg hp]; exact I
      · rw [if_neg k1]; exact I
theorem pz_l2_Inv {n q f s r a v : Nat} {S : pz_T} (I : pz_Inv n q f S) (hs : s < 3) (ha : a < n) : pz_Inv n q f (pz_pw S s (pz_l2 n q f (S.2 s) r a v)) := by
  have IVs := I.2.1 s hs
  have e : ∀ k x y, k ≠ 6 → k ≠ 7 → pz_l2 n q f (S.2 s) r a v k x y = S.2 s k x y := fun k x y h6 h7 => by unfold pz_l2; rw [pz_u_k h7, pz_u_k h6]
  have e5 : ∀ x y, pz_l2 n q f (S.2 s) r a v 5 x y = S.2 s 5 x y := fun x y => e 5 x y (by omega) (by omega)
  have st : pz_St n (S.2 s) (pz_l2 n q f (S.2 s) r a v) := pz_St_same (fun b => e 0 b 0 (by omega) (by omega)) e5 (fun x _ => e 17 x 0 (by omega) (by omega))
  obtain ⟨A, O, G1, G2, G3, C, Z, Sg⟩ := IVs
  refine pz_pw_Inv I hs ⟨⟨?_, ?_, ?_, ?_, pz_G3_st st (fun x => e 17 x 0 (by omega) (by omega)) G3, fun c hc => pz_Cc_st st (fun k y _ _ => e k c y (by omega) (by omega)) (C c hc), ?_, ?_⟩, st⟩
  · intro b hb
    rw [e 0 b 0 (by omega) (by omega), e 1 b 0 (by omega) (by omega), e 2 b 0 (by omega) (by omega)]
    simp only [e5]
    exact A b hb
  · intro b hb
    rw [e 0 b 0 (by omega) (by omega), e 2 b 0 (by omega) (by omega), e 3 b 0 (by omega) (by omega), e 4 b 0 (by omega) (by omega), e 17 _ 0 (by omega) (by omega)]
    exact O b hb
  · intro x hx
    rw [e 17 x 0 (by omega) (by omega)] at hx
    rw [e 17 x 0 (by omega) (by omega), e 8 _ 0 (by omega) (by omega), e 9 _ 0 (by omega) (by omega)]
    exact G1 x hx
  · intro x b hb hx
    rw [e5] at hx
    rw [e5, e 17 x 0 (by omega) (by omega)]
    exact G2 x b hb hx
  · intro x b hb
    rw [e5]
    refine ⟨(Z x b hb).1, ?_⟩
    unfold pz_l2
    rw [pz_u_k (by omega), pz_u_y (by omega)]
    exact (Z x b hb).2
  · have ec : ∀ x w, pz_cv (pz_l2 n q f (S.2 s) r a v) n x w = pz_cv (S.2 s) n x w := fun x w => by unfold pz_cv; simp only [e5]
    unfold pz_S
    rw [e 16 0 0 (by omega) (by omega)]
    simp only [ec]
    exact Sg
theorem pz_hear_Inv {n q f : Nat} {S : pz_T} {g : pz_M} (Q : pz_Q n q f) (I : pz_Inv n q f S) (hs : g 1 < 3) (hg : pz_MS n (S.2 (g 1)) g) : pz_Inv n q f (pz_hear n q f S g) := by
  unfold pz_hear
  split
  · exact I
  · have q2 := Q.2.1
    have cl := pz_ci_lt (g 2)
    split
    · refine pz_accept_Inv Q I hs ?_ hg
      rcases hg with ⟨_, _, z | z | z, _⟩ | ⟨_, _, _, z, _⟩ | ⟨_, _, _, _, z, _⟩ | ⟨_, _, _, z, _⟩ | ⟨_, _, _, _, z | z, _⟩ <;> omega
    · split
      · exact pz_coord_Inv Q I hs (by omega) hg (by omega)
      · refine pz_l2_Inv I hs ?_
        rcases hg with ⟨_, _, z | z | z, _⟩ | ⟨_, _, _, z, _⟩ | ⟨_, _, _, _, z, _⟩ | ⟨_, _, _, z, _⟩ | ⟨_, _, _, z1, z, _⟩ <;> omega
theorem pz_deliver_Inv {n q f i : Nat} {S : pz_T} {g : pz_M} (Q : pz_Q n q f) (I : pz_Inv n q f S) (h : S.1[i]? = some g) : pz_Inv n q f (pz_hear n q f (pz_rm S i) g) := by
  obtain ⟨h1, h2⟩ := I.2.2.1 g (List.mem_of_getElem? h)
  exact pz_hear_Inv Q (pz_rm_Inv I) h1 h2
end
section
/-! Rows of my own over the kit's: a world whose cells have numbers of two parts; a memory of ints (cell, place); contracts of methods that make no cell. -/
def xw_ws (ids : List (Nat × Nat)) (ad : Nat × Nat → Nat) (cf : Nat × Nat → va_E) : va_W := ids.map (fun k => (ad k, cf k))
def xw_up (cf : Nat × Nat → va_E) (k : Nat × Nat) (e : va_E) : Nat × Nat → va_E := fun j => if j = k then e else cf j
def xw_A (ids : List (Nat × Nat)) (ad : Nat × Nat → Nat) : Nat → Prop := fun q => ∃ k, k ∈ ids ∧ ad k = q
theorem xw_at {ids : List (Nat × Nat)} {ad : Nat × Nat → Nat} {cf : Nat × Nat → va_E} {q0 : Nat} {k : Nat × Nat} (h : ids[q0]? = some k) : (xw_ws ids ad cf)[q0]? = some (ad k, cf k) := by
  simp [xw_ws, h]
theorem xw_of {ids : List (Nat × Nat)} {ad : Nat × Nat → Nat} {cf : Nat × Nat → va_E} {q0 : Nat} {x : Nat × va_E} (h : (xw_ws ids ad cf)[q0]? = some x) : ∃ k, ids[q0]? = some k ∧ x = (ad k, cf k) := by
  simp only [xw_ws, List.getElem?_map] at h
  cases hk : ids[q0]? with
  | none => rw [hk] at h; cases h
  | some k => rw [hk] at h; exact ⟨k, rfl, (Option.some.inj h).symm⟩
theorem xw_set {ids : List (Nat × Nat)} {ad : Nat × Nat → Nat} {cf : Nat × Nat → va_E} {A : Nat → Prop} (hD : va_D A (xw_ws ids ad cf)) {q0 : Nat} {k : Nat × Nat} (h : ids[q0]? = some k) (e : va_E) : (xw_ws ids ad cf).set q0 (ad k, e) = xw_ws ids ad (xw_up cf k e) := by
  have hl : q0 < ids.length := (List.getElem?_eq_some_iff.mp h).1
  refine List.ext_getElem? (fun i => ?_)
  by_cases hi : i = q0
  · subst hi
    rw [List.getElem?_set_self (by simp [xw_ws]; exact hl), xw_at h]
    simp [xw_up]
  · rw [List.getElem?_set_ne (Ne.symm hi)]
    cases hk : ids[i]? with
    | none => simp [xw_ws, hk]
    | some j =>
      rw [xw_at hk, xw_at hk]
      have hne : j ≠ k := fun z => by
        subst z
        exact hi (hD.1 i q0 _ _ (xw_at hk) (xw_at h) rfl)
      simp [xw_up, hne]
theorem xw_D {ids : List (Nat × Nat)} {ad : Nat × Nat → Nat} {cf cf' : Nat × Nat → va_E} {A : Nat → Prop} (hD : va_D A (xw_ws ids ad cf)) : va_D A (xw_ws ids ad cf') := by
  refine ⟨fun i j x y hi hj hxy => ?_, fun i x hi => ?_⟩
  · obtain ⟨a, ha, rfl⟩ := xw_of hi
    obtain ⟨b, hb, rfl⟩ := xw_of hj
    exact hD.1 i j _ _ (xw_at ha) (xw_at hb) hxy
  · obtain ⟨a, ha, rfl⟩ := xw_of hi
    exact hD.2 i (ad a, cf a) (xw_at ha)
theorem xw_DA {ids : List (Nat × Nat)} {ad : Nat × Nat → Nat} {cf : Nat × Nat → va_E} {A : Nat → Prop} (hD : va_D A (xw_ws ids ad cf)) : va_D (xw_A ids ad) (xw_ws ids ad cf) := by
  refine ⟨hD.1, fun i x hi => ?_⟩
  obtain ⟨a, ha, rfl⟩ := xw_of hi
  exact ⟨a, List.mem_of_getElem? ha, rfl⟩
/-- the fixed part of a walk: machine, bytes, words of the tables, own name, what is known of the names -/
def xw_Z (p : Program) (c : Code) (cc : ByteArray) (s : State) (args : Array Value) (m : MethodId) (own : String) (Ts : List Cond) (D : va_G) (cl : List vw_C) (tys : List (ClassId × FieldType)) : Prop :=
  p.tables.exec = Jvm.exec ∧ c.code = cc ∧ (∀ w ∈ Ts, w.before args s = true) ∧ s.vm.findClass own = some m.cls ∧ va_K D cl tys s
/-- the world now -/
def xw_H (D : va_G) (cl : List vw_C) (A : Nat → Prop) (H0 : Heap) (ids : List (Nat × Nat)) (ad : Nat × Nat → Nat) (cf : Nat × Nat → va_E) (H : Heap) (locs : List Loc) : Prop :=
  va_P D cl (xw_ws ids ad cf) H ∧ va_D A (xw_ws ids ad cf) ∧ va_S A H0 H locs
def xw_M (xk : Nat × Nat → (Nat → Int32) → va_E) (M : Nat × Nat → Nat → Int32) : Nat × Nat → va_E := fun k => xk k (M k)
def xw_mw (M : Nat × Nat → Nat → Int32) (k : Nat × Nat) (g : Nat → Int32) : Nat × Nat → Nat → Int32 := fun j => if j = k then g else M j
theorem xw_mw_s (M : Nat × Nat → Nat → Int32) (k : Nat × Nat) (g : Nat → Int32) : xw_mw M k g k = g := by simp [xw_mw]
theorem xw_mw_n {M : Nat × Nat → Nat → Int32} {k j : Nat × Nat} {g : Nat → Int32} (h : j ≠ k) : xw_mw M k g j = M j := by simp [xw_mw, h]
theorem xw_up_M (xk : Nat × Nat → (Nat → Int32) → va_E) (M : Nat × Nat → Nat → Int32) (k : Nat × Nat) (g : Nat → Int32) : xw_up (xw_M xk M) k (xk k g) = xw_M xk (xw_mw M k g) := by
  funext j
  by_cases h : j = k
  · subst h; simp [xw_up, xw_M, xw_mw]
  · simp [xw_up, xw_M, xw_mw, h]
section XW
variable {p : Program} {l : Launch} {e : Env} {R : Room} {s : State} {m : MethodId} {args : Array Value} {below : List Frame} {meth : Method} {c : Code} {H : Heap} {locs : List Loc} {cells slots : Nat} {Q : State → Prop}
variable {cc : ByteArray} {pc : Nat} {ls : Array Slot} {rest : List Value} {D : va_G} {cl : List vw_C} {A : Nat → Prop} {tys : List (ClassId × FieldType)} {H0 : Heap} {Ts : List Cond} {own : String}
variable {ids : List (Nat × Nat)} {ad : Nat × Nat → Nat} {cf : Nat × Nat → va_E} {xk : Nat × Nat → (Nat → Int32) → va_E} {M : Nat × Nat → Nat → Int32}
theorem xw_get (Z : xw_Z p c cc s args m own Ts D cl tys) (hw : xw_H D cl A H0 ids ad cf H locs) {k : Nat × Nat} (hk : k ∈ ids) {ci : Nat} {fs : List Value} (he : cf k = .inr (ci, fs)) {C : String} {T : u_T} {N : Nat} (hc : cl[ci]? = some (C, T, N)) (hin : ∀ w ∈ u_ws C T N, w ∈ Ts) (j : Nat) (hj : j < N) {index : Nat} (hl : Cond.fieldLink own index C (T j).2.1 (T j).2.2.1 ∈ Ts) (hT : (T j).1 = C) {v : Value} (hv : fs[j]? = some v) (hdg : decode cc pc = .ok (.getfield index, 3))
    (kk : W p l e R s m args below meth c H locs cells slots Q (F0 m (pc + 3) ls (v :: rest))) : W p l e R s m args below meth c H locs cells slots Q (F0 m pc ls (.ref (ad k) :: rest)) := by
  obtain ⟨hx, hb, hts, hown, hK⟩ := Z
  obtain ⟨q0, hq⟩ := List.getElem?_of_mem hk
  exact va_get hx hb hts hin hown hK hw.1 q0 (by rw [xw_at hq, he]) hc j hj (hts _ hl) (fun x h => by rw [hT] at h; exact h) hv hdg kk
theorem xw_put (Z : xw_Z p c cc s args m own Ts D cl tys) (hw : xw_H D cl A H0 ids ad cf H locs) {k : Nat × Nat} (hk : k ∈ ids) {ci : Nat} {fs : List Value} (he : cf k = .inr (ci, fs)) {C : String} {T : u_T} {N : Nat} (hc : cl[ci]? = some (C, T, N)) (hin : ∀ w ∈ u_ws C T N, w ∈ Ts) (ty0 : Nat → FieldType) (hty : ∀ k, k < N → parseFieldDescriptor (T k).2.2.1 = some (ty0 k)) (hnm : ∀ a, a < N → ∀ b, b < N → a ≠ b → (T a).2.1 ≠ (T b).2.1) (j : Nat) (hj : j < N) {index : Nat} (hl : Cond.fieldLink own index C (T j).2.1 (T j).2.2.1 ∈ Ts) (hT : (T j).1 = C) (hfin : (T j).2.2.2 = false) {v : Value} (hn : narrow (ty0 j) v = v) (hfit : fits (ty0 j) v = true) (hlen : j < fs.length) (hdg : decode cc pc = .ok (.putfield index, 3))
    (kk : ∀ (H1 : Heap) (locs1 : List Loc), xw_H D cl A H0 ids ad (xw_up cf k (.inr (ci, fs.set j v))) H1 locs1 → W p l e R s m args below meth c H1 locs1 cells slots Q (F0 m (pc + 3) ls rest)) : W p l e R s m args below meth c H locs cells slots Q (F0 m pc ls (v :: .ref (ad k) :: rest)) := by
  obtain ⟨hx, hb, hts, hown, hK⟩ := Z
  obtain ⟨q0, hq⟩ := List.getElem?_of_mem hk
  refine va_put (A := A) (H0 := H0) hx hb hts hin ty0 hty hnm hown hK hw.1 hw.2.1 hw.2.2 q0 (by rw [xw_at hq, he]) hc j hj (hts _ hl) (fun x h => by rw [hT] at h; exact h) hfin (hty j hj) hn hfit hlen hdg (fun H1 locs1 hP hD hS => ?_)
  rw [xw_set hw.2.1 hq] at hP hD
  exact kk H1 locs1 ⟨hP, hD, hS⟩
/-- an int field of the memory -/
theorem xw_puti (Z : xw_Z p c cc s args m own Ts D cl tys) (hw : xw_H D cl A H0 ids ad (xw_M xk M) H locs) {k : Nat × Nat} (hk : k ∈ ids) {ci : Nat} {fs : (Nat → Int32) → List Value} (he : ∀ g, xk k g = .inr (ci, fs g)) {C : String} {T : u_T} {N : Nat} (hc : cl[ci]? = some (C, T, N)) (hin : ∀ w ∈ u_ws C T N, w ∈ Ts) (ty0 : Nat → FieldType) (hty : ∀ k, k < N → parseFieldDescriptor (T k).2.2.1 = some (ty0 k)) (hnm : ∀ a, a < N → ∀ b, b < N → a ≠ b → (T a).2.1 ≠ (T b).2.1) (j : Nat) (hj : j < N) {index : Nat} (hl : Cond.fieldLink own index C (T j).2.1 (T j).2.2.1 ∈ Ts) (hT : (T j).1 = C) (hfin : (T j).2.2.2 = false) {v : Int32} (hi : ty0 j = .int) (hset : ∀ g : Nat → Int32, j < (fs g).length ∧ (fs g).set j (.int v) = fs (upd g j v)) (hdg : decode cc pc = .ok (.putfield index, 3))
    (kk : ∀ (H1 : Heap) (locs1 : List Loc), xw_H D cl A H0 ids ad (xw_M xk (xw_mw M k (upd (M k) j v))) H1 locs1 → W p l e R s m args below meth c H1 locs1 cells slots Q (F0 m (pc + 3) ls rest)) : W p l e R s m args below meth c H locs cells slots Q (F0 m pc ls (.int v :: .ref (ad k) :: rest)) := by
  refine xw_put Z hw hk (he (M k)) hc hin ty0 hty hnm j hj hl hT hfin (by rw [hi]; rfl) (by rw [hi]; rfl) (hset _).1 hdg (fun H1 locs1 h => ?_)
  rw [(hset _).2, ← he, xw_up_M] at h
  exact kk H1 locs1 h
theorem xw_iald (Z : xw_Z p c cc s args m own Ts D cl tys) (hw : xw_H D cl A H0 ids ad (xw_M xk M) H locs) {k : Nat × Nat} (hk : k ∈ ids) {cA : ClassId} {N : Nat} (he : ∀ g, xk k g = .inl (cA, N, .inl g)) (t0 : Nat) (ht : tys[t0]? = some (cA, .int)) {i : Int32} (j : Nat) (hi : i = nI j) (hj : j < N) (hN : N < 2 ^ 31) (hdg : decode cc pc = .ok (.iaload, 1))
    (kk : W p l e R s m args below meth c H locs cells slots Q (F0 m (pc + 1) ls (.int (M k j) :: rest))) : W p l e R s m args below meth c H locs cells slots Q (F0 m pc ls (.int i :: .ref (ad k) :: rest)) := by
  obtain ⟨hx, hb, hts, hown, hK⟩ := Z
  obtain ⟨q0, hq⟩ := List.getElem?_of_mem hk
  subst hi
  refine va_iald hx hb hK hw.1 q0 t0 (f := M k) (n := N) (by rw [xw_at hq]; exact congrArg (fun z => some (ad k, z)) (he (M k))) ht (vp_in_nI hj hN) hdg ?_
  rw [nI_clamp (by omega)]
  exact kk
theorem xw_iast (Z : xw_Z p c cc s args m own Ts D cl tys) (hw : xw_H D cl A H0 ids ad (xw_M xk M) H locs) {k : Nat × Nat} (hk : k ∈ ids) {cA : ClassId} {N : Nat} (he : ∀ g, xk k g = .inl (cA, N, .inl g)) (t0 : Nat) (ht : tys[t0]? = some (cA, .int)) {i x : Int32} (j : Nat) (hi : i = nI j) (hj : j < N) (hN : N < 2 ^ 31) (hdg : decode cc pc = .ok (.iastore, 1))
    (kk : ∀ (H1 : Heap) (locs1 : List Loc), xw_H D cl A H0 ids ad (xw_M xk (xw_mw M k (upd (M k) j x))) H1 locs1 → W p l e R s m args below meth c H1 locs1 cells slots Q (F0 m (pc + 1) ls rest)) : W p l e R s m args below meth c H locs cells slots Q (F0 m pc ls (.int x :: .int i :: .ref (ad k) :: rest)) := by
  obtain ⟨hx, hb, hts, hown, hK⟩ := Z
  obtain ⟨q0, hq⟩ := List.getElem?_of_mem hk
  subst hi
  refine va_iast (A := A) (H0 := H0) hx hb hK hw.1 hw.2.1 hw.2.2 q0 t0 (f := M k) (n := N) (by rw [xw_at hq]; exact congrArg (fun z => some (ad k, z)) (he (M k))) ht (vp_in_nI hj hN) hdg (fun H1 locs1 hP hD hS => ?_)
  rw [nI_clamp (by omega), xw_set hw.2.1 hq, ← he, xw_up_M] at hP hD
  exact kk H1 locs1 ⟨hP, hD, hS⟩
theorem xw_zald (Z : xw_Z p c cc s args m own Ts D cl tys) (hw : xw_H D cl A H0 ids ad (xw_M xk M) H locs) {k : Nat × Nat} (hk : k ∈ ids) {cA : ClassId} {N : Nat} (he : ∀ g, xk k g = .inl (cA, N, .inl g)) (t0 : Nat) (ht : tys[t0]? = some (cA, .boolean)) {i : Int32} (j : Nat) (hi : i = nI j) (hj : j < N) (hN : N < 2 ^ 31) (hdg : decode cc pc = .ok (.baload, 1))
    (kk : W p l e R s m args below meth c H locs cells slots Q (F0 m (pc + 1) ls (.int (M k j) :: rest))) : W p l e R s m args below meth c H locs cells slots Q (F0 m pc ls (.int i :: .ref (ad k) :: rest)) := by
  obtain ⟨hx, hb, hts, hown, hK⟩ := Z
  obtain ⟨q0, hq⟩ := List.getElem?_of_mem hk
  subst hi
  refine va_zald hx hb hK hw.1 q0 t0 (f := M k) (n := N) (by rw [xw_at hq]; exact congrArg (fun z => some (ad k, z)) (he (M k))) ht (vp_in_nI hj hN) hdg ?_
  rw [nI_clamp (by omega)]
  exact kk
theorem xw_zast (Z : xw_Z p c cc s args m own Ts D cl tys) (hw : xw_H D cl A H0 ids ad (xw_M xk M) H locs) {k : Nat × Nat} (hk : k ∈ ids) {cA : ClassId} {N : Nat} (he : ∀ g, xk k g = .inl (cA, N, .inl g)) (t0 : Nat) (ht : tys[t0]? = some (cA, .boolean)) {i x : Int32} (hx01 : vp_nar .boolean x = x) (j : Nat) (hi : i = nI j) (hj : j < N) (hN : N < 2 ^ 31) (hdg : decode cc pc = .ok (.bastore, 1))
    (kk : ∀ (H1 : Heap) (locs1 : List Loc), xw_H D cl A H0 ids ad (xw_M xk (xw_mw M k (upd (M k) j x))) H1 locs1 → W p l e R s m args below meth c H1 locs1 cells slots Q (F0 m (pc + 1) ls rest)) : W p l e R s m args below meth c H locs cells slots Q (F0 m pc ls (.int x :: .int i :: .ref (ad k) :: rest)) := by
  obtain ⟨hx, hb, hts, hown, hK⟩ := Z
  obtain ⟨q0, hq⟩ := List.getElem?_of_mem hk
  subst hi
  refine va_zast (A := A) (H0 := H0) hx hb hK hw.1 hw.2.1 hw.2.2 q0 t0 (f := M k) (n := N) (by rw [xw_at hq]; exact congrArg (fun z => some (ad k, z)) (he (M k))) ht (vp_in_nI hj hN) hdg (fun H1 locs1 hP hD hS => ?_)
  rw [nI_clamp (by omega), xw_set hw.2.1 hq, hx01, ← he, xw_up_M] at hP hD
  exact kk H1 locs1 ⟨hP, hD, hS⟩
/-- an array of references that stays as it is -/
theorem xw_aald (Z : xw_Z p c cc s args m own Ts D cl tys) (hw : xw_H D cl A H0 ids ad cf H locs) {k : Nat × Nat} (hk : k ∈ ids) {cA : ClassId} {N : Nat} {f : Nat → Option Nat} (he : cf k = .inl (cA, N, .inr (.inr (.inr (.inr f))))) {C : String} (t0 : Nat) (ht : tys[t0]? = some (cA, .object C)) {i : Int32} (j : Nat) (hi : i = nI j) (hj : j < N) (hN : N < 2 ^ 31) {a : Nat} (hf : f j = some a) (hdg : decode cc pc = .ok (.aaload, 1))
    (kk : W p l e R s m args below meth c H locs cells slots Q (F0 m (pc + 1) ls (.ref a :: rest))) : W p l e R s m args below meth c H locs cells slots Q (F0 m pc ls (.int i :: .ref (ad k) :: rest)) := by
  obtain ⟨hx, hb, hts, hown, hK⟩ := Z
  obtain ⟨q0, hq⟩ := List.getElem?_of_mem hk
  subst hi
  refine va_aldq hx hb hK hw.1 q0 t0 (f := f) (n := N) (by rw [xw_at hq, he]) ht (vp_in_nI hj hN) hdg ?_
  rw [nI_clamp (by omega), hf]
  exact kk
end XW
def xw_N (nl : List (String × Nat × MethodName × String)) (U : State) : Prop := ∀ x ∈ nl, va_Nw (.methodLinkNest x.1 x.2.1 x.2.2.1 x.2.2.2) U
theorem xw_N.warm {nl : List (String × Nat × MethodName × String)} {s U : State} (hW : s.WarmedH U.vm) (h : xw_N nl s) : xw_N nl U := fun x hx => va_Nw.warmM hW (h x hx)
/-- a contract's start and end: the world at memory M; the answer, and a memory with Pm -/
def xw_Pc (D : va_G) (cl : List vw_C) (tys : List (ClassId × FieldType)) (ids : List (Nat × Nat)) (ad : Nat × Nat → Nat) (xk : Nat × Nat → (Nat → Int32) → va_E) (nl : List (String × Nat × MethodName × String)) (M : Nat × Nat → Nat → Int32) (av : List Value) : Array Value → State → Prop := fun v U =>
  v = av.toArray ∧ va_P D cl (xw_ws ids ad (xw_M xk M)) U.heap ∧ va_K D cl tys U ∧ va_D (xw_A ids ad) (xw_ws ids ad (xw_M xk M)) ∧ xw_N nl U
def xw_Qc (D : va_G) (cl : List vw_C) (ids : List (Nat × Nat)) (ad : Nat × Nat → Nat) (xk : Nat × Nat → (Nat → Int32) → va_E) (r : Option Value) (Pm : (Nat × Nat → Nat → Int32) → Prop) : Array Value → State → Outcome → State → Prop := fun _ st o t =>
  (o = .returned r ∧ ∃ M', Pm M' ∧ va_P D cl (xw_ws ids ad (xw_M xk M')) t.heap) ∧ va_F (xw_A ids ad) st t
section XC
variable {p : Program} {l : Launch} {e : Env} {R : Room} {s : State} {m : MethodId} {args : Array Value} {below : List Frame} {meth : Method} {c : Code} {H : Heap} {locs : List Loc} {cells slots : Nat} {Q : State → Prop}
variable {pc : Nat} {ls : Array Slot} {rest st0 : List Value} {D : va_G} {cl : List vw_C} {H0 : Heap} {a : Array Value}
variable {ids : List (Nat × Nat)} {ad : Nat × Nat → Nat} {xk : Nat × Nat → (Nat → Int32) → va_E} {M : Nat × Nat → Nat → Int32} {r : Option Value} {Pm : (Nat × Nat → Nat → Int32) → Prop}
theorem xw_call (hr : va_Run p l e R s m args below meth c H locs cells slots 0 0 (F0 m pc ls st0) rest (xw_Qc D cl ids ad xk r Pm a) (xw_A ids ad)) (hw : xw_H D cl (xw_A ids ad) H0 ids ad (xw_M xk M) H locs)
    (kk : ∀ (M1 : Nat × Nat → Nat → Int32) (H1 : Heap) (locs1 : List Loc), Pm M1 → xw_H D cl (xw_A ids ad) H0 ids ad (xw_M xk M1) H1 locs1 → W p l e R s m args below meth c H1 locs1 cells slots Q (F0 m (pc + 3) ls (r.toList ++ rest))) : W p l e R s m args below meth c H locs cells slots Q (F0 m pc ls st0) := by
  intro T hT X
  obtain ⟨v, st₀, t, T', L, h0, X', hL, e1, e2, ⟨⟨hv, M1, hp, hP⟩, hz, hk⟩, st⟩ := hr T hT X
  obtain rfl : v = r := by injection hv
  rw [h0] at hz hk
  have hS := hw.2.2
  obtain ⟨t2, a1, b1⟩ := kk M1 T'.heap (locs ++ L) hp ⟨by rw [e1]; exact hP, xw_D hw.2.1, ⟨Nat.le_trans hS.1 (by rw [e1]; exact hz), fun q h1 h2 => by rw [e1, hk q (Nat.lt_of_lt_of_le h1 hS.1) h2]; exact hS.2.1 q h1 h2, fun q hq => by
      rcases List.mem_append.mp hq with h | h
      · exact hS.2.2 q h
      · exact hL q h⟩⟩ T' rfl X'
  exact ⟨t2, st t2 a1, b1⟩
end XC
end
section
/-! Rows for ints that are numbers (nI). -/
section XI
variable {p : Program} {l : Launch} {e : Env} {R : Room} {s : State} {m : MethodId} {args : Array Value} {below : List Frame} {meth : Method} {c : Code} {H : Heap} {locs : List Loc} {cells slots : Nat} {Q : State → Prop}
variable {cc : ByteArray} {pc : Nat} {ls : Array Slot} {rest : List Value} {D : va_G} {cl : List vw_C} {tys : List (ClassId × FieldType)} {Ts : List Cond} {own : String}

theorem xi_icmp_eq (Z : xw_Z p c cc s args m own Ts D cl tys) {a b : Nat} {off : Int} {tgt : Nat} (hdg : decode cc pc = .ok (.if_icmp .eq off, 3)) (ht : (pc : Int) + off = (tgt : Int)) (ha : a < 2 ^ 31) (hb : b < 2 ^ 31)
    (kt : a = b → W p l e R s m args below meth c H locs cells slots Q (F0 m tgt ls rest)) (kf : a ≠ b → W p l e R s m args below meth c H locs cells slots Q (F0 m (pc + 3) ls rest)) : W p l e R s m args below meth c H locs cells slots Q (F0 m pc ls (.int (nI b) :: .int (nI a) :: rest)) :=
  lv_icmp_eq Z.1 Z.2.1 hdg ht (fun h => kt ((nI_eq ha hb).mp h)) (fun h => kf (fun z => h ((nI_eq ha hb).mpr z)))
theorem xi_icmp_ne (Z : xw_Z p c cc s args m own Ts D cl tys) {a b : Nat} {off : Int} {tgt : Nat} (hdg : decode cc pc = .ok (.if_icmp .ne off, 3)) (ht : (pc : Int) + off = (tgt : Int)) (ha : a < 2 ^ 31) (hb : b < 2 ^ 31)
    (kt : a ≠ b → W p l e R s m args below meth c H locs cells slots Q (F0 m tgt ls rest)) (kf : a = b → W p l e R s m args below meth c H locs cells slots Q (F0 m (pc + 3) ls rest)) : W p l e R s m args below meth c H locs cells slots Q (F0 m pc ls (.int (nI b) :: .int (nI a) :: rest)) :=
  lv_icmp_ne Z.1 Z.2.1 hdg ht (fun h => kt (fun z => h ((nI_eq ha hb).mpr z))) (fun h => kf ((nI_eq ha hb).mp h))
theorem xi_icmp_lt (Z : xw_Z p c cc s args m own Ts D cl tys) {a b : Nat} {off : Int} {tgt : Nat} (hdg : decode cc pc = .ok (.if_icmp .lt off, 3)) (ht : (pc : Int) + off = (tgt : Int)) (ha : a < 2 ^ 31) (hb : b < 2 ^ 31)
    (kt : a < b → W p l e R s m args below meth c H locs cells slots Q (F0 m tgt ls rest)) (kf : b ≤ a → W p l e R s m args below meth c H locs cells slots Q (F0 m (pc + 3) ls rest)) : W p l e R s m args below meth c H locs cells slots Q (F0 m pc ls (.int (nI b) :: .int (nI a) :: rest)) :=
  lv_icmp_lt Z.1 Z.2.1 hdg ht (fun h => kt ((nI_ltI ha hb).mp h)) (fun h => kf (Nat.le_of_not_lt (fun z => h ((nI_ltI ha hb).mpr z))))
theorem xi_icmp_ge (Z : xw_Z p c cc s args m own Ts D cl tys) {a b : Nat} {off : Int} {tgt : Nat} (hdg : decode cc pc = .ok (.if_icmp .ge off, 3)) (ht : (pc : Int) + off = (tgt : Int)) (ha : a < 2 ^ 31) (hb : b < 2 ^ 31)
    (kt : b ≤ a → W p l e R s m args below meth c H locs cells slots Q (F0 m tgt ls rest)) (kf : a < b → W p l e R s m args below meth c H locs cells slots Q (F0 m (pc + 3) ls rest)) : W p l e R s m args below meth c H locs cells slots Q (F0 m pc ls (.int (nI b) :: .int (nI a) :: rest)) :=
  lv_icmp_ge Z.1 Z.2.1 hdg ht (fun h => kt ((nI_leI hb ha).mp h)) (fun h => kf (Nat.lt_of_not_le (fun z => h ((nI_leI hb ha).mpr z))))
theorem xi_icmp_gt (Z : xw_Z p c cc s args m own Ts D cl tys) {a b : Nat} {off : Int} {tgt : Nat} (hdg : decode cc pc = .ok (.if_icmp .gt off, 3)) (ht : (pc : Int) + off = (tgt : Int)) (ha : a < 2 ^ 31) (hb : b < 2 ^ 31)
    (kt : b < a → W p l e R s m args below meth c H locs cells slots Q (F0 m tgt ls rest)) (kf : a ≤ b → W p l e R s m args below meth c H locs cells slots Q (F0 m (pc + 3) ls rest)) : W p l e R s m args below meth c H locs cells slots Q (F0 m pc ls (.int (nI b) :: .int (nI a) :: rest)) :=
  lv_icmp_gt Z.1 Z.2.1 hdg ht (fun h => kt ((nI_ltI hb ha).mp h)) (fun h => kf (Nat.le_of_not_lt (fun z => h ((nI_ltI hb ha).mpr z))))
theorem xi_icmp_le (Z : xw_Z p c cc s args m own Ts D cl tys) {a b : Nat} {off : Int} {tgt : Nat} (hdg : decode cc pc = .ok (.if_icmp .le off, 3)) (ht : (pc : Int) + off = (tgt : Int)) (ha : a < 2 ^ 31) (hb : b < 2 ^ 31)
    (kt : a ≤ b → W p l e R s m args below meth c H locs cells slots Q (F0 m tgt ls rest)) (kf : b < a → W p l e R s m args below meth c H locs cells slots Q (F0 m (pc + 3) ls rest)) : W p l e R s m args below meth c H locs cells slots Q (F0 m pc ls (.int (nI b) :: .int (nI a) :: rest)) :=
  lv_icmp_le Z.1 Z.2.1 hdg ht (fun h => kt ((nI_leI ha hb).mp h)) (fun h => kf (Nat.lt_of_not_le (fun z => h ((nI_leI ha hb).mpr z))))
theorem xi_if_eq (Z : xw_Z p c cc s args m own Ts D cl tys) {a : Nat} {off : Int} {tgt : Nat} (hdg : decode cc pc = .ok (.ifCond .eq off, 3)) (ht : (pc : Int) + off = (tgt : Int)) (ha : a < 2 ^ 31)
    (kt : a = 0 → W p l e R s m args below meth c H locs cells slots Q (F0 m tgt ls rest)) (kf : a ≠ 0 → W p l e R s m args below meth c H locs cells slots Q (F0 m (pc + 3) ls rest)) : W p l e R s m args below meth c H locs cells slots Q (F0 m pc ls (.int (nI a) :: rest)) :=
  lv_if_eq Z.1 Z.2.1 hdg ht (fun h => kt ((nI_eq ha (by decide : (0 : Nat) < 2 ^ 31)).mp (h.trans nI_0.symm))) (fun h => kf (fun z => h (((nI_eq ha (by decide : (0 : Nat) < 2 ^ 31)).mpr z).trans nI_0)))
theorem xi_if_ne (Z : xw_Z p c cc s args m own Ts D cl tys) {a : Nat} {off : Int} {tgt : Nat} (hdg : decode cc pc = .ok (.ifCond .ne off, 3)) (ht : (pc : Int) + off = (tgt : Int)) (ha : a < 2 ^ 31)
    (kt : a ≠ 0 → W p l e R s m args below meth c H locs cells slots Q (F0 m tgt ls rest)) (kf : a = 0 → W p l e R s m args below meth c H locs cells slots Q (F0 m (pc + 3) ls rest)) : W p l e R s m args below meth c H locs cells slots Q (F0 m pc ls (.int (nI a) :: rest)) :=
  lv_if_ne Z.1 Z.2.1 hdg ht (fun h => kt (fun z => h (((nI_eq ha (by decide : (0 : Nat) < 2 ^ 31)).mpr z).trans nI_0))) (fun h => kf ((nI_eq ha (by decide : (0 : Nat) < 2 ^ 31)).mp (h.trans nI_0.symm)))
theorem xi_if_le (Z : xw_Z p c cc s args m own Ts D cl tys) {a : Nat} {off : Int} {tgt : Nat} (hdg : decode cc pc = .ok (.ifCond .le off, 3)) (ht : (pc : Int) + off = (tgt : Int)) (ha : a < 2 ^ 31)
    (kt : a = 0 → W p l e R s m args below meth c H locs cells slots Q (F0 m tgt ls rest)) (kf : a ≠ 0 → W p l e R s m args below meth c H locs cells slots Q (F0 m (pc + 3) ls rest)) : W p l e R s m args below meth c H locs cells slots Q (F0 m pc ls (.int (nI a) :: rest)) :=
  lv_if_le Z.1 Z.2.1 hdg ht (fun h => kt (Nat.le_zero.mp ((nI_leI ha (by decide : (0 : Nat) < 2 ^ 31)).mp (by rw [nI_0]; exact h)))) (fun h => kf (fun z => h (by rw [z, nI_0]; exact Int32.le_refl 0)))
theorem xi_if_gt (Z : xw_Z p c cc s args m own Ts D cl tys) {a : Nat} {off : Int} {tgt : Nat} (hdg : decode cc pc = .ok (.ifCond .gt off, 3)) (ht : (pc : Int) + off = (tgt : Int)) (ha : a < 2 ^ 31)
    (kt : a ≠ 0 → W p l e R s m args below meth c H locs cells slots Q (F0 m tgt ls rest)) (kf : a = 0 → W p l e R s m args below meth c H locs cells slots Q (F0 m (pc + 3) ls rest)) : W p l e R s m args below meth c H locs cells slots Q (F0 m pc ls (.int (nI a) :: rest)) :=
  lv_if_gt Z.1 Z.2.1 hdg ht (fun h => kt (Nat.pos_iff_ne_zero.mp ((nI_ltI (by decide : (0 : Nat) < 2 ^ 31) ha).mp (by rw [nI_0]; exact h)))) (fun h => kf (Nat.le_zero.mp (Nat.le_of_not_lt (fun z => h (by have := (nI_ltI (by decide : (0 : Nat) < 2 ^ 31) ha).mpr z; rw [nI_0] at this; exact this)))))
theorem xi_add (Z : xw_Z p c cc s args m own Ts D cl tys) {a b : Nat} (hdg : decode cc pc = .ok (.iadd, 1))
    (k : W p l e R s m args below meth c H locs cells slots Q (F0 m (pc + 1) ls (.int (nI (a + b)) :: rest))) : W p l e R s m args below meth c H locs cells slots Q (F0 m pc ls (.int (nI b) :: .int (nI a) :: rest)) :=
  lv_iadd Z.1 Z.2.1 hdg (by rw [nI_add]; exact k)
theorem xi_sub (Z : xw_Z p c cc s args m own Ts D cl tys) {a b : Nat} (hdg : decode cc pc = .ok (.isub, 1)) (hle : b ≤ a)
    (k : W p l e R s m args below meth c H locs cells slots Q (F0 m (pc + 1) ls (.int (nI (a - b)) :: rest))) : W p l e R s m args below meth c H locs cells slots Q (F0 m pc ls (.int (nI b) :: .int (nI a) :: rest)) :=
  lv_isub Z.1 Z.2.1 hdg (by rw [pk_sub hle]; exact k)
theorem xi_mul (Z : xw_Z p c cc s args m own Ts D cl tys) {a b : Nat} (hdg : decode cc pc = .ok (.imul, 1))
    (k : W p l e R s m args below meth c H locs cells slots Q (F0 m (pc + 1) ls (.int (nI (a * b)) :: rest))) : W p l e R s m args below meth c H locs cells slots Q (F0 m pc ls (.int (nI b) :: .int (nI a) :: rest)) :=
  lv_imul Z.1 Z.2.1 hdg (by rw [pk_mul]; exact k)
theorem xi_div (Z : xw_Z p c cc s args m own Ts D cl tys) {a b : Nat} (hdg : decode cc pc = .ok (.idiv, 1)) (ha : a < 2 ^ 31) (h0 : 0 < b) (hb : b < 2 ^ 31)
    (k : W p l e R s m args below meth c H locs cells slots Q (F0 m (pc + 1) ls (.int (nI (a / b)) :: rest))) : W p l e R s m args below meth c H locs cells slots Q (F0 m pc ls (.int (nI b) :: .int (nI a) :: rest)) :=
  lv_idiv Z.1 Z.2.1 hdg (nI_ne0 h0 hb) (by rw [pk_div ha h0 hb]; exact k)
theorem xi_rem (Z : xw_Z p c cc s args m own Ts D cl tys) {a b : Nat} (hdg : decode cc pc = .ok (.irem, 1)) (ha : a < 2 ^ 31) (h0 : 0 < b) (hb : b < 2 ^ 31)
    (k : W p l e R s m args below meth c H locs cells slots Q (F0 m (pc + 1) ls (.int (nI (a % b)) :: rest))) : W p l e R s m args below meth c H locs cells slots Q (F0 m pc ls (.int (nI b) :: .int (nI a) :: rest)) :=
  lv_irem Z.1 Z.2.1 hdg (nI_ne0 h0 hb) (by rw [pk_rem ha h0 hb]; exact k)
theorem xi_re {x y : Int32} (h : x = y) (k : W p l e R s m args below meth c H locs cells slots Q (F0 m pc ls (.int y :: rest))) : W p l e R s m args below meth c H locs cells slots Q (F0 m pc ls (.int x :: rest)) := by rw [h]; exact k
end XI
end
section
/-! How the memory of the program stands for the state. Cells: (1,0) sizes, (2,0) mail, (4,0) halted, (5,0) the rows of the mail, (6,0) the message under way, (9,2s+c) a coordinator with (10..12,2s+c) its three rows, (13,2s+w) a tally with (14,2s+w) its row, (15,5s+a) an acceptor. -/
abbrev fr_M : Type := Nat × Nat → Nat → Int32
def fr_1 (n q f : Nat) (M : fr_M) : Prop := M (1, 0) 0 = nI n ∧ M (1, 0) 1 = nI q ∧ M (1, 0) 2 = nI f
def fr_2 (S : pz_T) (M : fr_M) : Prop := M (2, 0) 2 = nI S.1.length ∧ M (2, 0) 3 = nI (S.2 3 15 0 0)
def fr_4 (S : pz_T) (M : fr_M) : Prop := ∀ w, w < 11 → M (4, 0) w = nI (S.2 3 14 w 0)
def fr_row (g : pz_M) (h : Nat → Int32) : Prop := h 0 = nI (g 0) ∧ h 1 = nI (g 1) ∧ h 2 = nI (g 2) ∧ (g 0 = 3 ∨ g 0 = 5 → h 3 = nI (g 3)) ∧ h 4 = nI (g 4) ∧ h 5 = nI (g 5) ∧ h 6 = nI (g 6)
def fr_5 (S : pz_T) (M : fr_M) : Prop := ∀ i g, S.1[i]? = some g → fr_row g (fun j => M (5, 0) (i * 7 + j))
def fr_9 (S : pz_T) (M : fr_M) : Prop := ∀ s c, s < 3 → c < 2 → M (9, 2 * s + c) 0 = nI s ∧ M (9, 2 * s + c) 3 = nI (S.2 s 8 c 0) ∧ M (9, 2 * s + c) 4 = nI (S.2 s 9 c 0) ∧ M (9, 2 * s + c) 5 = nI (S.2 s 10 c 0)
def fr_10 (n : Nat) (S : pz_T) (M : fr_M) (ex : Nat → Nat → Prop) : Prop := ∀ s c, s < 3 → c < 2 → ¬ ex s c → M (9, 2 * s + c) 9 = nI (pz_te n (S.2 s) c) ∧ ∀ a, a < n → M (10, 2 * s + c) a = nI (S.2 s 11 c a) ∧ (S.2 s 11 c a ≠ 0 → M (11, 2 * s + c) a = nI (S.2 s 12 c a) ∧ M (12, 2 * s + c) a = nI (S.2 s 13 c a))
def fr_13 (S : pz_T) (M : fr_M) : Prop := ∀ s, s < 3 → M (13, 2 * s) 2 = nI (S.2 s 16 0 0) ∧ M (13, 2 * s + 1) 2 = nI (S.2 s 7 0 0)
def fr_14 (n : Nat) (S : pz_T) (M : fr_M) : Prop := ∀ s r a, s < 3 → r ≤ 12 → a < n → M (14, 2 * s) (r * n + a) = nI (S.2 s 5 r a) ∧ M (14, 2 * s + 1) (r * n + a) = nI (S.2 s 6 r a)
def fr_15 (n : Nat) (S : pz_T) (M : fr_M) : Prop := ∀ s a, s < 3 → a < n → M (15, 5 * s + a) 0 = nI a ∧ M (15, 5 * s + a) 1 = nI s ∧ M (15, 5 * s + a) 4 = nI (S.2 s 0 a 0) ∧ M (15, 5 * s + a) 5 = nI (S.2 s 1 a 0) ∧ M (15, 5 * s + a) 6 = nI (S.2 s 2 a 0) ∧ M (15, 5 * s + a) 7 = nI (S.2 s 3 a 0) ∧ M (15, 5 * s + a) 8 = nI (S.2 s 4 a 0)
def fr_R (n q f : Nat) (S : pz_T) (ex : Nat → Nat → Prop) (M : fr_M) : Prop := fr_1 n q f M ∧ fr_2 S M ∧ fr_4 S M ∧ fr_5 S M ∧ fr_9 S M ∧ fr_10 n S M ex ∧ fr_13 S M ∧ fr_14 n S M ∧ fr_15 n S M
/-- a message is sent, and there is a place for it -/
theorem fr_send1 {n q f : Nat} {S : pz_T} {ex : Nat → Nat → Prop} {M M' : fr_M} {g : pz_M} (h : fr_R n q f S ex M) (hl : S.1.length < 60) (hk : ∀ k, k ≠ (5, 0) → k ≠ (2, 0) → M' k = M k) (h5 : ∀ i, i < S.1.length * 7 → M' (5, 0) i = M (5, 0) i) (hrow : fr_row g (fun j => M' (5, 0) (S.1.length * 7 + j))) (h2 : M' (2, 0) 2 = nI (S.1.length + 1)) (h3 : M' (2, 0) 3 = M (2, 0) 3) : fr_R n q f (pz_sd S g) ex M' := by
  obtain ⟨a1, a2, a4, a5, a9, a10, a13, a14, a15⟩ := h
  have e : pz_sd S g = (S.1 ++ [g], S.2) := by unfold pz_sd; rw [if_pos hl]
  have kk : ∀ (x y : Nat), x ≠ 5 → x ≠ 2 → M' (x, y) = M (x, y) := fun x y h1 h2 => hk (x, y) (fun z => h1 (Prod.mk.inj z).1) (fun z => h2 (Prod.mk.inj z).1)
  rw [e]
  refine ⟨?_, ⟨?_, ?_⟩, ?_, ?_, ?_, ?_, ?_, ?_, ?_⟩
  · unfold fr_1; rw [kk 1 0 (by omega) (by omega)]; exact a1
  · rw [h2]; simp
  · rw [h3]; exact a2.2
  · intro w hw; rw [kk 4 0 (by omega) (by omega)]; exact a4 w hw
  · intro i x hx
    by_cases hi : i < S.1.length
    · rw [List.getElem?_append_left hi] at hx
      have r := a5 i x hx
      unfold fr_row at r ⊢
      simp only [h5 (i * 7 + 0) (by omega), h5 (i * 7 + 1) (by omega), h5 (i * 7 + 2) (by omega), h5 (i * 7 + 3) (by omega), h5 (i * 7 + 4) (by omega), h5 (i * 7 + 5) (by omega), h5 (i * 7 + 6) (by omega)]
      exact r
    · rw [List.getElem?_append_right (by omega)] at hx
      have hz : i - S.1.length < 1 := (List.getElem?_eq_some_iff.mp hx).1
      have hi0 : i = S.1.length := by omega
      subst hi0
      rw [Nat.sub_self] at hx
      cases hx
      exact hrow
  · intro s c hs hc; simp only [kk 9 _ (by omega) (by omega)]; exact a9 s c hs hc
  · intro s c hs hc hx
    simp only [kk 9 _ (by omega) (by omega), kk 10 _ (by omega) (by omega), kk 11 _ (by omega) (by omega), kk 12 _ (by omega) (by omega)]
    exact a10 s c hs hc hx
  · intro s hs; simp only [kk 13 _ (by omega) (by omega)]; exact a13 s hs
  · intro s r a hs hr ha; simp only [kk 14 _ (by omega) (by omega)]; exact a14 s r a hs hr ha
  · intro s a hs ha; simp only [kk 15 _ (by omega) (by omega)]; exact a15 s a hs ha
/-- a message is sent, and is lost -/
theorem fr_send2 {n q f : Nat} {S : pz_T} {ex : Nat → Nat → Prop} {M M' : fr_M} {g : pz_M} (h : fr_R n q f S ex M) (hl : ¬ S.1.length < 60) (hk : ∀ k, k ≠ (2, 0) → M' k = M k) (h2 : M' (2, 0) 2 = M (2, 0) 2) (h3 : M' (2, 0) 3 = nI (S.2 3 15 0 0 + 1)) : fr_R n q f (pz_sd S g) ex M' := by
  obtain ⟨a1, a2, a4, a5, a9, a10, a13, a14, a15⟩ := h
  have e : pz_sd S g = (S.1, pz_w S.2 3 (pz_u (S.2 3) 15 0 0 (S.2 3 15 0 0 + 1))) := by unfold pz_sd; rw [if_neg hl]
  have kk : ∀ (x y : Nat), x ≠ 2 → M' (x, y) = M (x, y) := fun x y h2 => hk (x, y) (fun z => h2 (Prod.mk.inj z).1)
  have ss : ∀ s, s < 3 → pz_w S.2 3 (pz_u (S.2 3) 15 0 0 (S.2 3 15 0 0 + 1)) s = S.2 s := fun s hs => pz_w_n (by omega)
  rw [e]
  refine ⟨?_, ⟨?_, ?_⟩, ?_, ?_, ?_, ?_, ?_, ?_, ?_⟩
  · unfold fr_1; rw [kk 1 0 (by omega)]; exact a1
  · rw [h2]; exact a2.1
  · rw [h3]
    show _ = nI (pz_w S.2 3 (pz_u (S.2 3) 15 0 0 (S.2 3 15 0 0 + 1)) 3 15 0 0)
    rw [pz_w_s, pz_u_s]
  · intro w hw
    rw [kk 4 0 (by omega)]
    show _ = nI (pz_w S.2 3 (pz_u (S.2 3) 15 0 0 (S.2 3 15 0 0 + 1)) 3 14 w 0)
    rw [pz_w_s, pz_u_k (show 14 ≠ 15 by omega)]
    exact a4 w hw
  · intro i x hx
    rw [kk 5 0 (by omega)]
    exact a5 i x hx
  · intro s c hs hc
    simp only [kk 9 _ (by omega), ss s hs]; exact a9 s c hs hc
  · intro s c hs hc hx
    simp only [kk 9 _ (by omega), kk 10 _ (by omega), kk 11 _ (by omega), kk 12 _ (by omega), ss s hs]
    exact a10 s c hs hc hx
  · intro s hs; simp only [kk 13 _ (by omega), ss s hs]; exact a13 s hs
  · intro s r a hs hr ha; simp only [kk 14 _ (by omega), ss s hs]; exact a14 s r a hs hr ha
  · intro s a hs ha; simp only [kk 15 _ (by omega), ss s hs]; exact a15 s a hs ha
end
section
/-! The memory and the state, step by step. -/
theorem fr_pair {x y x' y' : Nat} (h : x ≠ x') : ((x, y) : Nat × Nat) ≠ (x', y') := fun z => h (Prod.mk.inj z).1
theorem fr_pair2 {x y x' y' : Nat} (h : y ≠ y') : ((x, y) : Nat × Nat) ≠ (x', y') := fun z => h (Prod.mk.inj z).2
/-- only the slot z changes -/
theorem fr_pw {n q f z : Nat} {S : pz_T} {ex ex' : Nat → Nat → Prop} {M M' : fr_M} {p' : pz_P} (h : fr_R n q f S ex M) (hz : z < 3) (h0 : ∀ x, x ≤ 5 → M' (x, 0) = M (x, 0))
    (ho : ∀ k s c, s < 3 → s ≠ z → c < 2 → 9 ≤ k → k ≤ 14 → M' (k, 2 * s + c) = M (k, 2 * s + c)) (ho15 : ∀ s a, s < 3 → s ≠ z → a < n → M' (15, 5 * s + a) = M (15, 5 * s + a)) (hex : ∀ s c, s ≠ z → ¬ ex' s c → ¬ ex s c)
    (k9 : ∀ c, c < 2 → M' (9, 2 * z + c) 0 = nI z ∧ M' (9, 2 * z + c) 3 = nI (p' 8 c 0) ∧ M' (9, 2 * z + c) 4 = nI (p' 9 c 0) ∧ M' (9, 2 * z + c) 5 = nI (p' 10 c 0))
    (k10 : ∀ c, c < 2 → ¬ ex' z c → M' (9, 2 * z + c) 9 = nI (pz_te n p' c) ∧ ∀ a, a < n → M' (10, 2 * z + c) a = nI (p' 11 c a) ∧ (p' 11 c a ≠ 0 → M' (11, 2 * z + c) a = nI (p' 12 c a) ∧ M' (12, 2 * z + c) a = nI (p' 13 c a)))
    (k13 : M' (13, 2 * z) 2 = nI (p' 16 0 0) ∧ M' (13, 2 * z + 1) 2 = nI (p' 7 0 0))
    (k14 : ∀ r a, r ≤ 12 → a < n → M' (14, 2 * z) (r * n + a) = nI (p' 5 r a) ∧ M' (14, 2 * z + 1) (r * n + a) = nI (p' 6 r a))
    (k15 : ∀ a, a < n → M' (15, 5 * z + a) 0 = nI a ∧ M' (15, 5 * z + a) 1 = nI z ∧ M' (15, 5 * z + a) 4 = nI (p' 0 a 0) ∧ M' (15, 5 * z + a) 5 = nI (p' 1 a 0) ∧ M' (15, 5 * z + a) 6 = nI (p' 2 a 0) ∧ M' (15, 5 * z + a) 7 = nI (p' 3 a 0) ∧ M' (15, 5 * z + a) 8 = nI (p' 4 a 0)) :
    fr_R n q f (pz_pw S z p') ex' M' := by
  obtain ⟨a1, a2, a4, a5, a9, a10, a13, a14, a15⟩ := h
  have ss : ∀ s, s ≠ z → (pz_pw S z p').2 s = S.2 s := fun s hs => pz_w_n hs
  have sz : (pz_pw S z p').2 z = p' := pz_w_s _ _ _
  refine ⟨?_, ⟨?_, ?_⟩, ?_, ?_, ?_, ?_, ?_, ?_, ?_⟩
  · unfold fr_1; rw [h0 1 (by omega)]; exact a1
  · rw [h0 2 (by omega)]; exact a2.1
  · rw [h0 2 (by omega), ss 3 (by omega)]; exact a2.2
  · intro w hw; rw [h0 4 (by omega), ss 3 (by omega)]; exact a4 w hw
  · intro i x hx; rw [h0 5 (by omega)]; exact a5 i x hx
  · intro s c hs hc
    by_cases e : s = z
    · subst e; rw [sz]; exact k9 c hc
    · rw [ho 9 s c hs e hc (by omega) (by omega), ss s e]; exact a9 s c hs hc
  · intro s c hs hc hx
    by_cases e : s = z
    · subst e; rw [sz]; exact k10 c hc hx
    · rw [ho 9 s c hs e hc (by omega) (by omega), ho 10 s c hs e hc (by omega) (by omega), ho 11 s c hs e hc (by omega) (by omega), ho 12 s c hs e hc (by omega) (by omega), ss s e]
      exact a10 s c hs hc (hex s c e hx)
  · intro s hs
    by_cases e : s = z
    · subst e; rw [sz]; exact k13
    · have e0 := ho 13 s 0 hs e (by omega) (by omega) (by omega)
      rw [Nat.add_zero] at e0
      rw [e0, ho 13 s 1 hs e (by omega) (by omega) (by omega), ss s e]; exact a13 s hs
  · intro s r a hs hr ha
    by_cases e : s = z
    · subst e; rw [sz]; exact k14 r a hr ha
    · have e0 := ho 14 s 0 hs e (by omega) (by omega) (by omega)
      rw [Nat.add_zero] at e0
      rw [e0, ho 14 s 1 hs e (by omega) (by omega) (by omega), ss s e]; exact a14 s r a hs hr ha
  · intro s a hs ha
    by_cases e : s = z
    · subst e; rw [sz]; exact k15 a ha
    · rw [ho15 s a hs e ha, ss s e]; exact a15 s a hs ha
/-- an acceptor's fields change -/
theorem fr_acc {n q f z b : Nat} {S : pz_T} {ex : Nat → Nat → Prop} {M M' : fr_M} {p' : pz_P} (hn : n ≤ 5) (h : fr_R n q f S ex M) (hz : z < 3) (hb : b < n) (hM : ∀ k, k ≠ (15, 5 * z + b) → M' k = M k)
    (hp : ∀ k x y, 5 ≤ k → p' k x y = S.2 z k x y) (hp2 : ∀ k a, k ≤ 4 → a ≠ b → p' k a 0 = S.2 z k a 0)
    (k15 : M' (15, 5 * z + b) 0 = nI b ∧ M' (15, 5 * z + b) 1 = nI z ∧ M' (15, 5 * z + b) 4 = nI (p' 0 b 0) ∧ M' (15, 5 * z + b) 5 = nI (p' 1 b 0) ∧ M' (15, 5 * z + b) 6 = nI (p' 2 b 0) ∧ M' (15, 5 * z + b) 7 = nI (p' 3 b 0) ∧ M' (15, 5 * z + b) 8 = nI (p' 4 b 0)) : fr_R n q f (pz_pw S z p') ex M' := by
  have H := h
  obtain ⟨a1, a2, a4, a5, a9, a10, a13, a14, a15⟩ := h
  have m : ∀ x y, x ≠ 15 → M' (x, y) = M (x, y) := fun x y hx => hM _ (fr_pair hx)
  refine fr_pw H hz (fun x hx => m x 0 (by omega)) (fun k s c _ _ _ _ _ => m k _ (by omega)) (fun s a hs hsz ha => hM _ (fr_pair2 (by omega))) (fun _ _ _ hx => hx) (fun c hc => ?_) (fun c hc hx => ?_) ?_ (fun r a hr ha => ?_) (fun a ha => ?_)
  · rw [m 9 _ (by omega), hp 8 c 0 (by omega), hp 9 c 0 (by omega), hp 10 c 0 (by omega)]; exact a9 z c hz hc
  · rw [m 9 _ (by omega), m 10 _ (by omega), m 11 _ (by omega), m 12 _ (by omega)]
    unfold pz_te
    simp only [hp 11 c _ (by omega), hp 12 c _ (by omega), hp 13 c _ (by omega)]
    exact a10 z c hz hc hx
  · rw [m 13 _ (by omega), m 13 _ (by omega), hp 16 0 0 (by omega), hp 7 0 0 (by omega)]; exact a13 z hz
  · rw [m 14 _ (by omega), m 14 _ (by omega), hp 5 r a (by omega), hp 6 r a (by omega)]; exact a14 z r a hz hr ha
  · by_cases e : a = b
    · subst e; exact k15
    · rw [hM (15, 5 * z + a) (fr_pair2 (by omega)), hp2 0 a (by omega) e, hp2 1 a (by omega) e, hp2 2 a (by omega) e, hp2 3 a (by omega) e, hp2 4 a (by omega) e]; exact a15 z a hz ha
/-- a coordinator's fields change, but not what it was told -/
theorem fr_cor {n q f z d : Nat} {S : pz_T} {ex ex' : Nat → Nat → Prop} {M M' : fr_M} {p' : pz_P} (h : fr_R n q f S ex M) (hz : z < 3) (hd : d < 2) (hM : ∀ k, k ≠ (9, 2 * z + d) → M' k = M k) (hex : ∀ s c, ¬ ex' s c → ¬ ex s c)
    (hp : ∀ k x y, (k ≠ 8 ∧ k ≠ 9 ∧ k ≠ 10 ∧ k ≠ 17) → p' k x y = S.2 z k x y) (hp2 : ∀ k c, c ≠ d → 8 ≤ k → k ≤ 10 → p' k c 0 = S.2 z k c 0)
    (k9 : M' (9, 2 * z + d) 0 = nI z ∧ M' (9, 2 * z + d) 3 = nI (p' 8 d 0) ∧ M' (9, 2 * z + d) 4 = nI (p' 9 d 0) ∧ M' (9, 2 * z + d) 5 = nI (p' 10 d 0)) (kh : M' (9, 2 * z + d) 9 = M (9, 2 * z + d) 9) : fr_R n q f (pz_pw S z p') ex' M' := by
  have H := h
  obtain ⟨a1, a2, a4, a5, a9, a10, a13, a14, a15⟩ := h
  have m : ∀ x y, x ≠ 9 → M' (x, y) = M (x, y) := fun x y hx => hM _ (fr_pair hx)
  refine fr_pw H hz (fun x hx => m x 0 (by omega)) (fun k s c hs hsz hc _ _ => hM _ (fr_pair2 (by omega))) (fun s a hs hsz ha => m 15 _ (by omega)) (fun s c _ hx => hex s c hx) (fun c hc => ?_) (fun c hc hx => ?_) ?_ (fun r a hr ha => ?_) (fun a ha => ?_)
  · by_cases e : c = d
    · subst e; exact k9
    · rw [hM _ (fr_pair2 (by omega)), hp2 8 c e (by omega) (by omega), hp2 9 c e (by omega) (by omega), hp2 10 c e (by omega) (by omega)]; exact a9 z c hz hc
  · have e9 : M' (9, 2 * z + c) 9 = M (9, 2 * z + c) 9 := by
      by_cases e : c = d
      · subst e; exact kh
      · rw [hM _ (fr_pair2 (by omega))]
    rw [e9, m 10 _ (by omega), m 11 _ (by omega), m 12 _ (by omega)]
    unfold pz_te
    simp only [hp 11 c _ (by omega), hp 12 c _ (by omega), hp 13 c _ (by omega)]
    exact a10 z c hz hc (hex z c hx)
  · rw [m 13 _ (by omega), m 13 _ (by omega), hp 16 0 0 (by omega), hp 7 0 0 (by omega)]; exact a13 z hz
  · rw [m 14 _ (by omega), m 14 _ (by omega), hp 5 r a (by omega), hp 6 r a (by omega)]; exact a14 z r a hz hr ha
  · rw [m 15 _ (by omega), hp 0 a 0 (by omega), hp 1 a 0 (by omega), hp 2 a 0 (by omega), hp 3 a 0 (by omega), hp 4 a 0 (by omega)]; exact a15 z a hz ha
/-- what a coordinator was told changes -/
theorem fr_tol {n q f z d : Nat} {S : pz_T} {ex ex' : Nat → Nat → Prop} {M M' : fr_M} {p' : pz_P} (h : fr_R n q f S ex M) (hz : z < 3) (hd : d < 2) (hM : ∀ k, k ≠ (9, 2 * z + d) → k ≠ (10, 2 * z + d) → k ≠ (11, 2 * z + d) → k ≠ (12, 2 * z + d) → M' k = M k) (h9 : ∀ j, j ≠ 9 → M' (9, 2 * z + d) j = M (9, 2 * z + d) j) (hex : ∀ s c, ¬ (s = z ∧ c = d) → ¬ ex' s c → ¬ ex s c)
    (hp : ∀ k x y, (k ≠ 11 ∧ k ≠ 12 ∧ k ≠ 13) → p' k x y = S.2 z k x y) (hp2 : ∀ k c a, c ≠ d → p' k c a = S.2 z k c a)
    (k10 : ¬ ex' z d → M' (9, 2 * z + d) 9 = nI (pz_te n p' d) ∧ ∀ a, a < n → M' (10, 2 * z + d) a = nI (p' 11 d a) ∧ (p' 11 d a ≠ 0 → M' (11, 2 * z + d) a = nI (p' 12 d a) ∧ M' (12, 2 * z + d) a = nI (p' 13 d a))) : fr_R n q f (pz_pw S z p') ex' M' := by
  have H := h
  obtain ⟨a1, a2, a4, a5, a9, a10, a13, a14, a15⟩ := h
  have m : ∀ x y, (x ≤ 8 ∨ 13 ≤ x) → M' (x, y) = M (x, y) := fun x y hx => hM _ (fr_pair (by omega)) (fr_pair (by omega)) (fr_pair (by omega)) (fr_pair (by omega))
  have mo : ∀ x y, y ≠ 2 * z + d → M' (x, y) = M (x, y) := fun x y hy => hM _ (fr_pair2 hy) (fr_pair2 hy) (fr_pair2 hy) (fr_pair2 hy)
  refine fr_pw H hz (fun x hx => m x 0 (by omega)) (fun k s c hs hsz hc _ _ => mo k _ (by omega)) (fun s a hs hsz ha => m 15 _ (by omega)) (fun s c hsz hx => hex s c (fun y => hsz y.1) hx) (fun c hc => ?_) (fun c hc hx => ?_) ?_ (fun r a hr ha => ?_) (fun a ha => ?_)
  · rw [hp 8 c 0 (by omega), hp 9 c 0 (by omega), hp 10 c 0 (by omega)]
    by_cases e : c = d
    · subst e
      rw [h9 0 (by omega), h9 3 (by omega), h9 4 (by omega), h9 5 (by omega)]; exact a9 z c hz hc
    · rw [mo 9 _ (by omega)]; exact a9 z c hz hc
  · by_cases e : c = d
    · subst e; exact k10 hx
    · rw [mo 9 _ (by omega), mo 10 _ (by omega), mo 11 _ (by omega), mo 12 _ (by omega)]
      unfold pz_te
      simp only [hp2 11 c _ e, hp2 12 c _ e, hp2 13 c _ e]
      exact a10 z c hz hc (hex z c (fun y => e y.2) hx)
  · rw [m 13 _ (by omega), m 13 _ (by omega), hp 16 0 0 (by omega), hp 7 0 0 (by omega)]; exact a13 z hz
  · rw [m 14 _ (by omega), m 14 _ (by omega), hp 5 r a (by omega), hp 6 r a (by omega)]; exact a14 z r a hz hr ha
  · rw [m 15 _ (by omega), hp 0 a 0 (by omega), hp 1 a 0 (by omega), hp 2 a 0 (by omega), hp 3 a 0 (by omega), hp 4 a 0 (by omega)]; exact a15 z a hz ha
/-- a tally changes: w = 0 the votes made, w = 1 those told to the learner -/
theorem fr_tal {n q f z w : Nat} {S : pz_T} {ex : Nat → Nat → Prop} {M M' : fr_M} {p' : pz_P} (h : fr_R n q f S ex M) (hz : z < 3) (hw : w < 2) (hM : ∀ k, k ≠ (13, 2 * z + w) → k ≠ (14, 2 * z + w) → M' k = M k)
    (hp : ∀ k x y, (k ≠ 5 ∧ k ≠ 6 ∧ k ≠ 7 ∧ k ≠ 16) → p' k x y = S.2 z k x y) (k13 : M' (13, 2 * z) 2 = nI (p' 16 0 0) ∧ M' (13, 2 * z + 1) 2 = nI (p' 7 0 0))
    (k14 : ∀ r a, r ≤ 12 → a < n → M' (14, 2 * z) (r * n + a) = nI (p' 5 r a) ∧ M' (14, 2 * z + 1) (r * n + a) = nI (p' 6 r a)) : fr_R n q f (pz_pw S z p') ex M' := by
  have H := h
  obtain ⟨a1, a2, a4, a5, a9, a10, a13, a14, a15⟩ := h
  have m : ∀ x y, (x ≠ 13 ∧ x ≠ 14) → M' (x, y) = M (x, y) := fun x y hx => hM _ (fr_pair hx.1) (fr_pair hx.2)
  refine fr_pw H hz (fun x hx => m x 0 (by omega)) (fun k s c hs hsz hc _ _ => hM _ (fr_pair2 (by omega)) (fr_pair2 (by omega))) (fun s a hs hsz ha => m 15 _ (by omega)) (fun _ _ _ hx => hx) (fun c hc => ?_) (fun c hc hx => ?_) k13 k14 (fun a ha => ?_)
  · rw [m 9 _ (by omega), hp 8 c 0 (by omega), hp 9 c 0 (by omega), hp 10 c 0 (by omega)]; exact a9 z c hz hc
  · rw [m 9 _ (by omega), m 10 _ (by omega), m 11 _ (by omega), m 12 _ (by omega)]
    unfold pz_te
    simp only [hp 11 c _ (by omega), hp 12 c _ (by omega), hp 13 c _ (by omega)]
    exact a10 z c hz hc hx
  · rw [m 15 _ (by omega), hp 0 a 0 (by omega), hp 1 a 0 (by omega), hp 2 a 0 (by omega), hp 3 a 0 (by omega), hp 4 a 0 (by omega)]; exact a15 z a hz ha
theorem fr_halt {n q f w b : Nat} {S : pz_T} {ex : Nat → Nat → Prop} {M M' : fr_M} (h : fr_R n q f S ex M) (hM : ∀ k, k ≠ (4, 0) → M' k = M k) (h4 : ∀ x, x < 11 → M' (4, 0) x = if x = w then nI b else M (4, 0) x) : fr_R n q f (pz_halt S w b) ex M' := by
  obtain ⟨a1, a2, a4, a5, a9, a10, a13, a14, a15⟩ := h
  have m : ∀ x y, x ≠ 4 → M' (x, y) = M (x, y) := fun x y hx => hM _ (fr_pair hx)
  have ss : ∀ s, s < 3 → (pz_halt S w b).2 s = S.2 s := fun s hs => pz_w_n (by omega)
  have s3 : (pz_halt S w b).2 3 = pz_u (S.2 3) 14 w 0 b := pz_w_s S.2 3 (pz_u (S.2 3) 14 w 0 b)
  refine ⟨?_, ⟨?_, ?_⟩, ?_, ?_, ?_, ?_, ?_, ?_, ?_⟩
  · unfold fr_1; rw [m 1 0 (by omega)]; exact a1
  · rw [m 2 0 (by omega)]; exact a2.1
  · rw [m 2 0 (by omega), s3, pz_u_k (by omega)]; exact a2.2
  · intro x hx
    rw [h4 x hx, s3]
    by_cases e : x = w
    · subst e; rw [if_pos rfl, pz_u_s]
    · rw [if_neg e, pz_u_x e]; exact a4 x hx
  · intro i x hx; rw [m 5 0 (by omega)]; exact a5 i x hx
  · intro s c hs hc; rw [m 9 _ (by omega), ss s hs]; exact a9 s c hs hc
  · intro s c hs hc hx; rw [m 9 _ (by omega), m 10 _ (by omega), m 11 _ (by omega), m 12 _ (by omega), ss s hs]; exact a10 s c hs hc hx
  · intro s hs; rw [m 13 _ (by omega), m 13 _ (by omega), ss s hs]; exact a13 s hs
  · intro s r a hs hr ha; rw [m 14 _ (by omega), m 14 _ (by omega), ss s hs]; exact a14 s r a hs hr ha
  · intro s a hs ha; rw [m 15 _ (by omega), ss s hs]; exact a15 s a hs ha
/-- a message is taken away -/
theorem fr_rm {n q f i : Nat} {S : pz_T} {ex : Nat → Nat → Prop} {M M' : fr_M} (h : fr_R n q f S ex M) (hi : i < S.1.length) (hM : ∀ k, k ≠ (2, 0) → k ≠ (5, 0) → k ≠ (6, 0) → M' k = M k) (h2 : M' (2, 0) 2 = nI (S.1.length - 1)) (h3 : M' (2, 0) 3 = M (2, 0) 3) (hlo : ∀ j, j < i * 7 → M' (5, 0) j = M (5, 0) j) (hhi : ∀ j, i * 7 ≤ j → j + 7 < S.1.length * 7 → M' (5, 0) j = M (5, 0) (j + 7)) : fr_R n q f (pz_rm S i) ex M' := by
  obtain ⟨a1, a2, a4, a5, a9, a10, a13, a14, a15⟩ := h
  have m : ∀ x y, (x ≠ 2 ∧ x ≠ 5 ∧ x ≠ 6) → M' (x, y) = M (x, y) := fun x y hx => hM _ (fr_pair hx.1) (fr_pair hx.2.1) (fr_pair hx.2.2)
  have hlen : (S.1.eraseIdx i).length = S.1.length - 1 := by rw [List.length_eraseIdx]; simp [hi]
  refine ⟨?_, ⟨?_, ?_⟩, ?_, ?_, ?_, ?_, ?_, ?_, ?_⟩
  · unfold fr_1; rw [m 1 0 (by omega)]; exact a1
  · rw [h2]; show _ = nI (S.1.eraseIdx i).length; rw [hlen]
  · rw [h3]; exact a2.2
  · intro x hx; rw [m 4 0 (by omega)]; exact a4 x hx
  · intro j g hg
    have hg : (S.1.eraseIdx i)[j]? = some g := hg
    have hj : j < S.1.length - 1 := by rw [← hlen]; exact (List.getElem?_eq_some_iff.mp hg).1
    by_cases hji : j < i
    · rw [List.getElem?_eraseIdx_of_lt hji] at hg
      have r := a5 j g hg
      unfold fr_row at r ⊢
      simp only [hlo (j * 7 + 0) (by omega), hlo (j * 7 + 1) (by omega), hlo (j * 7 + 2) (by omega), hlo (j * 7 + 3) (by omega), hlo (j * 7 + 4) (by omega), hlo (j * 7 + 5) (by omega), hlo (j * 7 + 6) (by omega)]
      exact r
    · rw [List.getElem?_eraseIdx_of_ge (by omega)] at hg
      have r := a5 (j + 1) g hg
      have e : ∀ t, (j + 1) * 7 + t = j * 7 + t + 7 := fun t => by omega
      unfold fr_row at r ⊢
      simp only [e] at r
      simp only [hhi (j * 7 + 0) (by omega) (by omega), hhi (j * 7 + 1) (by omega) (by omega), hhi (j * 7 + 2) (by omega) (by omega), hhi (j * 7 + 3) (by omega) (by omega), hhi (j * 7 + 4) (by omega) (by omega), hhi (j * 7 + 5) (by omega) (by omega), hhi (j * 7 + 6) (by omega) (by omega)]
      exact r
  · intro s c hs hc; rw [m 9 _ (by omega)]; exact a9 s c hs hc
  · intro s c hs hc hx; rw [m 9 _ (by omega), m 10 _ (by omega), m 11 _ (by omega), m 12 _ (by omega)]; exact a10 s c hs hc hx
  · intro s hs; rw [m 13 _ (by omega), m 13 _ (by omega)]; exact a13 s hs
  · intro s r a hs hr ha; rw [m 14 _ (by omega), m 14 _ (by omega)]; exact a14 s r a hs hr ha
  · intro s a hs ha; rw [m 15 _ (by omega)]; exact a15 s a hs ha
/-- what no memory shows may differ -/
theorem fr_eq {n q f : Nat} {S S' : pz_T} {ex ex' : Nat → Nat → Prop} {M : fr_M} (h : fr_R n q f S ex M) (h1 : S'.1 = S.1) (h2 : ∀ s k x y, k ≠ 17 → S'.2 s k x y = S.2 s k x y) (hex : ∀ s c, ¬ ex' s c → ¬ ex s c) : fr_R n q f S' ex' M := by
  obtain ⟨a1, a2, a4, a5, a9, a10, a13, a14, a15⟩ := h
  refine ⟨a1, ⟨by rw [h1]; exact a2.1, by rw [h2 3 15 0 0 (by omega)]; exact a2.2⟩, ?_, ?_, ?_, ?_, ?_, ?_, ?_⟩
  · intro w hw; rw [h2 3 14 w 0 (by omega)]; exact a4 w hw
  · intro i x hx; rw [h1] at hx; exact a5 i x hx
  · intro s c hs hc; rw [h2 s 8 c 0 (by omega), h2 s 9 c 0 (by omega), h2 s 10 c 0 (by omega)]; exact a9 s c hs hc
  · intro s c hs hc hx
    unfold pz_te
    simp only [h2 s 11 c _ (by omega), h2 s 12 c _ (by omega), h2 s 13 c _ (by omega)]
    exact a10 s c hs hc (hex s c hx)
  · intro s hs; rw [h2 s 16 0 0 (by omega), h2 s 7 0 0 (by omega)]; exact a13 s hs
  · intro s r a hs hr ha; rw [h2 s 5 r a (by omega), h2 s 6 r a (by omega)]; exact a14 s r a hs hr ha
  · intro s a hs ha; rw [h2 s 0 a 0 (by omega), h2 s 1 a 0 (by omega), h2 s 2 a 0 (by omega), h2 s 3 a 0 (by omega), h2 s 4 a 0 (by omega)]; exact a15 s a hs ha
end
section
/-! Start, end and calls of methods that make no cell. -/
theorem xw_Pc_blind {D : va_G} {cl : List vw_C} {tys : List (ClassId × FieldType)} {ids : List (Nat × Nat)} {ad : Nat × Nat → Nat} {xk : Nat × Nat → (Nat → Int32) → va_E} {nl : List (String × Nat × MethodName × String)} {M : Nat × Nat → Nat → Int32} {av : List Value} : FrameBlind (xw_Pc D cl tys ids ad xk nl M av) := fun a U g mk q => by
  obtain ⟨q0, qP, qK, qD, qN⟩ := q
  exact ⟨q0, qP, va_K.moved (u := U) (U := U.calling g mk a) (Vm.Alike.refl U.vm) qK, qD, fun x hx => va_Nw.same rfl (u := U) (U := U.calling g mk a) rfl (qN x hx)⟩
theorem xw_good {tb : List Cond} (hg : ∀ w ∈ tb, goodWord w = true) {c1 c2 : Cond} (h2 : c2 ∈ tb) : GoodIn (c1 :: tb) (c2 :: tb) := fun w hw => by
  rcases List.mem_cons.mp hw with rfl | hw
  · exact ⟨List.mem_cons_of_mem _ h2, good_of_word (hg _ h2)⟩
  · exact ⟨List.mem_cons_of_mem _ hw, good_of_word (hg _ hw)⟩
section XS
variable {D : va_G} {cl : List vw_C} {tys : List (ClassId × FieldType)} {ids : List (Nat × Nat)} {ad : Nat × Nat → Nat} {xk : Nat × Nat → (Nat → Int32) → va_E} {nl : List (String × Nat × MethodName × String)} {M : Nat × Nat → Nat → Int32} {tb : List Cond} {r : Option Value} {Pm : (Nat × Nat → Nat → Int32) → Prop}
theorem xw_start {l : Launch} {y : MethodName} {b : ByteArray} {mL : Nat} {ret : Option FieldType} {rm : Room} (av : List Value) (hy : plainName y.cls = true) (hlen : (lg_sl av).length ≤ mL)
    (body : ∀ (p : Program) (e : Env) (s : State) (m : MethodId) (below : List Frame) (meth : Method) (c : Code) (ls : Array Slot), xw_Z p c b s av.toArray m y.cls (Cond.code y b mL ret :: tb) D cl tys → c.maxLocals = mL → meth.sig.returnType = ret → meth.locks = false → xw_N nl s → lv_has ls mL (lv_args 0 av) → xw_H D cl (xw_A ids ad) s.heap ids ad (xw_M xk M) s.heap [] →
      W p l e rm s m av.toArray below meth c s.heap [] 0 0 (MQ below (xw_Qc D cl ids ad xk r Pm) av.toArray s 0 0 (xw_A ids ad)) (F0 m 0 ls [])) :
    Met l y (Cond.code y b mL ret :: tb) rm (xw_Pc D cl tys ids ad xk nl M av) (xw_Qc D cl ids ad xk r Pm) 0 0 (xw_A ids ad) := by
  refine Met.ofW (cc := b) (maxL := mL) (ret := ret) hy rfl ?_
  intro p e s m args below meth c s₁ B hml hv
  obtain ⟨rfl, hP, hK, hD, hN⟩ := hv
  have hl := lv_entry av (n := mL) hlen
  rw [lg_entry_eq]
  generalize (lg_sl av ++ List.replicate (mL - (lg_sl av).length) Slot.unset).toArray = ls at hl ⊢
  exact body p e s m below meth c ls ⟨B.exec, B.bytes, atoms_spec (ws := Cond.code y b mL ret :: tb) B.pre, findClass_of_methodNamed B.named, hK⟩ hml B.returns B.notSynchronized hN hl ⟨hP, hD, va_S.rf⟩
variable {p : Program} {l : Launch} {e : Env} {R : Room} {s : State} {m : MethodId} {args : Array Value} {below : List Frame} {meth : Method} {c : Code} {H : Heap} {locs : List Loc} {cells slots : Nat} {Q : State → Prop}
variable {cc : ByteArray} {pc : Nat} {ls : Array Slot} {rest : List Value} {H0 : Heap} {own : String} {cd : Cond}
theorem xw_vret (Z : xw_Z p c cc s args m own (cd :: tb) D cl tys) (hr : meth.sig.returnType = none) (hlk : meth.locks = false) (hw : xw_H D cl (xw_A ids ad) s.heap ids ad (xw_M xk M) H locs) (hdg : decode cc pc = .ok (.return_, 1)) (hp : Pm M) : W p l e R s m args below meth c H locs 0 0 (MQ below (xw_Qc D cl ids ad xk none Pm) args s 0 0 (xw_A ids ad)) (F0 m pc ls []) :=
  W.vret Z.1 Z.2.1 hr (fun t ht _ => ⟨⟨rfl, M, hp, by rw [ht]; exact hw.1⟩, hw.2.2.F ht⟩) hw.2.2.2.2 hdg hlk
theorem xw_iret (Z : xw_Z p c cc s args m own (cd :: tb) D cl tys) (hr : meth.sig.returnType = some .int) (hlk : meth.locks = false) (hw : xw_H D cl (xw_A ids ad) s.heap ids ad (xw_M xk M) H locs) (hdg : decode cc pc = .ok (.ireturn, 1)) {v w : Int32} (hv : v = w) (hp : Pm M) : W p l e R s m args below meth c H locs 0 0 (MQ below (xw_Qc D cl ids ad xk (some (.int w)) Pm) args s 0 0 (xw_A ids ad)) (F0 m pc ls [.int v]) := by
  subst hv
  exact W.iret Z.1 Z.2.1 hr (fun t ht _ => ⟨⟨rfl, M, hp, by rw [ht]; exact hw.1⟩, hw.2.2.F ht⟩) hw.2.2.2.2 hdg hlk
theorem xw_zret (Z : xw_Z p c cc s args m own (cd :: tb) D cl tys) (hr : meth.sig.returnType = some .boolean) (hlk : meth.locks = false) (hw : xw_H D cl (xw_A ids ad) s.heap ids ad (xw_M xk M) H locs) (hdg : decode cc pc = .ok (.ireturn, 1)) {v w : Int32} (hv : v = w) (hn : narrow .boolean (.int v) = .int v) (hp : Pm M) : W p l e R s m args below meth c H locs 0 0 (MQ below (xw_Qc D cl ids ad xk (some (.int w)) Pm) args s 0 0 (xw_A ids ad)) (F0 m pc ls [.int v]) := by
  subst hv
  exact W.zret Z.1 Z.2.1 hr hn (fun t ht _ => ⟨⟨rfl, M, hp, by rw [ht]; exact hw.1⟩, hw.2.2.F ht⟩) hw.2.2.2.2 hdg hlk
theorem xw_aret (Z : xw_Z p c cc s args m own (cd :: tb) D cl tys) {C : String} (hr : meth.sig.returnType = some (.object C)) (hlk : meth.locks = false) (hw : xw_H D cl (xw_A ids ad) s.heap ids ad (xw_M xk M) H locs) (hdg : decode cc pc = .ok (.areturn, 1)) {a : Nat} (hp : Pm M) : W p l e R s m args below meth c H locs 0 0 (MQ below (xw_Qc D cl ids ad xk (some (.ref a)) Pm) args s 0 0 (xw_A ids ad)) (F0 m pc ls [.ref a]) :=
  W.aret Z.1 Z.2.1 hr (Or.inl ⟨C, rfl⟩) (Or.inr ⟨a, rfl⟩) (fun t ht _ => ⟨⟨rfl, M, hp, by rw [ht]; exact hw.1⟩, hw.2.2.F ht⟩) hw.2.2.2.2 hdg hlk
variable {y : MethodName} {b : ByteArray} {mL nL fr lo n : Nat} {ret : Option FieldType} {st0 : List Value} {index : Nat}
theorem xw_cV (Z : xw_Z p c cc s args m own (cd :: tb) D cl tys) (hml : c.maxLocals = nL) (hls : ls.size = nL) (hN : xw_N nl s) (hw : xw_H D cl (xw_A ids ad) H0 ids ad (xw_M xk M) H locs) {k : Nat × Nat} {As : List Value}
    (hM : Met l y (Cond.code y b mL ret :: tb) { frames := fr, cells := 0, slots := 0, locals := lo } (xw_Pc D cl tys ids ad xk nl M (.ref (ad k) :: As)) (xw_Qc D cl ids ad xk r Pm) 0 0 (xw_A ids ad))
    (hg : ∀ w ∈ tb, goodWord w = true) (hcode : Cond.code y b mL ret ∈ tb) (hlink : Cond.methodLink own index y ∈ tb) (hin : Cond.instanceMethod y ∈ tb) (hsel : Cond.selects y.cls y y ∈ tb) (hini : Cond.initialized y.cls ∈ tb)
    (hd : y.cls ≠ "java/lang/invoke/MethodHandle" ∧ y.cls ≠ "java/lang/invoke/VarHandle" ∧ (parseMethodDescriptor y.desc).map (fun d => d.parameters.length) = some n) (hR : fr + 1 ≤ R.frames ∧ 8 + (mL + 11) + lo ≤ R.locals)
    (hk : k ∈ ids) {ci : Nat} {fs : List Value} (he : xk k (M k) = .inr (ci, fs)) {q : vw_C} (hc : cl[ci]? = some q) (hq : q.1 = y.cls) (hn : As.length = n) (hst : st0 = As.reverse ++ .ref (ad k) :: rest) (hW : (rest.map fun v => v.category).sum ≤ 8) (hcs : cells ≤ R.cells ∧ slots ≤ R.slots) (hdg : decode cc pc = .ok (.invokevirtual index, 3))
    (kk : ∀ (M1 : Nat × Nat → Nat → Int32) (H1 : Heap) (locs1 : List Loc), Pm M1 → xw_H D cl (xw_A ids ad) H0 ids ad (xw_M xk M1) H1 locs1 → W p l e R s m args below meth c H1 locs1 cells slots Q (F0 m (pc + 3) ls (r.toList ++ rest))) : W p l e R s m args below meth c H locs cells slots Q (F0 m pc ls st0) := by
  obtain ⟨hx, hb, hts, hown, hK⟩ := Z
  have T : ∀ w ∈ tb, w.before args s = true := fun w h => hts w (List.mem_cons_of_mem _ h)
  obtain ⟨q0, hq0⟩ := List.getElem?_of_mem hk
  refine xw_call (va_runV (C := y.cls) (As := As) (rest := rest) (n := n) (mc := 0) (ms := 0) (bytes := b) (maxL := mL) (ret := ret) ⟨hx, hb, hml, hown, hts⟩ hM ⟨callB_of n hts (xw_good hg hcode) rfl rfl rfl (T _ hini) (T _ hlink) hd hR, T _ hin, T _ hsel⟩ ⟨xw_Pc_blind, ?_, fun U hU hW => ⟨rfl, by rw [hU]; exact hw.1, va_K.moved hW.alike hK, hw.2.1, hN.warm hW⟩⟩ rfl hn hls hst ?_ hdg hcs) hw kk
  · obtain ⟨cell, c1, c2, c3⟩ := va_recv hK hw.1 hc (q0 := q0) (a := ad k) (fs := fs) (by rw [xw_at hq0]; exact congrArg (fun z => some (ad k, z)) he)
    exact ⟨cell, c1, c2, by rw [← hq]; exact c3⟩
  · exact lv_room hW
theorem xw_cS (Z : xw_Z p c cc s args m own (cd :: tb) D cl tys) (hml : c.maxLocals = nL) (hls : ls.size = nL) (hN : xw_N nl s) (hw : xw_H D cl (xw_A ids ad) H0 ids ad (xw_M xk M) H locs) {As : List Value}
    (hM : Met l y (Cond.code y b mL ret :: tb) { frames := fr, cells := 0, slots := 0, locals := lo } (xw_Pc D cl tys ids ad xk nl M As) (xw_Qc D cl ids ad xk r Pm) 0 0 (xw_A ids ad))
    (hg : ∀ w ∈ tb, goodWord w = true) (hcode : Cond.code y b mL ret ∈ tb) (hlink : Cond.methodLink own index y ∈ tb) (hin : Cond.static y ∈ tb) (hini : Cond.initialized y.cls ∈ tb)
    (hd : y.cls ≠ "java/lang/invoke/MethodHandle" ∧ y.cls ≠ "java/lang/invoke/VarHandle" ∧ (parseMethodDescriptor y.desc).map (fun d => d.parameters.length) = some n) (hR : fr + 1 ≤ R.frames ∧ 8 + (mL + 11) + lo ≤ R.locals)
    (hn : As.length = n) (hst : st0 = As.reverse ++ rest) (hW : (rest.map fun v => v.category).sum ≤ 8) (hcs : cells ≤ R.cells ∧ slots ≤ R.slots) (hdg : decode cc pc = .ok (.invokestatic index, 3))
    (kk : ∀ (M1 : Nat × Nat → Nat → Int32) (H1 : Heap) (locs1 : List Loc), Pm M1 → xw_H D cl (xw_A ids ad) H0 ids ad (xw_M xk M1) H1 locs1 → W p l e R s m args below meth c H1 locs1 cells slots Q (F0 m (pc + 3) ls (r.toList ++ rest))) : W p l e R s m args below meth c H locs cells slots Q (F0 m pc ls st0) := by
  obtain ⟨hx, hb, hts, hown, hK⟩ := Z
  have T : ∀ w ∈ tb, w.before args s = true := fun w h => hts w (List.mem_cons_of_mem _ h)
  exact xw_call (va_runS (As := As) (rest := rest) (n := n) (mc := 0) (ms := 0) (bytes := b) (maxL := mL) (ret := ret) ⟨hx, hb, hml, hown, hts⟩ hM ⟨callB_of n hts (xw_good hg hcode) rfl rfl rfl (T _ hini) (T _ hlink) hd hR, T _ hin⟩ ⟨xw_Pc_blind, fun U hU hW => ⟨rfl, by rw [hU]; exact hw.1, va_K.moved hW.alike hK, hw.2.1, hN.warm hW⟩⟩ rfl hn hls hst (lv_room hW) hdg hcs) hw kk
/-- a static method of a nest mate -/
theorem xw_cN (Z : xw_Z p c cc s args m own (cd :: tb) D cl tys) (hml : c.maxLocals = nL) (hls : ls.size = nL) (hN : xw_N nl s) (hw : xw_H D cl (xw_A ids ad) H0 ids ad (xw_M xk M) H locs) {As : List Value}
    (hM : Met l y (Cond.code y b mL ret :: tb) { frames := fr, cells := 0, slots := 0, locals := lo } (xw_Pc D cl tys ids ad xk nl M As) (xw_Qc D cl ids ad xk r Pm) 0 0 (xw_A ids ad))
    (hg : ∀ w ∈ tb, goodWord w = true) (hcode : Cond.code y b mL ret ∈ tb) {host : String} (hlink : (own, index, y, host) ∈ nl) (hin : Cond.static y ∈ tb) (hini : Cond.initialized y.cls ∈ tb)
    (hd : y.cls ≠ "java/lang/invoke/MethodHandle" ∧ y.cls ≠ "java/lang/invoke/VarHandle" ∧ (parseMethodDescriptor y.desc).map (fun d => d.parameters.length) = some n) (hR : fr + 1 ≤ R.frames ∧ 8 + (mL + 11) + lo ≤ R.locals)
    (hn : As.length = n) (hst : st0 = As.reverse ++ rest) (hW : (rest.map fun v => v.category).sum ≤ 8) (hcs : cells ≤ R.cells ∧ slots ≤ R.slots) (hdg : decode cc pc = .ok (.invokestatic index, 3))
    (kk : ∀ (M1 : Nat × Nat → Nat → Int32) (H1 : Heap) (locs1 : List Loc), Pm M1 → xw_H D cl (xw_A ids ad) H0 ids ad (xw_M xk M1) H1 locs1 → W p l e R s m args below meth c H1 locs1 cells slots Q (F0 m (pc + 3) ls (r.toList ++ rest))) : W p l e R s m args below meth c H locs cells slots Q (F0 m pc ls st0) := by
  obtain ⟨hx, hb, hts, hown, hK⟩ := Z
  have T : ∀ w ∈ tb, w.before args s = true := fun w h => hts w (List.mem_cons_of_mem _ h)
  exact xw_call (va_runSN (As := As) (rest := rest) (n := n) (mc := 0) (ms := 0) (bytes := b) (maxL := mL) (ret := ret) ⟨hx, hb, hml, hown, hts⟩ hM ⟨va_cnB n hts (xw_good hg hcode) rfl rfl rfl (hN _ hlink) (T _ hini) hd hR, T _ hin, trivial⟩ ⟨xw_Pc_blind, fun U hU hW => ⟨rfl, by rw [hU]; exact hw.1, va_K.moved hW.alike hK, hw.2.1, hN.warm hW⟩⟩ rfl hn hls hst (lv_room hW) hdg hcs) hw kk
end XS
end
