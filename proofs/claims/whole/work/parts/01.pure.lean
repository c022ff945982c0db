/-! Pure part 1: one slot of the protocol (p k x y: what is kept, by kind, place and place), its invariant, what keeps it, and that no two values are chosen. -/
def pz_sm : Nat → (Nat → Nat) → Nat
  | 0, _ => 0
  | k + 1, g => pz_sm k g + g k
theorem pz_sm_le {g h : Nat → Nat} : ∀ (n : Nat), (∀ a, a < n → g a ≤ h a) → pz_sm n g ≤ pz_sm n h
  | 0, _ => Nat.le_refl _
  | k + 1, H => Nat.add_le_add (pz_sm_le k (fun a ha => H a (Nat.lt_succ_of_lt ha))) (H k (Nat.lt_succ_self k))
theorem pz_sm_eq {g h : Nat → Nat} (n : Nat) (H : ∀ a, a < n → g a = h a) : pz_sm n g = pz_sm n h :=
  Nat.le_antisymm (pz_sm_le n (fun a ha => Nat.le_of_eq (H a ha))) (pz_sm_le n (fun a ha => Nat.le_of_eq (H a ha).symm))
theorem pz_sm_add (g h : Nat → Nat) : ∀ n : Nat, pz_sm n (fun a => g a + h a) = pz_sm n g + pz_sm n h
  | 0 => rfl
  | k + 1 => by simp only [pz_sm, pz_sm_add g h k]; omega
theorem pz_sm_const (c : Nat) : ∀ n : Nat, pz_sm n (fun _ => c) = n * c
  | 0 => by simp [pz_sm]
  | k + 1 => by simp only [pz_sm, pz_sm_const c k, Nat.succ_mul]
theorem pz_sm_pos {g : Nat → Nat} : ∀ n : Nat, 0 < pz_sm n g → ∃ a, a < n ∧ 0 < g a
  | 0, h => absurd h (Nat.lt_irrefl 0)
  | k + 1, h => by
    by_cases h1 : 0 < pz_sm k g
    · obtain ⟨a, h2, h3⟩ := pz_sm_pos k h1
      exact ⟨a, Nat.lt_succ_of_lt h2, h3⟩
    · simp only [pz_sm] at h
      exact ⟨k, Nat.lt_succ_self k, by omega⟩
theorem pz_sm_one {g : Nat → Nat} : ∀ (n : Nat) (a : Nat), a < n → g a ≤ pz_sm n g
  | 0, a, h => absurd h (Nat.not_lt_zero a)
  | k + 1, a, h => by
    simp only [pz_sm]
    by_cases e : a = k
    · subst e; omega
    · have := pz_sm_one (g := g) k a (by omega)
      omega
theorem pz_sm_zero {g : Nat → Nat} (n : Nat) (h : ∀ a, a < n → g a = 0) : pz_sm n g = 0 := by
  rw [pz_sm_eq (h := fun _ => 0) n h, pz_sm_const, Nat.mul_zero]
theorem pz_count {n : Nat} {u v z : Nat → Nat} (H : ∀ a, a < n → u a + v a ≤ 1 + z a) : pz_sm n u + pz_sm n v ≤ n + pz_sm n z := by
  have h := pz_sm_le (g := fun a => u a + v a) (h := fun a => 1 + z a) n H
  rw [pz_sm_add, pz_sm_add (fun _ => 1), pz_sm_const] at h
  omega
theorem pz_count2 {n : Nat} {u v z : Nat → Nat} (H : ∀ a, a < n → u a + v a ≤ z a) : pz_sm n u + pz_sm n v ≤ pz_sm n z := by
  have h := pz_sm_le (g := fun a => u a + v a) (h := z) n H
  rw [pz_sm_add] at h
  exact h

abbrev pz_P : Type := Nat → Nat → Nat → Nat
/-- of a round: its coordinator, 0 or 1 -/
def pz_ci (r : Nat) : Nat := if (r + 1) / 2 % 2 = 1 then 0 else 1
theorem pz_ci_lt (r : Nat) : pz_ci r < 2 := by unfold pz_ci; split <;> omega
theorem pz_ci_succ {r : Nat} (h : r % 2 = 1) : pz_ci (r + 1) = pz_ci r := by
  unfold pz_ci
  have e : (r + 1 + 1) / 2 = (r + 1) / 2 := by omega
  rw [e]
/-- of a round: how many votes choose -/
def pz_en (q f r : Nat) : Nat := if r % 2 = 1 then f else q
/-- the sizes -/
def pz_Q (n q f : Nat) : Prop := 3 ≤ n ∧ n ≤ 5 ∧ 1 ≤ q ∧ q ≤ n ∧ 1 ≤ f ∧ f ≤ n ∧ n < 2 * q ∧ 2 * n < q + 2 * f
theorem pz_en_pos {n q f : Nat} (Q : pz_Q n q f) (r : Nat) : 0 < pz_en q f r := by
  obtain ⟨q1, q2, q3, q4, q5, q6, q7, q8⟩ := Q
  unfold pz_en; split <;> omega
theorem pz_en_two {n q f : Nat} (Q : pz_Q n q f) (r : Nat) : n < 2 * pz_en q f r := by
  obtain ⟨q1, q2, q3, q4, q5, q6, q7, q8⟩ := Q
  unfold pz_en; split <;> omega
theorem pz_en_q {n q f : Nat} (Q : pz_Q n q f) (r : Nat) : n < q + pz_en q f r := by
  obtain ⟨q1, q2, q3, q4, q5, q6, q7, q8⟩ := Q
  unfold pz_en; split <;> omega
/-- who has voted for w in r, or still can -/
def pz_cc (p : pz_P) (n r w : Nat) : Nat := pz_sm n (fun a => if p 5 r a = w ∨ (p 5 r a = 0 ∧ p 0 a 0 ≤ r) then 1 else 0)
def pz_cv (p : pz_P) (n r w : Nat) : Nat := pz_sm n (fun a => if p 5 r a = w then 1 else 0)
theorem pz_cv_le (p : pz_P) (n r w : Nat) : pz_cv p n r w ≤ pz_cc p n r w := by
  unfold pz_cv pz_cc
  refine pz_sm_le n (fun a _ => ?_)
  by_cases h : p 5 r a = w
  · rw [if_pos h, if_pos (Or.inl h)]; exact Nat.le_refl 1
  · rw [if_neg h]; exact Nat.zero_le _
/-- w can't be chosen in r any more -/
def pz_ND (n q f : Nat) (p : pz_P) (r w : Nat) : Prop := pz_cc p n r w < pz_en q f r
/-- what a promise for r says of a's votes -/
def pz_PF (p : pz_P) (r a v k : Nat) : Prop := r ≤ p 0 a 0 ∧ k < r ∧ (∀ x, x < r → p 5 x a ≠ 0 → x ≤ k) ∧ ((k = 0 ∧ v = 0) ∨ (0 < k ∧ p 5 k a = v ∧ v ≠ 0))
/-- time goes on: rounds don't fall, votes stay, and what was asked for stays -/
def pz_St (n : Nat) (p p' : pz_P) : Prop := (∀ a, a < n → p 0 a 0 ≤ p' 0 a 0) ∧ (∀ r a, a < n → p' 5 r a = p 5 r a ∨ (p 5 r a = 0 ∧ p 0 a 0 ≤ r)) ∧ ∀ r, p 17 r 0 ≠ 0 → p' 17 r 0 = p 17 r 0
theorem pz_St_same {n : Nat} {p p' : pz_P} (h0 : ∀ a, p' 0 a 0 = p 0 a 0) (h5 : ∀ r a, p' 5 r a = p 5 r a) (h17 : ∀ r, p 17 r 0 ≠ 0 → p' 17 r 0 = p 17 r 0) : pz_St n p p' :=
  ⟨fun a _ => Nat.le_of_eq (h0 a).symm, fun r a _ => Or.inl (h5 r a), h17⟩
theorem pz_ND_st {n q f : Nat} {p p' : pz_P} (h : pz_St n p p') {x w : Nat} (k : pz_ND n q f p x w) : pz_ND n q f p' x w := by
  unfold pz_ND at k ⊢
  refine Nat.lt_of_le_of_lt ?_ k
  unfold pz_cc
  refine pz_sm_le n (fun a ha => ?_)
  have h0 := h.1 a ha
  by_cases c' : p' 5 x a = w ∨ (p' 5 x a = 0 ∧ p' 0 a 0 ≤ x)
  · have c : p 5 x a = w ∨ (p 5 x a = 0 ∧ p 0 a 0 ≤ x) := by
      rcases h.2.1 x a ha with e | ⟨e1, e2⟩
      · rw [e] at c'
        rcases c' with c' | ⟨c1, c2⟩
        · exact Or.inl c'
        · exact Or.inr ⟨c1, by omega⟩
      · exact Or.inr ⟨e1, e2⟩
    rw [if_pos c', if_pos c]; exact Nat.le_refl 1
  · rw [if_neg c']; exact Nat.zero_le _
theorem pz_vd_st {n : Nat} {p p' : pz_P} (h : pz_St n p p') {r a v : Nat} (ha : a < n) (e : p 5 r a = v) (hv : v ≠ 0) : p' 5 r a = v := by
  rcases h.2.1 r a ha with e1 | ⟨e1, -⟩
  · rw [e1]; exact e
  · exact absurd (e.symm.trans e1) hv
theorem pz_PF_st {n : Nat} {p p' : pz_P} (h : pz_St n p p') {r a v k : Nat} (ha : a < n) (g : pz_PF p r a v k) : pz_PF p' r a v k := by
  obtain ⟨h1, h2, h3, h4⟩ := g
  refine ⟨Nat.le_trans h1 (h.1 a ha), h2, fun x hx hne => ?_, ?_⟩
  · rcases h.2.1 x a ha with e | ⟨e1, e2⟩
    · exact h3 x hx (by rw [← e]; exact hne)
    · omega
  · rcases h4 with h4 | ⟨g1, g2, g3⟩
    · exact Or.inl h4
    · exact Or.inr ⟨g1, pz_vd_st h ha g2 g3, g3⟩
theorem pz_PF_eq {p : pz_P} {r a v k v' k' : Nat} (h1 : pz_PF p r a v k) (h2 : pz_PF p r a v' k') : v = v' ∧ k = k' := by
  obtain ⟨-, b1, c1, d1⟩ := h1
  obtain ⟨-, b2, c2, d2⟩ := h2
  rcases d1 with ⟨x1, y1⟩ | ⟨x1, y1, z1⟩ <;> rcases d2 with ⟨x2, y2⟩ | ⟨x2, y2, z2⟩
  · exact ⟨by omega, by omega⟩
  · have := c1 k' b2 (by rw [y2]; exact z2)
    omega
  · have := c2 k b1 (by rw [y1]; exact z1)
    omega
  · have e1 := c2 k b1 (by rw [y1]; exact z1)
    have e2 := c1 k' b2 (by rw [y2]; exact z2)
    have e : k = k' := by omega
    subst e
    exact ⟨y1.symm.trans y2, rfl⟩

/-- the acceptors' votes -/
def pz_A (n : Nat) (p : pz_P) : Prop := ∀ a, a < n → p 2 a 0 ≤ p 0 a 0 ∧ p 0 a 0 ≤ 12 ∧ (∀ r, p 5 r a ≠ 0 → 1 ≤ r ∧ r ≤ p 2 a 0 ∧ p 5 r a ≤ 1000) ∧ ((p 2 a 0 = 0 ∧ p 1 a 0 = 0) ∨ (0 < p 2 a 0 ∧ p 5 (p 2 a 0) a = p 1 a 0 ∧ p 1 a 0 ≠ 0))
/-- where an acceptor may vote for what it hears first -/
def pz_O (n : Nat) (p : pz_P) : Prop := ∀ a, a < n → p 4 a 0 ≤ p 0 a 0 ∧ p 3 a 0 ≤ 1000 ∧ (0 < p 0 a 0 → p 4 a 0 = p 0 a 0 → p 17 (p 0 a 0) 0 = 1 ∧ (p 3 a 0 ≠ 0 → p 2 a 0 = p 0 a 0))
/-- what was asked for in a round: 0 nothing, 1 any, v + 1 the value v -/
def pz_G1 (p : pz_P) : Prop := ∀ r, p 17 r 0 ≠ 0 → 1 ≤ r ∧ r ≤ 12 ∧ r ≤ p 8 (pz_ci r) 0 ∧ (p 8 (pz_ci r) 0 = r → p 9 (pz_ci r) 0 = 3) ∧ p 17 r 0 ≤ 1001 ∧ (p 17 r 0 = 1 → r % 2 = 1)
def pz_G2 (n : Nat) (p : pz_P) : Prop := ∀ r a, a < n → p 5 r a ≠ 0 → p 17 r 0 = 1 ∨ p 17 r 0 = p 5 r a + 1
def pz_G3 (n q f : Nat) (p : pz_P) : Prop := ∀ x r w, p 17 r 0 ≠ 0 → 1 ≤ x → x < r → w ≠ 0 → p 17 r 0 ≠ w + 1 → pz_ND n q f p x w
/-- a coordinator -/
def pz_Cc (n q f : Nat) (p : pz_P) (c : Nat) : Prop := p 8 c 0 ≤ 12 ∧ p 9 c 0 ≤ 3 ∧ p 10 c 0 ≤ 1000 ∧ (p 9 c 0 ≠ 0 → 1 ≤ p 8 c 0 ∧ pz_ci (p 8 c 0) = c) ∧ (∀ a, p 11 c a ≤ 1) ∧
  (p 9 c 0 = 1 → pz_sm n (fun a => p 11 c a) < q ∧ ∀ a, a < n → p 11 c a ≠ 0 → pz_PF p (p 8 c 0) a (p 12 c a) (p 13 c a)) ∧
  (p 9 c 0 = 2 → p 10 c 0 = 0 ∧ p 8 c 0 % 2 = 0 ∧ (∀ a, p 11 c a = 0) ∧ ∀ x w, 1 ≤ x → x < p 8 c 0 → w ≠ 0 → pz_ND n q f p x w) ∧
  (p 9 c 0 = 3 → p 17 (p 8 c 0) 0 ≠ 0 ∧ ∀ a, a < n → p 11 c a ≠ 0 → p 13 c a = p 8 c 0 ∧ p 5 (p 8 c 0) a = p 12 c a ∧ p 12 c a ≠ 0)
/-- no acceptor but the n -/
def pz_Z (n : Nat) (p : pz_P) : Prop := (∀ r a, n ≤ a → p 5 r a = 0 ∧ p 6 r a = 0) ∧ (∀ r a, p 6 r a ≤ 1000) ∧ p 7 0 0 ≤ 1000 ∧ p 16 0 0 ≤ 1000
/-- the first value that was chosen -/
def pz_S (n q f : Nat) (p : pz_P) : Prop := (p 16 0 0 = 0 ∧ ∀ r w, w ≠ 0 → pz_cv p n r w < pz_en q f r) ∨ (p 16 0 0 ≠ 0 ∧ ∃ r, pz_en q f r ≤ pz_cv p n r (p 16 0 0))
def pz_IV (n q f : Nat) (p : pz_P) : Prop := pz_A n p ∧ pz_O n p ∧ pz_G1 p ∧ pz_G2 n p ∧ pz_G3 n q f p ∧ (∀ c, c < 2 → pz_Cc n q f p c) ∧ pz_Z n p ∧ pz_S n q f p

theorem pz_Cc_st {n q f : Nat} {p p' : pz_P} (h : pz_St n p p') {c : Nat} (hk : ∀ k y, 8 ≤ k → k ≤ 13 → p' k c y = p k c y) (C : pz_Cc n q f p c) : pz_Cc n q f p' c := by
  obtain ⟨c1, c2, c3, c4, c5, c6, c7, c8⟩ := C
  have e8 := hk 8 0 (by omega) (by omega)
  have e9 := hk 9 0 (by omega) (by omega)
  have e10 := hk 10 0 (by omega) (by omega)
  have e11 : ∀ a, p' 11 c a = p 11 c a := fun a => hk 11 a (by omega) (by omega)
  have e12 : ∀ a, p' 12 c a = p 12 c a := fun a => hk 12 a (by omega) (by omega)
  have e13 : ∀ a, p' 13 c a = p 13 c a := fun a => hk 13 a (by omega) (by omega)
  unfold pz_Cc
  simp only [e8, e9, e10, e11, e12, e13]
  refine ⟨c1, c2, c3, c4, c5, fun z => ⟨(c6 z).1, fun a ha t => pz_PF_st h ha ((c6 z).2 a ha t)⟩, fun z => ?_, fun z => ?_⟩
  · obtain ⟨d1, d2, d3, d4⟩ := c7 z
    exact ⟨d1, d2, d3, fun x w hx hr hw => pz_ND_st h (d4 x w hx hr hw)⟩
  · obtain ⟨d1, d2⟩ := c8 z
    refine ⟨by rw [h.2.2 _ d1]; exact d1, fun a ha t => ?_⟩
    obtain ⟨g1, g2, g3⟩ := d2 a ha t
    exact ⟨g1, pz_vd_st h ha g2 g3, g3⟩
theorem pz_G3_st {n q f : Nat} {p p' : pz_P} (h : pz_St n p p') (h17 : ∀ r, p' 17 r 0 = p 17 r 0) (G : pz_G3 n q f p) : pz_G3 n q f p' := by
  intro x r w h1 h2 h3 h4 h5
  rw [h17] at h1 h5
  exact pz_ND_st h (G x r w h1 h2 h3 h4 h5)
/-- no two values are chosen -/
theorem pz_uniq_lt {n q f : Nat} {p : pz_P} (Q : pz_Q n q f) (I : pz_IV n q f p) {x y v w : Nat} (hxy : x < y) (hv : v ≠ 0) (hw : w ≠ 0) (h1 : pz_en q f x ≤ pz_cv p n x v) (h2 : pz_en q f y ≤ pz_cv p n y w) : v = w := by
  obtain ⟨A, -, -, G2, G3, -, -, -⟩ := I
  have p1 := pz_en_pos Q x
  have p2 := pz_en_pos Q y
  obtain ⟨a, ha, ea⟩ := pz_sm_pos n (Nat.lt_of_lt_of_le p1 h1)
  obtain ⟨b, hb, eb⟩ := pz_sm_pos n (Nat.lt_of_lt_of_le p2 h2)
  have ea : p 5 x a = v := by
    by_cases z : p 5 x a = v
    · exact z
    · rw [if_neg z] at ea; exact absurd ea (Nat.lt_irrefl 0)
  have eb : p 5 y b = w := by
    by_cases z : p 5 y b = w
    · exact z
    · rw [if_neg z] at eb; exact absurd eb (Nat.lt_irrefl 0)
  have hx1 := ((A a ha).2.2.1 x (by rw [ea]; exact hv)).1
  by_cases e : v = w
  · exact e
  · have g := G2 y b hb (by rw [eb]; exact hw)
    rw [eb] at g
    have nd : pz_ND n q f p x v := G3 x y v (by omega) hx1 hxy hv (by omega)
    have := pz_cv_le p n x v
    unfold pz_ND at nd
    omega
theorem pz_uniq {n q f : Nat} {p : pz_P} (Q : pz_Q n q f) (I : pz_IV n q f p) {x y v w : Nat} (hv : v ≠ 0) (hw : w ≠ 0) (h1 : pz_en q f x ≤ pz_cv p n x v) (h2 : pz_en q f y ≤ pz_cv p n y w) : v = w := by
  rcases Nat.lt_trichotomy x y with h | h | h
  · exact pz_uniq_lt Q I h hv hw h1 h2
  · subst h
    by_cases e : v = w
    · exact e
    · have k : pz_cv p n x v + pz_cv p n x w ≤ pz_sm n (fun _ => 1) := by
        unfold pz_cv
        refine pz_count2 (fun a _ => ?_)
        by_cases e1 : p 5 x a = v
        · rw [if_pos e1, if_neg (fun z => e (e1.symm.trans z))]; exact Nat.le_refl 1
        · rw [if_neg e1]; split <;> omega
      rw [pz_sm_const] at k
      have := pz_en_two Q x
      omega
  · exact (pz_uniq_lt Q I h hw hv h2 h1).symm
theorem pz_Z_st {n : Nat} {p p' : pz_P} (Z : pz_Z n p) (h5 : ∀ r a, n ≤ a → p' 5 r a = p 5 r a) (h6 : ∀ r a, p' 6 r a = p 6 r a) (h7 : p' 7 0 0 = p 7 0 0) (h16 : p' 16 0 0 ≤ 1000) : pz_Z n p' := by
  refine ⟨fun r a ha => ?_, fun r a => ?_, ?_, h16⟩
  · rw [h5 r a ha, h6]; exact Z.1 r a ha
  · rw [h6]; exact Z.2.1 r a
  · rw [h7]; exact Z.2.2.1
