/-! How the memory of the program stands for the state. Cells: (1,0) sizes, (2,0) mail, (4,0) halted, (5,0) the rows of the mail, (6,0) the message under way, (9,2s+c) a coordinator with (10..12,2s+c) its three rows, (13,2s+w) a tally with (14,2s+w) its row, (15,5s+a) an acceptor. -/
abbrev fr_M : Type := Nat × Nat → Nat → Int32
def fr_1 (n q f : Nat) (M : fr_M) : Prop := M (1, 0) 0 = nI n ∧ M (1, 0) 1 = nI q ∧ M (1, 0) 2 = nI f
def fr_2 (S : pz_T) (M : fr_M) : Prop := M (2, 0) 2 = nI S.1.length ∧ M (2, 0) 3 = nI (S.2 3 15 0 0)
def fr_4 (S : pz_T) (M : fr_M) : Prop := ∀ w, w < 11 → M (4, 0) w = nI (S.2 3 14 w 0)
def fr_row (g : pz_M) (h : Nat → Int32) : Prop := h 0 = nI (g 0) ∧ h 1 = nI (g 1) ∧ h 2 = nI (g 2) ∧ (g 0 = 3 ∨ g 0 = 5 → h 3 = nI (g 3)) ∧ h 4 = nI (g 4) ∧ h 5 = nI (g 5) ∧ h 6 = nI (g 6)
def fr_5 (S : pz_T) (M : fr_M) : Prop := ∀ i g, S.1[i]? = some g → fr_row g (fun j => M (5, 0) (i * 7 + j))
def fr_9 (S : pz_T) (M : fr_M) : Prop := ∀ s c, s < 3 → c < 2 → M (9, 2 * s + c) 0 = nI s ∧ M (9, 2 * s + c) 3 = nI (S.2 s 8 c 0) ∧ M (9, 2 * s + c) 4 = nI (S.2 s 9 c 0) ∧ M (9, 2 * s + c) 5 = nI (S.2 s 10 c 0)
def fr_10 (n : Nat) (S : pz_T) (M : fr_M) (ex : Nat → Nat → Prop) : Prop := ∀ s c, s < 3 → c < 2 → ¬ ex s c → M (9, 2 * s + c) 9 = nI (pz_te n (S.2 s) c) ∧ ∀ a, a < n → M (10, 2 * s + c) a = nI (S.2 s 11 c a) ∧ (S.2 s 11 c a ≠ 0 → M (11, 2 * s + c) a = nI (S.2 s 12 c a) ∧ M (12, 2 * s + c) a = nI (S.2 s 13 c a))
def fr_13 (S : pz_T) (M : fr_M) : Prop := ∀ s, s < 3 → M (13, 2 * s) 2 = nI (S.2 s 16 0 0) ∧ M (13, 2 * s + 1) 2 = nI (S.2 s 7 0 0)
def fr_14 (n : Nat) (S : pz_T) (M : fr_M) : Prop := ∀ s r a, s < 3 → r ≤ 12 → a < n → M (14, 2 * s) (r * n + a) = nI (S.2 s 5 r a) ∧ M (14, 2 * s + 1) (r * n + a) = nI (S.2 s 6 r a)
def fr_15 (n : Nat) (S : pz_T) (M : fr_M) : Prop := ∀ s a, s < 3 → a < n → M (15, 5 * s + a) 0 = nI a ∧ M (15, 5 * s + a) 1 = nI s ∧ M (15, 5 * s + a) 4 = nI (S.2 s 0 a 0) ∧ M (15, 5 * s + a) 5 = nI (S.2 s 1 a 0) ∧ M (15, 5 * s + a) 6 = nI (S.2 s 2 a 0) ∧ M (15, 5 * s + a) 7 = nI (S.2 s 3 a 0) ∧ M (15, 5 * s + a) 8 = nI (S.2 s 4 a 0)
def fr_R (n q f : Nat) (S : pz_T) (ex : Nat → Nat → Prop) (M : fr_M) : Prop := fr_1 n q f M ∧ fr_2 S M ∧ fr_4 S M ∧ fr_5 S M ∧ fr_9 S M ∧ fr_10 n S M ex ∧ fr_13 S M ∧ fr_14 n S M ∧ fr_15 n S M
/-- a message is sent, and there is a place for it -/
theorem fr_send1 {n q f : Nat} {S : pz_T} {ex : Nat → Nat → Prop} {M M' : fr_M} {g : pz_M} (h : fr_R n q f S ex M) (hl : S.1.length < 60) (hk : ∀ k, k ≠ (5, 0) → k ≠ (2, 0) → M' k = M k) (h5 : ∀ i, i < S.1.length * 7 → M' (5, 0) i = M (5, 0) i) (hrow : fr_row g (fun j => M' (5, 0) (S.1.length * 7 + j))) (h2 : M' (2, 0) 2 = nI (S.1.length + 1)) (h3 : M' (2, 0) 3 = M (2, 0) 3) : fr_R n q f (pz_sd S g) ex M' := by
  obtain ⟨a1, a2, a4, a5, a9, a10, a13, a14, a15⟩ := h
  have e : pz_sd S g = (S.1 ++ [g], S.2) := by unfold pz_sd; rw [if_pos hl]
  have kk : ∀ (x y : Nat), x ≠ 5 → x ≠ 2 → M' (x, y) = M (x, y) := fun x y h1 h2 => hk (x, y) (fun z => h1 (Prod.mk.inj z).1) (fun z => h2 (Prod.mk.inj z).1)
  rw [e]
  refine ⟨?_, ⟨?_, ?_⟩, ?_, ?_, ?_, ?_, ?_, ?_, ?_⟩
  · unfold fr_1; rw [kk 1 0 (by omega) (by omega)]; exact a1
  · rw [h2]; simp
  · rw [h3]; exact a2.2
  · intro w hw; rw [kk 4 0 (by omega) (by omega)]; exact a4 w hw
  · intro i x hx
    by_cases hi : i < S.1.length
    · rw [List.getElem?_append_left hi] at hx
      have r := a5 i x hx
      unfold fr_row at r ⊢
      simp only [h5 (i * 7 + 0) (by omega), h5 (i * 7 + 1) (by omega), h5 (i * 7 + 2) (by omega), h5 (i * 7 + 3) (by omega), h5 (i * 7 + 4) (by omega), h5 (i * 7 + 5) (by omega), h5 (i * 7 + 6) (by omega)]
      exact r
    · rw [List.getElem?_append_right (by omega)] at hx
      have hz : i - S.1.length < 1 := (List.getElem?_eq_some_iff.mp hx).1
      have hi0 : i = S.1.length := by omega
      subst hi0
      rw [Nat.sub_self] at hx
      cases hx
      exact hrow
  · intro s c hs hc; simp only [kk 9 _ (by omega) (by omega)]; exact a9 s c hs hc
  · intro s c hs hc hx
    simp only [kk 9 _ (by omega) (by omega), kk 10 _ (by omega) (by omega), kk 11 _ (by omega) (by omega), kk 12 _ (by omega) (by omega)]
    exact a10 s c hs hc hx
  · intro s hs; simp only [kk 13 _ (by omega) (by omega)]; exact a13 s hs
  · intro s r a hs hr ha; simp only [kk 14 _ (by omega) (by omega)]; exact a14 s r a hs hr ha
  · intro s a hs ha; simp only [kk 15 _ (by omega) (by omega)]; exact a15 s a hs ha
/-- a message is sent, and is lost -/
theorem fr_send2 {n q f : Nat} {S : pz_T} {ex : Nat → Nat → Prop} {M M' : fr_M} {g : pz_M} (h : fr_R n q f S ex M) (hl : ¬ S.1.length < 60) (hk : ∀ k, k ≠ (2, 0) → M' k = M k) (h2 : M' (2, 0) 2 = M (2, 0) 2) (h3 : M' (2, 0) 3 = nI (S.2 3 15 0 0 + 1)) : fr_R n q f (pz_sd S g) ex M' := by
  obtain ⟨a1, a2, a4, a5, a9, a10, a13, a14, a15⟩ := h
  have e : pz_sd S g = (S.1, pz_w S.2 3 (pz_u (S.2 3) 15 0 0 (S.2 3 15 0 0 + 1))) := by unfold pz_sd; rw [if_neg hl]
  have kk : ∀ (x y : Nat), x ≠ 2 → M' (x, y) = M (x, y) := fun x y h2 => hk (x, y) (fun z => h2 (Prod.mk.inj z).1)
  have ss : ∀ s, s < 3 → pz_w S.2 3 (pz_u (S.2 3) 15 0 0 (S.2 3 15 0 0 + 1)) s = S.2 s := fun s hs => pz_w_n (by omega)
  rw [e]
  refine ⟨?_, ⟨?_, ?_⟩, ?_, ?_, ?_, ?_, ?_, ?_, ?_⟩
  · unfold fr_1; rw [kk 1 0 (by omega)]; exact a1
  · rw [h2]; exact a2.1
  · rw [h3]
    show _ = nI (pz_w S.2 3 (pz_u (S.2 3) 15 0 0 (S.2 3 15 0 0 + 1)) 3 15 0 0)
    rw [pz_w_s, pz_u_s]
  · intro w hw
    rw [kk 4 0 (by omega)]
    show _ = nI (pz_w S.2 3 (pz_u (S.2 3) 15 0 0 (S.2 3 15 0 0 + 1)) 3 14 w 0)
    rw [pz_w_s, pz_u_k (show 14 ≠ 15 by omega)]
    exact a4 w hw
  · intro i x hx
    rw [kk 5 0 (by omega)]
    exact a5 i x hx
  · intro s c hs hc
    simp only [kk 9 _ (by omega), ss s hs]; exact a9 s c hs hc
  · intro s c hs hc hx
    simp only [kk 9 _ (by omega), kk 10 _ (by omega), kk 11 _ (by omega), kk 12 _ (by omega), ss s hs]
    exact a10 s c hs hc hx
  · intro s hs; simp only [kk 13 _ (by omega), ss s hs]; exact a13 s hs
  · intro s r a hs hr ha; simp only [kk 14 _ (by omega), ss s hs]; exact a14 s r a hs hr ha
  · intro s a hs ha; simp only [kk 15 _ (by omega), ss s hs]; exact a15 s a hs ha
