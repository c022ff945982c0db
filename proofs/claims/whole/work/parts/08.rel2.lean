/-! The memory and the state, step by step. -/
theorem fr_pair {x y x' y' : Nat} (h : x ≠ x') : ((x, y) : Nat × Nat) ≠ (x', y') := fun z => h (Prod.mk.inj z).1
theorem fr_pair2 {x y x' y' : Nat} (h : y ≠ y') : ((x, y) : Nat × Nat) ≠ (x', y') := fun z => h (Prod.mk.inj z).2
/-- only the slot z changes -/
theorem fr_pw {n q f z : Nat} {S : pz_T} {ex ex' : Nat → Nat → Prop} {M M' : fr_M} {p' : pz_P} (h : fr_R n q f S ex M) (hz : z < 3) (h0 : ∀ x, x ≤ 5 → M' (x, 0) = M (x, 0))
    (ho : ∀ k s c, s < 3 → s ≠ z → c < 2 → 9 ≤ k → k ≤ 14 → M' (k, 2 * s + c) = M (k, 2 * s + c)) (ho15 : ∀ s a, s < 3 → s ≠ z → a < n → M' (15, 5 * s + a) = M (15, 5 * s + a)) (hex : ∀ s c, s ≠ z → ¬ ex' s c → ¬ ex s c)
    (k9 : ∀ c, c < 2 → M' (9, 2 * z + c) 0 = nI z ∧ M' (9, 2 * z + c) 3 = nI (p' 8 c 0) ∧ M' (9, 2 * z + c) 4 = nI (p' 9 c 0) ∧ M' (9, 2 * z + c) 5 = nI (p' 10 c 0))
    (k10 : ∀ c, c < 2 → ¬ ex' z c → M' (9, 2 * z + c) 9 = nI (pz_te n p' c) ∧ ∀ a, a < n → M' (10, 2 * z + c) a = nI (p' 11 c a) ∧ (p' 11 c a ≠ 0 → M' (11, 2 * z + c) a = nI (p' 12 c a) ∧ M' (12, 2 * z + c) a = nI (p' 13 c a)))
    (k13 : M' (13, 2 * z) 2 = nI (p' 16 0 0) ∧ M' (13, 2 * z + 1) 2 = nI (p' 7 0 0))
    (k14 : ∀ r a, r ≤ 12 → a < n → M' (14, 2 * z) (r * n + a) = nI (p' 5 r a) ∧ M' (14, 2 * z + 1) (r * n + a) = nI (p' 6 r a))
    (k15 : ∀ a, a < n → M' (15, 5 * z + a) 0 = nI a ∧ M' (15, 5 * z + a) 1 = nI z ∧ M' (15, 5 * z + a) 4 = nI (p' 0 a 0) ∧ M' (15, 5 * z + a) 5 = nI (p' 1 a 0) ∧ M' (15, 5 * z + a) 6 = nI (p' 2 a 0) ∧ M' (15, 5 * z + a) 7 = nI (p' 3 a 0) ∧ M' (15, 5 * z + a) 8 = nI (p' 4 a 0)) :
    fr_R n q f (pz_pw S z p') ex' M' := by
  obtain ⟨a1, a2, a4, a5, a9, a10, a13, a14, a15⟩ := h
  have ss : ∀ s, s ≠ z → (pz_pw S z p').2 s = S.2 s := fun s hs => pz_w_n hs
  have sz : (pz_pw S z p').2 z = p' := pz_w_s _ _ _
  refine ⟨?_, ⟨?_, ?_⟩, ?_, ?_, ?_, ?_, ?_, ?_, ?_⟩
  · unfold fr_1; rw [h0 1 (by omega)]; exact a1
  · rw [h0 2 (by omega)]; exact a2.1
  · rw [h0 2 (by omega), ss 3 (by omega)]; exact a2.2
  · intro w hw; rw [h0 4 (by omega), ss 3 (by omega)]; exact a4 w hw
  · intro i x hx; rw [h0 5 (by omega)]; exact a5 i x hx
  · intro s c hs hc
    by_cases e : s = z
    · subst e; rw [sz]; exact k9 c hc
    · rw [ho 9 s c hs e hc (by omega) (by omega), ss s e]; exact a9 s c hs hc
  · intro s c hs hc hx
    by_cases e : s = z
    · subst e; rw [sz]; exact k10 c hc hx
    · rw [ho 9 s c hs e hc (by omega) (by omega), ho 10 s c hs e hc (by omega) (by omega), ho 11 s c hs e hc (by omega) (by omega), ho 12 s c hs e hc (by omega) (by omega), ss s e]
      exact a10 s c hs hc (hex s c e hx)
  · intro s hs
    by_cases e : s = z
    · subst e; rw [sz]; exact k13
    · have e0 := ho 13 s 0 hs e (by omega) (by omega) (by omega)
      rw [Nat.add_zero] at e0
      rw [e0, ho 13 s 1 hs e (by omega) (by omega) (by omega), ss s e]; exact a13 s hs
  · intro s r a hs hr ha
    by_cases e : s = z
    · subst e; rw [sz]; exact k14 r a hr ha
    · have e0 := ho 14 s 0 hs e (by omega) (by omega) (by omega)
      rw [Nat.add_zero] at e0
      rw [e0, ho 14 s 1 hs e (by omega) (by omega) (by omega), ss s e]; exact a14 s r a hs hr ha
  · intro s a hs ha
    by_cases e : s = z
    · subst e; rw [sz]; exact k15 a ha
    · rw [ho15 s a hs e ha, ss s e]; exact a15 s a hs ha
/-- an acceptor's fields change -/
theorem fr_acc {n q f z b : Nat} {S : pz_T} {ex : Nat → Nat → Prop} {M M' : fr_M} {p' : pz_P} (hn : n ≤ 5) (h : fr_R n q f S ex M) (hz : z < 3) (hb : b < n) (hM : ∀ k, k ≠ (15, 5 * z + b) → M' k = M k)
    (hp : ∀ k x y, 5 ≤ k → p' k x y = S.2 z k x y) (hp2 : ∀ k a, k ≤ 4 → a ≠ b → p' k a 0 = S.2 z k a 0)
    (k15 : M' (15, 5 * z + b) 0 = nI b ∧ M' (15, 5 * z + b) 1 = nI z ∧ M' (15, 5 * z + b) 4 = nI (p' 0 b 0) ∧ M' (15, 5 * z + b) 5 = nI (p' 1 b 0) ∧ M' (15, 5 * z + b) 6 = nI (p' 2 b 0) ∧ M' (15, 5 * z + b) 7 = nI (p' 3 b 0) ∧ M' (15, 5 * z + b) 8 = nI (p' 4 b 0)) : fr_R n q f (pz_pw S z p') ex M' := by
  have H := h
  obtain ⟨a1, a2, a4, a5, a9, a10, a13, a14, a15⟩ := h
  have m : ∀ x y, x ≠ 15 → M' (x, y) = M (x, y) := fun x y hx => hM _ (fr_pair hx)
  refine fr_pw H hz (fun x hx => m x 0 (by omega)) (fun k s c _ _ _ _ _ => m k _ (by omega)) (fun s a hs hsz ha => hM _ (fr_pair2 (by omega))) (fun _ _ _ hx => hx) (fun c hc => ?_) (fun c hc hx => ?_) ?_ (fun r a hr ha => ?_) (fun a ha => ?_)
  · rw [m 9 _ (by omega), hp 8 c 0 (by omega), hp 9 c 0 (by omega), hp 10 c 0 (by omega)]; exact a9 z c hz hc
  · rw [m 9 _ (by omega), m 10 _ (by omega), m 11 _ (by omega), m 12 _ (by omega)]
    unfold pz_te
    simp only [hp 11 c _ (by omega), hp 12 c _ (by omega), hp 13 c _ (by omega)]
    exact a10 z c hz hc hx
  · rw [m 13 _ (by omega), m 13 _ (by omega), hp 16 0 0 (by omega), hp 7 0 0 (by omega)]; exact a13 z hz
  · rw [m 14 _ (by omega), m 14 _ (by omega), hp 5 r a (by omega), hp 6 r a (by omega)]; exact a14 z r a hz hr ha
  · by_cases e : a = b
    · subst e; exact k15
    · rw [hM (15, 5 * z + a) (fr_pair2 (by omega)), hp2 0 a (by omega) e, hp2 1 a (by omega) e, hp2 2 a (by omega) e, hp2 3 a (by omega) e, hp2 4 a (by omega) e]; exact a15 z a hz ha
/-- a coordinator's fields change, but not what it was told -/
theorem fr_cor {n q f z d : Nat} {S : pz_T} {ex ex' : Nat → Nat → Prop} {M M' : fr_M} {p' : pz_P} (h : fr_R n q f S ex M) (hz : z < 3) (hd : d < 2) (hM : ∀ k, k ≠ (9, 2 * z + d) → M' k = M k) (hex : ∀ s c, ¬ ex' s c → ¬ ex s c)
    (hp : ∀ k x y, (k ≠ 8 ∧ k ≠ 9 ∧ k ≠ 10 ∧ k ≠ 17) → p' k x y = S.2 z k x y) (hp2 : ∀ k c, c ≠ d → 8 ≤ k → k ≤ 10 → p' k c 0 = S.2 z k c 0)
    (k9 : M' (9, 2 * z + d) 0 = nI z ∧ M' (9, 2 * z + d) 3 = nI (p' 8 d 0) ∧ M' (9, 2 * z + d) 4 = nI (p' 9 d 0) ∧ M' (9, 2 * z + d) 5 = nI (p' 10 d 0)) (kh : M' (9, 2 * z + d) 9 = M (9, 2 * z + d) 9) : fr_R n q f (pz_pw S z p') ex' M' := by
  have H := h
  obtain ⟨a1, a2, a4, a5, a9, a10, a13, a14, a15⟩ := h
  have m : ∀ x y, x ≠ 9 → M' (x, y) = M (x, y) := fun x y hx => hM _ (fr_pair hx)
  refine fr_pw H hz (fun x hx => m x 0 (by omega)) (fun k s c hs hsz hc _ _ => hM _ (fr_pair2 (by omega))) (fun s a hs hsz ha => m 15 _ (by omega)) (fun s c _ hx => hex s c hx) (fun c hc => ?_) (fun c hc hx => ?_) ?_ (fun r a hr ha => ?_) (fun a ha => ?_)
  · by_cases e : c = d
    · subst e; exact k9
    · rw [hM _ (fr_pair2 (by omega)), hp2 8 c e (by omega) (by omega), hp2 9 c e (by omega) (by omega), hp2 10 c e (by omega) (by omega)]; exact a9 z c hz hc
  · have e9 : M' (9, 2 * z + c) 9 = M (9, 2 * z + c) 9 := by
      by_cases e : c = d
      · subst e; exact kh
      · rw [hM _ (fr_pair2 (by omega))]
    rw [e9, m 10 _ (by omega), m 11 _ (by omega), m 12 _ (by omega)]
    unfold pz_te
    simp only [hp 11 c _ (by omega), hp 12 c _ (by omega), hp 13 c _ (by omega)]
    exact a10 z c hz hc (hex z c hx)
  · rw [m 13 _ (by omega), m 13 _ (by omega), hp 16 0 0 (by omega), hp 7 0 0 (by omega)]; exact a13 z hz
  · rw [m 14 _ (by omega), m 14 _ (by omega), hp 5 r a (by omega), hp 6 r a (by omega)]; exact a14 z r a hz hr ha
  · rw [m 15 _ (by omega), hp 0 a 0 (by omega), hp 1 a 0 (by omega), hp 2 a 0 (by omega), hp 3 a 0 (by omega), hp 4 a 0 (by omega)]; exact a15 z a hz ha
/-- what a coordinator was told changes -/
theorem fr_tol {n q f z d : Nat} {S : pz_T} {ex ex' : Nat → Nat → Prop} {M M' : fr_M} {p' : pz_P} (h : fr_R n q f S ex M) (hz : z < 3) (hd : d < 2) (hM : ∀ k, k ≠ (9, 2 * z + d) → k ≠ (10, 2 * z + d) → k ≠ (11, 2 * z + d) → k ≠ (12, 2 * z + d) → M' k = M k) (h9 : ∀ j, j ≠ 9 → M' (9, 2 * z + d) j = M (9, 2 * z + d) j) (hex : ∀ s c, ¬ (s = z ∧ c = d) → ¬ ex' s c → ¬ ex s c)
    (hp : ∀ k x y, (k ≠ 11 ∧ k ≠ 12 ∧ k ≠ 13) → p' k x y = S.2 z k x y) (hp2 : ∀ k c a, c ≠ d → p' k c a = S.2 z k c a)
    (k10 : ¬ ex' z d → M' (9, 2 * z + d) 9 = nI (pz_te n p' d) ∧ ∀ a, a < n → M' (10, 2 * z + d) a = nI (p' 11 d a) ∧ (p' 11 d a ≠ 0 → M' (11, 2 * z + d) a = nI (p' 12 d a) ∧ M' (12, 2 * z + d) a = nI (p' 13 d a))) : fr_R n q f (pz_pw S z p') ex' M' := by
  have H := h
  obtain ⟨a1, a2, a4, a5, a9, a10, a13, a14, a15⟩ := h
  have m : ∀ x y, (x ≤ 8 ∨ 13 ≤ x) → M' (x, y) = M (x, y) := fun x y hx => hM _ (fr_pair (by omega)) (fr_pair (by omega)) (fr_pair (by omega)) (fr_pair (by omega))
  have mo : ∀ x y, y ≠ 2 * z + d → M' (x, y) = M (x, y) := fun x y hy => hM _ (fr_pair2 hy) (fr_pair2 hy) (fr_pair2 hy) (fr_pair2 hy)
  refine fr_pw H hz (fun x hx => m x 0 (by omega)) (fun k s c hs hsz hc _ _ => mo k _ (by omega)) (fun s a hs hsz ha => m 15 _ (by omega)) (fun s c hsz hx => hex s c (fun y => hsz y.1) hx) (fun c hc => ?_) (fun c hc hx => ?_) ?_ (fun r a hr ha => ?_) (fun a ha => ?_)
  · rw [hp 8 c 0 (by omega), hp 9 c 0 (by omega), hp 10 c 0 (by omega)]
    by_cases e : c = d
    · subst e
      rw [h9 0 (by omega), h9 3 (by omega), h9 4 (by omega), h9 5 (by omega)]; exact a9 z c hz hc
    · rw [mo 9 _ (by omega)]; exact a9 z c hz hc
  · by_cases e : c = d
    · subst e; exact k10 hx
    · rw [mo 9 _ (by omega), mo 10 _ (by omega), mo 11 _ (by omega), mo 12 _ (by omega)]
      unfold pz_te
      simp only [hp2 11 c _ e, hp2 12 c _ e, hp2 13 c _ e]
      exact a10 z c hz hc (hex z c (fun y => e y.2) hx)
  · rw [m 13 _ (by omega), m 13 _ (by omega), hp 16 0 0 (by omega), hp 7 0 0 (by omega)]; exact a13 z hz
  · rw [m 14 _ (by omega), m 14 _ (by omega), hp 5 r a (by omega), hp 6 r a (by omega)]; exact a14 z r a hz hr ha
  · rw [m 15 _ (by omega), hp 0 a 0 (by omega), hp 1 a 0 (by omega), hp 2 a 0 (by omega), hp 3 a 0 (by omega), hp 4 a 0 (by omega)]; exact a15 z a hz ha
/-- a tally changes: w = 0 the votes made, w = 1 those told to the learner -/
theorem fr_tal {n q f z w : Nat} {S : pz_T} {ex : Nat → Nat → Prop} {M M' : fr_M} {p' : pz_P} (h : fr_R n q f S ex M) (hz : z < 3) (hw : w < 2) (hM : ∀ k, k ≠ (13, 2 * z + w) → k ≠ (14, 2 * z + w) → M' k = M k)
    (hp : ∀ k x y, (k ≠ 5 ∧ k ≠ 6 ∧ k ≠ 7 ∧ k ≠ 16) → p' k x y = S.2 z k x y) (k13 : M' (13, 2 * z) 2 = nI (p' 16 0 0) ∧ M' (13, 2 * z + 1) 2 = nI (p' 7 0 0))
    (k14 : ∀ r a, r ≤ 12 → a < n → M' (14, 2 * z) (r * n + a) = nI (p' 5 r a) ∧ M' (14, 2 * z + 1) (r * n + a) = nI (p' 6 r a)) : fr_R n q f (pz_pw S z p') ex M' := by
  have H := h
  obtain ⟨a1, a2, a4, a5, a9, a10, a13, a14, a15⟩ := h
  have m : ∀ x y, (x ≠ 13 ∧ x ≠ 14) → M' (x, y) = M (x, y) := fun x y hx => hM _ (fr_pair hx.1) (fr_pair hx.2)
  refine fr_pw H hz (fun x hx => m x 0 (by omega)) (fun k s c hs hsz hc _ _ => hM _ (fr_pair2 (by omega)) (fr_pair2 (by omega))) (fun s a hs hsz ha => m 15 _ (by omega)) (fun _ _ _ hx => hx) (fun c hc => ?_) (fun c hc hx => ?_) k13 k14 (fun a ha => ?_)
  · rw [m 9 _ (by omega), hp 8 c 0 (by omega), hp 9 c 0 (by omega), hp 10 c 0 (by omega)]; exact a9 z c hz hc
  · rw [m 9 _ (by omega), m 10 _ (by omega), m 11 _ (by omega), m 12 _ (by omega)]
    unfold pz_te
    simp only [hp 11 c _ (by omega), hp 12 c _ (by omega), hp 13 c _ (by omega)]
    exact a10 z c hz hc hx
  · rw [m 15 _ (by omega), hp 0 a 0 (by omega), hp 1 a 0 (by omega), hp 2 a 0 (by omega), hp 3 a 0 (by omega), hp 4 a 0 (by omega)]; exact a15 z a hz ha
theorem fr_halt {n q f w b : Nat} {S : pz_T} {ex : Nat → Nat → Prop} {M M' : fr_M} (h : fr_R n q f S ex M) (hM : ∀ k, k ≠ (4, 0) → M' k = M k) (h4 : ∀ x, x < 11 → M' (4, 0) x = if x = w then nI b else M (4, 0) x) : fr_R n q f (pz_halt S w b) ex M' := by
  obtain ⟨a1, a2, a4, a5, a9, a10, a13, a14, a15⟩ := h
  have m : ∀ x y, x ≠ 4 → M' (x, y) = M (x, y) := fun x y hx => hM _ (fr_pair hx)
  have ss : ∀ s, s < 3 → (pz_halt S w b).2 s = S.2 s := fun s hs => pz_w_n (by omega)
  have s3 : (pz_halt S w b).2 3 = pz_u (S.2 3) 14 w 0 b := pz_w_s S.2 3 (pz_u (S.2 3) 14 w 0 b)
  refine ⟨?_, ⟨?_, ?_⟩, ?_, ?_, ?_, ?_, ?_, ?_, ?_⟩
  · unfold fr_1; rw [m 1 0 (by omega)]; exact a1
  · rw [m 2 0 (by omega)]; exact a2.1
  · rw [m 2 0 (by omega), s3, pz_u_k (by omega)]; exact a2.2
  · intro x hx
    rw [h4 x hx, s3]
    by_cases e : x = w
    · subst e; rw [if_pos rfl, pz_u_s]
    · rw [if_neg e, pz_u_x e]; exact a4 x hx
  · intro i x hx; rw [m 5 0 (by omega)]; exact a5 i x hx
  · intro s c hs hc; rw [m 9 _ (by omega), ss s hs]; exact a9 s c hs hc
  · intro s c hs hc hx; rw [m 9 _ (by omega), m 10 _ (by omega), m 11 _ (by omega), m 12 _ (by omega), ss s hs]; exact a10 s c hs hc hx
  · intro s hs; rw [m 13 _ (by omega), m 13 _ (by omega), ss s hs]; exact a13 s hs
  · intro s r a hs hr ha; rw [m 14 _ (by omega), m 14 _ (by omega), ss s hs]; exact a14 s r a hs hr ha
  · intro s a hs ha; rw [m 15 _ (by omega), ss s hs]; exact a15 s a hs ha
/-- a message is taken away -/
theorem fr_rm {n q f i : Nat} {S : pz_T} {ex : Nat → Nat → Prop} {M M' : fr_M} (h : fr_R n q f S ex M) (hi : i < S.1.length) (hM : ∀ k, k ≠ (2, 0) → k ≠ (5, 0) → k ≠ (6, 0) → M' k = M k) (h2 : M' (2, 0) 2 = nI (S.1.length - 1)) (h3 : M' (2, 0) 3 = M (2, 0) 3) (hlo : ∀ j, j < i * 7 → M' (5, 0) j = M (5, 0) j) (hhi : ∀ j, i * 7 ≤ j → j + 7 < S.1.length * 7 → M' (5, 0) j = M (5, 0) (j + 7)) : fr_R n q f (pz_rm S i) ex M' := by
  obtain ⟨a1, a2, a4, a5, a9, a10, a13, a14, a15⟩ := h
  have m : ∀ x y, (x ≠ 2 ∧ x ≠ 5 ∧ x ≠ 6) → M' (x, y) = M (x, y) := fun x y hx => hM _ (fr_pair hx.1) (fr_pair hx.2.1) (fr_pair hx.2.2)
  have hlen : (S.1.eraseIdx i).length = S.1.length - 1 := by rw [List.length_eraseIdx]; simp [hi]
  refine ⟨?_, ⟨?_, ?_⟩, ?_, ?_, ?_, ?_, ?_, ?_, ?_⟩
  · unfold fr_1; rw [m 1 0 (by omega)]; exact a1
  · rw [h2]; show _ = nI (S.1.eraseIdx i).length; rw [hlen]
  · rw [h3]; exact a2.2
  · intro x hx; rw [m 4 0 (by omega)]; exact a4 x hx
  · intro j g hg
    have hg : (S.1.eraseIdx i)[j]? = some g := hg
    have hj : j < S.1.length - 1 := by rw [← hlen]; exact (List.getElem?_eq_some_iff.mp hg).1
    by_cases hji : j < i
    · rw [List.getElem?_eraseIdx_of_lt hji] at hg
      have r := a5 j g hg
      unfold fr_row at r ⊢
      simp only [hlo (j * 7 + 0) (by omega), hlo (j * 7 + 1) (by omega), hlo (j * 7 + 2) (by omega), hlo (j * 7 + 3) (by omega), hlo (j * 7 + 4) (by omega), hlo (j * 7 + 5) (by omega), hlo (j * 7 + 6) (by omega)]
      exact r
    · rw [List.getElem?_eraseIdx_of_ge (by omega)] at hg
      have r := a5 (j + 1) g hg
      have e : ∀ t, (j + 1) * 7 + t = j * 7 + t + 7 := fun t => by omega
      unfold fr_row at r ⊢
      simp only [e] at r
      simp only [hhi (j * 7 + 0) (by omega) (by omega), hhi (j * 7 + 1) (by omega) (by omega), hhi (j * 7 + 2) (by omega) (by omega), hhi (j * 7 + 3) (by omega) (by omega), hhi (j * 7 + 4) (by omega) (by omega), hhi (j * 7 + 5) (by omega) (by omega), hhi (j * 7 + 6) (by omega) (by omega)]
      exact r
  · intro s c hs hc; rw [m 9 _ (by omega)]; exact a9 s c hs hc
  · intro s c hs hc hx; rw [m 9 _ (by omega), m 10 _ (by omega), m 11 _ (by omega), m 12 _ (by omega)]; exact a10 s c hs hc hx
  · intro s hs; rw [m 13 _ (by omega), m 13 _ (by omega)]; exact a13 s hs
  · intro s r a hs hr ha; rw [m 14 _ (by omega), m 14 _ (by omega)]; exact a14 s r a hs hr ha
  · intro s a hs ha; rw [m 15 _ (by omega)]; exact a15 s a hs ha
/-- what no memory shows may differ -/
theorem fr_eq {n q f : Nat} {S S' : pz_T} {ex ex' : Nat → Nat → Prop} {M : fr_M} (h : fr_R n q f S ex M) (h1 : S'.1 = S.1) (h2 : ∀ s k x y, k ≠ 17 → S'.2 s k x y = S.2 s k x y) (hex : ∀ s c, ¬ ex' s c → ¬ ex s c) : fr_R n q f S' ex' M := by
  obtain ⟨a1, a2, a4, a5, a9, a10, a13, a14, a15⟩ := h
  refine ⟨a1, ⟨by rw [h1]; exact a2.1, by rw [h2 3 15 0 0 (by omega)]; exact a2.2⟩, ?_, ?_, ?_, ?_, ?_, ?_, ?_⟩
  · intro w hw; rw [h2 3 14 w 0 (by omega)]; exact a4 w hw
  · intro i x hx; rw [h1] at hx; exact a5 i x hx
  · intro s c hs hc; rw [h2 s 8 c 0 (by omega), h2 s 9 c 0 (by omega), h2 s 10 c 0 (by omega)]; exact a9 s c hs hc
  · intro s c hs hc hx
    unfold pz_te
    simp only [h2 s 11 c _ (by omega), h2 s 12 c _ (by omega), h2 s 13 c _ (by omega)]
    exact a10 s c hs hc (hex s c hx)
  · intro s hs; rw [h2 s 16 0 0 (by omega), h2 s 7 0 0 (by omega)]; exact a13 s hs
  · intro s r a hs hr ha; rw [h2 s 5 r a (by omega), h2 s 6 r a (by omega)]; exact a14 s r a hs hr ha
  · intro s a hs ha; rw [h2 s 0 a 0 (by omega), h2 s 1 a 0 (by omega), h2 s 2 a 0 (by omega), h2 s 3 a 0 (by omega), h2 s 4 a 0 (by omega)]; exact a15 s a hs ha
