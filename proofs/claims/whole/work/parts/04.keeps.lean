/-! Pure part 4: every step keeps the invariant. -/
theorem pz_mx_ge {g : Nat → Nat} : ∀ (n a : Nat), a < n → g a ≤ pz_mx n g
  | 0, a, h => absurd h (Nat.not_lt_zero a)
  | k + 1, a, h => by
    simp only [pz_mx]
    by_cases e : a = k
    · subst e; split <;> omega
    · have := pz_mx_ge (g := g) k a (by omega)
      split <;> omega
theorem pz_mx_ex {g : Nat → Nat} : ∀ n : Nat, pz_mx n g ≠ 0 → ∃ a, a < n ∧ g a = pz_mx n g
  | 0, h => absurd rfl h
  | k + 1, h => by
    simp only [pz_mx] at h ⊢
    by_cases e : pz_mx k g < g k
    · rw [if_pos e]; exact ⟨k, by omega, rfl⟩
    · rw [if_neg e] at h ⊢
      obtain ⟨a, h1, h2⟩ := pz_mx_ex k h
      exact ⟨a, by omega, h2⟩
theorem pz_ls_ex (p : pz_P) (c r : Nat) : ∀ n : Nat, pz_ls p c r n = 0 ∨ ∃ b, b < n ∧ p 11 c b ≠ 0 ∧ p 13 c b = r ∧ p 12 c b = pz_ls p c r n
  | 0 => Or.inl rfl
  | k + 1 => by
    simp only [pz_ls]
    by_cases e : p 11 c k ≠ 0 ∧ p 13 c k = r ∧ (pz_ls p c r k = 0 ∨ p 12 c k < pz_ls p c r k)
    · rw [if_pos e]; exact Or.inr ⟨k, by omega, e.1, e.2.1, rfl⟩
    · rw [if_neg e]
      rcases pz_ls_ex p c r k with h | ⟨b, h1, h2⟩
      · exact Or.inl h
      · exact Or.inr ⟨b, by omega, h2⟩
theorem pz_ls_ne {p : pz_P} {c r : Nat} : ∀ n : Nat, (∀ b, b < n → p 11 c b ≠ 0 → p 13 c b = r → p 12 c b ≠ 0) → (∃ b, b < n ∧ p 11 c b ≠ 0 ∧ p 13 c b = r) → pz_ls p c r n ≠ 0
  | 0, _, ⟨b, h, _⟩ => absurd h (Nat.not_lt_zero b)
  | k + 1, H, ⟨b, h1, h2, h3⟩ => by
    simp only [pz_ls]
    by_cases e : p 11 c k ≠ 0 ∧ p 13 c k = r ∧ (pz_ls p c r k = 0 ∨ p 12 c k < pz_ls p c r k)
    · rw [if_pos e]; exact H k (by omega) e.1 e.2.1
    · rw [if_neg e]
      by_cases eb : b = k
      · subst eb
        intro z
        exact e ⟨h2, h3, Or.inl z⟩
      · exact pz_ls_ne k (fun b hb => H b (by omega)) ⟨b, by omega, h2, h3⟩
theorem pz_hl_ex (n f : Nat) (p : pz_P) (c K : Nat) : ∀ m : Nat, pz_hl n f p c K m = 0 ∨ ∃ b, b < m ∧ p 11 c b ≠ 0 ∧ p 13 c b = K ∧ (K % 2 = 0 ∨ pz_te n p c - pz_tf n p c K (p 12 c b) ≤ n - f) ∧ p 12 c b = pz_hl n f p c K m
  | 0 => Or.inl rfl
  | k + 1 => by
    simp only [pz_hl]
    by_cases e : p 11 c k ≠ 0 ∧ p 13 c k = K ∧ (K % 2 = 0 ∨ pz_te n p c - pz_tf n p c K (p 12 c k) ≤ n - f)
    · rw [if_pos e]; exact Or.inr ⟨k, by omega, e.1, e.2.1, e.2.2, rfl⟩
    · rw [if_neg e]
      rcases pz_hl_ex n f p c K k with h | ⟨b, h1, h2⟩
      · exact Or.inl h
      · exact Or.inr ⟨b, by omega, h2⟩
theorem pz_hl_no {n f : Nat} {p : pz_P} {c K : Nat} : ∀ m : Nat, (∀ b, b < m → p 11 c b ≠ 0 → p 13 c b = K → p 12 c b ≠ 0) → pz_hl n f p c K m = 0 → ∀ b, b < m → p 11 c b ≠ 0 → p 13 c b = K → ¬ (K % 2 = 0 ∨ pz_te n p c - pz_tf n p c K (p 12 c b) ≤ n - f)
  | 0, _, _, b, h, _, _ => absurd h (Nat.not_lt_zero b)
  | k + 1, H, hz, b, h1, h2, h3 => by
    simp only [pz_hl] at hz
    by_cases e : p 11 c k ≠ 0 ∧ p 13 c k = K ∧ (K % 2 = 0 ∨ pz_te n p c - pz_tf n p c K (p 12 c k) ≤ n - f)
    · rw [if_pos e] at hz
      exact absurd hz (H k (by omega) e.1 e.2.1)
    · rw [if_neg e] at hz
      by_cases eb : b = k
      · subst eb
        intro z
        exact e ⟨h2, h3, z⟩
      · exact pz_hl_no k (fun b hb => H b (by omega)) hz b (by omega) h2 h3
theorem pz_sm_upd {g h : Nat → Nat} {b : Nat} (hb : h b ≤ 1) (ho : ∀ a, a ≠ b → h a = g a) : ∀ n : Nat, pz_sm n h ≤ pz_sm n g + 1
  | 0 => Nat.zero_le _
  | k + 1 => by
    simp only [pz_sm]
    by_cases e : k = b
    · subst e
      have h1 : pz_sm k h = pz_sm k g := pz_sm_eq k (fun a ha => ho a (by omega))
      omega
    · have h1 := pz_sm_upd hb ho (g := g) (h := h) k
      rw [ho k e]
      omega
theorem pz_vf_eq (n : Nat) (S : pz_T) (s : Nat) (p : pz_P) (c x : Nat) : pz_vf n (pz_pw S s p) s c x = pz_sa 4 s (p 8 c 0) x n (pz_pw S s (pz_u (pz_u p 9 c 0 3) 17 (p 8 c 0) 0 (x + 1))) := by
  unfold pz_vf
  rw [pz_pw_s, pz_pw_pw]
/-- the coordinator c, where it stood as p, goes by p2 to ask for x -/
theorem pz_vf_Inv {n q f s c x R : Nat} {S : pz_T} {p2 : pz_P} (I : pz_Inv n q f S) (hs : s < 3) (hc : c < 2) (hk : ∀ k x y, k ≤ 7 ∨ 14 ≤ k → p2 k x y = S.2 s k x y) (ho : ∀ k d y, 8 ≤ k → k ≤ 13 → d ≠ c → p2 k d y = S.2 s k d y)
    (hR : p2 8 c 0 = R) (h17 : S.2 s 17 R 0 = 0) (hx : x ≤ 1000) (hx0 : x = 0 → R % 2 = 1) (hR1 : 1 ≤ R) (hR2 : R ≤ 12) (hRc : pz_ci R = c) (h8p : S.2 s 8 c 0 ≤ R) (h10 : p2 10 c 0 ≤ 1000) (h11 : ∀ a, p2 11 c a = 0)
    (hND : ∀ y w, 1 ≤ y → y < R → w ≠ 0 → w ≠ x → pz_ND n q f (S.2 s) y w) : pz_Inv n q f (pz_vf n (pz_pw S s p2) s c x) := by
  have IVs := I.2.1 s hs
  rw [pz_vf_eq, hR]
  have e3 : ∀ k d y, k ≠ 9 → k ≠ 17 → pz_u (pz_u p2 9 c 0 3) 17 R 0 (x + 1) k d y = p2 k d y := fun k d y h1 h2 => by rw [pz_u_k h2, pz_u_k h1]
  have e17 : pz_u (pz_u p2 9 c 0 3) 17 R 0 (x + 1) 17 R 0 = x + 1 := pz_u_s _ _ _ _ _
  have e9 : pz_u (pz_u p2 9 c 0 3) 17 R 0 (x + 1) 9 c 0 = 3 := by rw [pz_u_k (by omega), pz_u_s]
  refine pz_sa_Inv (pz_pw_Inv I hs (pz_cor1 (c := c) (R := R) (x := x) IVs (fun k d y h => ?_) (fun k d y h8 h13 hd => ?_) (fun r hr => ?_) h17 e17 hx hx0 hR1 hR2 hRc (by rw [e3 8 c 0 (by omega) (by omega)]; exact hR) e9 h8p hND (fun _ => ?_))) hs n (fun a ha => ?_)
  · rw [e3 k d y (by omega) (by omega)]; exact hk k d y (by omega)
  · rw [pz_u_k (by omega), pz_u_x hd]; exact ho k d y h8 h13 hd
  · rw [pz_u_x hr, pz_u_k (by omega)]; exact hk 17 r 0 (by omega)
  · unfold pz_Cc
    rw [e9, e3 8 c 0 (by omega) (by omega), e3 10 c 0 (by omega) (by omega), hR, e17]
    refine ⟨hR2, by omega, h10, fun _ => ⟨hR1, hRc⟩, fun a => by rw [e3 11 c a (by omega) (by omega), h11]; omega, fun z => by omega, fun z => by omega, fun _ => ⟨by omega, fun a _ z => ?_⟩⟩
    rw [e3 11 c a (by omega) (by omega), h11] at z
    exact absurd rfl z
  · refine Or.inr (Or.inr (Or.inr (Or.inl ⟨rfl, hR1, hR2, ha, hx, ?_⟩)))
    rw [pz_pw_s]
    exact e17
theorem pz_gv0 {n q f : Nat} {p : pz_P} {c : Nat} (I : pz_IV n q f p) (h : pz_ci (p 8 c 0) = c) (h3 : p 9 c 0 ≠ 3) : p 17 (p 8 c 0) 0 = 0 := by
  by_cases z : p 17 (p 8 c 0) 0 = 0
  · exact z
  · have g := (I.2.2.1 _ z).2.2.2.1
    rw [h] at g
    exact absurd (g rfl) h3
theorem pz_tll_k {p : pz_P} {c a v r k x y : Nat} (h : k ≠ 11 ∧ k ≠ 12 ∧ k ≠ 13) : pz_tll p c a v r k x y = p k x y := by
  unfold pz_tll; rw [pz_u_k h.2.2, pz_u_k h.2.1, pz_u_k h.1]
theorem pz_tll_x {p : pz_P} {c a v r k x y : Nat} (h : x ≠ c) : pz_tll p c a v r k x y = p k x y := by
  unfold pz_tll; rw [pz_u_x h, pz_u_x h, pz_u_x h]
theorem pz_tll_y {p : pz_P} {c a v r k x y : Nat} (h : y ≠ a) : pz_tll p c a v r k x y = p k x y := by
  unfold pz_tll; rw [pz_u_y h, pz_u_y h, pz_u_y h]
theorem pz_tll_11 {p : pz_P} {c a v r : Nat} : pz_tll p c a v r 11 c a = 1 := by
  unfold pz_tll; rw [pz_u_k (by omega), pz_u_k (by omega), pz_u_s]
theorem pz_tll_12 {p : pz_P} {c a v r : Nat} : pz_tll p c a v r 12 c a = v := by
  unfold pz_tll; rw [pz_u_k (by omega), pz_u_s]
theorem pz_tll_13 {p : pz_P} {c a v r : Nat} : pz_tll p c a v r 13 c a = r := by
  unfold pz_tll; rw [pz_u_s]
theorem pz_tll_le {p : pz_P} {c b v r : Nat} (h : ∀ a, p 11 c a ≤ 1) (a : Nat) : pz_tll p c b v r 11 c a ≤ 1 := by
  by_cases e : a = b
  · subst e; rw [pz_tll_11]; exact Nat.le_refl _
  · rw [pz_tll_y e]; exact h a
/-- what pick gives, where p1 has the q promises for r -/
theorem pz_pk_ND {n q f : Nat} {p p1 : pz_P} {c r : Nat} (Q : pz_Q n q f) (I : pz_IV n q f p) (h11 : ∀ a, p1 11 c a ≤ 1) (hT : pz_te n p1 c = q) (hF : ∀ a, a < n → p1 11 c a ≠ 0 → pz_PF p r a (p1 12 c a) (p1 13 c a)) :
    ∀ y w, 1 ≤ y → y < r → w ≠ 0 → (w ≠ pz_pk n f p1 c ∨ pz_kk n p1 c = 0) → pz_ND n q f p y w := by
  have hK : ∀ a, a < n → p1 11 c a ≠ 0 → p1 13 c a ≤ pz_kk n p1 c := fun a ha t => by
    have := pz_mx_ge (g := fun a => if p1 11 c a ≠ 0 then p1 13 c a else 0) n a ha
    rw [if_pos t] at this
    exact this
  have nz : ∀ K, K ≠ 0 → ∀ b, b < n → p1 11 c b ≠ 0 → p1 13 c b = K → p1 12 c b ≠ 0 := fun K hK0 b hb t e => by
    rcases (hF b hb t).2.2.2 with ⟨z, -⟩ | ⟨-, -, z⟩
    · omega
    · exact z
  intro y w hy1 hy hw hwx
  by_cases k0 : pz_kk n p1 c = 0
  · refine pz_pick Q I (t := fun a => p1 11 c a) (v := fun a => p1 12 c a) (k := fun a => p1 13 c a) (x := w + 1) (fun a _ => h11 a) hT hF hK (Or.inl k0) y w hy1 hy hw (by omega)
  · have hwx : w ≠ pz_pk n f p1 c := by
      rcases hwx with h | h
      · exact h
      · exact absurd h k0
    obtain ⟨b, hb, eb⟩ := pz_mx_ex n k0
    have tb : p1 11 c b ≠ 0 := fun z => k0 (by rw [if_neg (fun y => y z)] at eb; exact eb.symm)
    rw [if_pos tb] at eb
    have eb : p1 13 c b = pz_kk n p1 c := eb
    refine pz_pick Q I (t := fun a => p1 11 c a) (v := fun a => p1 12 c a) (k := fun a => p1 13 c a) (x := pz_pk n f p1 c) (fun a _ => h11 a) hT hF hK (Or.inr ⟨Nat.pos_of_ne_zero k0, ?_, fun odd => ?_⟩) y w hy1 hy hw hwx
    · unfold pz_pk
      rw [if_neg k0]
      by_cases hz : pz_hl n f p1 c (pz_kk n p1 c) n = 0
      · rw [if_neg (fun y => y hz)]
        rcases pz_ls_ex p1 c (pz_kk n p1 c) n with z | ⟨d, d1, d2, d3, d4⟩
        · exact absurd z (pz_ls_ne n (nz _ k0) ⟨b, hb, tb, eb⟩)
        · exact ⟨d, d1, d2, d3, d4⟩
      · rw [if_pos hz]
        rcases pz_hl_ex n f p1 c (pz_kk n p1 c) n with z | ⟨d, d1, d2, d3, d4, d5⟩
        · exact absurd z hz
        · exact ⟨d, d1, d2, d3, d5⟩
    · have q6 : f ≤ n := Q.2.2.2.2.2.1
      by_cases hz : pz_hl n f p1 c (pz_kk n p1 c) n = 0
      · refine Or.inr (fun d hd t e => ?_)
        have := pz_hl_no n (nz _ k0) hz d hd t e
        rw [hT] at this
        show pz_tf n p1 c (pz_kk n p1 c) (p1 12 c d) + n < q + f
        omega
      · refine Or.inl ?_
        have e : pz_pk n f p1 c = pz_hl n f p1 c (pz_kk n p1 c) n := by unfold pz_pk; rw [if_neg k0, if_pos hz]
        rw [e]
        rcases pz_hl_ex n f p1 c (pz_kk n p1 c) n with z | ⟨d, d1, d2, d3, d4, d5⟩
        · exact absurd z hz
        · rw [d5, hT] at d4
          show q + f ≤ pz_tf n p1 c (pz_kk n p1 c) (pz_hl n f p1 c (pz_kk n p1 c) n) + n
          omega
theorem pz_pk_le {n q f : Nat} {p p1 : pz_P} {c r : Nat} (I : pz_IV n q f p) (hF : ∀ a, a < n → p1 11 c a ≠ 0 → pz_PF p r a (p1 12 c a) (p1 13 c a)) : pz_pk n f p1 c ≤ 1000 := by
  have le : ∀ b, b < n → p1 11 c b ≠ 0 → p1 12 c b ≤ 1000 := fun b hb t => by
    rcases (hF b hb t).2.2.2 with ⟨-, z⟩ | ⟨-, z1, z2⟩
    · omega
    · have := ((I.1 b hb).2.2.1 _ (by rw [z1]; exact z2)).2.2
      omega
  unfold pz_pk
  split
  · omega
  · split
    · rcases pz_hl_ex n f p1 c (pz_kk n p1 c) n with z | ⟨d, d1, d2, d3, d4, d5⟩
      · omega
      · rw [← d5]; exact le d d1 d2
    · rcases pz_ls_ex p1 c (pz_kk n p1 c) n with z | ⟨d, d1, d2, d3, d4⟩
      · omega
      · rw [← d4]; exact le d d1 d2
theorem pz_coord_Inv {n q f s c : Nat} {S : pz_T} {g : pz_M} (Q : pz_Q n q f) (I : pz_Inv n q f S) (hs : s < 3) (hc : c < 2) (hg : pz_MS n (S.2 s) g) (h4 : g 4 = 8 + c) : pz_Inv n q f (pz_coord n q f S s c (g 0) (g 2) (g 3) (g 5) (g 6)) := by
  have IVs := I.2.1 s hs
  obtain ⟨c1, c2, c3, c4, c5, c6, c7, c8⟩ := IVs.2.2.2.2.2.1 c hc
  unfold pz_coord
  by_cases k1 : g 0 = 1
  · rw [if_pos k1]
    have hv : 1 ≤ g 5 ∧ g 5 ≤ 1000 := by
      rcases hg with ⟨_, _, _, a, b⟩ | ⟨a, _⟩ | ⟨a, _⟩ | ⟨a, _⟩ | ⟨a, _⟩
      · exact ⟨a, b⟩
      all_goals omega
    by_cases w0 : S.2 s 10 c 0 = 0
    · rw [if_pos w0]
      by_cases p2 : S.2 s 9 c 0 = 2
      · rw [if_pos p2]
        obtain ⟨d1, d2, d3, d4⟩ := c7 p2
        obtain ⟨e1, e2⟩ := c4 (by omega)
        exact pz_vf_Inv I hs hc (fun k x y h => pz_u_k (by omega)) (fun k d y _ _ hd => pz_u_x hd) (pz_u_k (by omega)) (pz_gv0 IVs e2 (by omega)) hv.2 (fun z => by omega) e1 c1 e2 (Nat.le_refl _) (by rw [pz_u_s]; exact hv.2) (fun a => by rw [pz_u_k (by omega)]; exact d3 a) (fun y w h1 h2 h3 _ => d4 y w h1 h2 h3)
      · rw [if_neg p2]
        refine pz_pw_Inv I hs (pz_cor0 (c := c) IVs (fun k x y h => pz_u_k (by omega)) (fun k d y _ _ hd => pz_u_x hd) (fun r hr e => ?_) (fun st => ?_))
        · rw [pz_u_k (by omega), pz_u_k (by omega)]
          have g1 := (IVs.2.2.1 r hr).2.2
          rw [e] at g1
          exact ⟨g1.1, g1.2.1⟩
        · have ek : ∀ k y, k ≠ 10 → pz_u (S.2 s) 10 c 0 (g 5) k c y = S.2 s k c y := fun k y h => pz_u_k h
          have e17 : ∀ r, pz_u (S.2 s) 10 c 0 (g 5) 17 r 0 = S.2 s 17 r 0 := fun r => pz_u_k (by omega)
          have e5 : ∀ r a, pz_u (S.2 s) 10 c 0 (g 5) 5 r a = S.2 s 5 r a := fun r a => pz_u_k (by omega)
          unfold pz_Cc
          rw [ek 8 0 (by omega), ek 9 0 (by omega), pz_u_s, e17]
          simp only [ek 11 _ (by omega), ek 12 _ (by omega), ek 13 _ (by omega), e5]
          exact ⟨c1, c2, hv.2, c4, c5, fun z => ⟨(c6 z).1, fun a ha t => pz_PF_st st ha ((c6 z).2 a ha t)⟩, fun z => absurd z p2, c8⟩
    · rw [if_neg w0]; exact I
  · rw [if_neg k1]
    by_cases k3 : g 0 = 3
    · rw [if_pos k3]
      have hm : 1 ≤ g 2 ∧ g 2 ≤ 12 ∧ g 3 < n ∧ pz_PF (S.2 s) (g 2) (g 3) (g 5) (g 6) := by
        rcases hg with ⟨a, _⟩ | ⟨a, _⟩ | ⟨_, a, b, d, _, _, e⟩ | ⟨a, _⟩ | ⟨a, _⟩
        · omega
        · omega
        · exact ⟨a, b, d, e⟩
        all_goals omega
      obtain ⟨m1, m2, m3, m4⟩ := hm
      by_cases hp : S.2 s 8 c 0 = g 2 ∧ S.2 s 9 c 0 = 1
      · rw [if_pos hp]
        obtain ⟨e1, e2⟩ := c4 (by omega)
        obtain ⟨d1, d2⟩ := c6 hp.2
        have hF : ∀ a, a < n → pz_tll (S.2 s) c (g 3) (g 5) (g 6) 11 c a ≠ 0 → pz_PF (S.2 s) (S.2 s 8 c 0) a (pz_tll (S.2 s) c (g 3) (g 5) (g 6) 12 c a) (pz_tll (S.2 s) c (g 3) (g 5) (g 6) 13 c a) := fun a ha t => by
          by_cases e : a = g 3
          · rw [e, pz_tll_12, pz_tll_13, hp.1]; exact m4
          · rw [pz_tll_y e] at t
            rw [pz_tll_y e, pz_tll_y e]; exact d2 a ha t
        have h11 : ∀ a, pz_tll (S.2 s) c (g 3) (g 5) (g 6) 11 c a ≤ 1 := pz_tll_le c5
        by_cases ht : pz_te n (pz_tll (S.2 s) c (g 3) (g 5) (g 6)) c = q
        · rw [if_pos ht]
          have hkk := pz_pk_ND Q IVs h11 ht hF
          have hle := pz_pk_le (f := f) IVs hF
          unfold pz_go
          rw [pz_pw_s, pz_pw_pw]
          have e8 : pz_tll (S.2 s) c (g 3) (g 5) (g 6) 8 c 0 = S.2 s 8 c 0 := pz_tll_k (by omega)
          have e10 : pz_tll (S.2 s) c (g 3) (g 5) (g 6) 10 c 0 = S.2 s 10 c 0 := pz_tll_k (by omega)
          rw [e8, e10]
          have V : ∀ x, x ≤ 1000 → (x = 0 → S.2 s 8 c 0 % 2 = 1) → (∀ y w, 1 ≤ y → y < S.2 s 8 c 0 → w ≠ 0 → w ≠ x → pz_ND n q f (S.2 s) y w) → pz_Inv n q f (pz_vf n (pz_pw S s (pz_ld (pz_tll (S.2 s) c (g 3) (g 5) (g 6)) c (S.2 s 8 c 0) 2)) s c x) := fun x hx hx0 hND =>
            pz_vf_Inv I hs hc (fun k x y h => by rw [pz_ld_0 (by omega), pz_tll_k (by omega)]) (fun k d y _ _ hd => by rw [pz_ld_x hd, pz_tll_x hd]) pz_ld_8 (pz_gv0 IVs e2 (by omega)) hx hx0 e1 c1 e2 (Nat.le_refl _) (by rw [pz_ld_0 (by omega), e10]; exact c3) (fun a => pz_ld_11) hND
          by_cases x0 : pz_pk n f (pz_tll (S.2 s) c (g 3) (g 5) (g 6)) c = 0
          · have k0 : pz_kk n (pz_tll (S.2 s) c (g 3) (g 5) (g 6)) c = 0 := by
              by_cases k0 : pz_kk n (pz_tll (S.2 s) c (g 3) (g 5) (g 6)) c = 0
              · exact k0
              · exfalso
                have nz : ∀ b, b < n → pz_tll (S.2 s) c (g 3) (g 5) (g 6) 11 c b ≠ 0 → pz_tll (S.2 s) c (g 3) (g 5) (g 6) 13 c b = pz_kk n (pz_tll (S.2 s) c (g 3) (g 5) (g 6)) c → pz_tll (S.2 s) c (g 3) (g 5) (g 6) 12 c b ≠ 0 := fun b hb t e => by
                  rcases (hF b hb t).2.2.2 with ⟨z, -⟩ | ⟨-, -, z⟩
                  · omega
                  · exact z
                obtain ⟨b, hb, eb⟩ := pz_mx_ex n k0
                have tb : pz_tll (S.2 s) c (g 3) (g 5) (g 6) 11 c b ≠ 0 := fun z => k0 (by rw [if_neg (fun y => y z)] at eb; exact eb.symm)
                rw [if_pos tb] at eb
                unfold pz_pk at x0
                rw [if_neg k0] at x0
                split at x0
                · omega
                · exact pz_ls_ne n nz ⟨b, hb, tb, eb⟩ x0
            rw [if_neg (fun y => y x0)]
            have none : ∀ y w, 1 ≤ y → y < S.2 s 8 c 0 → w ≠ 0 → pz_ND n q f (S.2 s) y w := fun y w h1 h2 h3 => hkk y w h1 h2 h3 (Or.inr k0)
            by_cases odd : S.2 s 8 c 0 % 2 = 1
            · rw [if_pos odd]
              exact V 0 (by omega) (fun _ => odd) (fun y w h1 h2 h3 _ => none y w h1 h2 h3)
            · rw [if_neg odd]
              by_cases w0 : S.2 s 10 c 0 = 0
              · rw [if_neg (fun y => y w0)]
                refine pz_pw_Inv I hs (pz_cor0 (c := c) IVs (fun k x y h => by rw [pz_ld_0 (by omega), pz_tll_k (by omega)]) (fun k d y _ _ hd => by rw [pz_ld_x hd, pz_tll_x hd]) (fun r hr e => ?_) (fun st => ?_))
                · rw [pz_ld_8, pz_ld_9]
                  have g1 := (IVs.2.2.1 r hr).2.2
                  rw [e] at g1
                  exact ⟨g1.1, fun z => by have := g1.2.1 z; omega⟩
                · unfold pz_Cc
                  rw [pz_ld_8, pz_ld_9, pz_ld_0 (k := 10) (by omega), e10]
                  simp only [pz_ld_11]
                  exact ⟨c1, by omega, c3, fun _ => ⟨e1, e2⟩, fun _ => by omega, fun z => by omega, fun _ => ⟨w0, by omega, fun _ => trivial, fun y w h1 h2 h3 => pz_ND_st st (none y w h1 h2 h3)⟩, fun z => by omega⟩
              · rw [if_pos w0]
                exact V _ c3 (fun z => absurd z w0) (fun y w h1 h2 h3 _ => none y w h1 h2 h3)
          · rw [if_pos x0]
            exact V _ hle (fun z => absurd z x0) (fun y w h1 h2 h3 h4 => hkk y w h1 h2 h3 (Or.inl h4))
        · rw [if_neg ht]
          refine pz_pw_Inv I hs (pz_cor0 (c := c) IVs (fun k x y h => pz_tll_k (by omega)) (fun k d y _ _ hd => pz_tll_x hd) (fun r hr e => ?_) (fun st => ?_))
          · rw [pz_tll_k (by omega), pz_tll_k (by omega)]
            have g1 := (IVs.2.2.1 r hr).2.2
            rw [e] at g1
            exact ⟨g1.1, g1.2.1⟩
          · unfold pz_Cc
            rw [pz_tll_k (k := 8) (by omega), pz_tll_k (k := 9) (by omega), pz_tll_k (k := 10) (by omega)]
            have up := pz_sm_upd (g := fun a => S.2 s 11 c a) (h := fun a => pz_tll (S.2 s) c (g 3) (g 5) (g 6) 11 c a) (b := g 3) (h11 _) (fun a e => pz_tll_y e) n
            refine ⟨c1, c2, c3, c4, h11, fun _ => ⟨?_, fun a ha t => pz_PF_st st ha (hF a ha t)⟩, fun z => by omega, fun z => by omega⟩
            unfold pz_te at ht
            omega
      · rw [if_neg hp]; exact I
    · rw [if_neg k3]
      by_cases hp : g 0 = 5 ∧ S.2 s 8 c 0 = g 2 ∧ g 2 % 2 = 1 ∧ S.2 s 9 c 0 = 3
      · rw [if_pos hp]
        obtain ⟨k5, p1, odd, p3⟩ := hp
        have hm : 1 ≤ g 2 ∧ g 2 ≤ 12 ∧ g 3 < n ∧ S.2 s 5 (g 2) (g 3) = g 5 ∧ g 5 ≠ 0 := by
          rcases hg with ⟨a, _⟩ | ⟨a, _⟩ | ⟨a, _⟩ | ⟨a, _⟩ | ⟨_, a, b, d, _, _, e, e'⟩
          · omega
          · omega
          · omega
          · omega
          · exact ⟨a, b, d, e, e'⟩
        obtain ⟨m1, m2, m3, m4, m5⟩ := hm
        obtain ⟨e1, e2⟩ := c4 (by omega)
        obtain ⟨d1, d2⟩ := c8 p3
        have hF : ∀ a, a < n → pz_tll (S.2 s) c (g 3) (g 5) (g 2) 11 c a ≠ 0 → pz_tll (S.2 s) c (g 3) (g 5) (g 2) 13 c a = S.2 s 8 c 0 ∧ S.2 s 5 (S.2 s 8 c 0) a = pz_tll (S.2 s) c (g 3) (g 5) (g 2) 12 c a ∧ pz_tll (S.2 s) c (g 3) (g 5) (g 2) 12 c a ≠ 0 := fun a ha t => by
          by_cases e : a = g 3
          · rw [e, pz_tll_12, pz_tll_13, p1]; exact ⟨rfl, m4, m5⟩
          · rw [pz_tll_y e] at t
            rw [pz_tll_y e, pz_tll_y e]; exact d2 a ha t
        have h11 : ∀ a, pz_tll (S.2 s) c (g 3) (g 5) (g 2) 11 c a ≤ 1 := pz_tll_le c5
        have I1 : pz_Inv n q f (pz_pw S s (pz_tll (S.2 s) c (g 3) (g 5) (g 2))) := by
          refine pz_pw_Inv I hs (pz_cor0 (c := c) IVs (fun k x y h => pz_tll_k (by omega)) (fun k d y _ _ hd => pz_tll_x hd) (fun r hr e => ?_) (fun st => ?_))
          · rw [pz_tll_k (by omega), pz_tll_k (by omega)]
            have g1 := (IVs.2.2.1 r hr).2.2
            rw [e] at g1
            exact ⟨g1.1, g1.2.1⟩
          · unfold pz_Cc
            rw [pz_tll_k (k := 8) (by omega), pz_tll_k (k := 9) (by omega), pz_tll_k (k := 10) (by omega), pz_tll_k (k := 17) (by omega)]
            refine ⟨c1, c2, c3, c4, h11, fun z => by omega, fun z => by omega, fun _ => ⟨d1, fun a ha t => ?_⟩⟩
            rw [pz_tll_k (k := 5) (by omega)]
            exact hF a ha t
        unfold pz_rec
        rw [pz_pw_s]
        by_cases cond : pz_te n (pz_tll (S.2 s) c (g 3) (g 5) (g 2)) c < q ∨ f + pz_te n (pz_tll (S.2 s) c (g 3) (g 5) (g 2)) c ≤ pz_be n (pz_tll (S.2 s) c (g 3) (g 5) (g 2)) c (g 2) + n
        · rw [if_pos cond]; exact I1
        · rw [if_neg cond, pz_pw_pw]
          have q3 := Q.2.2.1
          obtain ⟨b, hb, tb⟩ := pz_sm_pos n (show 0 < pz_te n (pz_tll (S.2 s) c (g 3) (g 5) (g 2)) c by omega)
          have lsx := pz_ls_ne (p := pz_tll (S.2 s) c (g 3) (g 5) (g 2)) (c := c) (r := g 2) n (fun b hb t _ => (hF b hb t).2.2) ⟨b, hb, by omega, by rw [(hF b hb (by omega)).1]; exact p1⟩
          rcases pz_ls_ex (pz_tll (S.2 s) c (g 3) (g 5) (g 2)) c (g 2) n with z | ⟨d, hd1, hd2, hd3, hd4⟩
          · exact absurd z lsx
          · have xle : pz_ls (pz_tll (S.2 s) c (g 3) (g 5) (g 2)) c (g 2) n ≤ 1000 := by
              rw [← hd4]
              obtain ⟨_, f2, f3⟩ := hF d hd1 hd2
              rw [← f2]
              exact ((IVs.1 d hd1).2.2.1 _ (by rw [f2]; exact f3)).2.2
            refine pz_vf_Inv (R := g 2 + 1) I hs hc (fun k x y h => by rw [pz_ld_0 (by omega), pz_tll_k (by omega)]) (fun k d y _ _ hd => by rw [pz_ld_x hd, pz_tll_x hd]) pz_ld_8 ?_ xle (fun z => absurd z lsx) (by omega) (by omega) (by rw [pz_ci_succ odd, ← p1]; exact e2) (by omega) (by rw [pz_ld_0 (by omega), pz_tll_k (by omega)]; exact c3) (fun a => pz_ld_11) ?_
            · by_cases z : S.2 s 17 (g 2 + 1) 0 = 0
              · exact z
              · have g1 := (IVs.2.2.1 _ z).2.2.1
                rw [pz_ci_succ odd, ← p1, e2] at g1
                omega
            · refine pz_recover (B := pz_be n (pz_tll (S.2 s) c (g 3) (g 5) (g 2)) c (g 2)) (t := fun a => pz_tll (S.2 s) c (g 3) (g 5) (g 2) 11 c a) (v := fun a => pz_tll (S.2 s) c (g 3) (g 5) (g 2) 12 c a) IVs (fun a _ => h11 a) odd (fun a ha t => ?_) (by rw [← p1]; exact d1) (fun b hb t => ?_) ?_ ⟨d, hd1, hd2, hd4⟩
              · obtain ⟨_, f2, f3⟩ := hF a ha t
                rw [p1] at f2
                exact ⟨f2, f3⟩
              · have mg := pz_mx_ge (g := fun a => if pz_tll (S.2 s) c (g 3) (g 5) (g 2) 11 c a ≠ 0 then pz_tf n (pz_tll (S.2 s) c (g 3) (g 5) (g 2)) c (g 2) (pz_tll (S.2 s) c (g 3) (g 5) (g 2) 12 c a) else 0) n b hb
                rw [if_pos t] at mg
                refine Nat.le_trans ?_ mg
                unfold pz_tf
                refine pz_sm_le n (fun a ha => ?_)
                by_cases y : pz_tll (S.2 s) c (g 3) (g 5) (g 2) 11 c a ≠ 0 ∧ pz_tll (S.2 s) c (g 3) (g 5) (g 2) 12 c a = pz_tll (S.2 s) c (g 3) (g 5) (g 2) 12 c b
                · rw [if_pos y, if_pos ⟨y.1, by rw [(hF a ha y.1).1]; exact p1, y.2⟩]; exact Nat.le_refl _
                · rw [if_neg y]; exact Nat.zero_le _
              · have := cond
                show pz_be n _ c (g 2) + n < f + pz_te n _ c
                omega
      · rw [if_neg hp]; exact I
theorem pz_cast_Inv {n q f s a r v : Nat} {S : pz_T} {p1 : pz_P} (Q : pz_Q n q f) (I : pz_Inv n q f S) (hs : s < 3) (ha : a < n)
    (hk : ∀ k x y, 5 ≤ k → p1 k x y = S.2 s k x y) (ho : ∀ k b, k ≤ 4 → b ≠ a → p1 k b 0 = S.2 s k b 0) (h0 : p1 0 a 0 = r) (hr0 : S.2 s 0 a 0 ≤ r) (hr12 : r ≤ 12) (hr2 : S.2 s 2 a 0 < r) (hv : v ≠ 0) (hv2 : v ≤ 1000)
    (hg : S.2 s 17 r 0 = 1 ∨ S.2 s 17 r 0 = v + 1) (hO4 : p1 4 a 0 ≤ r) (hO3 : p1 3 a 0 ≤ 1000) (hO : p1 4 a 0 = r → S.2 s 17 r 0 = 1) : pz_Inv n q f (pz_cast n q f (pz_pw S s p1) s a r v) := by
  have IVs := I.2.1 s hs
  unfold pz_cast
  rw [pz_pw_s, pz_pw_pw]
  have e1 : ∀ k x y, k ≠ 1 → k ≠ 2 → k ≠ 5 → k ≠ 16 → pz_v2 n q f p1 a r v k x y = p1 k x y := fun k x y h1 h2 h5 h16 => by
    unfold pz_v2 pz_v1; rw [pz_u_k h16, pz_u_k h5, pz_u_k h2, pz_u_k h1]
  have e5 : ∀ x b, pz_v2 n q f p1 a r v 5 x b = pz_v1 p1 a r v 5 x b := fun x b => by unfold pz_v2; rw [pz_u_k (by omega)]
  have V : pz_v2 n q f p1 a r v 5 r a = v := by rw [e5]; unfold pz_v1; rw [pz_u_s]
  have J : pz_IV n q f (pz_v2 n q f p1 a r v) ∧ pz_St n (S.2 s) (pz_v2 n q f p1 a r v) := by
    refine pz_acc1 (b := a) (r := r) (v := v) Q ha IVs (fun k x y h6 h16 => ?_) (fun k b hk4 hb => ?_) (fun x b h => ?_) V ?_ ?_ ?_ hr0 hr12 hr2 hv hv2 hg ?_ ?_ (fun z => ?_) ?_
    · rw [e1 k x y (by omega) (by omega) (by omega) h16]; exact hk k x y (by omega)
    · unfold pz_v2 pz_v1
      rw [pz_u_k (by omega), pz_u_k (by omega), pz_u_x hb, pz_u_x hb]; exact ho k b hk4 hb
    · rw [e5]
      unfold pz_v1
      have : pz_u (pz_u (pz_u p1 1 a 0 v) 2 a 0 r) 5 r a v 5 x b = pz_u (pz_u p1 1 a 0 v) 2 a 0 r 5 x b := by
        simp only [pz_u]
        rw [if_neg (fun z => h ⟨z.2.1, z.2.2⟩)]
      rw [this, pz_u_k (by omega), pz_u_k (by omega)]
      exact hk 5 x b (by omega)
    · unfold pz_v2 pz_v1; rw [pz_u_k (by omega), pz_u_k (by omega), pz_u_k (by omega), pz_u_s]
    · unfold pz_v2 pz_v1; rw [pz_u_k (by omega), pz_u_k (by omega), pz_u_s]
    · rw [e1 0 a 0 (by omega) (by omega) (by omega) (by omega)]; exact h0
    · rw [e1 4 a 0 (by omega) (by omega) (by omega) (by omega)]; exact hO4
    · rw [e1 3 a 0 (by omega) (by omega) (by omega) (by omega)]; exact hO3
    · rw [e1 4 a 0 (by omega) (by omega) (by omega) (by omega)] at z; exact hO z
    · have ec : pz_cv (pz_v2 n q f p1 a r v) n r v = pz_cv (pz_v1 p1 a r v) n r v := by unfold pz_cv; simp only [e5]
      rw [ec]
      unfold pz_v2
      rw [pz_u_s, hk 16 0 0 (by omega)]
  have I2 := pz_pw_Inv I hs J
  have M : ∀ t, t = 8 + pz_ci r ∨ t = 10 → pz_MS n (pz_v2 n q f p1 a r v) (pz_mg 5 s r a t v 0) := fun t ht => Or.inr (Or.inr (Or.inr (Or.inr ⟨rfl, show 1 ≤ r by omega, hr12, ha, ht, hv2, V, hv⟩)))
  refine pz_sd_Inv (pz_sd_Inv I2 hs ?_) hs ?_
  · show pz_MS n ((pz_pw S s _).2 s) _
    rw [pz_pw_s]
    exact M _ (Or.inl rfl)
  · show pz_MS n ((pz_sd (pz_pw S s _) _).2 s) _
    rw [pz_sd_2 _ _ hs, pz_pw_s]
    exact M _ (Or.inr rfl)
theorem pz_accept_Inv {n q f s a : Nat} {S : pz_T} {g : pz_M} (Q : pz_Q n q f) (I : pz_Inv n q f S) (hs : s < 3) (ha : a < n) (hg : pz_MS n (S.2 s) g) : pz_Inv n q f (pz_accept n q f S s a (g 0) (g 2) (g 5)) := by
  have IVs := I.2.1 s hs
  obtain ⟨a1, a2, a3, a4⟩ := IVs.1 a ha
  obtain ⟨o1, o2, o3⟩ := IVs.2.1 a ha
  unfold pz_accept
  by_cases k2 : g 0 = 2
  · rw [if_pos k2]
    have hm : 1 ≤ g 2 ∧ g 2 ≤ 12 := by
      rcases hg with ⟨z, _⟩ | ⟨_, x, y, _⟩ | ⟨z, _⟩ | ⟨z, _⟩ | ⟨z, _⟩
      · omega
      · exact ⟨x, y⟩
      all_goals omega
    by_cases hr : S.2 s 0 a 0 < g 2
    · rw [if_pos hr]
      have J : pz_IV n q f (pz_u (S.2 s) 0 a 0 (g 2)) ∧ pz_St n (S.2 s) (pz_u (S.2 s) 0 a 0 (g 2)) := by
        refine pz_acc0 (b := a) IVs (fun k x y h => pz_u_k (by omega)) (fun k b _ hb => pz_u_x hb) (pz_u_k (by omega)) (pz_u_k (by omega)) (by rw [pz_u_s]; omega) (by rw [pz_u_s]; exact hm.2) ?_
        rw [pz_u_s, pz_u_k (by omega), pz_u_k (by omega)]
        exact ⟨by omega, o2, fun _ z => by omega⟩
      refine pz_sd_Inv (pz_pw_Inv I hs J) hs ?_
      show pz_MS n ((pz_pw S s _).2 s) _
      rw [pz_pw_s]
      refine Or.inr (Or.inr (Or.inl ⟨rfl, hm.1, hm.2, ha, rfl, ?_, ?_⟩))
      · show S.2 s 1 a 0 ≤ 1000
        rcases a4 with ⟨_, z⟩ | ⟨_, z1, z2⟩
        · omega
        · have := (a3 _ (by rw [z1]; exact z2)).2.2
          omega
      · show pz_PF _ (g 2) a (S.2 s 1 a 0) (S.2 s 2 a 0)
        refine ⟨by rw [pz_u_s]; exact Nat.le_refl _, by omega, fun x hx hne => ?_, ?_⟩
        · rw [pz_u_k (by omega)] at hne
          exact (a3 x hne).2.1
        · rw [pz_u_k (by omega)]
          exact a4
    · rw [if_neg hr]; exact I
  · rw [if_neg k2]
    by_cases k4 : g 0 = 4
    · rw [if_pos k4]
      have hm : 1 ≤ g 2 ∧ g 2 ≤ 12 ∧ g 5 ≤ 1000 ∧ S.2 s 17 (g 2) 0 = g 5 + 1 := by
        rcases hg with ⟨z, _⟩ | ⟨z, _⟩ | ⟨z, _⟩ | ⟨_, x, y, _, w, z⟩ | ⟨z, _⟩
        · omega
        · omega
        · omega
        · exact ⟨x, y, w, z⟩
        · omega
      obtain ⟨m1, m2, m3, m4⟩ := hm
      by_cases hr : S.2 s 0 a 0 ≤ g 2 ∧ S.2 s 2 a 0 < g 2
      · rw [if_pos hr]
        by_cases hv : g 5 = 0
        · rw [if_neg (fun z => z hv)]
          have g1 : S.2 s 17 (g 2) 0 = 1 := by omega
          have E0 : pz_u (pz_u (S.2 s) 0 a 0 (g 2)) 4 a 0 (g 2) 0 a 0 = g 2 := by rw [pz_u_k (by omega), pz_u_s]
          have E3 : pz_u (pz_u (S.2 s) 0 a 0 (g 2)) 4 a 0 (g 2) 3 a 0 = S.2 s 3 a 0 := by rw [pz_u_k (by omega), pz_u_k (by omega)]
          have E4 : pz_u (pz_u (S.2 s) 0 a 0 (g 2)) 4 a 0 (g 2) 4 a 0 = g 2 := pz_u_s _ _ _ _ _
          by_cases hp : S.2 s 3 a 0 = 0
          · rw [if_neg (fun z => z hp)]
            refine pz_pw_Inv I hs (pz_acc0 (b := a) IVs (fun k x y h => by rw [pz_u_k (by omega), pz_u_k (by omega)]) (fun k b _ hb => by rw [pz_u_x hb, pz_u_x hb]) (by rw [pz_u_k (by omega), pz_u_k (by omega)]) (by rw [pz_u_k (by omega), pz_u_k (by omega)]) (by rw [E0]; exact hr.1) (by rw [E0]; exact m2) ?_)
            rw [E0, E3, E4]
            exact ⟨Nat.le_refl _, o2, fun _ _ => ⟨g1, fun z => absurd hp z⟩⟩
          · rw [if_pos hp]
            exact pz_cast_Inv Q I hs ha (fun k x y h => by rw [pz_u_k (by omega), pz_u_k (by omega)]) (fun k b _ hb => by rw [pz_u_x hb, pz_u_x hb]) E0 hr.1 m2 hr.2 hp o2 (Or.inl g1) (by rw [E4]; exact Nat.le_refl _) (by rw [E3]; exact o2) (fun _ => g1)
        · rw [if_pos hv]
          refine pz_cast_Inv Q I hs ha (fun k x y h => pz_u_k (by omega)) (fun k b _ hb => pz_u_x hb) (pz_u_s _ _ _ _ _) hr.1 m2 hr.2 hv m3 (Or.inr m4) (by rw [pz_u_k (by omega)]; omega) (by rw [pz_u_k (by omega)]; exact o2) (fun z => ?_)
          rw [pz_u_k (by omega)] at z
          have e : S.2 s 0 a 0 = g 2 := by omega
          have := (o3 (by omega) (by omega)).1
          rw [e] at this
          exact this
      · rw [if_neg hr]; exact I
    · rw [if_neg k4]
      by_cases k1 : g 0 = 1
      · rw [if_pos k1]
        have hm : 1 ≤ g 5 ∧ g 5 ≤ 1000 := by
          rcases hg with ⟨_, _, _, x, y⟩ | ⟨z, _⟩ | ⟨z, _⟩ | ⟨z, _⟩ | ⟨z, _⟩
          · exact ⟨x, y⟩
          all_goals omega
        by_cases hp : S.2 s 3 a 0 = 0
        · rw [if_pos hp]
          by_cases ho : 0 < S.2 s 0 a 0 ∧ S.2 s 4 a 0 = S.2 s 0 a 0 ∧ S.2 s 2 a 0 < S.2 s 0 a 0
          · rw [if_pos ho]
            have g1 := (o3 ho.1 ho.2.1).1
            exact pz_cast_Inv Q I hs ha (fun k x y h => pz_u_k (by omega)) (fun k b _ hb => pz_u_x hb) (pz_u_k (by omega)) (Nat.le_refl _) a2 ho.2.2 (by omega) hm.2 (Or.inl g1) (by rw [pz_u_k (by omega)]; exact o1) (by rw [pz_u_s]; exact hm.2) (fun _ => g1)
          · rw [if_neg ho]
            refine pz_pw_Inv I hs (pz_acc0 (b := a) IVs (fun k x y h => pz_u_k (by omega)) (fun k b _ hb => pz_u_x hb) (pz_u_k (by omega)) (pz_u_k (by omega)) (by rw [pz_u_k (by omega)]; exact Nat.le_refl _) (by rw [pz_u_k (by omega)]; exact a2) ?_)
            rw [pz_u_s, pz_u_k (k' := 4) (by omega), pz_u_k (k' := 0) (by omega)]
            exact ⟨o1, hm.2, fun z1 z2 => ⟨(o3 z1 z2).1, fun _ => by omega⟩⟩
        · rw [if_neg hp]; exact I
      · rw [if_neg k1]; exact I
theorem pz_l2_Inv {n q f s r a v : Nat} {S : pz_T} (I : pz_Inv n q f S) (hs : s < 3) (ha : a < n) (hv : v ≤ 1000) : pz_Inv n q f (pz_pw S s (pz_l2 n q f (S.2 s) r a v)) := by
  have IVs := I.2.1 s hs
  have e : ∀ k x y, k ≠ 6 → k ≠ 7 → pz_l2 n q f (S.2 s) r a v k x y = S.2 s k x y := fun k x y h6 h7 => by unfold pz_l2; rw [pz_u_k h7, pz_u_k h6]
  have e5 : ∀ x y, pz_l2 n q f (S.2 s) r a v 5 x y = S.2 s 5 x y := fun x y => e 5 x y (by omega) (by omega)
  have st : pz_St n (S.2 s) (pz_l2 n q f (S.2 s) r a v) := pz_St_same (fun b => e 0 b 0 (by omega) (by omega)) e5 (fun x _ => e 17 x 0 (by omega) (by omega))
  obtain ⟨A, O, G1, G2, G3, C, Z, Sg⟩ := IVs
  refine pz_pw_Inv I hs ⟨⟨?_, ?_, ?_, ?_, pz_G3_st st (fun x => e 17 x 0 (by omega) (by omega)) G3, fun c hc => pz_Cc_st st (fun k y _ _ => e k c y (by omega) (by omega)) (C c hc), ?_, ?_⟩, st⟩
  · intro b hb
    rw [e 0 b 0 (by omega) (by omega), e 1 b 0 (by omega) (by omega), e 2 b 0 (by omega) (by omega)]
    simp only [e5]
    exact A b hb
  · intro b hb
    rw [e 0 b 0 (by omega) (by omega), e 2 b 0 (by omega) (by omega), e 3 b 0 (by omega) (by omega), e 4 b 0 (by omega) (by omega), e 17 _ 0 (by omega) (by omega)]
    exact O b hb
  · intro x hx
    rw [e 17 x 0 (by omega) (by omega)] at hx
    rw [e 17 x 0 (by omega) (by omega), e 8 _ 0 (by omega) (by omega), e 9 _ 0 (by omega) (by omega)]
    exact G1 x hx
  · intro x b hb hx
    rw [e5] at hx
    rw [e5, e 17 x 0 (by omega) (by omega)]
    exact G2 x b hb hx
  · have e6 : ∀ x b, pz_l2 n q f (S.2 s) r a v 6 x b = pz_u (S.2 s) 6 r a v 6 x b := fun x b => by unfold pz_l2; rw [pz_u_k (by omega)]
    refine ⟨fun x b hb => ⟨by rw [e5]; exact (Z.1 x b hb).1, ?_⟩, fun x b => ?_, ?_, ?_⟩
    · rw [e6, pz_u_y (by omega)]; exact (Z.1 x b hb).2
    · rw [e6]; unfold pz_u; split
      · exact hv
      · exact Z.2.1 x b
    · unfold pz_l2; rw [pz_u_s]
      have := Z.2.2.1
      split <;> omega
    · rw [e 16 0 0 (by omega) (by omega)]; exact Z.2.2.2
  · have ec : ∀ x w, pz_cv (pz_l2 n q f (S.2 s) r a v) n x w = pz_cv (S.2 s) n x w := fun x w => by unfold pz_cv; simp only [e5]
    unfold pz_S
    rw [e 16 0 0 (by omega) (by omega)]
    simp only [ec]
    exact Sg
theorem pz_hear_Inv {n q f : Nat} {S : pz_T} {g : pz_M} (Q : pz_Q n q f) (I : pz_Inv n q f S) (hs : g 1 < 3) (hg : pz_MS n (S.2 (g 1)) g) : pz_Inv n q f (pz_hear n q f S g) := by
  unfold pz_hear
  split
  · exact I
  · have q2 := Q.2.1
    have cl := pz_ci_lt (g 2)
    split
    · refine pz_accept_Inv Q I hs ?_ hg
      rcases hg with ⟨_, _, z | z | z, _⟩ | ⟨_, _, _, z, _⟩ | ⟨_, _, _, _, z, _⟩ | ⟨_, _, _, z, _⟩ | ⟨_, _, _, _, z | z, _⟩ <;> omega
    · split
      · exact pz_coord_Inv Q I hs (by omega) hg (by omega)
      · refine pz_l2_Inv I hs ?_ ?_
        · rcases hg with ⟨_, _, z | z | z, _⟩ | ⟨_, _, _, z, _⟩ | ⟨_, _, _, _, z, _⟩ | ⟨_, _, _, z, _⟩ | ⟨_, _, _, z1, z, _⟩ <;> omega
        · rcases hg with ⟨_, _, _, _, z⟩ | ⟨_, _, _, _, z⟩ | ⟨_, _, _, _, _, z, _⟩ | ⟨_, _, _, _, z, _⟩ | ⟨_, _, _, _, _, z, _⟩ <;> omega
theorem pz_deliver_Inv {n q f i : Nat} {S : pz_T} {g : pz_M} (Q : pz_Q n q f) (I : pz_Inv n q f S) (h : S.1[i]? = some g) : pz_Inv n q f (pz_hear n q f (pz_rm S i) g) := by
  obtain ⟨h1, h2⟩ := I.2.2.1 g (List.mem_of_getElem? h)
  exact pz_hear_Inv Q (pz_rm_Inv I) h1 h2
