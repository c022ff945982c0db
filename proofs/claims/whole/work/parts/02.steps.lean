/-! Pure part 2: what an acceptor's and a coordinator's steps keep. -/
def pz_u (p : pz_P) (k x y v : Nat) : pz_P := fun k' x' y' => if k' = k ∧ x' = x ∧ y' = y then v else p k' x' y'
theorem pz_u_s (p : pz_P) (k x y v : Nat) : pz_u p k x y v k x y = v := by simp [pz_u]
theorem pz_u_k {p : pz_P} {k x y v k' x' y' : Nat} (h : k' ≠ k) : pz_u p k x y v k' x' y' = p k' x' y' := by simp [pz_u, h]
theorem pz_u_x {p : pz_P} {k x y v k' x' y' : Nat} (h : x' ≠ x) : pz_u p k x y v k' x' y' = p k' x' y' := by simp [pz_u, h]
theorem pz_u_y {p : pz_P} {k x y v k' x' y' : Nat} (h : y' ≠ y) : pz_u p k x y v k' x' y' = p k' x' y' := by simp [pz_u, h]
/-- an acceptor's step without a vote -/
theorem pz_acc0 {n q f : Nat} {p p' : pz_P} {b : Nat} (I : pz_IV n q f p) (hk : ∀ k x y, 5 ≤ k → p' k x y = p k x y) (ho : ∀ k a, k ≤ 4 → a ≠ b → p' k a 0 = p k a 0)
    (h1 : p' 1 b 0 = p 1 b 0) (h2 : p' 2 b 0 = p 2 b 0) (h0 : p 0 b 0 ≤ p' 0 b 0) (h12 : p' 0 b 0 ≤ 12)
    (hO : p' 4 b 0 ≤ p' 0 b 0 ∧ p' 3 b 0 ≤ 1000 ∧ (0 < p' 0 b 0 → p' 4 b 0 = p' 0 b 0 → p 17 (p' 0 b 0) 0 = 1 ∧ (p' 3 b 0 ≠ 0 → p 2 b 0 = p' 0 b 0))) : pz_IV n q f p' ∧ pz_St n p p' := by
  obtain ⟨A, O, G1, G2, G3, C, Z, S⟩ := I
  have e5 : ∀ r a, p' 5 r a = p 5 r a := fun r a => hk 5 r a (by omega)
  have e17 : ∀ r, p' 17 r 0 = p 17 r 0 := fun r => hk 17 r 0 (by omega)
  have st : pz_St n p p' := by
    refine ⟨fun a _ => ?_, fun r a _ => Or.inl (e5 r a), fun r _ => e17 r⟩
    by_cases e : a = b
    · subst e; exact h0
    · rw [ho 0 a (by omega) e]; exact Nat.le_refl _
  refine ⟨⟨?_, ?_, ?_, ?_, pz_G3_st st e17 G3, fun c hc => pz_Cc_st st (fun k y _ _ => hk k c y (by omega)) (C c hc), ?_, ?_⟩, st⟩
  · intro a ha
    obtain ⟨a1, a2, a3, a4⟩ := A a ha
    by_cases e : a = b
    · subst e
      rw [h1, h2]
      refine ⟨by omega, h12, fun r hr => ?_, ?_⟩
      · rw [e5] at hr ⊢; exact a3 r hr
      · rw [e5]; exact a4
    · rw [ho 0 a (by omega) e, ho 1 a (by omega) e, ho 2 a (by omega) e]
      refine ⟨a1, a2, fun r hr => ?_, ?_⟩
      · rw [e5] at hr ⊢; exact a3 r hr
      · rw [e5]; exact a4
  · intro a ha
    by_cases e : a = b
    · subst e
      rw [h2, e17]
      exact hO
    · rw [ho 0 a (by omega) e, ho 2 a (by omega) e, ho 3 a (by omega) e, ho 4 a (by omega) e, e17]
      exact O a ha
  · intro r hr
    rw [e17] at hr
    rw [e17, hk 8 _ 0 (by omega), hk 9 _ 0 (by omega)]
    exact G1 r hr
  · intro r a ha hr
    rw [e5] at hr
    rw [e5, e17]
    exact G2 r a ha hr
  · exact pz_Z_st Z (fun r a _ => e5 r a) (fun r a => hk 6 r a (by omega)) (hk 7 0 0 (by omega)) (by rw [hk 16 0 0 (by omega)]; exact Z.2.2.2)
  · have ec : ∀ r w, pz_cv p' n r w = pz_cv p n r w := fun r w => by unfold pz_cv; simp only [e5]
    unfold pz_S
    rw [hk 16 0 0 (by omega)]
    simp only [ec]
    exact S
/-- an acceptor votes -/
theorem pz_acc1 {n q f : Nat} {p p' : pz_P} {b r v : Nat} (Q : pz_Q n q f) (hb : b < n) (I : pz_IV n q f p) (hk : ∀ k x y, 6 ≤ k → k ≠ 16 → p' k x y = p k x y) (ho : ∀ k a, k ≤ 4 → a ≠ b → p' k a 0 = p k a 0)
    (h5 : ∀ x a, ¬ (x = r ∧ a = b) → p' 5 x a = p 5 x a) (h5' : p' 5 r b = v) (h1 : p' 1 b 0 = v) (h2 : p' 2 b 0 = r) (h0 : p' 0 b 0 = r) (hr0 : p 0 b 0 ≤ r) (hr12 : r ≤ 12) (hr2 : p 2 b 0 < r) (hv : v ≠ 0) (hv2 : v ≤ 1000)
    (hg : p 17 r 0 = 1 ∨ p 17 r 0 = v + 1) (hO4 : p' 4 b 0 ≤ r) (hO3 : p' 3 b 0 ≤ 1000) (hO : p' 4 b 0 = r → p 17 r 0 = 1)
    (hS : p' 16 0 0 = if p 16 0 0 = 0 ∧ pz_en q f r ≤ pz_cv p' n r v then v else p 16 0 0) : pz_IV n q f p' ∧ pz_St n p p' := by
  obtain ⟨A, O, G1, G2, G3, C, Z, S⟩ := I
  have e17 : ∀ r, p' 17 r 0 = p 17 r 0 := fun r => hk 17 r 0 (by omega) (by omega)
  have old : p 5 r b = 0 := by
    by_cases z : p 5 r b = 0
    · exact z
    · have := ((A b hb).2.2.1 r z).2.1
      omega
  have st : pz_St n p p' := by
    refine ⟨fun a _ => ?_, fun x a _ => ?_, fun r _ => e17 r⟩
    · by_cases e : a = b
      · subst e; omega
      · rw [ho 0 a (by omega) e]; exact Nat.le_refl _
    · by_cases e : x = r ∧ a = b
      · obtain ⟨rfl, rfl⟩ := e
        exact Or.inr ⟨old, hr0⟩
      · exact Or.inl (h5 x a e)
  refine ⟨⟨?_, ?_, ?_, ?_, pz_G3_st st e17 G3, fun c hc => pz_Cc_st st (fun k y _ _ => hk k c y (by omega) (by omega)) (C c hc), ?_, ?_⟩, st⟩
  · intro a ha
    obtain ⟨a1, a2, a3, a4⟩ := A a ha
    by_cases e : a = b
    · subst e
      rw [h1, h2, h0]
      refine ⟨Nat.le_refl _, hr12, fun x hx => ?_, Or.inr ⟨by omega, h5', hv⟩⟩
      by_cases ex : x = r
      · subst ex
        rw [h5']
        exact ⟨by omega, Nat.le_refl _, hv2⟩
      · rw [h5 x a (fun z => ex z.1)] at hx ⊢
        obtain ⟨b1, b2, b3⟩ := a3 x hx
        exact ⟨b1, by omega, b3⟩
    · have e5 : ∀ x, p' 5 x a = p 5 x a := fun x => h5 x a (fun z => e z.2)
      rw [ho 0 a (by omega) e, ho 1 a (by omega) e, ho 2 a (by omega) e]
      refine ⟨a1, a2, fun x hx => ?_, ?_⟩
      · rw [e5] at hx ⊢; exact a3 x hx
      · rw [e5]; exact a4
  · intro a ha
    by_cases e : a = b
    · subst e
      rw [h2, h0, e17]
      exact ⟨hO4, hO3, fun _ z => ⟨hO z, fun _ => rfl⟩⟩
    · rw [ho 0 a (by omega) e, ho 2 a (by omega) e, ho 3 a (by omega) e, ho 4 a (by omega) e, e17]
      exact O a ha
  · intro x hx
    rw [e17] at hx
    rw [e17, hk 8 _ 0 (by omega) (by omega), hk 9 _ 0 (by omega) (by omega)]
    exact G1 x hx
  · intro x a ha hx
    rw [e17]
    by_cases e : x = r ∧ a = b
    · obtain ⟨rfl, rfl⟩ := e
      rw [h5']
      exact hg
    · rw [h5 x a e] at hx ⊢
      exact G2 x a ha hx
  · refine pz_Z_st Z (fun x a ha => h5 x a (fun z => by omega)) (fun x a => hk 6 x a (by omega) (by omega)) (hk 7 0 0 (by omega) (by omega)) ?_
    rw [hS]
    have := Z.2.2.2
    split <;> omega
  · rcases S with ⟨s1, s2⟩ | ⟨s1, x, s2⟩
    · by_cases z : pz_en q f r ≤ pz_cv p' n r v
      · rw [if_pos ⟨s1, z⟩] at hS
        exact Or.inr ⟨by rw [hS]; exact hv, r, by rw [hS]; exact z⟩
      · rw [if_neg (fun y => z y.2), s1] at hS
        refine Or.inl ⟨hS, fun x w hw => ?_⟩
        by_cases e : x = r ∧ w = v
        · obtain ⟨rfl, rfl⟩ := e
          omega
        · refine Nat.lt_of_le_of_lt ?_ (s2 x w hw)
          unfold pz_cv
          refine pz_sm_le n (fun a _ => ?_)
          by_cases ea : x = r ∧ a = b
          · obtain ⟨rfl, rfl⟩ := ea
            rw [h5', if_neg (fun y => e ⟨rfl, y.symm⟩)]
            exact Nat.zero_le _
          · rw [h5 x a ea]; exact Nat.le_refl _
    · rw [if_neg (fun y => s1 y.1)] at hS
      refine Or.inr ⟨by rw [hS]; exact s1, x, Nat.le_trans s2 ?_⟩
      rw [hS]
      unfold pz_cv
      refine pz_sm_le n (fun a ha => ?_)
      by_cases ea : p 5 x a = p 16 0 0
      · rw [if_pos ea, if_pos (pz_vd_st st ha ea s1)]; exact Nat.le_refl _
      · rw [if_neg ea]; exact Nat.zero_le _
/-- a coordinator's step that asks for nothing -/
theorem pz_cor0 {n q f : Nat} {p p' : pz_P} {c : Nat} (I : pz_IV n q f p) (hk : ∀ k x y, k ≤ 7 ∨ 14 ≤ k → p' k x y = p k x y) (ho : ∀ k d y, 8 ≤ k → k ≤ 13 → d ≠ c → p' k d y = p k d y)
    (hG : ∀ r, p 17 r 0 ≠ 0 → pz_ci r = c → r ≤ p' 8 c 0 ∧ (p' 8 c 0 = r → p' 9 c 0 = 3)) (hC : pz_St n p p' → pz_Cc n q f p' c) : pz_IV n q f p' ∧ pz_St n p p' := by
  obtain ⟨A, O, G1, G2, G3, C, Z, S⟩ := I
  have e17 : ∀ r, p' 17 r 0 = p 17 r 0 := fun r => hk 17 r 0 (by omega)
  have e5 : ∀ r a, p' 5 r a = p 5 r a := fun r a => hk 5 r a (by omega)
  have st : pz_St n p p' := pz_St_same (fun a => hk 0 a 0 (by omega)) e5 (fun r _ => e17 r)
  refine ⟨⟨?_, ?_, ?_, ?_, pz_G3_st st e17 G3, fun d hd => ?_, ?_, ?_⟩, st⟩
  · intro a ha
    rw [hk 0 a 0 (by omega), hk 1 a 0 (by omega), hk 2 a 0 (by omega)]
    simp only [e5]
    exact A a ha
  · intro a ha
    rw [hk 0 a 0 (by omega), hk 2 a 0 (by omega), hk 3 a 0 (by omega), hk 4 a 0 (by omega), e17]
    exact O a ha
  · intro r hr
    rw [e17] at hr
    obtain ⟨g1, g2, g3, g4, g5, g6⟩ := G1 r hr
    rw [e17]
    by_cases e : pz_ci r = c
    · rw [e]
      obtain ⟨k1, k2⟩ := hG r hr e
      exact ⟨g1, g2, k1, k2, g5, g6⟩
    · rw [ho 8 _ 0 (by omega) (by omega) e, ho 9 _ 0 (by omega) (by omega) e]
      exact ⟨g1, g2, g3, g4, g5, g6⟩
  · intro r a ha hr
    rw [e5] at hr
    rw [e5, e17]
    exact G2 r a ha hr
  · by_cases e : d = c
    · subst e; exact hC st
    · exact pz_Cc_st st (fun k y h8 h13 => ho k d y h8 h13 e) (C d hd)
  · exact pz_Z_st Z (fun r a _ => e5 r a) (fun r a => hk 6 r a (by omega)) (hk 7 0 0 (by omega)) (by rw [hk 16 0 0 (by omega)]; exact Z.2.2.2)
  · have ec : ∀ r w, pz_cv p' n r w = pz_cv p n r w := fun r w => by unfold pz_cv; simp only [e5]
    unfold pz_S
    rw [hk 16 0 0 (by omega)]
    simp only [ec]
    exact S
/-- a coordinator asks for x in its round R -/
theorem pz_cor1 {n q f : Nat} {p p' : pz_P} {c R x : Nat} (I : pz_IV n q f p) (hk : ∀ k x y, k ≤ 7 ∨ k = 16 → p' k x y = p k x y) (ho : ∀ k d y, 8 ≤ k → k ≤ 13 → d ≠ c → p' k d y = p k d y)
    (h17 : ∀ r, r ≠ R → p' 17 r 0 = p 17 r 0) (h17R : p 17 R 0 = 0) (h17x : p' 17 R 0 = x + 1) (hx : x ≤ 1000) (hx0 : x = 0 → R % 2 = 1) (hR1 : 1 ≤ R) (hR2 : R ≤ 12) (hRc : pz_ci R = c) (h8 : p' 8 c 0 = R) (h9 : p' 9 c 0 = 3) (h8p : p 8 c 0 ≤ R)
    (hND : ∀ y w, 1 ≤ y → y < R → w ≠ 0 → w ≠ x → pz_ND n q f p y w) (hC : pz_St n p p' → pz_Cc n q f p' c) : pz_IV n q f p' ∧ pz_St n p p' := by
  obtain ⟨A, O, G1, G2, G3, C, Z, S⟩ := I
  have e5 : ∀ r a, p' 5 r a = p 5 r a := fun r a => hk 5 r a (by omega)
  have n17 : ∀ r, p 17 r 0 ≠ 0 → p' 17 r 0 = p 17 r 0 := fun r hr => h17 r (fun z => hr (by rw [z]; exact h17R))
  have st : pz_St n p p' := pz_St_same (fun a => hk 0 a 0 (by omega)) e5 n17
  refine ⟨⟨?_, ?_, ?_, ?_, ?_, fun d hd => ?_, ?_, ?_⟩, st⟩
  · intro a ha
    rw [hk 0 a 0 (by omega), hk 1 a 0 (by omega), hk 2 a 0 (by omega)]
    simp only [e5]
    exact A a ha
  · intro a ha
    rw [hk 0 a 0 (by omega), hk 2 a 0 (by omega), hk 3 a 0 (by omega), hk 4 a 0 (by omega)]
    obtain ⟨o1, o2, o3⟩ := O a ha
    refine ⟨o1, o2, fun z1 z2 => ?_⟩
    obtain ⟨o4, o5⟩ := o3 z1 z2
    exact ⟨by rw [n17 _ (by omega)]; exact o4, o5⟩
  · intro r hr
    by_cases eR : r = R
    · subst eR
      rw [h17x, hRc, h8, h9]
      exact ⟨hR1, hR2, Nat.le_refl _, fun _ => rfl, by omega, fun z => hx0 (by omega)⟩
    · rw [h17 r eR] at hr ⊢
      obtain ⟨g1, g2, g3, g4, g5, g6⟩ := G1 r hr
      by_cases e : pz_ci r = c
      · rw [e, h8, h9]
        rw [e] at g3
        exact ⟨g1, g2, by omega, fun _ => rfl, g5, g6⟩
      · rw [ho 8 _ 0 (by omega) (by omega) e, ho 9 _ 0 (by omega) (by omega) e]
        exact ⟨g1, g2, g3, g4, g5, g6⟩
  · intro r a ha hr
    rw [e5] at hr ⊢
    have g := G2 r a ha hr
    rw [n17 r (by omega)]
    exact g
  · intro y r w h1 h2 h3 h4 h5
    by_cases eR : r = R
    · subst eR
      rw [h17x] at h5
      exact pz_ND_st st (hND y w h2 h3 h4 (by omega))
    · rw [h17 r eR] at h1 h5
      exact pz_ND_st st (G3 y r w h1 h2 h3 h4 h5)
  · by_cases e : d = c
    · subst e; exact hC st
    · exact pz_Cc_st st (fun k y h8 h13 => ho k d y h8 h13 e) (C d hd)
  · exact pz_Z_st Z (fun r a _ => e5 r a) (fun r a => hk 6 r a (by omega)) (hk 7 0 0 (by omega)) (by rw [hk 16 0 0 (by omega)]; exact Z.2.2.2)
  · have ec : ∀ r w, pz_cv p' n r w = pz_cv p n r w := fun r w => by unfold pz_cv; simp only [e5]
    unfold pz_S
    rw [hk 16 0 0 (by omega)]
    simp only [ec]
    exact S
/-- what a quorum of promises for r says of the rounds before it -/
theorem pz_told {n q f : Nat} {p : pz_P} {r y w : Nat} {t v k : Nat → Nat} (ht : ∀ a, a < n → t a ≤ 1) (hF : ∀ a, a < n → t a ≠ 0 → pz_PF p r a (v a) (k a)) (hy : y < r) :
    pz_cc p n y w + pz_sm n t ≤ n + pz_sm n (fun a => if t a ≠ 0 ∧ p 5 y a = w then 1 else 0) := by
  unfold pz_cc
  refine pz_count (fun a ha => ?_)
  have h1 := ht a ha
  by_cases z : t a ≠ 0
  · have h2 := (hF a ha z).1
    by_cases e : p 5 y a = w
    · rw [if_pos (Or.inl e), if_pos ⟨z, e⟩]; omega
    · rw [if_neg (fun d => by rcases d with d | ⟨d1, d2⟩ <;> omega), if_neg (fun d => e d.2)]; omega
  · rw [if_neg (c := t a ≠ 0 ∧ p 5 y a = w) (fun d => z d.1)]
    split <;> omega
def pz_tl (n : Nat) (t v k : Nat → Nat) (K w : Nat) : Nat := pz_sm n (fun a => if t a ≠ 0 ∧ k a = K ∧ v a = w then 1 else 0)
theorem pz_pick {n q f : Nat} {p : pz_P} (Q : pz_Q n q f) (I : pz_IV n q f p) {r K x : Nat} {t v k : Nat → Nat} (ht : ∀ a, a < n → t a ≤ 1) (hT : pz_sm n t = q) (hF : ∀ a, a < n → t a ≠ 0 → pz_PF p r a (v a) (k a)) (hK : ∀ a, a < n → t a ≠ 0 → k a ≤ K)
    (hx : K = 0 ∨ (0 < K ∧ (∃ b, b < n ∧ t b ≠ 0 ∧ k b = K ∧ v b = x) ∧ (K % 2 = 1 → q + f ≤ pz_tl n t v k K x + n ∨ ∀ b, b < n → t b ≠ 0 → k b = K → pz_tl n t v k K (v b) + n < q + f))) :
    ∀ y w, 1 ≤ y → y < r → w ≠ 0 → w ≠ x → pz_ND n q f p y w := by
  obtain ⟨A, -, G1, G2, G3, -, -, -⟩ := I
  intro y w hy1 hy hw hwx
  have base := pz_told (q := q) (f := f) (w := w) ht hF hy
  rw [hT] at base
  have enq := pz_en_q Q y
  have zero : pz_sm n (fun a => if t a ≠ 0 ∧ p 5 y a = w then 1 else 0) = 0 → pz_ND n q f p y w := fun z => by
    rw [z] at base
    unfold pz_ND
    omega
  -- a told vote for w in y
  have seen : ∀ a, a < n → t a ≠ 0 → p 5 y a = w → y ≤ k a := fun a ha h1 h2 => (hF a ha h1).2.2.1 y hy (by rw [h2]; exact hw)
  by_cases hyK : K < y
  · refine zero (pz_sm_zero n (fun a ha => ?_))
    rw [if_neg]
    intro d
    have h1 := seen a ha d.1 d.2
    have h2 := hK a ha d.1
    omega
  · rcases hx with hx | ⟨hK0, ⟨b, hb, hb1, hb2, hb3⟩, hx⟩
    · omega
    · have fb := hF b hb hb1
      have vb : p 5 K b = x ∧ x ≠ 0 := by
        rcases fb.2.2.2 with ⟨d, -⟩ | ⟨-, d1, d2⟩
        · omega
        · rw [hb2, hb3] at d1; rw [hb3] at d2; exact ⟨d1, d2⟩
      have gK := G2 K b hb (by rw [vb.1]; exact vb.2)
      rw [vb.1] at gK
      by_cases hyK2 : y < K
      · exact G3 y K w (by omega) hy1 hyK2 hw (by omega)
      · have e : y = K := by omega
        subst e
        by_cases hodd : y % 2 = 1
        · have hle : pz_sm n (fun a => if t a ≠ 0 ∧ p 5 y a = w then 1 else 0) ≤ pz_tl n t v k y w := by
            unfold pz_tl
            refine pz_sm_le n (fun a ha => ?_)
            by_cases d : t a ≠ 0 ∧ p 5 y a = w
            · have h1 := seen a ha d.1 d.2
              have h2 := hK a ha d.1
              have h3 : k a = y := by omega
              have h4 : v a = w := by
                rcases (hF a ha d.1).2.2.2 with ⟨z, -⟩ | ⟨-, d1, d2⟩
                · omega
                · rw [h3, d.2] at d1; exact d1.symm
              rw [if_pos d, if_pos ⟨d.1, h3, h4⟩]; exact Nat.le_refl _
            · rw [if_neg d]; exact Nat.zero_le _
          have enf : pz_en q f y = f := by unfold pz_en; rw [if_pos hodd]
          have hn1 : q ≤ n := Q.2.2.2.1
          have hn2 : 2 * n < q + 2 * f := Q.2.2.2.2.2.2.2
          unfold pz_ND
          rw [enf]
          rcases hx hodd with h | h
          · have two : pz_tl n t v k y w + pz_tl n t v k y x ≤ pz_sm n t := by
              unfold pz_tl
              refine pz_count2 (fun a ha => ?_)
              have h1 := ht a ha
              by_cases z : t a ≠ 0
              · by_cases z2 : v a = w
                · rw [if_neg (c := t a ≠ 0 ∧ k a = y ∧ v a = x) (fun d => hwx (z2.symm.trans d.2.2))]
                  split <;> omega
                · rw [if_neg (fun d => z2 d.2.2)]
                  split <;> omega
              · rw [if_neg (fun d => z d.1), if_neg (fun d => z d.1)]; exact Nat.zero_le _
            omega
          · by_cases z : pz_tl n t v k y w = 0
            · omega
            · obtain ⟨a, ha, ea⟩ := pz_sm_pos n (Nat.pos_of_ne_zero z)
              have d : t a ≠ 0 ∧ k a = y ∧ v a = w := by
                by_cases d : t a ≠ 0 ∧ k a = y ∧ v a = w
                · exact d
                · rw [if_neg d] at ea; exact absurd ea (Nat.lt_irrefl 0)
              have := h a ha d.1 d.2.1
              rw [d.2.2] at this
              omega
        · have g1 := (G1 y (by omega)).2.2.2.2.2
          refine zero (pz_sm_zero n (fun a ha => ?_))
          rw [if_neg]
          intro d
          have := G2 y a ha (by rw [d.2]; exact hw)
          rw [d.2] at this
          omega
/-- what a quorum of votes of a fast round says, where none can be chosen in it -/
theorem pz_recover {n q f : Nat} {p : pz_P} (I : pz_IV n q f p) {r x B : Nat} {t v : Nat → Nat} (ht : ∀ a, a < n → t a ≤ 1) (hodd : r % 2 = 1) (hF : ∀ a, a < n → t a ≠ 0 → p 5 r a = v a ∧ v a ≠ 0) (hg : p 17 r 0 ≠ 0)
    (hB : ∀ b, b < n → t b ≠ 0 → pz_sm n (fun a => if t a ≠ 0 ∧ v a = v b then 1 else 0) ≤ B) (hf : B + n < f + pz_sm n t) (hx : ∃ b, b < n ∧ t b ≠ 0 ∧ v b = x) :
    ∀ y w, 1 ≤ y → y < r + 1 → w ≠ 0 → w ≠ x → pz_ND n q f p y w := by
  obtain ⟨A, -, G1, G2, G3, -, -, -⟩ := I
  obtain ⟨b, hb, hb1, hb2⟩ := hx
  intro y w hy1 hy hw hwx
  by_cases e : y = r
  · subst e
    have base : pz_cc p n y w + pz_sm n t ≤ n + pz_sm n (fun a => if t a ≠ 0 ∧ v a = w then 1 else 0) := by
      unfold pz_cc
      refine pz_count (fun a ha => ?_)
      have h1 := ht a ha
      by_cases z : t a ≠ 0
      · obtain ⟨h2, h3⟩ := hF a ha z
        rw [h2]
        by_cases ev : v a = w
        · rw [if_pos (Or.inl ev), if_pos ⟨z, ev⟩]; omega
        · rw [if_neg (fun d => by rcases d with d | ⟨d1, d2⟩ <;> omega), if_neg (fun d => ev d.2)]; omega
      · rw [if_neg (c := t a ≠ 0 ∧ v a = w) (fun d => z d.1)]
        split <;> omega
    have le : pz_sm n (fun a => if t a ≠ 0 ∧ v a = w then 1 else 0) ≤ B := by
      by_cases z : pz_sm n (fun a => if t a ≠ 0 ∧ v a = w then 1 else 0) = 0
      · omega
      · obtain ⟨a, ha, ea⟩ := pz_sm_pos n (Nat.pos_of_ne_zero z)
        have d : t a ≠ 0 ∧ v a = w := by
          by_cases d : t a ≠ 0 ∧ v a = w
          · exact d
          · rw [if_neg d] at ea; exact absurd ea (Nat.lt_irrefl 0)
        have := hB a ha d.1
        rw [d.2] at this
        exact this
    unfold pz_ND pz_en
    rw [if_pos hodd]
    omega
  · obtain ⟨h2, h3⟩ := hF b hb hb1
    have g := G2 r b hb (by rw [h2]; exact h3)
    rw [h2, hb2] at g
    exact G3 y r w hg hy1 (by omega) hw (by omega)
