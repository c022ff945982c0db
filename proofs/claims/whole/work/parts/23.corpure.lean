/-! What a coordinator's own methods compute, and that it is what the state's steps say. -/
def pz_cl (p : pz_P) (c : Nat) : pz_P := fun k x y => if k = 11 ∧ x = c then 0 else p k x y
def pz_sv (n : Nat) (S : pz_T) (s c v : Nat) : pz_T := pz_sa 4 s (S.2 s 8 c 0) v n (pz_pw S s (pz_cl (pz_u (S.2 s) 9 c 0 3) c))
def pz_mc (n f : Nat) (p : pz_P) (c r : Nat) : Nat → Nat → Nat
  | 0, _ => 0
  | d + 1, i => if p 11 c i ≠ 0 ∧ p 13 c i = r ∧ pz_te n p c - (n - f) ≤ pz_tf n p c r (p 12 c i) then p 12 c i else pz_mc n f p c r d (i + 1)
def pz_mo (n : Nat) (p : pz_P) (c r : Nat) : Nat := pz_mx n (fun a => if p 11 c a ≠ 0 ∧ p 13 c a = r then pz_tf n p c r (p 12 c a) else 0)
def pz_pkC (n f : Nat) (p : pz_P) (c : Nat) : Nat :=
  if pz_kk n p c = 0 then 0 else if pz_kk n p c % 2 = 1 ∧ pz_mc n f p c (pz_kk n p c) n 0 ≠ 0 then pz_mc n f p c (pz_kk n p c) n 0 else pz_ls p c (pz_kk n p c) n
def pz_gw (n : Nat) (S : pz_T) (s c x : Nat) : pz_T :=
  if x ≠ 0 then pz_sv n S s c x else if S.2 s 8 c 0 % 2 = 1 then pz_sv n S s c 0 else if S.2 s 10 c 0 ≠ 0 then pz_sv n S s c (S.2 s 10 c 0) else pz_pw S s (pz_u (S.2 s) 9 c 0 2)
theorem pz_mx_eq {g h : Nat → Nat} : ∀ n : Nat, (∀ a, a < n → g a = h a) → pz_mx n g = pz_mx n h
  | 0, _ => rfl
  | k + 1, H => by simp only [pz_mx]; rw [pz_mx_eq k (fun a ha => H a (by omega)), H k (by omega)]
theorem pz_mo_be {n : Nat} {p : pz_P} {c r : Nat} (h : ∀ a, a < n → p 11 c a ≠ 0 → p 13 c a = r) : pz_mo n p c r = pz_be n p c r := by
  refine pz_mx_eq n (fun a ha => ?_)
  by_cases z : p 11 c a ≠ 0
  · rw [if_pos ⟨z, h a ha z⟩, if_pos z]
  · rw [if_neg (fun y => z y.1), if_neg z]
theorem pz_mc_ex {n f : Nat} {p : pz_P} {c r : Nat} : ∀ d i : Nat, pz_mc n f p c r d i = 0 ∨ ∃ b, i ≤ b ∧ b < i + d ∧ p 11 c b ≠ 0 ∧ p 13 c b = r ∧ pz_te n p c - (n - f) ≤ pz_tf n p c r (p 12 c b) ∧ p 12 c b = pz_mc n f p c r d i
  | 0, _ => Or.inl rfl
  | d + 1, i => by
    simp only [pz_mc]
    by_cases e : p 11 c i ≠ 0 ∧ p 13 c i = r ∧ pz_te n p c - (n - f) ≤ pz_tf n p c r (p 12 c i)
    · rw [if_pos e]; exact Or.inr ⟨i, Nat.le_refl _, by omega, e.1, e.2.1, e.2.2, rfl⟩
    · rw [if_neg e]
      rcases pz_mc_ex (n := n) (f := f) (p := p) (c := c) (r := r) d (i + 1) with h | ⟨b, h1, h2, h3⟩
      · exact Or.inl h
      · exact Or.inr ⟨b, by omega, by omega, h3⟩
theorem pz_mc_no {n f : Nat} {p : pz_P} {c r : Nat} : ∀ d i : Nat, (∀ b, i ≤ b → b < i + d → p 11 c b ≠ 0 → p 13 c b = r → p 12 c b ≠ 0) → pz_mc n f p c r d i = 0 → ∀ b, i ≤ b → b < i + d → p 11 c b ≠ 0 → p 13 c b = r → ¬ pz_te n p c - (n - f) ≤ pz_tf n p c r (p 12 c b)
  | 0, i, _, _, b, h1, h2, _, _ => by omega
  | d + 1, i, H, hz, b, h1, h2, h3, h4 => by
    simp only [pz_mc] at hz
    by_cases e : p 11 c i ≠ 0 ∧ p 13 c i = r ∧ pz_te n p c - (n - f) ≤ pz_tf n p c r (p 12 c i)
    · rw [if_pos e] at hz
      exact absurd hz (H i (Nat.le_refl _) (by omega) e.1 e.2.1)
    · rw [if_neg e] at hz
      by_cases eb : b = i
      · subst eb
        intro z
        exact e ⟨h3, h4, z⟩
      · exact pz_mc_no d (i + 1) (fun b hb hb2 => H b (by omega) (by omega)) hz b (by omega) (by omega) h3 h4
/-- the program's pick is the state's -/
theorem pz_pkC_eq {n q f : Nat} {p p1 : pz_P} {c r : Nat} (Q : pz_Q n q f) (I : pz_IV n q f p) (h11 : ∀ a, p1 11 c a ≤ 1) (hT : pz_te n p1 c = q) (hF : ∀ a, a < n → p1 11 c a ≠ 0 → pz_PF p r a (p1 12 c a) (p1 13 c a)) : pz_pkC n f p1 c = pz_pk n f p1 c := by
  unfold pz_pkC pz_pk
  by_cases k0 : pz_kk n p1 c = 0
  · rw [if_pos k0, if_pos k0]
  · rw [if_neg k0, if_neg k0]
    obtain ⟨q1, q2, q3, q4, q5, q6, q7, q8⟩ := Q
    have nz : ∀ b, b < n → p1 11 c b ≠ 0 → p1 13 c b = pz_kk n p1 c → p1 12 c b ≠ 0 := fun b hb t e => by
      rcases (hF b hb t).2.2.2 with ⟨z, -⟩ | ⟨-, -, z⟩
      · omega
      · exact z
    by_cases odd : pz_kk n p1 c % 2 = 1
    · by_cases m0 : pz_mc n f p1 c (pz_kk n p1 c) n 0 = 0
      · rw [if_neg (fun y => y.2 m0)]
        have h0 : pz_hl n f p1 c (pz_kk n p1 c) n = 0 := by
          rcases pz_hl_ex n f p1 c (pz_kk n p1 c) n with z | ⟨b, b1, b2, b3, b4, b5⟩
          · exact z
          · exfalso
            have := pz_mc_no n 0 (fun b _ hb t e => nz b (by omega) t e) m0 b (by omega) (by omega) b2 b3
            omega
        rw [if_neg (fun y => y h0)]
      · rw [if_pos ⟨odd, m0⟩]
        rcases pz_mc_ex (n := n) (f := f) (p := p1) (c := c) (r := pz_kk n p1 c) n 0 with z | ⟨b, -, b1, b2, b3, b4, b5⟩
        · exact absurd z m0
        · have hne : pz_hl n f p1 c (pz_kk n p1 c) n ≠ 0 := fun z => pz_hl_no n nz z b (by omega) b2 b3 (Or.inr (by omega))
          rw [if_pos hne]
          rcases pz_hl_ex n f p1 c (pz_kk n p1 c) n with z | ⟨d, d1, d2, d3, d4, d5⟩
          · exact absurd z hne
          · rw [← b5, ← d5]
            by_cases e : p1 12 c b = p1 12 c d
            · exact e
            · exfalso
              have two : pz_tf n p1 c (pz_kk n p1 c) (p1 12 c b) + pz_tf n p1 c (pz_kk n p1 c) (p1 12 c d) ≤ pz_te n p1 c := by
                unfold pz_tf pz_te
                refine pz_count2 (fun a ha => ?_)
                have h1 := h11 a
                by_cases z : p1 11 c a ≠ 0
                · by_cases z2 : p1 12 c a = p1 12 c b
                  · rw [if_neg (c := p1 11 c a ≠ 0 ∧ p1 13 c a = pz_kk n p1 c ∧ p1 12 c a = p1 12 c d) (fun y => e (z2.symm.trans y.2.2))]
                    split <;> omega
                  · rw [if_neg (fun y => z2 y.2.2)]
                    split <;> omega
                · rw [if_neg (fun y => z y.1), if_neg (fun y => z y.1)]; exact Nat.zero_le _
              rw [hT] at two b4 d4
              omega
    · rw [if_neg (fun y => odd y.1)]
      obtain ⟨b, hb, eb⟩ := pz_mx_ex n k0
      have tb : p1 11 c b ≠ 0 := fun z => k0 (by rw [if_neg (fun y => y z)] at eb; exact eb.symm)
      rw [if_pos tb] at eb
      have eb : p1 13 c b = pz_kk n p1 c := eb
      have val : ∀ d, d < n → p1 11 c d ≠ 0 → p1 13 c d = pz_kk n p1 c → p 17 (pz_kk n p1 c) 0 = p1 12 c d + 1 := fun d hd t e => by
        rcases (hF d hd t).2.2.2 with ⟨z, -⟩ | ⟨-, z1, z2⟩
        · omega
        · rw [e] at z1
          have g := I.2.2.2.1 (pz_kk n p1 c) d hd (by rw [z1]; exact z2)
          rw [z1] at g
          rcases g with g | g
          · have := (I.2.2.1 (pz_kk n p1 c) (by omega)).2.2.2.2.2 g
            omega
          · exact g
      have hne : pz_hl n f p1 c (pz_kk n p1 c) n ≠ 0 := fun z => pz_hl_no n nz z b hb tb eb (Or.inl (by omega))
      rw [if_pos hne]
      rcases pz_hl_ex n f p1 c (pz_kk n p1 c) n with z | ⟨d, d1, d2, d3, d4, d5⟩
      · exact absurd z hne
      · rcases pz_ls_ex p1 c (pz_kk n p1 c) n with z | ⟨a, a1, a2, a3, a4⟩
        · exact absurd z (pz_ls_ne n nz ⟨b, hb, tb, eb⟩)
        · have v1 := val d d1 d2 d3
          have v2 := val a a1 a2 a3
          omega
/-- the same but for what was asked for -/
def pz_E (S S' : pz_T) : Prop := S'.1 = S.1 ∧ ∀ s k x y, k ≠ 17 → S'.2 s k x y = S.2 s k x y
theorem pz_E_sd {S S' : pz_T} (h : pz_E S S') (g : pz_M) : pz_E (pz_sd S g) (pz_sd S' g) := by
  obtain ⟨h1, h2⟩ := h
  unfold pz_sd
  rw [h1]
  split
  · exact ⟨rfl, h2⟩
  · refine ⟨rfl, fun s k x y hk => ?_⟩
    show pz_w S'.2 3 _ s k x y = pz_w S.2 3 _ s k x y
    unfold pz_w
    split
    · unfold pz_u
      rw [h2 3 15 0 0 (by omega), h2 3 k x y hk]
    · exact h2 s k x y hk
theorem pz_E_sa {S S' : pz_T} (h : pz_E S S') (kd s r v : Nat) : ∀ i, pz_E (pz_sa kd s r v i S) (pz_sa kd s r v i S')
  | 0 => h
  | i + 1 => pz_E_sd (pz_E_sa h kd s r v i) _
theorem pz_E_pw {S : pz_T} {s : Nat} {p p' : pz_P} (h : ∀ k x y, k ≠ 17 → p' k x y = p k x y) : pz_E (pz_pw S s p) (pz_pw S s p') := by
  refine ⟨rfl, fun z k x y hk => ?_⟩
  show pz_w S.2 s p' z k x y = pz_w S.2 s p z k x y
  unfold pz_w
  split
  · exact h k x y hk
  · rfl
theorem fr_E {n q f : Nat} {S S' : pz_T} {ex : Nat → Nat → Prop} {M : fr_M} (h : fr_R n q f S ex M) (e : pz_E S S') : fr_R n q f S' ex M := fr_eq h e.1 e.2 (fun _ _ z => z)
/-- to vote: the program's way and the state's -/
theorem pz_sv_vf {n s c v : Nat} {S : pz_T} {p2 : pz_P} (h2 : ∀ k x y, k ≠ 17 → (k = 9 ∧ x = c ∧ y = 0 ∨ p2 k x y = pz_cl (S.2 s) c k x y)) (h8 : p2 8 c 0 = S.2 s 8 c 0) : pz_E (pz_sv n S s c v) (pz_vf n (pz_pw S s p2) s c v) := by
  rw [pz_vf_eq]
  unfold pz_sv
  rw [h8]
  refine pz_E_sa (pz_E_pw (fun k x y hk => ?_)) _ _ _ _ _
  rw [pz_u_k hk]
  by_cases z : k = 9 ∧ x = c ∧ y = 0
  · obtain ⟨rfl, rfl, rfl⟩ := z
    rw [pz_u_s]
    unfold pz_cl
    rw [if_neg (by omega), pz_u_s]
  · rcases h2 k x y hk with y1 | y1
    · exact absurd y1 z
    · have e1 : pz_u p2 9 c 0 3 k x y = p2 k x y := by unfold pz_u; rw [if_neg z]
      rw [e1, y1]
      unfold pz_cl
      by_cases w : k = 11 ∧ x = c
      · rw [if_pos w, if_pos w]
      · rw [if_neg w, if_neg w]
        unfold pz_u; rw [if_neg z]
theorem fr_ex {n q f : Nat} {S : pz_T} {ex ex' : Nat → Nat → Prop} {M : fr_M} (h : fr_R n q f S ex M) (hex : ∀ s c, s < 3 → c < 2 → ¬ ex' s c → ¬ ex s c) : fr_R n q f S ex' M := by
  obtain ⟨a1, a2, a4, a5, a9, a10, a13, a14, a15⟩ := h
  exact ⟨a1, a2, a4, a5, a9, fun s c hs hc hx => a10 s c hs hc (hex s c hs hc hx), a13, a14, a15⟩
theorem fr_sa_len {kd s r v : Nat} {S : pz_T} (h : S.1.length ≤ 60) : ∀ i, (pz_sa kd s r v i S).1.length ≤ 60
  | 0 => h
  | i + 1 => fr_sd_len (fr_sa_len h i)
theorem pz_te_tll {n : Nat} {p : pz_P} {c a v k : Nat} (h : p 11 c a = 0) : ∀ m, a < m → pz_sm m (fun b => pz_tll p c a v k 11 c b) = pz_sm m (fun b => p 11 c b) + 1
  | 0, h => absurd h (Nat.not_lt_zero a)
  | m + 1, hm => by
    simp only [pz_sm]
    by_cases e : m = a
    · subst e
      rw [pz_tll_11, h, pz_sm_eq m (fun b hb => pz_tll_y (show b ≠ m by omega))]
    · rw [pz_te_tll (n := n) h m (by omega), pz_tll_y e]; omega
theorem pz_te_le {n : Nat} {p : pz_P} {c : Nat} (h : ∀ a, a < n → p 11 c a ≤ 1) : pz_te n p c ≤ n := by
  have := pz_sm_le (g := fun a => p 11 c a) (h := fun _ => 1) n h
  rw [pz_sm_const] at this
  unfold pz_te
  omega
theorem pz_tf_le {n : Nat} {p : pz_P} {c r v : Nat} : pz_tf n p c r v ≤ n := by
  have := pz_sm_le (g := fun a => if p 11 c a ≠ 0 ∧ p 13 c a = r ∧ p 12 c a = v then 1 else 0) (h := fun _ => 1) n (fun a _ => by split <;> omega)
  rw [pz_sm_const] at this
  unfold pz_tf
  omega
theorem pz_mx_le {g : Nat → Nat} {b : Nat} : ∀ n : Nat, (∀ a, a < n → g a ≤ b) → pz_mx n g ≤ b
  | 0, _ => Nat.zero_le _
  | k + 1, H => by
    simp only [pz_mx]
    have h1 := pz_mx_le k (fun a ha => H a (by omega))
    have h2 := H k (by omega)
    split <;> assumption
theorem xi_max {a b : Nat} (ha : a < 2 ^ 31) (hb : b < 2 ^ 31) : (if nI a < nI b then nI b else nI a) = nI (if a < b then b else a) := by
  by_cases h : a < b
  · rw [if_pos h, if_pos ((nI_ltI ha hb).mpr h)]
  · rw [if_neg h, if_neg (fun y => h ((nI_ltI ha hb).mp y))]
