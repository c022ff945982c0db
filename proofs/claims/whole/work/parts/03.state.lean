/-! Pure part 3: the whole state (the messages that wait, and what is kept by slot; at 3 what belongs to no slot), its steps, its invariant. -/
abbrev pz_M : Type := Nat → Nat
abbrev pz_T : Type := List pz_M × (Nat → pz_P)
def pz_mg (k s r fr to v o : Nat) : pz_M := fun i => match i with
  | 0 => k
  | 1 => s
  | 2 => r
  | 3 => fr
  | 4 => to
  | 5 => v
  | _ => o
def pz_w (T : Nat → pz_P) (s : Nat) (p : pz_P) : Nat → pz_P := fun s' => if s' = s then p else T s'
theorem pz_w_s (T : Nat → pz_P) (s : Nat) (p : pz_P) : pz_w T s p s = p := by simp [pz_w]
theorem pz_w_n {T : Nat → pz_P} {s s' : Nat} {p : pz_P} (h : s' ≠ s) : pz_w T s p s' = T s' := by simp [pz_w, h]
def pz_pw (S : pz_T) (s : Nat) (p : pz_P) : pz_T := (S.1, pz_w S.2 s p)
def pz_sd (S : pz_T) (g : pz_M) : pz_T := if S.1.length < 60 then (S.1 ++ [g], S.2) else (S.1, pz_w S.2 3 (pz_u (S.2 3) 15 0 0 (S.2 3 15 0 0 + 1)))
def pz_sa (kd s r v : Nat) : Nat → pz_T → pz_T
  | 0, S => S
  | i + 1, S => pz_sd (pz_sa kd s r v i S) (pz_mg kd s r 0 i v 0)
def pz_ld (p : pz_P) (c r h : Nat) : pz_P := fun k x y => if x = c ∧ k = 8 ∧ y = 0 then r else if x = c ∧ k = 9 ∧ y = 0 then h else if x = c ∧ k = 11 then 0 else p k x y
def pz_tll (p : pz_P) (c a v r : Nat) : pz_P := pz_u (pz_u (pz_u p 11 c a 1) 12 c a v) 13 c a r
def pz_mx : Nat → (Nat → Nat) → Nat
  | 0, _ => 0
  | k + 1, g => if pz_mx k g < g k then g k else pz_mx k g
def pz_te (n : Nat) (p : pz_P) (c : Nat) : Nat := pz_sm n (fun a => p 11 c a)
def pz_tf (n : Nat) (p : pz_P) (c r v : Nat) : Nat := pz_sm n (fun a => if p 11 c a ≠ 0 ∧ p 13 c a = r ∧ p 12 c a = v then 1 else 0)
def pz_kk (n : Nat) (p : pz_P) (c : Nat) : Nat := pz_mx n (fun a => if p 11 c a ≠ 0 then p 13 c a else 0)
/-- the least told value of a round -/
def pz_ls (p : pz_P) (c r : Nat) : Nat → Nat
  | 0 => 0
  | k + 1 => if p 11 c k ≠ 0 ∧ p 13 c k = r ∧ (pz_ls p c r k = 0 ∨ p 12 c k < pz_ls p c r k) then p 12 c k else pz_ls p c r k
/-- the last told value that must be kept -/
def pz_hl (n f : Nat) (p : pz_P) (c K : Nat) : Nat → Nat
  | 0 => 0
  | k + 1 => if p 11 c k ≠ 0 ∧ p 13 c k = K ∧ (K % 2 = 0 ∨ pz_te n p c - pz_tf n p c K (p 12 c k) ≤ n - f) then p 12 c k else pz_hl n f p c K k
def pz_pk (n f : Nat) (p : pz_P) (c : Nat) : Nat :=
  if pz_kk n p c = 0 then 0 else if pz_hl n f p c (pz_kk n p c) n ≠ 0 then pz_hl n f p c (pz_kk n p c) n else pz_ls p c (pz_kk n p c) n
def pz_be (n : Nat) (p : pz_P) (c r : Nat) : Nat := pz_mx n (fun a => if p 11 c a ≠ 0 then pz_tf n p c r (p 12 c a) else 0)
def pz_propose (n : Nat) (S : pz_T) (s v : Nat) : pz_T := pz_sd (pz_sd (pz_sa 1 s 0 v n S) (pz_mg 1 s 0 0 8 v 0)) (pz_mg 1 s 0 0 9 v 0)
def pz_begin (n : Nat) (S : pz_T) (s r : Nat) : pz_T := pz_sa 2 s r 0 n (pz_pw S s (pz_ld (S.2 s) (pz_ci r) r 1))
def pz_vf (n : Nat) (S : pz_T) (s c v : Nat) : pz_T := pz_sa 4 s (S.2 s 8 c 0) v n (pz_pw S s (pz_u (pz_u (S.2 s) 9 c 0 3) 17 (S.2 s 8 c 0) 0 (v + 1)))
def pz_go (n f : Nat) (S : pz_T) (s c : Nat) : pz_T :=
  if pz_pk n f (S.2 s) c ≠ 0 then pz_vf n (pz_pw S s (pz_ld (S.2 s) c (S.2 s 8 c 0) 2)) s c (pz_pk n f (S.2 s) c)
  else if S.2 s 8 c 0 % 2 = 1 then pz_vf n (pz_pw S s (pz_ld (S.2 s) c (S.2 s 8 c 0) 2)) s c 0
  else if S.2 s 10 c 0 ≠ 0 then pz_vf n (pz_pw S s (pz_ld (S.2 s) c (S.2 s 8 c 0) 2)) s c (S.2 s 10 c 0)
  else pz_pw S s (pz_ld (S.2 s) c (S.2 s 8 c 0) 2)
def pz_rec (n q f : Nat) (S : pz_T) (s c r : Nat) : pz_T :=
  if pz_te n (S.2 s) c < q ∨ f + pz_te n (S.2 s) c ≤ pz_be n (S.2 s) c r + n then S
  else pz_vf n (pz_pw S s (pz_ld (S.2 s) c (r + 1) 3)) s c (pz_ls (S.2 s) c r n)
def pz_coord (n q f : Nat) (S : pz_T) (s c kd r fr v o : Nat) : pz_T :=
  if kd = 1 then
    if S.2 s 10 c 0 = 0 then
      if S.2 s 9 c 0 = 2 then pz_vf n (pz_pw S s (pz_u (S.2 s) 10 c 0 v)) s c v else pz_pw S s (pz_u (S.2 s) 10 c 0 v)
    else S
  else if kd = 3 then
    if S.2 s 8 c 0 = r ∧ S.2 s 9 c 0 = 1 then
      if pz_te n (pz_tll (S.2 s) c fr v o) c = q then pz_go n f (pz_pw S s (pz_tll (S.2 s) c fr v o)) s c else pz_pw S s (pz_tll (S.2 s) c fr v o)
    else S
  else if kd = 5 ∧ S.2 s 8 c 0 = r ∧ r % 2 = 1 ∧ S.2 s 9 c 0 = 3 then pz_rec n q f (pz_pw S s (pz_tll (S.2 s) c fr v r)) s c r
  else S
def pz_v1 (p : pz_P) (a r v : Nat) : pz_P := pz_u (pz_u (pz_u p 1 a 0 v) 2 a 0 r) 5 r a v
def pz_v2 (n q f : Nat) (p : pz_P) (a r v : Nat) : pz_P := pz_u (pz_v1 p a r v) 16 0 0 (if p 16 0 0 = 0 ∧ pz_en q f r ≤ pz_cv (pz_v1 p a r v) n r v then v else p 16 0 0)
def pz_cast (n q f : Nat) (S : pz_T) (s a r v : Nat) : pz_T := pz_sd (pz_sd (pz_pw S s (pz_v2 n q f (S.2 s) a r v)) (pz_mg 5 s r a (8 + pz_ci r) v 0)) (pz_mg 5 s r a 10 v 0)
def pz_accept (n q f : Nat) (S : pz_T) (s a kd r v : Nat) : pz_T :=
  if kd = 2 then
    if S.2 s 0 a 0 < r then pz_sd (pz_pw S s (pz_u (S.2 s) 0 a 0 r)) (pz_mg 3 s r a (8 + pz_ci r) (S.2 s 1 a 0) (S.2 s 2 a 0)) else S
  else if kd = 4 then
    if S.2 s 0 a 0 ≤ r ∧ S.2 s 2 a 0 < r then
      if v ≠ 0 then pz_cast n q f (pz_pw S s (pz_u (S.2 s) 0 a 0 r)) s a r v
      else if S.2 s 3 a 0 ≠ 0 then pz_cast n q f (pz_pw S s (pz_u (pz_u (S.2 s) 0 a 0 r) 4 a 0 r)) s a r (S.2 s 3 a 0)
      else pz_pw S s (pz_u (pz_u (S.2 s) 0 a 0 r) 4 a 0 r)
    else S
  else if kd = 1 then
    if S.2 s 3 a 0 = 0 then
      if 0 < S.2 s 0 a 0 ∧ S.2 s 4 a 0 = S.2 s 0 a 0 ∧ S.2 s 2 a 0 < S.2 s 0 a 0 then pz_cast n q f (pz_pw S s (pz_u (S.2 s) 3 a 0 v)) s a (S.2 s 0 a 0) v
      else pz_pw S s (pz_u (S.2 s) 3 a 0 v)
    else S
  else S
def pz_hv (p : pz_P) (n r w : Nat) : Nat := pz_sm n (fun a => if p 6 r a = w then 1 else 0)
def pz_l2 (n q f : Nat) (p : pz_P) (r a v : Nat) : pz_P := pz_u (pz_u p 6 r a v) 7 0 0 (if p 7 0 0 = 0 ∧ pz_en q f r ≤ pz_hv (pz_u p 6 r a v) n r v then v else p 7 0 0)
def pz_hear (n q f : Nat) (S : pz_T) (g : pz_M) : pz_T :=
  if S.2 3 14 (g 4) 0 ≠ 0 then S
  else if g 4 < 8 then pz_accept n q f S (g 1) (g 4) (g 0) (g 2) (g 5)
  else if g 4 < 10 then pz_coord n q f S (g 1) (g 4 - 8) (g 0) (g 2) (g 3) (g 5) (g 6)
  else pz_pw S (g 1) (pz_l2 n q f (S.2 (g 1)) (g 2) (g 3) (g 5))
def pz_rm (S : pz_T) (i : Nat) : pz_T := (S.1.eraseIdx i, S.2)
def pz_halt (S : pz_T) (w b : Nat) : pz_T := pz_pw S 3 (pz_u (S.2 3) 14 w 0 b)

/-- what holds of a message that waits -/
def pz_MS (n : Nat) (p : pz_P) (g : pz_M) : Prop :=
  (g 0 = 1 ∧ g 2 = 0 ∧ (g 4 < n ∨ g 4 = 8 ∨ g 4 = 9) ∧ 1 ≤ g 5 ∧ g 5 ≤ 1000) ∨ (g 0 = 2 ∧ 1 ≤ g 2 ∧ g 2 ≤ 12 ∧ g 4 < n ∧ g 5 = 0) ∨
  (g 0 = 3 ∧ 1 ≤ g 2 ∧ g 2 ≤ 12 ∧ g 3 < n ∧ g 4 = 8 + pz_ci (g 2) ∧ g 5 ≤ 1000 ∧ pz_PF p (g 2) (g 3) (g 5) (g 6)) ∨
  (g 0 = 4 ∧ 1 ≤ g 2 ∧ g 2 ≤ 12 ∧ g 4 < n ∧ g 5 ≤ 1000 ∧ p 17 (g 2) 0 = g 5 + 1) ∨
  (g 0 = 5 ∧ 1 ≤ g 2 ∧ g 2 ≤ 12 ∧ g 3 < n ∧ (g 4 = 8 + pz_ci (g 2) ∨ g 4 = 10) ∧ g 5 ≤ 1000 ∧ p 5 (g 2) (g 3) = g 5 ∧ g 5 ≠ 0)
theorem pz_MS_st {n : Nat} {p p' : pz_P} (h : pz_St n p p') {g : pz_M} (m : pz_MS n p g) : pz_MS n p' g := by
  rcases m with m | m | ⟨m1, m2, m3, m4, m5, m6, m7⟩ | ⟨m1, m2, m3, m4, m5, m6⟩ | ⟨m1, m2, m3, m4, m5, m6, m7, m8⟩
  · exact Or.inl m
  · exact Or.inr (Or.inl m)
  · exact Or.inr (Or.inr (Or.inl ⟨m1, m2, m3, m4, m5, m6, pz_PF_st h m4 m7⟩))
  · exact Or.inr (Or.inr (Or.inr (Or.inl ⟨m1, m2, m3, m4, m5, by rw [h.2.2 _ (by omega)]; exact m6⟩)))
  · exact Or.inr (Or.inr (Or.inr (Or.inr ⟨m1, m2, m3, m4, m5, m6, pz_vd_st h m4 m7 m8, m8⟩)))
def pz_Inv (n q f : Nat) (S : pz_T) : Prop := S.1.length ≤ 60 ∧ (∀ s, s < 3 → pz_IV n q f (S.2 s)) ∧ (∀ g ∈ S.1, g 1 < 3 ∧ pz_MS n (S.2 (g 1)) g) ∧ ∀ w, S.2 3 14 w 0 ≤ 1
theorem pz_sd_2 (S : pz_T) (g : pz_M) {s : Nat} (h : s < 3) : (pz_sd S g).2 s = S.2 s := by
  unfold pz_sd
  split
  · rfl
  · exact pz_w_n (by omega)
theorem pz_sd_h (S : pz_T) (g : pz_M) (w : Nat) : (pz_sd S g).2 3 14 w 0 = S.2 3 14 w 0 := by
  unfold pz_sd
  split
  · rfl
  · show pz_w S.2 3 (pz_u (S.2 3) 15 0 0 (S.2 3 15 0 0 + 1)) 3 14 w 0 = _
    rw [pz_w_s]
    exact pz_u_k (by omega)
theorem pz_sa_2 (kd s r v : Nat) (S : pz_T) {z : Nat} (h : z < 3) : ∀ i, (pz_sa kd s r v i S).2 z = S.2 z
  | 0 => rfl
  | i + 1 => by rw [pz_sa, pz_sd_2 _ _ h, pz_sa_2 kd s r v S h i]
theorem pz_pw_s (S : pz_T) (s : Nat) (p : pz_P) : (pz_pw S s p).2 s = p := pz_w_s _ _ _
theorem pz_pw_pw (S : pz_T) (s : Nat) (p p' : pz_P) : pz_pw (pz_pw S s p) s p' = pz_pw S s p' := by
  unfold pz_pw
  refine Prod.ext rfl ?_
  funext s'
  by_cases h : s' = s
  · subst h; simp [pz_w]
  · simp [pz_w, h]
theorem pz_sd_Inv {n q f : Nat} {S : pz_T} {g : pz_M} (I : pz_Inv n q f S) (h1 : g 1 < 3) (h2 : pz_MS n (S.2 (g 1)) g) : pz_Inv n q f (pz_sd S g) := by
  obtain ⟨i1, i2, i3, i4⟩ := I
  refine ⟨?_, fun s hs => by rw [pz_sd_2 S g hs]; exact i2 s hs, fun x hx => ?_, fun w => by rw [pz_sd_h]; exact i4 w⟩
  · unfold pz_sd
    split
    · simp; omega
    · exact i1
  · have hm : x ∈ S.1 ∨ x = g := by
      unfold pz_sd at hx
      split at hx
      · simpa using hx
      · exact Or.inl hx
    rcases hm with hm | hm
    · obtain ⟨a, b⟩ := i3 x hm
      exact ⟨a, by rw [pz_sd_2 S g a]; exact b⟩
    · subst hm
      exact ⟨h1, by rw [pz_sd_2 S x h1]; exact h2⟩
theorem pz_sa_Inv {n q f kd s r v : Nat} {S : pz_T} (I : pz_Inv n q f S) (hs : s < 3) : ∀ i, (∀ a, a < i → pz_MS n (S.2 s) (pz_mg kd s r 0 a v 0)) → pz_Inv n q f (pz_sa kd s r v i S)
  | 0, _ => I
  | i + 1, h => by
    refine pz_sd_Inv (pz_sa_Inv I hs i (fun a ha => h a (by omega))) hs ?_
    show pz_MS n ((pz_sa kd s r v i S).2 s) _
    rw [pz_sa_2 kd s r v S hs i]
    exact h i (by omega)
theorem pz_pw_Inv {n q f s : Nat} {S : pz_T} {p : pz_P} (I : pz_Inv n q f S) (hs : s < 3) (h : pz_IV n q f p ∧ pz_St n (S.2 s) p) : pz_Inv n q f (pz_pw S s p) := by
  obtain ⟨i1, i2, i3, i4⟩ := I
  refine ⟨i1, fun z hz => ?_, fun g hg => ?_, fun w => ?_⟩
  · by_cases e : z = s
    · subst e; rw [pz_pw_s]; exact h.1
    · show pz_IV n q f (pz_w S.2 s p z)
      rw [pz_w_n e]; exact i2 z hz
  · obtain ⟨a, b⟩ := i3 g hg
    refine ⟨a, ?_⟩
    show pz_MS n (pz_w S.2 s p (g 1)) g
    by_cases e : g 1 = s
    · rw [e, pz_w_s]
      rw [e] at b
      exact pz_MS_st h.2 b
    · rw [pz_w_n e]; exact b
  · show pz_w S.2 s p 3 14 w 0 ≤ 1
    rw [pz_w_n (by omega)]; exact i4 w
theorem pz_rm_Inv {n q f i : Nat} {S : pz_T} (I : pz_Inv n q f S) : pz_Inv n q f (pz_rm S i) := by
  obtain ⟨i1, i2, i3, i4⟩ := I
  refine ⟨Nat.le_trans (List.length_eraseIdx_le S.1 i) i1, i2, fun g hg => i3 g (List.mem_of_mem_eraseIdx hg), i4⟩
theorem pz_halt_Inv {n q f w b : Nat} {S : pz_T} (I : pz_Inv n q f S) (hb : b ≤ 1) : pz_Inv n q f (pz_halt S w b) := by
  obtain ⟨i1, i2, i3, i4⟩ := I
  refine ⟨i1, fun z hz => ?_, fun g hg => ?_, fun x => ?_⟩
  · show pz_IV n q f (pz_w S.2 3 _ z)
    rw [pz_w_n (by omega)]; exact i2 z hz
  · obtain ⟨a, b⟩ := i3 g hg
    refine ⟨a, ?_⟩
    show pz_MS n (pz_w S.2 3 _ (g 1)) g
    rw [pz_w_n (by omega)]; exact b
  · show pz_w S.2 3 (pz_u (S.2 3) 14 w 0 b) 3 14 x 0 ≤ 1
    rw [pz_w_s]
    by_cases e : x = w
    · subst e; rw [pz_u_s]; exact hb
    · rw [pz_u_x e]; exact i4 x
theorem pz_propose_Inv {n q f s v : Nat} {S : pz_T} (I : pz_Inv n q f S) (hs : s < 3) (h1 : 1 ≤ v) (h2 : v ≤ 1000) : pz_Inv n q f (pz_propose n S s v) :=
  pz_sd_Inv (pz_sd_Inv (pz_sa_Inv I hs n (fun a ha => Or.inl ⟨rfl, rfl, Or.inl ha, h1, h2⟩)) hs (Or.inl ⟨rfl, rfl, Or.inr (Or.inl rfl), h1, h2⟩)) hs (Or.inl ⟨rfl, rfl, Or.inr (Or.inr rfl), h1, h2⟩)
theorem pz_ld_0 {p : pz_P} {c r h k x y : Nat} (e : k ≠ 8 ∧ k ≠ 9 ∧ k ≠ 11) : pz_ld p c r h k x y = p k x y := by simp [pz_ld, e.1, e.2.1, e.2.2]
theorem pz_ld_x {p : pz_P} {c r h k x y : Nat} (e : x ≠ c) : pz_ld p c r h k x y = p k x y := by simp [pz_ld, e]
theorem pz_ld_8 {p : pz_P} {c r h : Nat} : pz_ld p c r h 8 c 0 = r := by simp [pz_ld]
theorem pz_ld_9 {p : pz_P} {c r h : Nat} : pz_ld p c r h 9 c 0 = h := by simp [pz_ld]
theorem pz_ld_11 {p : pz_P} {c r h a : Nat} : pz_ld p c r h 11 c a = 0 := by simp [pz_ld]
theorem pz_begin_Inv {n q f s r : Nat} {S : pz_T} (Q : pz_Q n q f) (I : pz_Inv n q f S) (hs : s < 3) (h1 : 1 ≤ r) (h2 : r ≤ 12) (h3 : S.2 s 8 (pz_ci r) 0 < r) : pz_Inv n q f (pz_begin n S s r) := by
  have IVs := I.2.1 s hs
  have C := IVs.2.2.2.2.2.1 (pz_ci r) (pz_ci_lt r)
  obtain ⟨c1, c2, c3, c4, c5, c6, c7, c8⟩ := C
  unfold pz_begin
  refine pz_sa_Inv (pz_pw_Inv I hs (pz_cor0 (p' := pz_ld (S.2 s) (pz_ci r) r 1) (c := pz_ci r) IVs (fun k x y hk => pz_ld_0 (by omega)) (fun k d y _ _ hd => pz_ld_x hd) (fun x hx hc => ?_) (fun _ => ?_))) hs n (fun a ha => Or.inr (Or.inl ⟨rfl, h1, h2, ha, rfl⟩))
  · have g := (IVs.2.2.1 x hx).2.2.1
    rw [hc] at g
    rw [pz_ld_8]
    exact ⟨by omega, fun z => by omega⟩
  · unfold pz_Cc
    rw [pz_ld_8, pz_ld_9, pz_ld_0 (by omega)]
    simp only [pz_ld_11]
    refine ⟨h2, by omega, c3, fun _ => ⟨h1, trivial⟩, fun _ => by omega, fun _ => ⟨?_, fun a _ z => absurd rfl z⟩, fun z => by omega, fun z => by omega⟩
    rw [pz_sm_const]
    have := Q.2.2.1
    omega
