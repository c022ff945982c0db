/-! The coordinators: what they hear. -/
theorem md_Cor_hearProposal_0 : decode mb_Cor_hearProposal 0 = .ok (.aload_n 0, 1) := by decide +kernel
theorem md_Cor_hearProposal_1 : decode mb_Cor_hearProposal 1 = .ok (.getfield 71, 3) := by decide +kernel
theorem md_Cor_hearProposal_4 : decode mb_Cor_hearProposal 4 = .ok (.ifCond .eq 4, 3) := by decide +kernel
theorem md_Cor_hearProposal_7 : decode mb_Cor_hearProposal 7 = .ok (.return_, 1) := by decide +kernel
theorem md_Cor_hearProposal_8 : decode mb_Cor_hearProposal 8 = .ok (.aload_n 0, 1) := by decide +kernel
theorem md_Cor_hearProposal_9 : decode mb_Cor_hearProposal 9 = .ok (.iload_n 1, 1) := by decide +kernel
theorem md_Cor_hearProposal_10 : decode mb_Cor_hearProposal 10 = .ok (.putfield 71, 3) := by decide +kernel
theorem md_Cor_hearProposal_13 : decode mb_Cor_hearProposal 13 = .ok (.aload_n 0, 1) := by decide +kernel
theorem md_Cor_hearProposal_14 : decode mb_Cor_hearProposal 14 = .ok (.getfield 42, 3) := by decide +kernel
theorem md_Cor_hearProposal_17 : decode mb_Cor_hearProposal 17 = .ok (.iconst 2, 1) := by decide +kernel
theorem md_Cor_hearProposal_18 : decode mb_Cor_hearProposal 18 = .ok (.if_icmp .ne 8, 3) := by decide +kernel
theorem md_Cor_hearProposal_21 : decode mb_Cor_hearProposal 21 = .ok (.aload_n 0, 1) := by decide +kernel
theorem md_Cor_hearProposal_22 : decode mb_Cor_hearProposal 22 = .ok (.iload_n 1, 1) := by decide +kernel
theorem md_Cor_hearProposal_23 : decode mb_Cor_hearProposal 23 = .ok (.invokevirtual 74, 3) := by decide +kernel
theorem md_Cor_hearProposal_26 : decode mb_Cor_hearProposal 26 = .ok (.return_, 1) := by decide +kernel
theorem md_Cor_hearPromise_0 : decode mb_Cor_hearPromise 0 = .ok (.aload_n 1, 1) := by decide +kernel
theorem md_Cor_hearPromise_1 : decode mb_Cor_hearPromise 1 = .ok (.getfield 77, 3) := by decide +kernel
theorem md_Cor_hearPromise_4 : decode mb_Cor_hearPromise 4 = .ok (.aload_n 0, 1) := by decide +kernel
theorem md_Cor_hearPromise_5 : decode mb_Cor_hearPromise 5 = .ok (.getfield 39, 3) := by decide +kernel
theorem md_Cor_hearPromise_8 : decode mb_Cor_hearPromise 8 = .ok (.if_icmp .ne 11, 3) := by decide +kernel
theorem md_Cor_hearPromise_11 : decode mb_Cor_hearPromise 11 = .ok (.aload_n 0, 1) := by decide +kernel
theorem md_Cor_hearPromise_12 : decode mb_Cor_hearPromise 12 = .ok (.getfield 42, 3) := by decide +kernel
theorem md_Cor_hearPromise_15 : decode mb_Cor_hearPromise 15 = .ok (.iconst 1, 1) := by decide +kernel
theorem md_Cor_hearPromise_16 : decode mb_Cor_hearPromise 16 = .ok (.if_icmp .eq 4, 3) := by decide +kernel
theorem md_Cor_hearPromise_19 : decode mb_Cor_hearPromise 19 = .ok (.return_, 1) := by decide +kernel
theorem md_Cor_hearPromise_20 : decode mb_Cor_hearPromise 20 = .ok (.aload_n 0, 1) := by decide +kernel
theorem md_Cor_hearPromise_21 : decode mb_Cor_hearPromise 21 = .ok (.aload_n 1, 1) := by decide +kernel
theorem md_Cor_hearPromise_22 : decode mb_Cor_hearPromise 22 = .ok (.getfield 80, 3) := by decide +kernel
theorem md_Cor_hearPromise_25 : decode mb_Cor_hearPromise 25 = .ok (.aload_n 1, 1) := by decide +kernel
theorem md_Cor_hearPromise_26 : decode mb_Cor_hearPromise 26 = .ok (.getfield 57, 3) := by decide +kernel
theorem md_Cor_hearPromise_29 : decode mb_Cor_hearPromise 29 = .ok (.aload_n 1, 1) := by decide +kernel
theorem md_Cor_hearPromise_30 : decode mb_Cor_hearPromise 30 = .ok (.getfield 83, 3) := by decide +kernel
theorem md_Cor_hearPromise_33 : decode mb_Cor_hearPromise 33 = .ok (.invokevirtual 86, 3) := by decide +kernel
theorem md_Cor_hearPromise_36 : decode mb_Cor_hearPromise 36 = .ok (.aload_n 0, 1) := by decide +kernel
theorem md_Cor_hearPromise_37 : decode mb_Cor_hearPromise 37 = .ok (.getfield 90, 3) := by decide +kernel
theorem md_Cor_hearPromise_40 : decode mb_Cor_hearPromise 40 = .ok (.aload_n 0, 1) := by decide +kernel
theorem md_Cor_hearPromise_41 : decode mb_Cor_hearPromise 41 = .ok (.getfield 15, 3) := by decide +kernel
theorem md_Cor_hearPromise_44 : decode mb_Cor_hearPromise 44 = .ok (.getfield 93, 3) := by decide +kernel
theorem md_Cor_hearPromise_47 : decode mb_Cor_hearPromise 47 = .ok (.if_icmp .lt 11, 3) := by decide +kernel
theorem md_Cor_hearPromise_50 : decode mb_Cor_hearPromise 50 = .ok (.aload_n 0, 1) := by decide +kernel
theorem md_Cor_hearPromise_51 : decode mb_Cor_hearPromise 51 = .ok (.aload_n 0, 1) := by decide +kernel
theorem md_Cor_hearPromise_52 : decode mb_Cor_hearPromise 52 = .ok (.invokevirtual 96, 3) := by decide +kernel
theorem md_Cor_hearPromise_55 : decode mb_Cor_hearPromise 55 = .ok (.invokevirtual 100, 3) := by decide +kernel
theorem md_Cor_hearPromise_58 : decode mb_Cor_hearPromise 58 = .ok (.return_, 1) := by decide +kernel
theorem md_Cor_hearVoted_0 : decode mb_Cor_hearVoted 0 = .ok (.aload_n 1, 1) := by decide +kernel
theorem md_Cor_hearVoted_1 : decode mb_Cor_hearVoted 1 = .ok (.getfield 77, 3) := by decide +kernel
theorem md_Cor_hearVoted_4 : decode mb_Cor_hearVoted 4 = .ok (.aload_n 0, 1) := by decide +kernel
theorem md_Cor_hearVoted_5 : decode mb_Cor_hearVoted 5 = .ok (.getfield 39, 3) := by decide +kernel
theorem md_Cor_hearVoted_8 : decode mb_Cor_hearVoted 8 = .ok (.if_icmp .ne 21, 3) := by decide +kernel
theorem md_Cor_hearVoted_11 : decode mb_Cor_hearVoted 11 = .ok (.aload_n 0, 1) := by decide +kernel
theorem md_Cor_hearVoted_12 : decode mb_Cor_hearVoted 12 = .ok (.getfield 39, 3) := by decide +kernel
theorem md_Cor_hearVoted_15 : decode mb_Cor_hearVoted 15 = .ok (.invokestatic 103, 3) := by decide +kernel
theorem md_Cor_hearVoted_18 : decode mb_Cor_hearVoted 18 = .ok (.ifCond .eq 11, 3) := by decide +kernel
theorem md_Cor_hearVoted_21 : decode mb_Cor_hearVoted 21 = .ok (.aload_n 0, 1) := by decide +kernel
theorem md_Cor_hearVoted_22 : decode mb_Cor_hearVoted 22 = .ok (.getfield 42, 3) := by decide +kernel
theorem md_Cor_hearVoted_25 : decode mb_Cor_hearVoted 25 = .ok (.iconst 3, 1) := by decide +kernel
theorem md_Cor_hearVoted_26 : decode mb_Cor_hearVoted 26 = .ok (.if_icmp .eq 4, 3) := by decide +kernel
theorem md_Cor_hearVoted_29 : decode mb_Cor_hearVoted 29 = .ok (.return_, 1) := by decide +kernel
theorem md_Cor_hearVoted_30 : decode mb_Cor_hearVoted 30 = .ok (.aload_n 0, 1) := by decide +kernel
theorem md_Cor_hearVoted_31 : decode mb_Cor_hearVoted 31 = .ok (.aload_n 1, 1) := by decide +kernel
theorem md_Cor_hearVoted_32 : decode mb_Cor_hearVoted 32 = .ok (.getfield 80, 3) := by decide +kernel
theorem md_Cor_hearVoted_35 : decode mb_Cor_hearVoted 35 = .ok (.aload_n 1, 1) := by decide +kernel
theorem md_Cor_hearVoted_36 : decode mb_Cor_hearVoted 36 = .ok (.getfield 57, 3) := by decide +kernel
theorem md_Cor_hearVoted_39 : decode mb_Cor_hearVoted 39 = .ok (.aload_n 1, 1) := by decide +kernel
theorem md_Cor_hearVoted_40 : decode mb_Cor_hearVoted 40 = .ok (.getfield 77, 3) := by decide +kernel
theorem md_Cor_hearVoted_43 : decode mb_Cor_hearVoted 43 = .ok (.invokevirtual 86, 3) := by decide +kernel
theorem md_Cor_hearVoted_46 : decode mb_Cor_hearVoted 46 = .ok (.aload_n 0, 1) := by decide +kernel
theorem md_Cor_hearVoted_47 : decode mb_Cor_hearVoted 47 = .ok (.getfield 90, 3) := by decide +kernel
theorem md_Cor_hearVoted_50 : decode mb_Cor_hearVoted 50 = .ok (.aload_n 0, 1) := by decide +kernel
theorem md_Cor_hearVoted_51 : decode mb_Cor_hearVoted 51 = .ok (.getfield 15, 3) := by decide +kernel
theorem md_Cor_hearVoted_54 : decode mb_Cor_hearVoted 54 = .ok (.getfield 93, 3) := by decide +kernel
theorem md_Cor_hearVoted_57 : decode mb_Cor_hearVoted 57 = .ok (.if_icmp .lt 34, 3) := by decide +kernel
theorem md_Cor_hearVoted_60 : decode mb_Cor_hearVoted 60 = .ok (.aload_n 0, 1) := by decide +kernel
theorem md_Cor_hearVoted_61 : decode mb_Cor_hearVoted 61 = .ok (.invokevirtual 107, 3) := by decide +kernel
theorem md_Cor_hearVoted_64 : decode mb_Cor_hearVoted 64 = .ok (.ifCond .ne 27, 3) := by decide +kernel
theorem md_Cor_hearVoted_67 : decode mb_Cor_hearVoted 67 = .ok (.aload_n 0, 1) := by decide +kernel
theorem md_Cor_hearVoted_68 : decode mb_Cor_hearVoted 68 = .ok (.aload_n 0, 1) := by decide +kernel
theorem md_Cor_hearVoted_69 : decode mb_Cor_hearVoted 69 = .ok (.getfield 39, 3) := by decide +kernel
theorem md_Cor_hearVoted_72 : decode mb_Cor_hearVoted 72 = .ok (.invokevirtual 111, 3) := by decide +kernel
theorem md_Cor_hearVoted_75 : decode mb_Cor_hearVoted 75 = .ok (.istore_n 2, 1) := by decide +kernel
theorem md_Cor_hearVoted_76 : decode mb_Cor_hearVoted 76 = .ok (.aload_n 0, 1) := by decide +kernel
theorem md_Cor_hearVoted_77 : decode mb_Cor_hearVoted 77 = .ok (.dup, 1) := by decide +kernel
theorem md_Cor_hearVoted_78 : decode mb_Cor_hearVoted 78 = .ok (.getfield 39, 3) := by decide +kernel
theorem md_Cor_hearVoted_81 : decode mb_Cor_hearVoted 81 = .ok (.iconst 1, 1) := by decide +kernel
theorem md_Cor_hearVoted_82 : decode mb_Cor_hearVoted 82 = .ok (.iadd, 1) := by decide +kernel
theorem md_Cor_hearVoted_83 : decode mb_Cor_hearVoted 83 = .ok (.putfield 39, 3) := by decide +kernel
theorem md_Cor_hearVoted_86 : decode mb_Cor_hearVoted 86 = .ok (.aload_n 0, 1) := by decide +kernel
theorem md_Cor_hearVoted_87 : decode mb_Cor_hearVoted 87 = .ok (.iload_n 2, 1) := by decide +kernel
theorem md_Cor_hearVoted_88 : decode mb_Cor_hearVoted 88 = .ok (.invokevirtual 74, 3) := by decide +kernel
theorem md_Cor_hearVoted_91 : decode mb_Cor_hearVoted 91 = .ok (.return_, 1) := by decide +kernel
theorem md_Cor_hear_0 : decode mb_Cor_hear 0 = .ok (.aload_n 1, 1) := by decide +kernel
theorem md_Cor_hear_1 : decode mb_Cor_hear 1 = .ok (.getfield 52, 3) := by decide +kernel
theorem md_Cor_hear_4 : decode mb_Cor_hear 4 = .ok (.tableswitch 63 1 5 #[36, 63, 47, 63, 55], 36) := by decide +kernel
theorem md_Cor_hear_40 : decode mb_Cor_hear 40 = .ok (.aload_n 0, 1) := by decide +kernel
theorem md_Cor_hear_41 : decode mb_Cor_hear 41 = .ok (.aload_n 1, 1) := by decide +kernel
theorem md_Cor_hear_42 : decode mb_Cor_hear 42 = .ok (.getfield 57, 3) := by decide +kernel
theorem md_Cor_hear_45 : decode mb_Cor_hear 45 = .ok (.invokevirtual 60, 3) := by decide +kernel
theorem md_Cor_hear_48 : decode mb_Cor_hear 48 = .ok (.goto 19, 3) := by decide +kernel
theorem md_Cor_hear_51 : decode mb_Cor_hear 51 = .ok (.aload_n 0, 1) := by decide +kernel
theorem md_Cor_hear_52 : decode mb_Cor_hear 52 = .ok (.aload_n 1, 1) := by decide +kernel
theorem md_Cor_hear_53 : decode mb_Cor_hear 53 = .ok (.invokevirtual 64, 3) := by decide +kernel
theorem md_Cor_hear_56 : decode mb_Cor_hear 56 = .ok (.goto 11, 3) := by decide +kernel
theorem md_Cor_hear_59 : decode mb_Cor_hear 59 = .ok (.aload_n 0, 1) := by decide +kernel
theorem md_Cor_hear_60 : decode mb_Cor_hear 60 = .ok (.aload_n 1, 1) := by decide +kernel
theorem md_Cor_hear_61 : decode mb_Cor_hear 61 = .ok (.invokevirtual 68, 3) := by decide +kernel
theorem md_Cor_hear_64 : decode mb_Cor_hear 64 = .ok (.goto 3, 3) := by decide +kernel
theorem md_Cor_hear_67 : decode mb_Cor_hear 67 = .ok (.return_, 1) := by decide +kernel
theorem md_Slt_coordinator_0 : decode mb_Slt_coordinator 0 = .ok (.iload_n 1, 1) := by decide +kernel
theorem md_Slt_coordinator_1 : decode mb_Slt_coordinator 1 = .ok (.bipush 8, 2) := by decide +kernel
theorem md_Slt_coordinator_3 : decode mb_Slt_coordinator 3 = .ok (.if_icmp .ne 10, 3) := by decide +kernel
theorem md_Slt_coordinator_6 : decode mb_Slt_coordinator 6 = .ok (.aload_n 0, 1) := by decide +kernel
theorem md_Slt_coordinator_7 : decode mb_Slt_coordinator 7 = .ok (.getfield 28, 3) := by decide +kernel
theorem md_Slt_coordinator_10 : decode mb_Slt_coordinator 10 = .ok (.goto 7, 3) := by decide +kernel
theorem md_Slt_coordinator_13 : decode mb_Slt_coordinator 13 = .ok (.aload_n 0, 1) := by decide +kernel
theorem md_Slt_coordinator_14 : decode mb_Slt_coordinator 14 = .ok (.getfield 32, 3) := by decide +kernel
theorem md_Slt_coordinator_17 : decode mb_Slt_coordinator 17 = .ok (.areturn, 1) := by decide +kernel
def fr_X (S : pz_T) : Nat → Nat → Prop := fun s c => S.2 s 9 c 0 = 2
theorem fr_xs_f {n q f : Nat} {S : pz_T} {ex : Nat → Nat → Prop} {s c : Nat} {b b' : Prop} {M : fr_M} (hb : ¬ b) (h : fr_R n q f S (fr_xs ex s c b) M) : fr_R n q f S (fr_xs ex s c b') M := fr_ex h (fun s' c' _ _ hx y => by
  rcases y with y | y
  · exact hb y.2.2
  · exact hx (Or.inr y))
theorem fr_fin {n q f : Nat} {S S' : pz_T} {s c : Nat} {M : fr_M} (h : fr_R n q f S' (fr_xs (fr_X S) s c (S'.2 s 9 c 0 = 2)) M) (h9 : ∀ s' c', s' < 3 → c' < 2 → ¬ (s' = s ∧ c' = c) → S'.2 s' 9 c' 0 = S.2 s' 9 c' 0) : fr_R n q f S' (fr_X S') M := fr_ex h (fun s' c' hs hc hx y => by
  rcases y with ⟨rfl, rfl, y⟩ | ⟨y1, y2⟩
  · exact hx y
  · exact hx (by show S'.2 s' 9 c' 0 = 2; rw [h9 s' c' hs hc y1]; exact y2))
theorem fr_fin2 {n q f : Nat} {S S' : pz_T} {M : fr_M} (h : fr_R n q f S' (fr_X S) M) (h9 : ∀ s' c', s' < 3 → c' < 2 → S'.2 s' 9 c' 0 = S.2 s' 9 c' 0) : fr_R n q f S' (fr_X S') M := fr_ex h (fun s' c' hs hc hx y => hx (by show S'.2 s' 9 c' 0 = 2; rw [h9 s' c' hs hc]; exact y))
theorem pz_w9 {S : pz_T} {s c s' c' : Nat} {p : pz_P} (h : ¬ (s' = s ∧ c' = c)) (hp : ∀ d, d ≠ c → p 9 d 0 = S.2 s 9 d 0) : (pz_pw S s p).2 s' 9 c' 0 = S.2 s' 9 c' 0 := by
  by_cases e : s' = s
  · subst e; rw [pz_pw_s]; exact hp c' (fun z => h ⟨rfl, z⟩)
  · show pz_w S.2 s p s' 9 c' 0 = _
    rw [pz_w_n e]
theorem pz_vf_9 {n : Nat} {S : pz_T} {s c v s' c' : Nat} (hs : s' < 3) (h : ¬ (s' = s ∧ c' = c)) : (pz_vf n S s c v).2 s' 9 c' 0 = S.2 s' 9 c' 0 := by
  unfold pz_vf
  rw [pz_sa_2 _ _ _ _ _ hs]
  exact pz_w9 h (fun d hd => by rw [pz_u_k (by decide), pz_u_x hd])
theorem pz_vf_3 {n : Nat} {S : pz_T} {s c v : Nat} (hs : s < 3) : (pz_vf n S s c v).2 s 9 c 0 = 3 := by
  unfold pz_vf
  rw [pz_sa_2 _ _ _ _ _ hs, pz_pw_s, pz_u_k (by decide), pz_u_s]
theorem pz_sv_3 {n : Nat} {S : pz_T} {s c v : Nat} (hs : s < 3) : (pz_sv n S s c v).2 s 9 c 0 = 3 := by
  unfold pz_sv
  rw [pz_sa_2 _ _ _ _ _ hs, pz_pw_s]
  unfold pz_cl
  rw [if_neg (by omega), pz_u_s]
theorem pz_go_9 {n f : Nat} {S : pz_T} {s c s' c' : Nat} (hs : s' < 3) (h : ¬ (s' = s ∧ c' = c)) : (pz_go n f S s c).2 s' 9 c' 0 = S.2 s' 9 c' 0 := by
  have e : (pz_pw S s (pz_ld (S.2 s) c (S.2 s 8 c 0) 2)).2 s' 9 c' 0 = S.2 s' 9 c' 0 := pz_w9 h (fun d hd => pz_ld_x hd)
  unfold pz_go
  split
  · rw [pz_vf_9 hs h]; exact e
  · split
    · rw [pz_vf_9 hs h]; exact e
    · split
      · rw [pz_vf_9 hs h]; exact e
      · exact e
theorem fr_svf {n q f : Nat} {S : pz_T} {ex : Nat → Nat → Prop} {s c v : Nat} {b b' : Prop} {p2 : pz_P} {M : fr_M} (h : fr_R n q f (pz_sv n S s c v) (fr_xs ex s c b) M) (hb : ¬ b) (h2 : ∀ k x y, k ≠ 17 → (k = 9 ∧ x = c ∧ y = 0 ∨ p2 k x y = pz_cl (S.2 s) c k x y)) (h8 : p2 8 c 0 = S.2 s 8 c 0) : fr_R n q f (pz_vf n (pz_pw S s p2) s c v) (fr_xs ex s c b') M := fr_xs_f hb (fr_E h (pz_sv_vf h2 h8))
theorem pz_ld_cl {p : pz_P} {c r : Nat} (hr : p 8 c 0 = r) : ∀ k x y, k ≠ 17 → (k = 9 ∧ x = c ∧ y = 0 ∨ pz_ld p c r 2 k x y = pz_cl p c k x y) := fun k x y _ => by
  by_cases z : k = 9 ∧ x = c ∧ y = 0
  · exact Or.inl z
  · refine Or.inr ?_
    unfold pz_ld pz_cl
    by_cases h8 : x = c ∧ k = 8 ∧ y = 0
    · rw [if_pos h8, if_neg (fun w => by omega), h8.1, h8.2.1, h8.2.2, hr]
    · rw [if_neg h8, if_neg (fun w => z ⟨w.2.1, w.1, w.2.2⟩)]
      by_cases h11 : x = c ∧ k = 11
      · rw [if_pos h11, if_pos ⟨h11.2, h11.1⟩]
      · rw [if_neg h11, if_neg (fun w => h11 ⟨w.2, w.1⟩)]
theorem fr_go {n q f : Nat} {S : pz_T} {ex : Nat → Nat → Prop} {s c : Nat} {M : fr_M} (hs : s < 3) (hc : c < 2) (h : fr_R n q f (pz_gw n S s c (pz_pk n f (S.2 s) c)) (fr_xs ex s c ((pz_gw n S s c (pz_pk n f (S.2 s) c)).2 s 9 c 0 = 2)) M) : fr_R n q f (pz_go n f S s c) (fr_xs ex s c ((pz_go n f S s c).2 s 9 c 0 = 2)) M := by
  unfold pz_gw at h
  unfold pz_go
  have nb : ∀ v, ¬ (pz_sv n S s c v).2 s 9 c 0 = 2 := fun v z => by rw [pz_sv_3 hs] at z; omega
  by_cases x0 : pz_pk n f (S.2 s) c ≠ 0
  · rw [if_pos x0] at h ⊢
    exact fr_svf h (nb _) (pz_ld_cl rfl) pz_ld_8
  · rw [if_neg x0] at h ⊢
    by_cases odd : S.2 s 8 c 0 % 2 = 1
    · rw [if_pos odd] at h ⊢
      exact fr_svf h (nb _) (pz_ld_cl rfl) pz_ld_8
    · rw [if_neg odd] at h ⊢
      by_cases w0 : S.2 s 10 c 0 ≠ 0
      · rw [if_pos w0] at h ⊢
        exact fr_svf h (nb _) (pz_ld_cl rfl) pz_ld_8
      · rw [if_neg w0] at h ⊢
        have z := fr_tol (M' := M) (p' := pz_ld (S.2 s) c (S.2 s 8 c 0) 2) (ex' := fr_xs ex s c ((pz_pw S s (pz_ld (S.2 s) c (S.2 s 8 c 0) 2)).2 s 9 c 0 = 2)) h hs hc (fun _ _ _ _ _ => rfl) (fun _ _ => rfl) (fun s' c' y hx => fun y2 => by
          rcases y2 with y2 | y2
          · exact y ⟨y2.1, y2.2.1⟩
          · exact hx (Or.inr y2)) (fun k x y hk => ?_) (fun k d a hd => ?_) (fun hx => ?_)
        · rw [pz_pw_pw] at z; exact z
        · rw [pz_pw_s]
          unfold pz_ld pz_u
          by_cases h8 : x = c ∧ k = 8 ∧ y = 0
          · rw [if_pos h8, if_neg (fun w => by omega), h8.1, h8.2.1, h8.2.2]
          · rw [if_neg h8]
            by_cases h9 : x = c ∧ k = 9 ∧ y = 0
            · rw [if_pos h9, if_pos ⟨h9.2.1, h9.1, h9.2.2⟩]
            · rw [if_neg h9, if_neg (fun w => hk.1 w.2), if_neg (fun w => h9 ⟨w.2.1, w.1, w.2.2⟩)]
        · rw [pz_pw_s, pz_ld_x hd, pz_u_x hd]
        · exact absurd (Or.inl ⟨rfl, rfl, by rw [pz_pw_s, pz_ld_9]⟩) hx
set_option maxHeartbeats 4000000 in
theorem k_ChearProposal (l : Launch) (D : va_G) {n : Nat} (ad : Nat × Nat → Nat) (cI cZ cS cA : ClassId) {M : fr_M} {q f : Nat} {S : pz_T} {s c : Nat} (hn : n ≤ 5) (hq5 : q ≤ 5) (hf5 : f ≤ 5) (h : fr_R n q f S (fr_X S) M) (h60 : S.1.length ≤ 60) (Q : pz_Q n q f) (I : pz_IV n q f (S.2 s)) (hs : s < 3) (hc : c < 2) {r fr v o : Nat} (hv : v < 2 ^ 31) : fb_C l D n ad cI cZ cS cA my_Cor_hearProposal mb_Cor_hearProposal 2 none 3 72 M [.ref (ad (9, 2 * s + c)), .int (nI (v))] (none) (fun M' => fr_R n q f (pz_coord n q f S s c 1 r fr v o) (fr_X (pz_coord n q f S s c 1 r fr v o)) M' ∧ M' (6, 0) = M (6, 0)) := by
  obtain ⟨c1, c2, c3, c4, c5, c6, c7, c8⟩ := I.2.2.2.2.2.1 c hc
  refine xw_start [.ref (ad (9, 2 * s + c)), .int (nI (v))] (by decide) (Nat.le_of_ble_eq_true rfl) ?_
  intro p e st m below meth cd0 ls Z hml hr hlk hN hl hw
  have hl : lv_has ls 2 [(0, .ref (ad (9, 2 * s + c))), (1, .int (nI (v)))] := hl
  refine lv_aload_n Z.1 Z.2.1 md_Cor_hearProposal_0 rfl (lv_at hl 0 rfl) ?_
  refine xb_get (v := .int (M (9, 2 * s + c) 5)) Z hw (fb_in9 n hs hc) (fb_e9 n ad cI cZ cS cA (2 * s + c)) rfl tb_iCor 5 (by decide) mk_Cor_71 rfl rfl md_Cor_hearProposal_1 ?_
  refine xi_re (show M (9, 2 * s + c) 5 = nI (S.2 s 10 c 0) from (fr_c h hs hc).2.2.2) ?_
  refine xi_if_eq (tgt := 8) Z md_Cor_hearProposal_4 (by decide) (by omega) (fun h4 => ?_) (fun h4 => ?_)
  · refine lv_aload_n Z.1 Z.2.1 md_Cor_hearProposal_8 rfl (lv_at hl 0 rfl) ?_
    refine lv_iload_n Z.1 Z.2.1 md_Cor_hearProposal_9 rfl (lv_at hl 1 rfl) ?_
    refine xb_put Z hw (fb_in9 n hs hc) (fb_e9 n ad cI cZ cS cA (2 * s + c)) rfl tb_iCor tb_tCor tb_yCor tb_nCor 5 (by decide) mk_Cor_71 rfl rfl rfl (fb_s9_5 ad (2 * s + c) _) md_Cor_hearProposal_10 (fun M1 H1 locs1 e1 hw => ?_)
    have h1c : M1 (9, 2 * s + c) = upd (M (9, 2 * s + c)) 5 (nI v) := by rw [e1, xw_mw_s]
    have h1m : ∀ k, k ≠ (9, 2 * s + c) → M1 k = M k := fun k hk => by rw [e1, xw_mw_n hk]
    have h1 : fr_R n q f (pz_pw S s (pz_u (S.2 s) 10 c 0 v)) (fr_X S) M1 := by
      have k := fr_c h hs hc
      refine fr_cor h hs hc h1m (fun _ _ y => y) (fun k x y hk => by simp only [pz_u]; repeat rw [if_neg (fun y => by omega)]) (fun k d hd h8 h10 => by simp only [pz_u]; repeat rw [if_neg (fun y => by omega)]) ?_ ?_
      · rw [h1c]
        refine ⟨?_, ?_, ?_, ?_⟩ <;> (simp only [upd, pz_u]; try simp) <;> first | exact k.1 | exact k.2.1 | exact k.2.2.1 | exact k.2.2.2
      · rw [h1c]; simp [upd]
    refine lv_aload_n Z.1 Z.2.1 md_Cor_hearProposal_13 rfl (lv_at hl 0 rfl) ?_
    refine xb_get (v := .int (M1 (9, 2 * s + c) 4)) Z hw (fb_in9 n hs hc) (fb_e9 n ad cI cZ cS cA (2 * s + c)) rfl tb_iCor 4 (by decide) mk_Cor_42 rfl rfl md_Cor_hearProposal_14 ?_
    refine xi_re (show M1 (9, 2 * s + c) 4 = nI (S.2 s 9 c 0) from (by have z := (fr_c h1 hs hc).2.2.1; rw [pz_pw_s, pz_u_k (by decide)] at z; exact z)) ?_
    refine lv_iconst (v := nI 2) Z.1 Z.2.1 md_Cor_hearProposal_17 (by decide) ?_
    refine xi_icmp_ne (tgt := 26) Z md_Cor_hearProposal_18 (by decide) (by omega) (by omega) (fun h18 => ?_) (fun h18 => ?_)
    · refine xw_vret Z hr hlk hw md_Cor_hearProposal_26 ⟨?_, h1m _ (fr_pair (by decide))⟩
      have eC : pz_coord n q f S s c 1 r fr v o = pz_pw S s (pz_u (S.2 s) 10 c 0 v) := by unfold pz_coord; rw [if_pos rfl, if_pos h4, if_neg h18]
      rw [eC]
      exact fr_fin2 h1 (fun s' c' _ _ => by
        by_cases e : s' = s
        · subst e; rw [pz_pw_s, pz_u_k (by decide)]
        · show pz_w S.2 s _ s' 9 c' 0 = _
          rw [pz_w_n e])
    · refine lv_aload_n Z.1 Z.2.1 md_Cor_hearProposal_21 rfl (lv_at hl 0 rfl) ?_
      refine lv_iload_n Z.1 Z.2.1 md_Cor_hearProposal_22 rfl (lv_at hl 1 rfl) ?_
      refine xw_cV (n := 1) (rest := []) Z hml hl.1 hN hw (k_startVoting (v := v) l D ad cI cZ cS cA hn h1 hs hc h60) tb_g mc_Cor_startVoting mk_Cor_74 mi_Cor_startVoting ms_Cor_startVoting mz_Cor ⟨by decide, by decide, by decide +kernel⟩ ⟨Nat.le_of_ble_eq_true rfl, Nat.le_of_ble_eq_true rfl⟩ (fb_in9 n hs hc) (fb_e9 n ad cI cZ cS cA (2 * s + c) _) rfl rfl rfl rfl (Nat.le_of_ble_eq_true rfl) ⟨Nat.le_refl _, Nat.le_refl _⟩ md_Cor_hearProposal_23 (fun M2 H2 locs2 hv2 hw => ?_)
      refine W.eq (g2 := F0 m 26 ls []) rfl ?_
      refine xw_vret Z hr hlk hw md_Cor_hearProposal_26 ⟨?_, by rw [hv2.2, h1m _ (fr_pair (by decide))]⟩
      have eC : pz_coord n q f S s c 1 r fr v o = pz_vf n (pz_pw S s (pz_u (S.2 s) 10 c 0 v)) s c v := by unfold pz_coord; rw [if_pos rfl, if_pos h4, if_pos h18]
      rw [eC]
      have z := fr_svf (b' := (pz_vf n (pz_pw S s (pz_u (S.2 s) 10 c 0 v)) s c v).2 s 9 c 0 = 2) (p2 := (pz_u (S.2 s) 10 c 0 v)) hv2.1 (fun y => y) (fun k x y hk => ?_) (by rw [pz_pw_s])
      · rw [pz_pw_pw] at z
        exact fr_fin z (fun s' c' hs' _ hne => by rw [pz_vf_9 hs' hne]; exact pz_w9 hne (fun d hd => pz_u_x hd))
      · refine Or.inr ?_
        rw [pz_pw_s]
        unfold pz_cl
        by_cases w : k = 11 ∧ x = c
        · rw [if_pos w, w.1, w.2, pz_u_k (by decide)]; exact (c7 h18).2.2.1 y
        · rw [if_neg w]
  · exact xw_vret Z hr hlk hw md_Cor_hearProposal_7 ⟨by rw [show pz_coord n q f S s c 1 r fr v o = S from by unfold pz_coord; rw [if_pos rfl, if_neg h4]]; exact h, rfl⟩
set_option maxHeartbeats 4000000 in
theorem k_hearPromise (l : Launch) (D : va_G) {n : Nat} (ad : Nat × Nat → Nat) (cI cZ cS cA : ClassId) {M : fr_M} {q f : Nat} {S : pz_T} {s c : Nat} {g : pz_M} (hn : n ≤ 5) (hq5 : q ≤ 5) (hf5 : f ≤ 5) (h : fr_R n q f S (fr_X S) M) (h60 : S.1.length ≤ 60) (Q : pz_Q n q f) (I : pz_IV n q f (S.2 s)) (hs : s < 3) (hc : c < 2) (hg : fr_row g (M (6, 0))) (hms : pz_MS n (S.2 s) g) (hk : g 0 = 3) : fb_C l D n ad cI cZ cS cA my_Cor_hearPromise mb_Cor_hearPromise 2 none 4 93 M [.ref (ad (9, 2 * s + c)), .ref (ad (6, 0))] (none) (fun M' => fr_R n q f (pz_coord n q f S s c 3 (g 2) (g 3) (g 5) (g 6)) (fr_X (pz_coord n q f S s c 3 (g 2) (g 3) (g 5) (g 6))) M' ∧ M' (6, 0) = M (6, 0)) := by
  obtain ⟨c1, c2, c3, c4, c5, c6, c7, c8⟩ := I.2.2.2.2.2.1 c hc
  obtain ⟨m1, m2, m3, m4⟩ : 1 ≤ g 2 ∧ g 2 ≤ 12 ∧ g 3 < n ∧ pz_PF (S.2 s) (g 2) (g 3) (g 5) (g 6) := by
    rcases hms with ⟨a, _⟩ | ⟨a, _⟩ | ⟨_, a, b, d, _, _, e⟩ | ⟨a, _⟩ | ⟨a, _⟩
    · omega
    · omega
    · exact ⟨a, b, d, e⟩
    all_goals omega
  refine xw_start [.ref (ad (9, 2 * s + c)), .ref (ad (6, 0))] (by decide) (Nat.le_of_ble_eq_true rfl) ?_
  intro p e st m below meth cd0 ls Z hml hr hlk hN hl hw
  have hl : lv_has ls 2 [(0, .ref (ad (9, 2 * s + c))), (1, .ref (ad (6, 0)))] := hl
  refine lv_aload_n Z.1 Z.2.1 md_Cor_hearPromise_0 rfl (lv_at hl 1 rfl) ?_
  refine xb_get (v := .int (M (6, 0) 2)) Z hw (fb_in6 n) (fb_e6 n ad cI cZ cS cA) rfl tb_iMsg 2 (by decide) mk_Cor_77 rfl rfl md_Cor_hearPromise_1 ?_
  refine xi_re (show M (6, 0) 2 = nI (g 2) from hg.2.2.1) ?_
  refine lv_aload_n Z.1 Z.2.1 md_Cor_hearPromise_4 rfl (lv_at hl 0 rfl) ?_
  refine xb_get (v := .int (M (9, 2 * s + c) 3)) Z hw (fb_in9 n hs hc) (fb_e9 n ad cI cZ cS cA (2 * s + c)) rfl tb_iCor 3 (by decide) mk_Cor_39 rfl rfl md_Cor_hearPromise_5 ?_
  refine xi_re (show M (9, 2 * s + c) 3 = nI (S.2 s 8 c 0) from (fr_c h hs hc).2.1) ?_
  have l8 := c1
  refine xi_icmp_ne (tgt := 19) Z md_Cor_hearPromise_8 (by decide) (by omega) (by omega) (fun h8 => ?_) (fun h8 => ?_)
  · exact xw_vret Z hr hlk hw md_Cor_hearPromise_19 ⟨by rw [show pz_coord n q f S s c 3 (g 2) (g 3) (g 5) (g 6) = S from by unfold pz_coord; rw [if_neg (by decide), if_pos rfl, if_neg (by omega)]]; exact h, rfl⟩
  · refine lv_aload_n Z.1 Z.2.1 md_Cor_hearPromise_11 rfl (lv_at hl 0 rfl) ?_
    refine xb_get (v := .int (M (9, 2 * s + c) 4)) Z hw (fb_in9 n hs hc) (fb_e9 n ad cI cZ cS cA (2 * s + c)) rfl tb_iCor 4 (by decide) mk_Cor_42 rfl rfl md_Cor_hearPromise_12 ?_
    refine xi_re (show M (9, 2 * s + c) 4 = nI (S.2 s 9 c 0) from (fr_c h hs hc).2.2.1) ?_
    refine lv_iconst (v := nI 1) Z.1 Z.2.1 md_Cor_hearPromise_15 (by decide) ?_
    refine xi_icmp_eq (tgt := 20) Z md_Cor_hearPromise_16 (by decide) (by omega) (by omega) (fun h16 => ?_) (fun h16 => ?_)
    · have hx : ¬ fr_X S s c := by show ¬ S.2 s 9 c 0 = 2; omega
      obtain ⟨e1_, e2_⟩ := c4 (by omega)
      obtain ⟨d1, d2⟩ := c6 h16
      have hF : ∀ a, a < n → (pz_tll (S.2 s) c (g 3) (g 5) (g 6)) 11 c a ≠ 0 → pz_PF (S.2 s) (S.2 s 8 c 0) a ((pz_tll (S.2 s) c (g 3) (g 5) (g 6)) 12 c a) ((pz_tll (S.2 s) c (g 3) (g 5) (g 6)) 13 c a) := fun a ha t => by
        by_cases e : a = g 3
        · rw [e, pz_tll_12, pz_tll_13, ← h8]; exact m4
        · rw [pz_tll_y e] at t
          rw [pz_tll_y e, pz_tll_y e]; exact d2 a ha t
      have h11 : ∀ a, (pz_tll (S.2 s) c (g 3) (g 5) (g 6)) 11 c a ≤ 1 := pz_tll_le c5
      have hsame : S.2 s 11 c (g 3) ≠ 0 → S.2 s 11 c (g 3) = 1 ∧ S.2 s 12 c (g 3) = g 5 ∧ S.2 s 13 c (g 3) = g 6 := fun z => ⟨by have := c5 (g 3); omega, pz_PF_eq (d2 (g 3) m3 z) (by rw [← h8]; exact m4)⟩
      refine lv_aload_n Z.1 Z.2.1 md_Cor_hearPromise_20 rfl (lv_at hl 0 rfl) ?_
      refine lv_aload_n Z.1 Z.2.1 md_Cor_hearPromise_21 rfl (lv_at hl 1 rfl) ?_
      refine xb_get (v := .int (M (6, 0) 3)) Z hw (fb_in6 n) (fb_e6 n ad cI cZ cS cA) rfl tb_iMsg 3 (by decide) mk_Cor_80 rfl rfl md_Cor_hearPromise_22 ?_
      refine xi_re (show M (6, 0) 3 = nI (g 3) from hg.2.2.2.1 (by omega)) ?_
      refine lv_aload_n Z.1 Z.2.1 md_Cor_hearPromise_25 rfl (lv_at hl 1 rfl) ?_
      refine xb_get (v := .int (M (6, 0) 5)) Z hw (fb_in6 n) (fb_e6 n ad cI cZ cS cA) rfl tb_iMsg 5 (by decide) mk_Cor_57 rfl rfl md_Cor_hearPromise_26 ?_
      refine xi_re (show M (6, 0) 5 = nI (g 5) from hg.2.2.2.2.2.1) ?_
      refine lv_aload_n Z.1 Z.2.1 md_Cor_hearPromise_29 rfl (lv_at hl 1 rfl) ?_
      refine xb_get (v := .int (M (6, 0) 6)) Z hw (fb_in6 n) (fb_e6 n ad cI cZ cS cA) rfl tb_iMsg 6 (by decide) mk_Cor_83 rfl rfl md_Cor_hearPromise_30 ?_
      refine xi_re (show M (6, 0) 6 = nI (g 6) from hg.2.2.2.2.2.2) ?_
      refine xw_cV (n := 3) (rest := []) Z hml hl.1 hN hw (k_keep (a := g 3) (v := g 5) (k := g 6) l D ad cI cZ cS cA hn h hs hc hx m3 (c5 _) hsame) tb_g mc_Cor_keep mk_Cor_86 mi_Cor_keep ms_Cor_keep mz_Cor ⟨by decide, by decide, by decide +kernel⟩ ⟨Nat.le_of_ble_eq_true rfl, Nat.le_of_ble_eq_true rfl⟩ (fb_in9 n hs hc) (fb_e9 n ad cI cZ cS cA (2 * s + c) _) rfl rfl rfl rfl (Nat.le_of_ble_eq_true rfl) ⟨Nat.le_refl _, Nat.le_refl _⟩ md_Cor_hearPromise_33 (fun M1 H1 locs1 hk1 hw => ?_)
      refine W.eq (g2 := F0 m 36 ls []) rfl ?_
      have lt : pz_te n (pz_tll (S.2 s) c (g 3) (g 5) (g 6)) c ≤ n := pz_te_le (fun a _ => h11 a)
      have up := pz_sm_upd (g := fun a => S.2 s 11 c a) (h := fun a => (pz_tll (S.2 s) c (g 3) (g 5) (g 6)) 11 c a) (b := g 3) (h11 _) (fun a e => pz_tll_y e) n
      have teq : pz_te n (pz_tll (S.2 s) c (g 3) (g 5) (g 6)) c ≤ q := by unfold pz_te; omega
      have T1 : fr_TB n ((pz_pw S s (pz_tll (S.2 s) c (g 3) (g 5) (g 6))).2 s) c := fun a ha => by
        rw [pz_pw_s]
        refine ⟨h11 a, fun t => ?_⟩
        obtain ⟨f1, f2, f3, f4⟩ := hF a ha t
        have := c1
        rcases f4 with ⟨z1, z2⟩ | ⟨z1, z2, z3⟩
        · omega
        · have := ((I.1 a ha).2.2.1 _ (by rw [z2]; exact z3)).2.2
          omega
      obtain ⟨q1, q2, q3, q4, q5, q6, q7, q8⟩ := Q
      refine lv_aload_n Z.1 Z.2.1 md_Cor_hearPromise_36 rfl (lv_at hl 0 rfl) ?_
      refine xb_get (v := .int (M1 (9, 2 * s + c) 9)) Z hw (fb_in9 n hs hc) (fb_e9 n ad cI cZ cS cA (2 * s + c)) rfl tb_iCor 9 (by decide) mk_Cor_90 rfl rfl md_Cor_hearPromise_37 ?_
      refine xi_re (show M1 (9, 2 * s + c) 9 = nI (pz_te n (pz_tll (S.2 s) c (g 3) (g 5) (g 6)) c) from (by have z := (fr_t hk1.1 hs hc hx).1; rw [pz_pw_s] at z; exact z)) ?_
      refine lv_aload_n Z.1 Z.2.1 md_Cor_hearPromise_40 rfl (lv_at hl 0 rfl) ?_
      refine xb_get (v := .ref (ad (1, 0))) Z hw (fb_in9 n hs hc) (fb_e9 n ad cI cZ cS cA (2 * s + c)) rfl tb_iCor 1 (by decide) mk_Cor_15 rfl rfl md_Cor_hearPromise_41 ?_
      refine xb_get (v := .int (M1 (1, 0) 1)) Z hw (fb_in1 n) (fb_e1 n ad cI cZ cS cA) rfl tb_iSiz 1 (by decide) mk_Cor_93 rfl rfl md_Cor_hearPromise_44 ?_
      refine xi_re (show M1 (1, 0) 1 = nI (q) from hk1.1.1.2.1) ?_
      refine xi_icmp_lt (tgt := 58) Z md_Cor_hearPromise_47 (by decide) (by omega) (by omega) (fun h47 => ?_) (fun h47 => ?_)
      · refine xw_vret Z hr hlk hw md_Cor_hearPromise_58 ⟨?_, hk1.2⟩
        have eC : pz_coord n q f S s c 3 (g 2) (g 3) (g 5) (g 6) = pz_pw S s (pz_tll (S.2 s) c (g 3) (g 5) (g 6)) := by unfold pz_coord; rw [if_neg (by decide), if_pos rfl, if_pos ⟨h8.symm, h16⟩, if_neg (by omega)]
        rw [eC]
        exact fr_fin2 hk1.1 (fun s' c' _ _ => by
          by_cases e : s' = s
          · subst e; rw [pz_pw_s, pz_tll_k (by omega)]
          · show pz_w S.2 s _ s' 9 c' 0 = _
            rw [pz_w_n e])
      · refine lv_aload_n Z.1 Z.2.1 md_Cor_hearPromise_50 rfl (lv_at hl 0 rfl) ?_
        refine lv_aload_n Z.1 Z.2.1 md_Cor_hearPromise_51 rfl (lv_at hl 0 rfl) ?_
        refine xw_cV (n := 0) (rest := [.ref (ad (9, 2 * s + c))]) Z hml hl.1 hN hw (k_pick (S := pz_pw S s (pz_tll (S.2 s) c (g 3) (g 5) (g 6))) l D ad cI cZ cS cA hn hk1.1 hs hc hx T1 q6 (by rw [pz_pw_s]; omega)) tb_g mc_Cor_pick mk_Cor_96 mi_Cor_pick ms_Cor_pick mz_Cor ⟨by decide, by decide, by decide +kernel⟩ ⟨Nat.le_of_ble_eq_true rfl, Nat.le_of_ble_eq_true rfl⟩ (fb_in9 n hs hc) (fb_e9 n ad cI cZ cS cA (2 * s + c) _) rfl rfl rfl rfl (Nat.le_of_ble_eq_true rfl) ⟨Nat.le_refl _, Nat.le_refl _⟩ md_Cor_hearPromise_52 (fun M2 H2 locs2 e2 hw => ?_)
        have ey2 := e2.symm
        subst ey2
        refine W.eq (g2 := F0 m 55 ls [.int (nI (pz_pkC n f ((pz_pw S s (pz_tll (S.2 s) c (g 3) (g 5) (g 6))).2 s) c)), .ref (ad (9, 2 * s + c))]) rfl ?_
        refine xi_re (show _ = nI (pz_pk n f (pz_tll (S.2 s) c (g 3) (g 5) (g 6)) c) from (by rw [pz_pw_s, pz_pkC_eq ⟨q1, q2, q3, q4, q5, q6, q7, q8⟩ I h11 (by omega) hF])) ?_
        have lpk := pz_pk_le (f := f) I hF
        refine xw_cV (n := 1) (rest := []) Z hml hl.1 hN hw (k_goOnWith (S := pz_pw S s (pz_tll (S.2 s) c (g 3) (g 5) (g 6))) (x := pz_pk n f (pz_tll (S.2 s) c (g 3) (g 5) (g 6)) c) l D ad cI cZ cS cA hn hk1.1 hs hc h60 (by omega) (by rw [pz_pw_s, pz_tll_k (by omega)]; omega) (by rw [pz_pw_s, pz_tll_k (by omega)]; omega)) tb_g mc_Cor_goOnWith mk_Cor_100 mi_Cor_goOnWith ms_Cor_goOnWith mz_Cor ⟨by decide, by decide, by decide +kernel⟩ ⟨Nat.le_of_ble_eq_true rfl, Nat.le_of_ble_eq_true rfl⟩ (fb_in9 n hs hc) (fb_e9 n ad cI cZ cS cA (2 * s + c) _) rfl rfl rfl rfl (Nat.le_of_ble_eq_true rfl) ⟨Nat.le_refl _, Nat.le_refl _⟩ md_Cor_hearPromise_55 (fun M3 H3 locs3 hg1 hw => ?_)
        refine W.eq (g2 := F0 m 58 ls []) rfl ?_
        refine xw_vret Z hr hlk hw md_Cor_hearPromise_58 ⟨?_, by rw [hg1.2, hk1.2]⟩
        have eC : pz_coord n q f S s c 3 (g 2) (g 3) (g 5) (g 6) = pz_go n f (pz_pw S s (pz_tll (S.2 s) c (g 3) (g 5) (g 6))) s c := by unfold pz_coord; rw [if_neg (by decide), if_pos rfl, if_pos ⟨h8.symm, h16⟩, if_pos (by omega)]
        rw [eC]
        have z := hg1.1
        have ep : pz_pk n f (pz_tll (S.2 s) c (g 3) (g 5) (g 6)) c = pz_pk n f ((pz_pw S s (pz_tll (S.2 s) c (g 3) (g 5) (g 6))).2 s) c := by rw [pz_pw_s]
        rw [ep] at z
        exact fr_fin (fr_go hs hc z) (fun s' c' hs' _ hne => by rw [pz_go_9 hs' hne]; exact pz_w9 hne (fun d hd => pz_tll_x hd))
    · exact xw_vret Z hr hlk hw md_Cor_hearPromise_19 ⟨by rw [show pz_coord n q f S s c 3 (g 2) (g 3) (g 5) (g 6) = S from by unfold pz_coord; rw [if_neg (by decide), if_pos rfl, if_neg (by omega)]]; exact h, rfl⟩
set_option maxHeartbeats 4000000 in
theorem k_hearVoted (l : Launch) (D : va_G) {n : Nat} (ad : Nat × Nat → Nat) (cI cZ cS cA : ClassId) {M : fr_M} {q f : Nat} {S : pz_T} {s c : Nat} {g : pz_M} (hn : n ≤ 5) (hq5 : q ≤ 5) (hf5 : f ≤ 5) (h : fr_R n q f S (fr_X S) M) (h60 : S.1.length ≤ 60) (Q : pz_Q n q f) (I : pz_IV n q f (S.2 s)) (hs : s < 3) (hc : c < 2) (hg : fr_row g (M (6, 0))) (hms : pz_MS n (S.2 s) g) (hk : g 0 = 5) : fb_C l D n ad cI cZ cS cA my_Cor_hearVoted mb_Cor_hearVoted 3 none 4 90 M [.ref (ad (9, 2 * s + c)), .ref (ad (6, 0))] (none) (fun M' => fr_R n q f (pz_coord n q f S s c 5 (g 2) (g 3) (g 5) (g 6)) (fr_X (pz_coord n q f S s c 5 (g 2) (g 3) (g 5) (g 6))) M' ∧ M' (6, 0) = M (6, 0)) := by
  obtain ⟨c1, c2, c3, c4, c5, c6, c7, c8⟩ := I.2.2.2.2.2.1 c hc
  obtain ⟨m1, m2, m3, m4, m5, m6⟩ : 1 ≤ g 2 ∧ g 2 ≤ 12 ∧ g 3 < n ∧ S.2 s 5 (g 2) (g 3) = g 5 ∧ g 5 ≠ 0 ∧ g 5 ≤ 1000 := by
    rcases hms with ⟨a, _⟩ | ⟨a, _⟩ | ⟨a, _⟩ | ⟨a, _⟩ | ⟨_, a, b, d, _, z, e, e'⟩
    · omega
    · omega
    · omega
    · omega
    · exact ⟨a, b, d, e, e', z⟩
  refine xw_start [.ref (ad (9, 2 * s + c)), .ref (ad (6, 0))] (by decide) (Nat.le_of_ble_eq_true rfl) ?_
  intro p e st m below meth cd0 ls Z hml hr hlk hN hl hw
  have hl : lv_has ls 3 [(0, .ref (ad (9, 2 * s + c))), (1, .ref (ad (6, 0)))] := hl
  refine lv_aload_n Z.1 Z.2.1 md_Cor_hearVoted_0 rfl (lv_at hl 1 rfl) ?_
  refine xb_get (v := .int (M (6, 0) 2)) Z hw (fb_in6 n) (fb_e6 n ad cI cZ cS cA) rfl tb_iMsg 2 (by decide) mk_Cor_77 rfl rfl md_Cor_hearVoted_1 ?_
  refine xi_re (show M (6, 0) 2 = nI (g 2) from hg.2.2.1) ?_
  refine lv_aload_n Z.1 Z.2.1 md_Cor_hearVoted_4 rfl (lv_at hl 0 rfl) ?_
  refine xb_get (v := .int (M (9, 2 * s + c) 3)) Z hw (fb_in9 n hs hc) (fb_e9 n ad cI cZ cS cA (2 * s + c)) rfl tb_iCor 3 (by decide) mk_Cor_39 rfl rfl md_Cor_hearVoted_5 ?_
  refine xi_re (show M (9, 2 * s + c) 3 = nI (S.2 s 8 c 0) from (fr_c h hs hc).2.1) ?_
  have l8 := c1
  refine xi_icmp_ne (tgt := 29) Z md_Cor_hearVoted_8 (by decide) (by omega) (by omega) (fun h8 => ?_) (fun h8 => ?_)
  · exact xw_vret Z hr hlk hw md_Cor_hearVoted_29 ⟨by rw [show pz_coord n q f S s c 5 (g 2) (g 3) (g 5) (g 6) = S from by unfold pz_coord; rw [if_neg (by decide), if_neg (by decide), if_neg (by omega)]]; exact h, rfl⟩
  · refine lv_aload_n Z.1 Z.2.1 md_Cor_hearVoted_11 rfl (lv_at hl 0 rfl) ?_
    refine xb_get (v := .int (M (9, 2 * s + c) 3)) Z hw (fb_in9 n hs hc) (fb_e9 n ad cI cZ cS cA (2 * s + c)) rfl tb_iCor 3 (by decide) mk_Cor_39 rfl rfl md_Cor_hearVoted_12 ?_
    refine xi_re (show M (9, 2 * s + c) 3 = nI (S.2 s 8 c 0) from (fr_c h hs hc).2.1) ?_
    refine xw_cN (n := 1) (rest := []) Z hml hl.1 hN hw (k_isFast l D ad cI cZ cS cA (M := M) (by omega)) tb_g mc_FB_isFast (host := "FastBallots") (List.mem_of_getElem? (i := 3) rfl) mt_FB_isFast mz_FB ⟨by decide, by decide, by decide +kernel⟩ ⟨Nat.le_of_ble_eq_true rfl, Nat.le_of_ble_eq_true rfl⟩ rfl rfl (Nat.le_of_ble_eq_true rfl) ⟨Nat.le_refl _, Nat.le_refl _⟩ md_Cor_hearVoted_15 (fun M1 H1 locs1 e1 hw => ?_)
    have ey1 := e1.symm
    subst ey1
    refine W.eq (g2 := F0 m 18 ls [.int (nI (S.2 s 8 c 0 % 2))]) rfl ?_
    refine xi_if_eq (tgt := 29) Z md_Cor_hearVoted_18 (by decide) (by omega) (fun h18 => ?_) (fun h18 => ?_)
    · exact xw_vret Z hr hlk hw md_Cor_hearVoted_29 ⟨by rw [show pz_coord n q f S s c 5 (g 2) (g 3) (g 5) (g 6) = S from by unfold pz_coord; rw [if_neg (by decide), if_neg (by decide), if_neg (by omega)]]; exact h, rfl⟩
    · refine lv_aload_n Z.1 Z.2.1 md_Cor_hearVoted_21 rfl (lv_at hl 0 rfl) ?_
      refine xb_get (v := .int (M (9, 2 * s + c) 4)) Z hw (fb_in9 n hs hc) (fb_e9 n ad cI cZ cS cA (2 * s + c)) rfl tb_iCor 4 (by decide) mk_Cor_42 rfl rfl md_Cor_hearVoted_22 ?_
      refine xi_re (show M (9, 2 * s + c) 4 = nI (S.2 s 9 c 0) from (fr_c h hs hc).2.2.1) ?_
      refine lv_iconst (v := nI 3) Z.1 Z.2.1 md_Cor_hearVoted_25 (by decide) ?_
      refine xi_icmp_eq (tgt := 30) Z md_Cor_hearVoted_26 (by decide) (by omega) (by omega) (fun h26 => ?_) (fun h26 => ?_)
      · have hx : ¬ fr_X S s c := by show ¬ S.2 s 9 c 0 = 2; omega
        obtain ⟨e1_, e2_⟩ := c4 (by omega)
        obtain ⟨d1, d2⟩ := c8 h26
        have hF : ∀ a, a < n → (pz_tll (S.2 s) c (g 3) (g 5) (g 2)) 11 c a ≠ 0 → (pz_tll (S.2 s) c (g 3) (g 5) (g 2)) 13 c a = g 2 ∧ S.2 s 5 (g 2) a = (pz_tll (S.2 s) c (g 3) (g 5) (g 2)) 12 c a ∧ (pz_tll (S.2 s) c (g 3) (g 5) (g 2)) 12 c a ≠ 0 := fun a ha t => by
          by_cases e : a = g 3
          · rw [e, pz_tll_12, pz_tll_13]; exact ⟨rfl, m4, m5⟩
          · rw [pz_tll_y e] at t
            rw [pz_tll_y e, pz_tll_y e, h8]; exact d2 a ha t
        have h11 : ∀ a, (pz_tll (S.2 s) c (g 3) (g 5) (g 2)) 11 c a ≤ 1 := pz_tll_le c5
        have hsame : S.2 s 11 c (g 3) ≠ 0 → S.2 s 11 c (g 3) = 1 ∧ S.2 s 12 c (g 3) = g 5 ∧ S.2 s 13 c (g 3) = g 2 := fun z => by
          obtain ⟨y1, y2, y3⟩ := d2 (g 3) m3 z
          rw [← h8] at y1 y2
          exact ⟨by have := c5 (g 3); omega, y2.symm.trans m4, y1⟩
        refine lv_aload_n Z.1 Z.2.1 md_Cor_hearVoted_30 rfl (lv_at hl 0 rfl) ?_
        refine lv_aload_n Z.1 Z.2.1 md_Cor_hearVoted_31 rfl (lv_at hl 1 rfl) ?_
        refine xb_get (v := .int (M (6, 0) 3)) Z hw (fb_in6 n) (fb_e6 n ad cI cZ cS cA) rfl tb_iMsg 3 (by decide) mk_Cor_80 rfl rfl md_Cor_hearVoted_32 ?_
        refine xi_re (show M (6, 0) 3 = nI (g 3) from hg.2.2.2.1 (by omega)) ?_
        refine lv_aload_n Z.1 Z.2.1 md_Cor_hearVoted_35 rfl (lv_at hl 1 rfl) ?_
        refine xb_get (v := .int (M (6, 0) 5)) Z hw (fb_in6 n) (fb_e6 n ad cI cZ cS cA) rfl tb_iMsg 5 (by decide) mk_Cor_57 rfl rfl md_Cor_hearVoted_36 ?_
        refine xi_re (show M (6, 0) 5 = nI (g 5) from hg.2.2.2.2.2.1) ?_
        refine lv_aload_n Z.1 Z.2.1 md_Cor_hearVoted_39 rfl (lv_at hl 1 rfl) ?_
        refine xb_get (v := .int (M (6, 0) 2)) Z hw (fb_in6 n) (fb_e6 n ad cI cZ cS cA) rfl tb_iMsg 2 (by decide) mk_Cor_77 rfl rfl md_Cor_hearVoted_40 ?_
        refine xi_re (show M (6, 0) 2 = nI (g 2) from hg.2.2.1) ?_
        refine xw_cV (n := 3) (rest := []) Z hml hl.1 hN hw (k_keep (a := g 3) (v := g 5) (k := g 2) l D ad cI cZ cS cA hn h hs hc hx m3 (c5 _) hsame) tb_g mc_Cor_keep mk_Cor_86 mi_Cor_keep ms_Cor_keep mz_Cor ⟨by decide, by decide, by decide +kernel⟩ ⟨Nat.le_of_ble_eq_true rfl, Nat.le_of_ble_eq_true rfl⟩ (fb_in9 n hs hc) (fb_e9 n ad cI cZ cS cA (2 * s + c) _) rfl rfl rfl rfl (Nat.le_of_ble_eq_true rfl) ⟨Nat.le_refl _, Nat.le_refl _⟩ md_Cor_hearVoted_43 (fun M2 H2 locs2 hk1 hw => ?_)
        refine W.eq (g2 := F0 m 46 ls []) rfl ?_
        have lt : pz_te n (pz_tll (S.2 s) c (g 3) (g 5) (g 2)) c ≤ n := pz_te_le (fun a _ => h11 a)
        have T1 : fr_TB n ((pz_pw S s (pz_tll (S.2 s) c (g 3) (g 5) (g 2))).2 s) c := fun a ha => by
          rw [pz_pw_s]
          refine ⟨h11 a, fun t => ?_⟩
          obtain ⟨f1, f2, f3⟩ := hF a ha t
          have := ((I.1 a ha).2.2.1 _ (by rw [f2]; exact f3)).2.2
          omega
        have e8 : (pz_pw S s (pz_tll (S.2 s) c (g 3) (g 5) (g 2))).2 s 8 c 0 = g 2 := by rw [pz_pw_s, pz_tll_k (by omega)]; exact h8.symm
        refine lv_aload_n Z.1 Z.2.1 md_Cor_hearVoted_46 rfl (lv_at hl 0 rfl) ?_
        refine xb_get (v := .int (M2 (9, 2 * s + c) 9)) Z hw (fb_in9 n hs hc) (fb_e9 n ad cI cZ cS cA (2 * s + c)) rfl tb_iCor 9 (by decide) mk_Cor_90 rfl rfl md_Cor_hearVoted_47 ?_
        refine xi_re (show M2 (9, 2 * s + c) 9 = nI (pz_te n (pz_tll (S.2 s) c (g 3) (g 5) (g 2)) c) from (by have z := (fr_t hk1.1 hs hc hx).1; rw [pz_pw_s] at z; exact z)) ?_
        refine lv_aload_n Z.1 Z.2.1 md_Cor_hearVoted_50 rfl (lv_at hl 0 rfl) ?_
        refine xb_get (v := .ref (ad (1, 0))) Z hw (fb_in9 n hs hc) (fb_e9 n ad cI cZ cS cA (2 * s + c)) rfl tb_iCor 1 (by decide) mk_Cor_15 rfl rfl md_Cor_hearVoted_51 ?_
        refine xb_get (v := .int (M2 (1, 0) 1)) Z hw (fb_in1 n) (fb_e1 n ad cI cZ cS cA) rfl tb_iSiz 1 (by decide) mk_Cor_93 rfl rfl md_Cor_hearVoted_54 ?_
        refine xi_re (show M2 (1, 0) 1 = nI (q) from hk1.1.1.2.1) ?_
        refine xi_icmp_lt (tgt := 91) Z md_Cor_hearVoted_57 (by decide) (by omega) (by omega) (fun h57 => ?_) (fun h57 => ?_)
        · refine xw_vret Z hr hlk hw md_Cor_hearVoted_91 ⟨?_, hk1.2⟩
          have eC : pz_coord n q f S s c 5 (g 2) (g 3) (g 5) (g 6) = pz_pw S s (pz_tll (S.2 s) c (g 3) (g 5) (g 2)) := by
            unfold pz_coord
            rw [if_neg (by decide), if_neg (by decide), if_pos ⟨rfl, h8.symm, by omega, h26⟩]
            unfold pz_rec
            rw [pz_pw_s, if_pos ?_]
            first | exact Or.inl (by omega) | (by_cases y : f + pz_te n (pz_tll (S.2 s) c (g 3) (g 5) (g 2)) c ≤ pz_be n (pz_tll (S.2 s) c (g 3) (g 5) (g 2)) c (g 2) + n; exact Or.inr y; rw [if_neg y] at h64; exact absurd rfl h64)
          rw [eC]
          exact fr_fin2 hk1.1 (fun s' c' _ _ => by
            by_cases e : s' = s
            · subst e; rw [pz_pw_s, pz_tll_k (by omega)]
            · show pz_w S.2 s _ s' 9 c' 0 = _
              rw [pz_w_n e])
        · refine lv_aload_n Z.1 Z.2.1 md_Cor_hearVoted_60 rfl (lv_at hl 0 rfl) ?_
          refine xw_cV (n := 0) (rest := []) Z hml hl.1 hN hw (k_canStill (S := pz_pw S s (pz_tll (S.2 s) c (g 3) (g 5) (g 2))) l D ad cI cZ cS cA hn hk1.1 hs hc hx T1 hf5 (by rw [e8]; omega)) tb_g mc_Cor_canStillBeChosen mk_Cor_107 mi_Cor_canStillBeChosen ms_Cor_canStillBeChosen mz_Cor ⟨by decide, by decide, by decide +kernel⟩ ⟨Nat.le_of_ble_eq_true rfl, Nat.le_of_ble_eq_true rfl⟩ (fb_in9 n hs hc) (fb_e9 n ad cI cZ cS cA (2 * s + c) _) rfl rfl rfl rfl (Nat.le_of_ble_eq_true rfl) ⟨Nat.le_refl _, Nat.le_refl _⟩ md_Cor_hearVoted_61 (fun M3 H3 locs3 e3 hw => ?_)
          have ey3 := e3.symm
          subst ey3
          refine W.eq (g2 := F0 m 64 ls [.int (nI (if f + pz_te n ((pz_pw S s (pz_tll (S.2 s) c (g 3) (g 5) (g 2))).2 s) c ≤ pz_mo n ((pz_pw S s (pz_tll (S.2 s) c (g 3) (g 5) (g 2))).2 s) c ((pz_pw S s (pz_tll (S.2 s) c (g 3) (g 5) (g 2))).2 s 8 c 0) + n then 1 else 0))]) rfl ?_
          refine xi_re (show _ = nI (if f + pz_te n (pz_tll (S.2 s) c (g 3) (g 5) (g 2)) c ≤ pz_be n (pz_tll (S.2 s) c (g 3) (g 5) (g 2)) c (g 2) + n then 1 else 0) from (by rw [e8, pz_pw_s, pz_mo_be (fun a ha t => (hF a ha t).1)])) ?_
          have lcb : (if f + pz_te n (pz_tll (S.2 s) c (g 3) (g 5) (g 2)) c ≤ pz_be n (pz_tll (S.2 s) c (g 3) (g 5) (g 2)) c (g 2) + n then 1 else 0) < 2 := by split <;> omega
          refine xi_if_ne (tgt := 91) Z md_Cor_hearVoted_64 (by decide) (by omega) (fun h64 => ?_) (fun h64 => ?_)
          · refine xw_vret Z hr hlk hw md_Cor_hearVoted_91 ⟨?_, hk1.2⟩
            have eC : pz_coord n q f S s c 5 (g 2) (g 3) (g 5) (g 6) = pz_pw S s (pz_tll (S.2 s) c (g 3) (g 5) (g 2)) := by
              unfold pz_coord
              rw [if_neg (by decide), if_neg (by decide), if_pos ⟨rfl, h8.symm, by omega, h26⟩]
              unfold pz_rec
              rw [pz_pw_s, if_pos ?_]
              first | exact Or.inl (by omega) | (by_cases y : f + pz_te n (pz_tll (S.2 s) c (g 3) (g 5) (g 2)) c ≤ pz_be n (pz_tll (S.2 s) c (g 3) (g 5) (g 2)) c (g 2) + n; exact Or.inr y; rw [if_neg y] at h64; exact absurd rfl h64)
            rw [eC]
            exact fr_fin2 hk1.1 (fun s' c' _ _ => by
              by_cases e : s' = s
              · subst e; rw [pz_pw_s, pz_tll_k (by omega)]
              · show pz_w S.2 s _ s' 9 c' 0 = _
                rw [pz_w_n e])
          · refine lv_aload_n Z.1 Z.2.1 md_Cor_hearVoted_67 rfl (lv_at hl 0 rfl) ?_
            refine lv_aload_n Z.1 Z.2.1 md_Cor_hearVoted_68 rfl (lv_at hl 0 rfl) ?_
            refine xb_get (v := .int (M2 (9, 2 * s + c) 3)) Z hw (fb_in9 n hs hc) (fb_e9 n ad cI cZ cS cA (2 * s + c)) rfl tb_iCor 3 (by decide) mk_Cor_39 rfl rfl md_Cor_hearVoted_69 ?_
            refine xi_re (show M2 (9, 2 * s + c) 3 = nI (g 2) from (by have z := (fr_c hk1.1 hs hc).2.1; rw [e8] at z; exact z)) ?_
            refine xw_cV (n := 1) (rest := []) Z hml hl.1 hN hw (k_leastIn (S := pz_pw S s (pz_tll (S.2 s) c (g 3) (g 5) (g 2))) (r := g 2) l D ad cI cZ cS cA hn hk1.1 hs hc hx T1 (by omega)) tb_g mc_Cor_leastIn mk_Cor_111 mi_Cor_leastIn ms_Cor_leastIn mz_Cor ⟨by decide, by decide, by decide +kernel⟩ ⟨Nat.le_of_ble_eq_true rfl, Nat.le_of_ble_eq_true rfl⟩ (fb_in9 n hs hc) (fb_e9 n ad cI cZ cS cA (2 * s + c) _) rfl rfl rfl rfl (Nat.le_of_ble_eq_true rfl) ⟨Nat.le_refl _, Nat.le_refl _⟩ md_Cor_hearVoted_72 (fun M4 H4 locs4 e4 hw => ?_)
            have ey4 := e4.symm
            subst ey4
            refine W.eq (g2 := F0 m 75 ls [.int (nI (pz_ls ((pz_pw S s (pz_tll (S.2 s) c (g 3) (g 5) (g 2))).2 s) c (g 2) n))]) rfl ?_
            refine xi_re (show _ = nI (pz_ls (pz_tll (S.2 s) c (g 3) (g 5) (g 2)) c (g 2) n) from (by rw [pz_pw_s])) ?_
            refine lv_istore_n Z.1 Z.2.1 md_Cor_hearVoted_75 rfl hl (by decide) rfl (fun ls hl => ?_)
            have hl : lv_has ls 3 [(2, .int (nI (pz_ls (pz_tll (S.2 s) c (g 3) (g 5) (g 2)) c (g 2) n))), (0, .ref (ad (9, 2 * s + c))), (1, .ref (ad (6, 0)))] := hl
            refine lv_aload_n Z.1 Z.2.1 md_Cor_hearVoted_76 rfl (lv_at hl 1 rfl) ?_
            refine lv_dup Z.1 Z.2.1 md_Cor_hearVoted_77 rfl ?_
            refine xb_get (v := .int (M2 (9, 2 * s + c) 3)) Z hw (fb_in9 n hs hc) (fb_e9 n ad cI cZ cS cA (2 * s + c)) rfl tb_iCor 3 (by decide) mk_Cor_39 rfl rfl md_Cor_hearVoted_78 ?_
            refine xi_re (show M2 (9, 2 * s + c) 3 = nI (g 2) from (by have z := (fr_c hk1.1 hs hc).2.1; rw [e8] at z; exact z)) ?_
            refine lv_iconst (v := nI 1) Z.1 Z.2.1 md_Cor_hearVoted_81 (by decide) ?_
            refine xi_add Z md_Cor_hearVoted_82 ?_
            refine xb_put Z hw (fb_in9 n hs hc) (fb_e9 n ad cI cZ cS cA (2 * s + c)) rfl tb_iCor tb_tCor tb_yCor tb_nCor 3 (by decide) mk_Cor_39 rfl rfl rfl (fb_s9_3 ad (2 * s + c) _) md_Cor_hearVoted_83 (fun M5 H5 locs5 e5 hw => ?_)
            have h2c : M5 (9, 2 * s + c) = upd (M2 (9, 2 * s + c)) 3 (nI (g 2 + 1)) := by rw [e5, xw_mw_s]
            have h2m : ∀ k, k ≠ (9, 2 * s + c) → M5 k = M2 k := fun k hk => by rw [e5, xw_mw_n hk]
            have h2 : fr_R n q f (pz_pw (pz_pw S s (pz_tll (S.2 s) c (g 3) (g 5) (g 2))) s (pz_u ((pz_pw S s (pz_tll (S.2 s) c (g 3) (g 5) (g 2))).2 s) 8 c 0 (g 2 + 1))) (fr_X S) M5 := by
              have k := fr_c hk1.1 hs hc
              refine fr_cor hk1.1 hs hc h2m (fun _ _ y => y) (fun k x y hk => by simp only [pz_u]; repeat rw [if_neg (fun y => by omega)]) (fun k d hd h8 h10 => by simp only [pz_u]; repeat rw [if_neg (fun y => by omega)]) ?_ ?_
              · rw [h2c]
                refine ⟨?_, ?_, ?_, ?_⟩ <;> (simp only [upd, pz_u]; try simp) <;> first | exact k.1 | exact k.2.1 | exact k.2.2.1 | exact k.2.2.2
              · rw [h2c]; simp [upd]
            have h2r : fr_R n q f (pz_pw S s (pz_u (pz_tll (S.2 s) c (g 3) (g 5) (g 2)) 8 c 0 (g 2 + 1))) (fr_X S) M5 := by
              have z := h2
              rw [pz_pw_s, pz_pw_pw] at z
              exact z
            refine lv_aload_n Z.1 Z.2.1 md_Cor_hearVoted_86 rfl (lv_at hl 1 rfl) ?_
            refine lv_iload_n Z.1 Z.2.1 md_Cor_hearVoted_87 rfl (lv_at hl 0 rfl) ?_
            refine xw_cV (n := 1) (rest := []) Z hml hl.1 hN hw (k_startVoting (S := pz_pw S s (pz_u (pz_tll (S.2 s) c (g 3) (g 5) (g 2)) 8 c 0 (g 2 + 1))) (v := pz_ls (pz_tll (S.2 s) c (g 3) (g 5) (g 2)) c (g 2) n) l D ad cI cZ cS cA hn h2r hs hc h60) tb_g mc_Cor_startVoting mk_Cor_74 mi_Cor_startVoting ms_Cor_startVoting mz_Cor ⟨by decide, by decide, by decide +kernel⟩ ⟨Nat.le_of_ble_eq_true rfl, Nat.le_of_ble_eq_true rfl⟩ (fb_in9 n hs hc) (fb_e9 n ad cI cZ cS cA (2 * s + c) _) rfl rfl rfl rfl (Nat.le_of_ble_eq_true rfl) ⟨Nat.le_refl _, Nat.le_refl _⟩ md_Cor_hearVoted_88 (fun M6 H6 locs6 hv2 hw => ?_)
            refine W.eq (g2 := F0 m 91 ls []) rfl ?_
            refine xw_vret Z hr hlk hw md_Cor_hearVoted_91 ⟨?_, by rw [hv2.2, h2m _ (fr_pair (by decide)), hk1.2]⟩
            have ncb : ¬ (f + pz_te n (pz_tll (S.2 s) c (g 3) (g 5) (g 2)) c ≤ pz_be n (pz_tll (S.2 s) c (g 3) (g 5) (g 2)) c (g 2) + n) := fun y => by rw [if_pos y] at h64; exact absurd h64 (by decide)
            have eC : pz_coord n q f S s c 5 (g 2) (g 3) (g 5) (g 6) = pz_vf n (pz_pw S s (pz_ld (pz_tll (S.2 s) c (g 3) (g 5) (g 2)) c (g 2 + 1) 3)) s c (pz_ls (pz_tll (S.2 s) c (g 3) (g 5) (g 2)) c (g 2) n) := by
              unfold pz_coord
              rw [if_neg (by decide), if_neg (by decide), if_pos ⟨rfl, h8.symm, by omega, h26⟩]
              unfold pz_rec
              rw [pz_pw_s, if_neg (by omega), pz_pw_pw]
            rw [eC]
            have z := fr_svf (b' := (pz_vf n (pz_pw S s (pz_ld (pz_tll (S.2 s) c (g 3) (g 5) (g 2)) c (g 2 + 1) 3)) s c (pz_ls (pz_tll (S.2 s) c (g 3) (g 5) (g 2)) c (g 2) n)).2 s 9 c 0 = 2) (p2 := pz_ld (pz_tll (S.2 s) c (g 3) (g 5) (g 2)) c (g 2 + 1) 3) hv2.1 (fun y => y) (fun k x y hk => ?_) (by rw [pz_pw_s, pz_ld_8, pz_u_s])
            · rw [pz_pw_pw] at z
              exact fr_fin z (fun s' c' hs' _ hne => by rw [pz_vf_9 hs' hne]; exact pz_w9 hne (fun d hd => by rw [pz_ld_x hd, pz_tll_x hd]))
            · rw [pz_pw_s]
              by_cases z9 : k = 9 ∧ x = c ∧ y = 0
              · exact Or.inl z9
              · refine Or.inr ?_
                unfold pz_ld pz_cl
                by_cases h8_ : x = c ∧ k = 8 ∧ y = 0
                · rw [if_pos h8_, if_neg (fun w => by omega), h8_.1, h8_.2.1, h8_.2.2, pz_u_s]
                · rw [if_neg h8_, if_neg (fun w => z9 ⟨w.2.1, w.1, w.2.2⟩)]
                  by_cases h11_ : x = c ∧ k = 11
                  · rw [if_pos h11_, if_pos ⟨h11_.2, h11_.1⟩]
                  · rw [if_neg h11_, if_neg (fun w => h11_ ⟨w.2, w.1⟩)]
                    unfold pz_u
                    rw [if_neg (fun w => h8_ ⟨w.2.1, w.1, w.2.2⟩)]
      · exact xw_vret Z hr hlk hw md_Cor_hearVoted_29 ⟨by rw [show pz_coord n q f S s c 5 (g 2) (g 3) (g 5) (g 6) = S from by unfold pz_coord; rw [if_neg (by decide), if_neg (by decide), if_neg (by omega)]]; exact h, rfl⟩
set_option maxHeartbeats 4000000 in
theorem k_Chear1 (l : Launch) (D : va_G) {n : Nat} (ad : Nat × Nat → Nat) (cI cZ cS cA : ClassId) {M : fr_M} {q f : Nat} {S : pz_T} {s c : Nat} {g : pz_M} (hn : n ≤ 5) (hq5 : q ≤ 5) (hf5 : f ≤ 5) (h : fr_R n q f S (fr_X S) M) (h60 : S.1.length ≤ 60) (Q : pz_Q n q f) (I : pz_IV n q f (S.2 s)) (hs : s < 3) (hc : c < 2) (hg : fr_row g (M (6, 0))) (hms : pz_MS n (S.2 s) g) (hk : g 0 = 1) (hv : g 5 < 2 ^ 31) : fb_C l D n ad cI cZ cS cA my_Cor_hear mb_Cor_hear 2 none 4 93 M [.ref (ad (9, 2 * s + c)), .ref (ad (6, 0))] (none) (fun M' => fr_R n q f (pz_coord n q f S s c (g 0) (g 2) (g 3) (g 5) (g 6)) (fr_X (pz_coord n q f S s c (g 0) (g 2) (g 3) (g 5) (g 6))) M' ∧ M' (6, 0) = M (6, 0)) := by
  refine xw_start [.ref (ad (9, 2 * s + c)), .ref (ad (6, 0))] (by decide) (Nat.le_of_ble_eq_true rfl) ?_
  intro p e st m below meth cd0 ls Z hml hr hlk hN hl hw
  have hl : lv_has ls 2 [(0, .ref (ad (9, 2 * s + c))), (1, .ref (ad (6, 0)))] := hl
  refine lv_aload_n Z.1 Z.2.1 md_Cor_hear_0 rfl (lv_at hl 1 rfl) ?_
  refine xb_get (v := .int (M (6, 0) 0)) Z hw (fb_in6 n) (fb_e6 n ad cI cZ cS cA) rfl tb_iMsg 0 (by decide) mk_Cor_52 rfl rfl md_Cor_hear_1 ?_
  refine xi_re (show M (6, 0) 0 = nI (1) from (by rw [hg.1, hk])) ?_
  refine lv_tableIn (tgt := 40) Z.1 Z.2.1 md_Cor_hear_4 (by decide) (by decide) rfl (by decide) ?_
  refine lv_aload_n Z.1 Z.2.1 md_Cor_hear_40 rfl (lv_at hl 0 rfl) ?_
  refine lv_aload_n Z.1 Z.2.1 md_Cor_hear_41 rfl (lv_at hl 1 rfl) ?_
  refine xb_get (v := .int (M (6, 0) 5)) Z hw (fb_in6 n) (fb_e6 n ad cI cZ cS cA) rfl tb_iMsg 5 (by decide) mk_Cor_57 rfl rfl md_Cor_hear_42 ?_
  refine xi_re (show M (6, 0) 5 = nI (g 5) from hg.2.2.2.2.2.1) ?_
  refine xw_cV (n := 1) (rest := []) Z hml hl.1 hN hw (k_ChearProposal (v := g 5) (r := g 2) (fr := g 3) (o := g 6) l D ad cI cZ cS cA hn hq5 hf5 h h60 Q I hs hc hv) tb_g mc_Cor_hearProposal mk_Cor_60 mi_Cor_hearProposal ms_Cor_hearProposal mz_Cor ⟨by decide, by decide, by decide +kernel⟩ ⟨Nat.le_of_ble_eq_true rfl, Nat.le_of_ble_eq_true rfl⟩ (fb_in9 n hs hc) (fb_e9 n ad cI cZ cS cA (2 * s + c) _) rfl rfl rfl rfl (Nat.le_of_ble_eq_true rfl) ⟨Nat.le_refl _, Nat.le_refl _⟩ md_Cor_hear_45 (fun M1 H1 locs1 h9 hw => ?_)
  refine W.eq (g2 := F0 m 48 ls []) rfl ?_
  refine lv_goto (tgt := 67) Z.1 Z.2.1 md_Cor_hear_48 (by decide) ?_
  exact xw_vret Z hr hlk hw md_Cor_hear_67 (by rw [hk]; exact h9)
set_option maxHeartbeats 4000000 in
theorem k_Chear3 (l : Launch) (D : va_G) {n : Nat} (ad : Nat × Nat → Nat) (cI cZ cS cA : ClassId) {M : fr_M} {q f : Nat} {S : pz_T} {s c : Nat} {g : pz_M} (hn : n ≤ 5) (hq5 : q ≤ 5) (hf5 : f ≤ 5) (h : fr_R n q f S (fr_X S) M) (h60 : S.1.length ≤ 60) (Q : pz_Q n q f) (I : pz_IV n q f (S.2 s)) (hs : s < 3) (hc : c < 2) (hg : fr_row g (M (6, 0))) (hms : pz_MS n (S.2 s) g) (hk : g 0 = 3) : fb_C l D n ad cI cZ cS cA my_Cor_hear mb_Cor_hear 2 none 5 114 M [.ref (ad (9, 2 * s + c)), .ref (ad (6, 0))] (none) (fun M' => fr_R n q f (pz_coord n q f S s c (g 0) (g 2) (g 3) (g 5) (g 6)) (fr_X (pz_coord n q f S s c (g 0) (g 2) (g 3) (g 5) (g 6))) M' ∧ M' (6, 0) = M (6, 0)) := by
  refine xw_start [.ref (ad (9, 2 * s + c)), .ref (ad (6, 0))] (by decide) (Nat.le_of_ble_eq_true rfl) ?_
  intro p e st m below meth cd0 ls Z hml hr hlk hN hl hw
  have hl : lv_has ls 2 [(0, .ref (ad (9, 2 * s + c))), (1, .ref (ad (6, 0)))] := hl
  refine lv_aload_n Z.1 Z.2.1 md_Cor_hear_0 rfl (lv_at hl 1 rfl) ?_
  refine xb_get (v := .int (M (6, 0) 0)) Z hw (fb_in6 n) (fb_e6 n ad cI cZ cS cA) rfl tb_iMsg 0 (by decide) mk_Cor_52 rfl rfl md_Cor_hear_1 ?_
  refine xi_re (show M (6, 0) 0 = nI (3) from (by rw [hg.1, hk])) ?_
  refine lv_tableIn (tgt := 51) Z.1 Z.2.1 md_Cor_hear_4 (by decide) (by decide) rfl (by decide) ?_
  refine lv_aload_n Z.1 Z.2.1 md_Cor_hear_51 rfl (lv_at hl 0 rfl) ?_
  refine lv_aload_n Z.1 Z.2.1 md_Cor_hear_52 rfl (lv_at hl 1 rfl) ?_
  refine xw_cV (n := 1) (rest := []) Z hml hl.1 hN hw (k_hearPromise l D ad cI cZ cS cA hn hq5 hf5 h h60 Q I hs hc hg hms hk) tb_g mc_Cor_hearPromise mk_Cor_64 mi_Cor_hearPromise ms_Cor_hearPromise mz_Cor ⟨by decide, by decide, by decide +kernel⟩ ⟨Nat.le_of_ble_eq_true rfl, Nat.le_of_ble_eq_true rfl⟩ (fb_in9 n hs hc) (fb_e9 n ad cI cZ cS cA (2 * s + c) _) rfl rfl rfl rfl (Nat.le_of_ble_eq_true rfl) ⟨Nat.le_refl _, Nat.le_refl _⟩ md_Cor_hear_53 (fun M1 H1 locs1 h9 hw => ?_)
  refine W.eq (g2 := F0 m 56 ls []) rfl ?_
  refine lv_goto (tgt := 67) Z.1 Z.2.1 md_Cor_hear_56 (by decide) ?_
  exact xw_vret Z hr hlk hw md_Cor_hear_67 (by rw [hk]; exact h9)
set_option maxHeartbeats 4000000 in
theorem k_Chear5 (l : Launch) (D : va_G) {n : Nat} (ad : Nat × Nat → Nat) (cI cZ cS cA : ClassId) {M : fr_M} {q f : Nat} {S : pz_T} {s c : Nat} {g : pz_M} (hn : n ≤ 5) (hq5 : q ≤ 5) (hf5 : f ≤ 5) (h : fr_R n q f S (fr_X S) M) (h60 : S.1.length ≤ 60) (Q : pz_Q n q f) (I : pz_IV n q f (S.2 s)) (hs : s < 3) (hc : c < 2) (hg : fr_row g (M (6, 0))) (hms : pz_MS n (S.2 s) g) (hk : g 0 = 5) : fb_C l D n ad cI cZ cS cA my_Cor_hear mb_Cor_hear 2 none 5 112 M [.ref (ad (9, 2 * s + c)), .ref (ad (6, 0))] (none) (fun M' => fr_R n q f (pz_coord n q f S s c (g 0) (g 2) (g 3) (g 5) (g 6)) (fr_X (pz_coord n q f S s c (g 0) (g 2) (g 3) (g 5) (g 6))) M' ∧ M' (6, 0) = M (6, 0)) := by
  refine xw_start [.ref (ad (9, 2 * s + c)), .ref (ad (6, 0))] (by decide) (Nat.le_of_ble_eq_true rfl) ?_
  intro p e st m below meth cd0 ls Z hml hr hlk hN hl hw
  have hl : lv_has ls 2 [(0, .ref (ad (9, 2 * s + c))), (1, .ref (ad (6, 0)))] := hl
  refine lv_aload_n Z.1 Z.2.1 md_Cor_hear_0 rfl (lv_at hl 1 rfl) ?_
  refine xb_get (v := .int (M (6, 0) 0)) Z hw (fb_in6 n) (fb_e6 n ad cI cZ cS cA) rfl tb_iMsg 0 (by decide) mk_Cor_52 rfl rfl md_Cor_hear_1 ?_
  refine xi_re (show M (6, 0) 0 = nI (5) from (by rw [hg.1, hk])) ?_
  refine lv_tableIn (tgt := 59) Z.1 Z.2.1 md_Cor_hear_4 (by decide) (by decide) rfl (by decide) ?_
  refine lv_aload_n Z.1 Z.2.1 md_Cor_hear_59 rfl (lv_at hl 0 rfl) ?_
  refine lv_aload_n Z.1 Z.2.1 md_Cor_hear_60 rfl (lv_at hl 1 rfl) ?_
  refine xw_cV (n := 1) (rest := []) Z hml hl.1 hN hw (k_hearVoted l D ad cI cZ cS cA hn hq5 hf5 h h60 Q I hs hc hg hms hk) tb_g mc_Cor_hearVoted mk_Cor_68 mi_Cor_hearVoted ms_Cor_hearVoted mz_Cor ⟨by decide, by decide, by decide +kernel⟩ ⟨Nat.le_of_ble_eq_true rfl, Nat.le_of_ble_eq_true rfl⟩ (fb_in9 n hs hc) (fb_e9 n ad cI cZ cS cA (2 * s + c) _) rfl rfl rfl rfl (Nat.le_of_ble_eq_true rfl) ⟨Nat.le_refl _, Nat.le_refl _⟩ md_Cor_hear_61 (fun M1 H1 locs1 h9 hw => ?_)
  refine W.eq (g2 := F0 m 64 ls []) rfl ?_
  refine lv_goto (tgt := 67) Z.1 Z.2.1 md_Cor_hear_64 (by decide) ?_
  exact xw_vret Z hr hlk hw md_Cor_hear_67 (by rw [hk]; exact h9)
set_option maxHeartbeats 4000000 in
theorem k_coord0 (l : Launch) (D : va_G) {n : Nat} (ad : Nat × Nat → Nat) (cI cZ cS cA : ClassId) {M : fr_M} {s : Nat} (hs : s < 3) : fb_C l D n ad cI cZ cS cA my_Slt_coordinator mb_Slt_coordinator 2 (some (.object "FastBallots$Coordinator")) 0 0 M [.ref (ad (7, s)), .int (nI (8))] (some (.ref (ad (9, 2 * s + 0)))) (fun M' => M' = M) := by
  refine xw_start [.ref (ad (7, s)), .int (nI (8))] (by decide) (Nat.le_of_ble_eq_true rfl) ?_
  intro p e st m below meth cd0 ls Z hml hr hlk hN hl hw
  have hl : lv_has ls 2 [(0, .ref (ad (7, s))), (1, .int (nI (8)))] := hl
  refine lv_iload_n Z.1 Z.2.1 md_Slt_coordinator_0 rfl (lv_at hl 1 rfl) ?_
  refine lv_bipush (v := nI 8) Z.1 Z.2.1 md_Slt_coordinator_1 (by decide) ?_
  refine xi_icmp_ne (tgt := 13) Z md_Slt_coordinator_3 (by decide) (by omega) (by omega) (fun h3 => by exfalso; omega) (fun h3 => ?_)
  refine lv_aload_n Z.1 Z.2.1 md_Slt_coordinator_6 rfl (lv_at hl 0 rfl) ?_
  refine xb_get (v := .ref (ad (9, 2 * s + 0))) Z hw (fb_in7 n hs) (fb_e7 n ad cI cZ cS cA (s)) rfl tb_iSlt 1 (by decide) mk_Slt_28 rfl rfl md_Slt_coordinator_7 ?_
  refine lv_goto (tgt := 17) Z.1 Z.2.1 md_Slt_coordinator_10 (by decide) ?_
  exact xw_aret Z hr hlk hw md_Slt_coordinator_17 rfl
set_option maxHeartbeats 4000000 in
theorem k_coord1 (l : Launch) (D : va_G) {n : Nat} (ad : Nat × Nat → Nat) (cI cZ cS cA : ClassId) {M : fr_M} {s : Nat} (hs : s < 3) : fb_C l D n ad cI cZ cS cA my_Slt_coordinator mb_Slt_coordinator 2 (some (.object "FastBallots$Coordinator")) 0 0 M [.ref (ad (7, s)), .int (nI (9))] (some (.ref (ad (9, 2 * s + 1)))) (fun M' => M' = M) := by
  refine xw_start [.ref (ad (7, s)), .int (nI (9))] (by decide) (Nat.le_of_ble_eq_true rfl) ?_
  intro p e st m below meth cd0 ls Z hml hr hlk hN hl hw
  have hl : lv_has ls 2 [(0, .ref (ad (7, s))), (1, .int (nI (9)))] := hl
  refine lv_iload_n Z.1 Z.2.1 md_Slt_coordinator_0 rfl (lv_at hl 1 rfl) ?_
  refine lv_bipush (v := nI 8) Z.1 Z.2.1 md_Slt_coordinator_1 (by decide) ?_
  refine xi_icmp_ne (tgt := 13) Z md_Slt_coordinator_3 (by decide) (by omega) (by omega) (fun h3 => ?_) (fun h3 => by exfalso; omega)
  refine lv_aload_n Z.1 Z.2.1 md_Slt_coordinator_13 rfl (lv_at hl 0 rfl) ?_
  refine xb_get (v := .ref (ad (9, 2 * s + 1))) Z hw (fb_in7 n hs) (fb_e7 n ad cI cZ cS cA (s)) rfl tb_iSlt 2 (by decide) mk_Slt_32 rfl rfl md_Slt_coordinator_14 ?_
  exact xw_aret Z hr hlk hw md_Slt_coordinator_17 rfl
theorem k_coordinator (l : Launch) (D : va_G) {n : Nat} (ad : Nat × Nat → Nat) (cI cZ cS cA : ClassId) {M : fr_M} {s c : Nat} (hs : s < 3) (hc : c < 2) : fb_C l D n ad cI cZ cS cA my_Slt_coordinator mb_Slt_coordinator 2 (some (.object "FastBallots$Coordinator")) 0 0 M [.ref (ad (7, s)), .int (nI (8 + c))] (some (.ref (ad (9, 2 * s + c)))) (fun M' => M' = M) := by
  obtain rfl | rfl : c = 0 ∨ c = 1 := by omega
  · exact k_coord0 l D ad cI cZ cS cA hs
  · exact k_coord1 l D ad cI cZ cS cA hs
