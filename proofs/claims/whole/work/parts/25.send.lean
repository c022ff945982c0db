/-! The coordinators: what they keep, forget and send. -/
theorem md_Cor_keep_0 : decode mb_Cor_keep 0 = .ok (.aload_n 0, 1) := by decide +kernel
theorem md_Cor_keep_1 : decode mb_Cor_keep 1 = .ok (.getfield 28, 3) := by decide +kernel
theorem md_Cor_keep_4 : decode mb_Cor_keep 4 = .ok (.iload_n 1, 1) := by decide +kernel
theorem md_Cor_keep_5 : decode mb_Cor_keep 5 = .ok (.baload, 1) := by decide +kernel
theorem md_Cor_keep_6 : decode mb_Cor_keep 6 = .ok (.ifCond .eq 4, 3) := by decide +kernel
theorem md_Cor_keep_9 : decode mb_Cor_keep 9 = .ok (.return_, 1) := by decide +kernel
theorem md_Cor_keep_10 : decode mb_Cor_keep 10 = .ok (.aload_n 0, 1) := by decide +kernel
theorem md_Cor_keep_11 : decode mb_Cor_keep 11 = .ok (.getfield 28, 3) := by decide +kernel
theorem md_Cor_keep_14 : decode mb_Cor_keep 14 = .ok (.iload_n 1, 1) := by decide +kernel
theorem md_Cor_keep_15 : decode mb_Cor_keep 15 = .ok (.iconst 1, 1) := by decide +kernel
theorem md_Cor_keep_16 : decode mb_Cor_keep 16 = .ok (.bastore, 1) := by decide +kernel
theorem md_Cor_keep_17 : decode mb_Cor_keep 17 = .ok (.aload_n 0, 1) := by decide +kernel
theorem md_Cor_keep_18 : decode mb_Cor_keep 18 = .ok (.dup, 1) := by decide +kernel
theorem md_Cor_keep_19 : decode mb_Cor_keep 19 = .ok (.getfield 90, 3) := by decide +kernel
theorem md_Cor_keep_22 : decode mb_Cor_keep 22 = .ok (.iconst 1, 1) := by decide +kernel
theorem md_Cor_keep_23 : decode mb_Cor_keep 23 = .ok (.iadd, 1) := by decide +kernel
theorem md_Cor_keep_24 : decode mb_Cor_keep 24 = .ok (.putfield 90, 3) := by decide +kernel
theorem md_Cor_keep_27 : decode mb_Cor_keep 27 = .ok (.aload_n 0, 1) := by decide +kernel
theorem md_Cor_keep_28 : decode mb_Cor_keep 28 = .ok (.getfield 32, 3) := by decide +kernel
theorem md_Cor_keep_31 : decode mb_Cor_keep 31 = .ok (.iload_n 1, 1) := by decide +kernel
theorem md_Cor_keep_32 : decode mb_Cor_keep 32 = .ok (.iload_n 2, 1) := by decide +kernel
theorem md_Cor_keep_33 : decode mb_Cor_keep 33 = .ok (.iastore, 1) := by decide +kernel
theorem md_Cor_keep_34 : decode mb_Cor_keep 34 = .ok (.aload_n 0, 1) := by decide +kernel
theorem md_Cor_keep_35 : decode mb_Cor_keep 35 = .ok (.getfield 36, 3) := by decide +kernel
theorem md_Cor_keep_38 : decode mb_Cor_keep 38 = .ok (.iload_n 1, 1) := by decide +kernel
theorem md_Cor_keep_39 : decode mb_Cor_keep 39 = .ok (.iload_n 3, 1) := by decide +kernel
theorem md_Cor_keep_40 : decode mb_Cor_keep 40 = .ok (.iastore, 1) := by decide +kernel
theorem md_Cor_keep_41 : decode mb_Cor_keep 41 = .ok (.return_, 1) := by decide +kernel
theorem md_Cor_forget_0 : decode mb_Cor_forget 0 = .ok (.aload_n 0, 1) := by decide +kernel
theorem md_Cor_forget_1 : decode mb_Cor_forget 1 = .ok (.iconst 0, 1) := by decide +kernel
theorem md_Cor_forget_2 : decode mb_Cor_forget 2 = .ok (.putfield 90, 3) := by decide +kernel
theorem md_Cor_forget_5 : decode mb_Cor_forget 5 = .ok (.iconst 0, 1) := by decide +kernel
theorem md_Cor_forget_6 : decode mb_Cor_forget 6 = .ok (.istore_n 1, 1) := by decide +kernel
theorem md_Cor_forget_7 : decode mb_Cor_forget 7 = .ok (.iload_n 1, 1) := by decide +kernel
theorem md_Cor_forget_8 : decode mb_Cor_forget 8 = .ok (.aload_n 0, 1) := by decide +kernel
theorem md_Cor_forget_9 : decode mb_Cor_forget 9 = .ok (.getfield 15, 3) := by decide +kernel
theorem md_Cor_forget_12 : decode mb_Cor_forget 12 = .ok (.getfield 23, 3) := by decide +kernel
theorem md_Cor_forget_15 : decode mb_Cor_forget 15 = .ok (.if_icmp .ge 16, 3) := by decide +kernel
theorem md_Cor_forget_18 : decode mb_Cor_forget 18 = .ok (.aload_n 0, 1) := by decide +kernel
theorem md_Cor_forget_19 : decode mb_Cor_forget 19 = .ok (.getfield 28, 3) := by decide +kernel
theorem md_Cor_forget_22 : decode mb_Cor_forget 22 = .ok (.iload_n 1, 1) := by decide +kernel
theorem md_Cor_forget_23 : decode mb_Cor_forget 23 = .ok (.iconst 0, 1) := by decide +kernel
theorem md_Cor_forget_24 : decode mb_Cor_forget 24 = .ok (.bastore, 1) := by decide +kernel
theorem md_Cor_forget_25 : decode mb_Cor_forget 25 = .ok (.iinc 1 1, 3) := by decide +kernel
theorem md_Cor_forget_28 : decode mb_Cor_forget 28 = .ok (.goto (-21), 3) := by decide +kernel
theorem md_Cor_forget_31 : decode mb_Cor_forget 31 = .ok (.return_, 1) := by decide +kernel
theorem md_Cor_sendToAll_0 : decode mb_Cor_sendToAll 0 = .ok (.iconst 0, 1) := by decide +kernel
theorem md_Cor_sendToAll_1 : decode mb_Cor_sendToAll 1 = .ok (.istore_n 3, 1) := by decide +kernel
theorem md_Cor_sendToAll_2 : decode mb_Cor_sendToAll 2 = .ok (.iload_n 3, 1) := by decide +kernel
theorem md_Cor_sendToAll_3 : decode mb_Cor_sendToAll 3 = .ok (.aload_n 0, 1) := by decide +kernel
theorem md_Cor_sendToAll_4 : decode mb_Cor_sendToAll 4 = .ok (.getfield 15, 3) := by decide +kernel
theorem md_Cor_sendToAll_7 : decode mb_Cor_sendToAll 7 = .ok (.getfield 23, 3) := by decide +kernel
theorem md_Cor_sendToAll_10 : decode mb_Cor_sendToAll 10 = .ok (.if_icmp .ge 29, 3) := by decide +kernel
theorem md_Cor_sendToAll_13 : decode mb_Cor_sendToAll 13 = .ok (.aload_n 0, 1) := by decide +kernel
theorem md_Cor_sendToAll_14 : decode mb_Cor_sendToAll 14 = .ok (.getfield 19, 3) := by decide +kernel
theorem md_Cor_sendToAll_17 : decode mb_Cor_sendToAll 17 = .ok (.iload_n 1, 1) := by decide +kernel
theorem md_Cor_sendToAll_18 : decode mb_Cor_sendToAll 18 = .ok (.aload_n 0, 1) := by decide +kernel
theorem md_Cor_sendToAll_19 : decode mb_Cor_sendToAll 19 = .ok (.getfield 9, 3) := by decide +kernel
theorem md_Cor_sendToAll_22 : decode mb_Cor_sendToAll 22 = .ok (.aload_n 0, 1) := by decide +kernel
theorem md_Cor_sendToAll_23 : decode mb_Cor_sendToAll 23 = .ok (.getfield 39, 3) := by decide +kernel
theorem md_Cor_sendToAll_26 : decode mb_Cor_sendToAll 26 = .ok (.iconst (-1), 1) := by decide +kernel
theorem md_Cor_sendToAll_27 : decode mb_Cor_sendToAll 27 = .ok (.iload_n 3, 1) := by decide +kernel
theorem md_Cor_sendToAll_28 : decode mb_Cor_sendToAll 28 = .ok (.iload_n 2, 1) := by decide +kernel
theorem md_Cor_sendToAll_29 : decode mb_Cor_sendToAll 29 = .ok (.iconst 0, 1) := by decide +kernel
theorem md_Cor_sendToAll_30 : decode mb_Cor_sendToAll 30 = .ok (.invokevirtual 140, 3) := by decide +kernel
theorem md_Cor_sendToAll_33 : decode mb_Cor_sendToAll 33 = .ok (.iinc 3 1, 3) := by decide +kernel
theorem md_Cor_sendToAll_36 : decode mb_Cor_sendToAll 36 = .ok (.goto (-34), 3) := by decide +kernel
theorem md_Cor_sendToAll_39 : decode mb_Cor_sendToAll 39 = .ok (.return_, 1) := by decide +kernel
theorem md_Cor_startAsking_0 : decode mb_Cor_startAsking 0 = .ok (.aload_n 0, 1) := by decide +kernel
theorem md_Cor_startAsking_1 : decode mb_Cor_startAsking 1 = .ok (.iload_n 1, 1) := by decide +kernel
theorem md_Cor_startAsking_2 : decode mb_Cor_startAsking 2 = .ok (.putfield 39, 3) := by decide +kernel
theorem md_Cor_startAsking_5 : decode mb_Cor_startAsking 5 = .ok (.aload_n 0, 1) := by decide +kernel
theorem md_Cor_startAsking_6 : decode mb_Cor_startAsking 6 = .ok (.iconst 1, 1) := by decide +kernel
theorem md_Cor_startAsking_7 : decode mb_Cor_startAsking 7 = .ok (.putfield 42, 3) := by decide +kernel
theorem md_Cor_startAsking_10 : decode mb_Cor_startAsking 10 = .ok (.aload_n 0, 1) := by decide +kernel
theorem md_Cor_startAsking_11 : decode mb_Cor_startAsking 11 = .ok (.invokevirtual 45, 3) := by decide +kernel
theorem md_Cor_startAsking_14 : decode mb_Cor_startAsking 14 = .ok (.aload_n 0, 1) := by decide +kernel
theorem md_Cor_startAsking_15 : decode mb_Cor_startAsking 15 = .ok (.iconst 2, 1) := by decide +kernel
theorem md_Cor_startAsking_16 : decode mb_Cor_startAsking 16 = .ok (.iconst 0, 1) := by decide +kernel
theorem md_Cor_startAsking_17 : decode mb_Cor_startAsking 17 = .ok (.invokevirtual 48, 3) := by decide +kernel
theorem md_Cor_startAsking_20 : decode mb_Cor_startAsking 20 = .ok (.return_, 1) := by decide +kernel
theorem md_Cor_startVoting_0 : decode mb_Cor_startVoting 0 = .ok (.aload_n 0, 1) := by decide +kernel
theorem md_Cor_startVoting_1 : decode mb_Cor_startVoting 1 = .ok (.iconst 3, 1) := by decide +kernel
theorem md_Cor_startVoting_2 : decode mb_Cor_startVoting 2 = .ok (.putfield 42, 3) := by decide +kernel
theorem md_Cor_startVoting_5 : decode mb_Cor_startVoting 5 = .ok (.aload_n 0, 1) := by decide +kernel
theorem md_Cor_startVoting_6 : decode mb_Cor_startVoting 6 = .ok (.invokevirtual 45, 3) := by decide +kernel
theorem md_Cor_startVoting_9 : decode mb_Cor_startVoting 9 = .ok (.aload_n 0, 1) := by decide +kernel
theorem md_Cor_startVoting_10 : decode mb_Cor_startVoting 10 = .ok (.iconst 4, 1) := by decide +kernel
theorem md_Cor_startVoting_11 : decode mb_Cor_startVoting 11 = .ok (.iload_n 1, 1) := by decide +kernel
theorem md_Cor_startVoting_12 : decode mb_Cor_startVoting 12 = .ok (.invokevirtual 48, 3) := by decide +kernel
theorem md_Cor_startVoting_15 : decode mb_Cor_startVoting 15 = .ok (.return_, 1) := by decide +kernel
theorem md_Cor_goOnWith_0 : decode mb_Cor_goOnWith 0 = .ok (.iload_n 1, 1) := by decide +kernel
theorem md_Cor_goOnWith_1 : decode mb_Cor_goOnWith 1 = .ok (.ifCond .eq 11, 3) := by decide +kernel
theorem md_Cor_goOnWith_4 : decode mb_Cor_goOnWith 4 = .ok (.aload_n 0, 1) := by decide +kernel
theorem md_Cor_goOnWith_5 : decode mb_Cor_goOnWith 5 = .ok (.iload_n 1, 1) := by decide +kernel
theorem md_Cor_goOnWith_6 : decode mb_Cor_goOnWith 6 = .ok (.invokevirtual 74, 3) := by decide +kernel
theorem md_Cor_goOnWith_9 : decode mb_Cor_goOnWith 9 = .ok (.goto 44, 3) := by decide +kernel
theorem md_Cor_goOnWith_12 : decode mb_Cor_goOnWith 12 = .ok (.aload_n 0, 1) := by decide +kernel
theorem md_Cor_goOnWith_13 : decode mb_Cor_goOnWith 13 = .ok (.getfield 39, 3) := by decide +kernel
theorem md_Cor_goOnWith_16 : decode mb_Cor_goOnWith 16 = .ok (.invokestatic 103, 3) := by decide +kernel
theorem md_Cor_goOnWith_19 : decode mb_Cor_goOnWith 19 = .ok (.ifCond .eq 11, 3) := by decide +kernel
theorem md_Cor_goOnWith_22 : decode mb_Cor_goOnWith 22 = .ok (.aload_n 0, 1) := by decide +kernel
theorem md_Cor_goOnWith_23 : decode mb_Cor_goOnWith 23 = .ok (.iconst 0, 1) := by decide +kernel
theorem md_Cor_goOnWith_24 : decode mb_Cor_goOnWith 24 = .ok (.invokevirtual 74, 3) := by decide +kernel
theorem md_Cor_goOnWith_27 : decode mb_Cor_goOnWith 27 = .ok (.goto 26, 3) := by decide +kernel
theorem md_Cor_goOnWith_30 : decode mb_Cor_goOnWith 30 = .ok (.aload_n 0, 1) := by decide +kernel
theorem md_Cor_goOnWith_31 : decode mb_Cor_goOnWith 31 = .ok (.getfield 71, 3) := by decide +kernel
theorem md_Cor_goOnWith_34 : decode mb_Cor_goOnWith 34 = .ok (.ifCond .eq 14, 3) := by decide +kernel
theorem md_Cor_goOnWith_37 : decode mb_Cor_goOnWith 37 = .ok (.aload_n 0, 1) := by decide +kernel
theorem md_Cor_goOnWith_38 : decode mb_Cor_goOnWith 38 = .ok (.aload_n 0, 1) := by decide +kernel
theorem md_Cor_goOnWith_39 : decode mb_Cor_goOnWith 39 = .ok (.getfield 71, 3) := by decide +kernel
theorem md_Cor_goOnWith_42 : decode mb_Cor_goOnWith 42 = .ok (.invokevirtual 74, 3) := by decide +kernel
theorem md_Cor_goOnWith_45 : decode mb_Cor_goOnWith 45 = .ok (.goto 8, 3) := by decide +kernel
theorem md_Cor_goOnWith_48 : decode mb_Cor_goOnWith 48 = .ok (.aload_n 0, 1) := by decide +kernel
theorem md_Cor_goOnWith_49 : decode mb_Cor_goOnWith 49 = .ok (.iconst 2, 1) := by decide +kernel
theorem md_Cor_goOnWith_50 : decode mb_Cor_goOnWith 50 = .ok (.putfield 42, 3) := by decide +kernel
theorem md_Cor_goOnWith_53 : decode mb_Cor_goOnWith 53 = .ok (.return_, 1) := by decide +kernel
theorem pz_tll_id {p : pz_P} {c a v k : Nat} (h1 : p 11 c a = 1) (h2 : p 12 c a = v) (h3 : p 13 c a = k) : pz_tll p c a v k = p := by
  unfold pz_tll
  have e1 : pz_u p 11 c a 1 = p := by rw [← h1]; exact pz_u_id p 11 c a
  rw [e1]
  have e2 : pz_u p 12 c a v = p := by rw [← h2]; exact pz_u_id p 12 c a
  rw [e2, ← h3]
  exact pz_u_id p 13 c a
theorem pz_pw_id (S : pz_T) (s : Nat) : pz_pw S s (S.2 s) = S := by
  refine Prod.ext rfl ?_
  funext z
  show pz_w S.2 s (S.2 s) z = S.2 z
  unfold pz_w
  split
  · rename_i h; rw [h]
  · rfl
def fr_xs (ex : Nat → Nat → Prop) (s c : Nat) (b : Prop) : Nat → Nat → Prop := fun s' c' => (s' = s ∧ c' = c ∧ b) ∨ (¬ (s' = s ∧ c' = c) ∧ ex s' c')
theorem fr_xs_off {ex : Nat → Nat → Prop} {s c s' c' : Nat} {b : Prop} (h : ¬ (s' = s ∧ c' = c)) (hx : ¬ fr_xs ex s c b s' c') : ¬ ex s' c' := fun y => hx (Or.inr ⟨h, y⟩)
theorem fr_xs_w {n q f : Nat} {S : pz_T} {ex : Nat → Nat → Prop} {s c : Nat} {b : Prop} {M : fr_M} (h : fr_R n q f S (fr_xs ex s c False) M) : fr_R n q f S (fr_xs ex s c b) M := fr_ex h (fun s' c' _ _ hx y => by
  rcases y with y | y
  · exact y.2.2
  · exact hx (Or.inr y))
theorem fr_xs_t {n q f : Nat} {S : pz_T} {ex : Nat → Nat → Prop} {s c : Nat} {b : Prop} {M : fr_M} (h : fr_R n q f S ex M) (hb : b) : fr_R n q f S (fr_xs ex s c b) M := fr_ex h (fun s' c' _ _ hx => by
  by_cases z : s' = s ∧ c' = c
  · exact absurd (Or.inl ⟨z.1, z.2, hb⟩) hx
  · exact fr_xs_off z hx)
theorem pz_cl_ld (p : pz_P) (c r : Nat) : pz_cl (pz_u (pz_u p 8 c 0 r) 9 c 0 1) c = pz_ld p c r 1 := by
  funext k x y
  unfold pz_cl pz_ld pz_u
  by_cases h11 : k = 11 ∧ x = c
  · rw [if_pos h11, if_neg (fun z => by omega), if_neg (fun z => by omega), if_pos ⟨h11.2, h11.1⟩]
  · rw [if_neg h11]
    by_cases h8 : k = 8 ∧ x = c ∧ y = 0
    · rw [if_neg (fun z => by omega), if_pos h8, if_pos ⟨h8.2.1, h8.1, h8.2.2⟩]
    · by_cases h9 : k = 9 ∧ x = c ∧ y = 0
      · rw [if_pos h9, if_neg (fun z => by omega), if_pos ⟨h9.2.1, h9.1, h9.2.2⟩]
      · rw [if_neg h9, if_neg h8, if_neg (fun z => h8 ⟨z.2.1, z.1, z.2.2⟩), if_neg (fun z => h9 ⟨z.2.1, z.1, z.2.2⟩), if_neg (fun z => h11 ⟨z.2, z.1⟩)]
set_option maxHeartbeats 4000000 in
theorem k_keep (l : Launch) (D : va_G) {n : Nat} (ad : Nat × Nat → Nat) (cI cZ cS cA : ClassId) {M : fr_M} {q f : Nat} {S : pz_T} {ex : Nat → Nat → Prop} {s c : Nat} (hn : n ≤ 5) (h : fr_R n q f S ex M) (hs : s < 3) (hc : c < 2) {a v k : Nat} (hx : ¬ ex s c) (ha : a < n) (t1 : S.2 s 11 c a ≤ 1) (hsame : S.2 s 11 c a ≠ 0 → S.2 s 11 c a = 1 ∧ S.2 s 12 c a = v ∧ S.2 s 13 c a = k) : fb_C l D n ad cI cZ cS cA my_Cor_keep mb_Cor_keep 4 none 0 0 M [.ref (ad (9, 2 * s + c)), .int (nI (a)), .int (nI (v)), .int (nI (k))] (none) (fr_K n q f (pz_pw S s (pz_tll (S.2 s) c a v k)) ex M) := by
  refine xw_start [.ref (ad (9, 2 * s + c)), .int (nI (a)), .int (nI (v)), .int (nI (k))] (by decide) (Nat.le_of_ble_eq_true rfl) ?_
  intro p e st m below meth cd0 ls Z hml hr hlk hN hl hw
  have hl : lv_has ls 4 [(0, .ref (ad (9, 2 * s + c))), (1, .int (nI (a))), (2, .int (nI (v))), (3, .int (nI (k)))] := hl
  refine lv_aload_n Z.1 Z.2.1 md_Cor_keep_0 rfl (lv_at hl 0 rfl) ?_
  refine xb_get (v := .ref (ad (10, 2 * s + c))) Z hw (fb_in9 n hs hc) (fb_e9 n ad cI cZ cS cA (2 * s + c)) rfl tb_iCor 6 (by decide) mk_Cor_28 rfl rfl md_Cor_keep_1 ?_
  refine lv_iload_n Z.1 Z.2.1 md_Cor_keep_4 rfl (lv_at hl 1 rfl) ?_
  refine xw_zald Z hw (fb_in10 n hs hc) (fb_e10 n ad cI cZ cS cA (2 * s + c)) 1 rfl (a) rfl ha (by omega) md_Cor_keep_5 ?_
  refine xi_re (show M (10, 2 * s + c) (a) = nI (S.2 s 11 c a) from ((fr_t h hs hc hx).2 a ha).1) ?_
  refine xi_if_eq (tgt := 10) Z md_Cor_keep_6 (by decide) (by omega) (fun h6 => ?_) (fun h6 => ?_)
  · refine lv_aload_n Z.1 Z.2.1 md_Cor_keep_10 rfl (lv_at hl 0 rfl) ?_
    refine xb_get (v := .ref (ad (10, 2 * s + c))) Z hw (fb_in9 n hs hc) (fb_e9 n ad cI cZ cS cA (2 * s + c)) rfl tb_iCor 6 (by decide) mk_Cor_28 rfl rfl md_Cor_keep_11 ?_
    refine lv_iload_n Z.1 Z.2.1 md_Cor_keep_14 rfl (lv_at hl 1 rfl) ?_
    refine lv_iconst (v := nI 1) Z.1 Z.2.1 md_Cor_keep_15 (by decide) ?_
    refine xb_zast Z hw (fb_in10 n hs hc) (fb_e10 n ad cI cZ cS cA (2 * s + c)) 1 rfl xi_z1 (a) rfl ha (by omega) md_Cor_keep_16 (fun M1 H1 locs1 e1 hw => ?_)
    refine lv_aload_n Z.1 Z.2.1 md_Cor_keep_17 rfl (lv_at hl 0 rfl) ?_
    refine lv_dup Z.1 Z.2.1 md_Cor_keep_18 rfl ?_
    refine xb_get (v := .int (M1 (9, 2 * s + c) 9)) Z hw (fb_in9 n hs hc) (fb_e9 n ad cI cZ cS cA (2 * s + c)) rfl tb_iCor 9 (by decide) mk_Cor_90 rfl rfl md_Cor_keep_19 ?_
    refine xi_re (show M1 (9, 2 * s + c) 9 = nI (pz_te n (S.2 s) c) from (by rw [e1, xw_mw_n (fr_pair (by decide))]; exact (fr_t h hs hc hx).1)) ?_
    refine lv_iconst (v := nI 1) Z.1 Z.2.1 md_Cor_keep_22 (by decide) ?_
    refine xi_add Z md_Cor_keep_23 ?_
    refine xb_put Z hw (fb_in9 n hs hc) (fb_e9 n ad cI cZ cS cA (2 * s + c)) rfl tb_iCor tb_tCor tb_yCor tb_nCor 9 (by decide) mk_Cor_90 rfl rfl rfl (fb_s9_9 ad (2 * s + c) _) md_Cor_keep_24 (fun M2 H2 locs2 e2 hw => ?_)
    refine lv_aload_n Z.1 Z.2.1 md_Cor_keep_27 rfl (lv_at hl 0 rfl) ?_
    refine xb_get (v := .ref (ad (11, 2 * s + c))) Z hw (fb_in9 n hs hc) (fb_e9 n ad cI cZ cS cA (2 * s + c)) rfl tb_iCor 7 (by decide) mk_Cor_32 rfl rfl md_Cor_keep_28 ?_
    refine lv_iload_n Z.1 Z.2.1 md_Cor_keep_31 rfl (lv_at hl 1 rfl) ?_
    refine lv_iload_n Z.1 Z.2.1 md_Cor_keep_32 rfl (lv_at hl 2 rfl) ?_
    refine xb_iast Z hw (fb_in11 n hs hc) (fb_e11 n ad cI cZ cS cA (2 * s + c)) 0 rfl (a) rfl ha (by omega) md_Cor_keep_33 (fun M3 H3 locs3 e3 hw => ?_)
    refine lv_aload_n Z.1 Z.2.1 md_Cor_keep_34 rfl (lv_at hl 0 rfl) ?_
    refine xb_get (v := .ref (ad (12, 2 * s + c))) Z hw (fb_in9 n hs hc) (fb_e9 n ad cI cZ cS cA (2 * s + c)) rfl tb_iCor 8 (by decide) mk_Cor_36 rfl rfl md_Cor_keep_35 ?_
    refine lv_iload_n Z.1 Z.2.1 md_Cor_keep_38 rfl (lv_at hl 1 rfl) ?_
    refine lv_iload_n Z.1 Z.2.1 md_Cor_keep_39 rfl (lv_at hl 3 rfl) ?_
    refine xb_iast Z hw (fb_in12 n hs hc) (fb_e12 n ad cI cZ cS cA (2 * s + c)) 0 rfl (a) rfl ha (by omega) md_Cor_keep_40 (fun M4 H4 locs4 e4 hw => ?_)
    have m4 : ∀ z, z ≠ (9, 2 * s + c) → z ≠ (10, 2 * s + c) → z ≠ (11, 2 * s + c) → z ≠ (12, 2 * s + c) → M4 z = M z := fun z h9 h10 h11 h12 => by rw [e4, xw_mw_n h12, e3, xw_mw_n h11, e2, xw_mw_n h9, e1, xw_mw_n h10]
    have k9 : M4 (9, 2 * s + c) = upd (M (9, 2 * s + c)) 9 (nI (pz_te n (S.2 s) c + 1)) := by rw [e4, xw_mw_n (fr_pair (by decide)), e3, xw_mw_n (fr_pair (by decide)), e2, xw_mw_s, e1, xw_mw_n (fr_pair (by decide))]
    have k10 : M4 (10, 2 * s + c) = upd (M (10, 2 * s + c)) a (nI 1) := by rw [e4, xw_mw_n (fr_pair (by decide)), e3, xw_mw_n (fr_pair (by decide)), e2, xw_mw_n (fr_pair (by decide)), e1, xw_mw_s]
    have k11 : M4 (11, 2 * s + c) = upd (M (11, 2 * s + c)) a (nI v) := by rw [e4, xw_mw_n (fr_pair (by decide)), e3, xw_mw_s, e2, xw_mw_n (fr_pair (by decide)), e1, xw_mw_n (fr_pair (by decide))]
    have k12 : M4 (12, 2 * s + c) = upd (M (12, 2 * s + c)) a (nI k) := by rw [e4, xw_mw_s, e3, xw_mw_n (fr_pair (by decide)), e2, xw_mw_n (fr_pair (by decide)), e1, xw_mw_n (fr_pair (by decide))]
    refine xw_vret Z hr hlk hw md_Cor_keep_41 ⟨fr_tol h hs hc m4 (fun j hj => by rw [k9]; simp [upd, hj]) (fun _ _ _ y => y) (fun k x y hk => pz_tll_k hk) (fun k d b hd => pz_tll_x hd) (fun hx => ⟨?_, fun b hb => ?_⟩), m4 _ (fr_pair (by decide)) (fr_pair (by decide)) (fr_pair (by decide)) (fr_pair (by decide))⟩
    · rw [k9]; simp only [upd]; rw [if_pos trivial]; exact congrArg nI (pz_te_tll (n := n) h6 n ha).symm
    · rw [k10, k11, k12]
      unfold upd
      by_cases e : b = a
      · subst e
        rw [if_pos rfl, if_pos rfl, if_pos rfl, pz_tll_11, pz_tll_12, pz_tll_13]
        exact ⟨rfl, fun _ => ⟨rfl, rfl⟩⟩
      · rw [if_neg e, if_neg e, if_neg e, pz_tll_y e, pz_tll_y e, pz_tll_y e]
        exact (fr_t h hs hc hx).2 b hb
  · exact xw_vret Z hr hlk hw md_Cor_keep_9 ⟨by rw [pz_tll_id (hsame h6).1 (hsame h6).2.1 (hsame h6).2.2, pz_pw_id]; exact h, rfl⟩
set_option maxHeartbeats 4000000 in
theorem k_forget (l : Launch) (D : va_G) {n : Nat} (ad : Nat × Nat → Nat) (cI cZ cS cA : ClassId) {M : fr_M} {q f : Nat} {S : pz_T} {ex : Nat → Nat → Prop} {s c : Nat} (hn : n ≤ 5) (h : fr_R n q f S ex M) (hs : s < 3) (hc : c < 2) : fb_C l D n ad cI cZ cS cA my_Cor_forget mb_Cor_forget 2 none 0 0 M [.ref (ad (9, 2 * s + c))] (none) (fr_K n q f (pz_pw S s (pz_cl (S.2 s) c)) (fr_xs ex s c False) M) := by
  refine xw_start [.ref (ad (9, 2 * s + c))] (by decide) (Nat.le_of_ble_eq_true rfl) ?_
  intro p e st m below meth cd0 ls Z hml hr hlk hN hl hw
  have hl : lv_has ls 2 [(0, .ref (ad (9, 2 * s + c)))] := hl
  refine lv_aload_n Z.1 Z.2.1 md_Cor_forget_0 rfl (lv_at hl 0 rfl) ?_
  refine lv_iconst (v := nI 0) Z.1 Z.2.1 md_Cor_forget_1 (by decide) ?_
  refine xb_put Z hw (fb_in9 n hs hc) (fb_e9 n ad cI cZ cS cA (2 * s + c)) rfl tb_iCor tb_tCor tb_yCor tb_nCor 9 (by decide) mk_Cor_90 rfl rfl rfl (fb_s9_9 ad (2 * s + c) _) md_Cor_forget_2 (fun M1 H1 locs1 e1 hw => ?_)
  refine lv_iconst (v := nI 0) Z.1 Z.2.1 md_Cor_forget_5 (by decide) ?_
  refine lv_istore_n Z.1 Z.2.1 md_Cor_forget_6 rfl hl (by decide) rfl (fun ls hl => ?_)
  have hl : lv_has ls 2 [(1, .int (nI (0))), (0, .ref (ad (9, 2 * s + c)))] := hl
  have loop7 : ∀ (d i : Nat) (Mi : fr_M) (Hi : Heap) (Li : List Loc) (ls : Array Slot), i + d = n → ((∀ k, k ≠ (10, 2 * s + c) → Mi k = M1 k) ∧ ∀ j, j < i → Mi (10, 2 * s + c) j = nI 0) → xw_H D tb_cl (xw_A (fb_ids n) ad) st.heap (fb_ids n) ad (xw_M (fb_k n ad cI cZ cS cA) Mi) Hi Li → lv_has ls 2 [(1, .int (nI (i))), (0, .ref (ad (9, 2 * s + c)))] → W p l e { frames := 0, cells := 0, slots := 0, locals := 0 } st m [.ref (ad (9, 2 * s + c))].toArray below meth cd0 Hi Li 0 0 (MQ below (xw_Qc D tb_cl (fb_ids n) ad (fb_k n ad cI cZ cS cA) (none) (fr_K n q f (pz_pw S s (pz_cl (S.2 s) c)) (fr_xs ex s c False) M)) [.ref (ad (9, 2 * s + c))].toArray st 0 0 (xw_A (fb_ids n) ad)) (F0 m 7 ls []) := by
    intro d
    induction d with
    | zero =>
      intro i Mi Hi Li ls hi hinv hw hl
      refine lv_iload_n Z.1 Z.2.1 md_Cor_forget_7 rfl (lv_at hl 0 rfl) ?_
      refine lv_aload_n Z.1 Z.2.1 md_Cor_forget_8 rfl (lv_at hl 1 rfl) ?_
      refine xb_get (v := .ref (ad (1, 0))) Z hw (fb_in9 n hs hc) (fb_e9 n ad cI cZ cS cA (2 * s + c)) rfl tb_iCor 1 (by decide) mk_Cor_15 rfl rfl md_Cor_forget_9 ?_
      refine xb_get (v := .int (Mi (1, 0) 0)) Z hw (fb_in1 n) (fb_e1 n ad cI cZ cS cA) rfl tb_iSiz 0 (by decide) mk_Cor_23 rfl rfl md_Cor_forget_12 ?_
      refine xi_re (show Mi (1, 0) 0 = nI (n) from (by rw [hinv.1 _ (fr_pair (by decide)), e1, xw_mw_n (fr_pair (by decide))]; exact h.1.1)) ?_
      refine xi_icmp_ge (tgt := 31) Z md_Cor_forget_15 (by decide) (by omega) (by omega) (fun h15 => ?_) (fun h15 => by exfalso; omega)
      refine xw_vret Z hr hlk hw md_Cor_forget_31 ⟨fr_tol h hs hc (fun z h9 h10 _ _ => by rw [hinv.1 z h10, e1, xw_mw_n h9]) (fun j hj => by rw [hinv.1 _ (fr_pair (by decide)), e1, xw_mw_s]; simp [upd, hj]) (fun s' c' y hy => fr_xs_off y hy) (fun k x y hk => by unfold pz_cl; rw [if_neg (fun z => hk.1 z.1)]) (fun k d b hd => by unfold pz_cl; rw [if_neg (fun z => hd z.2)]) (fun _ => ⟨?_, fun b hb => ?_⟩), by rw [hinv.1 _ (fr_pair (by decide)), e1, xw_mw_n (fr_pair (by decide))]⟩
      · rw [hinv.1 _ (fr_pair (by decide)), e1, xw_mw_s]
        simp only [upd]
        rw [if_pos trivial]
        exact congrArg nI (pz_sm_zero n (fun a _ => by unfold pz_cl; rw [if_pos ⟨rfl, rfl⟩])).symm
      · have z0 : pz_cl (S.2 s) c 11 c b = 0 := by unfold pz_cl; rw [if_pos ⟨rfl, rfl⟩]
        rw [z0]
        exact ⟨hinv.2 b (by omega), fun y => absurd rfl y⟩
    | succ d ih =>
      intro i Mi Hi Li ls hi hinv hw hl
      refine lv_iload_n Z.1 Z.2.1 md_Cor_forget_7 rfl (lv_at hl 0 rfl) ?_
      refine lv_aload_n Z.1 Z.2.1 md_Cor_forget_8 rfl (lv_at hl 1 rfl) ?_
      refine xb_get (v := .ref (ad (1, 0))) Z hw (fb_in9 n hs hc) (fb_e9 n ad cI cZ cS cA (2 * s + c)) rfl tb_iCor 1 (by decide) mk_Cor_15 rfl rfl md_Cor_forget_9 ?_
      refine xb_get (v := .int (Mi (1, 0) 0)) Z hw (fb_in1 n) (fb_e1 n ad cI cZ cS cA) rfl tb_iSiz 0 (by decide) mk_Cor_23 rfl rfl md_Cor_forget_12 ?_
      refine xi_re (show Mi (1, 0) 0 = nI (n) from (by rw [hinv.1 _ (fr_pair (by decide)), e1, xw_mw_n (fr_pair (by decide))]; exact h.1.1)) ?_
      refine xi_icmp_ge (tgt := 31) Z md_Cor_forget_15 (by decide) (by omega) (by omega) (fun h15 => by exfalso; omega) (fun h15 => ?_)
      refine lv_aload_n Z.1 Z.2.1 md_Cor_forget_18 rfl (lv_at hl 1 rfl) ?_
      refine xb_get (v := .ref (ad (10, 2 * s + c))) Z hw (fb_in9 n hs hc) (fb_e9 n ad cI cZ cS cA (2 * s + c)) rfl tb_iCor 6 (by decide) mk_Cor_28 rfl rfl md_Cor_forget_19 ?_
      refine lv_iload_n Z.1 Z.2.1 md_Cor_forget_22 rfl (lv_at hl 0 rfl) ?_
      refine lv_iconst (v := nI 0) Z.1 Z.2.1 md_Cor_forget_23 (by decide) ?_
      refine xb_zast Z hw (fb_in10 n hs hc) (fb_e10 n ad cI cZ cS cA (2 * s + c)) 1 rfl xi_z0 (i) rfl (by omega) (by omega) md_Cor_forget_24 (fun M2 H2 locs2 e2 hw => ?_)
      refine lv_iinc Z.1 Z.2.1 md_Cor_forget_25 hl (k := 0) rfl (xi_inc1 (i)) (by decide) rfl (fun ls hl => ?_)
      have hl : lv_has ls 2 [(1, .int (nI (i + 1))), (0, .ref (ad (9, 2 * s + c)))] := hl
      refine lv_goto (tgt := 7) Z.1 Z.2.1 md_Cor_forget_28 (by decide) ?_
      have eq_ := e2
      refine ih (i + 1) M2 _ _ ls (by omega) (⟨fun k hk => by rw [eq_, xw_mw_n hk]; exact hinv.1 k hk, fun j hj => by rw [eq_, xw_mw_s]; unfold upd; split; rfl; exact hinv.2 j (by omega)⟩) hw ?_
      exact lv_sub hl [0, 1] rfl
  exact loop7 n (0) M1 _ _ ls (by omega) ⟨fun _ _ => rfl, fun j hj => absurd hj (Nat.not_lt_zero j)⟩ hw (lv_sub hl [0, 1] rfl)
set_option maxHeartbeats 4000000 in
theorem k_sendToAll (l : Launch) (D : va_G) {n : Nat} (ad : Nat × Nat → Nat) (cI cZ cS cA : ClassId) {M : fr_M} {q f : Nat} {S : pz_T} {ex : Nat → Nat → Prop} {s c : Nat} (hn : n ≤ 5) (h : fr_R n q f S ex M) (hs : s < 3) (hc : c < 2) {kd v : Nat} (h60 : S.1.length ≤ 60) (hk3 : kd ≠ 3) (hk5 : kd ≠ 5) : fb_C l D n ad cI cZ cS cA my_Cor_sendToAll mb_Cor_sendToAll 4 none 1 28 M [.ref (ad (9, 2 * s + c)), .int (nI (kd)), .int (nI (v))] (none) (fr_K n q f (pz_sa kd s (S.2 s 8 c 0) v n S) ex M) := by
  refine xw_start [.ref (ad (9, 2 * s + c)), .int (nI (kd)), .int (nI (v))] (by decide) (Nat.le_of_ble_eq_true rfl) ?_
  intro p e st m below meth cd0 ls Z hml hr hlk hN hl hw
  have hl : lv_has ls 4 [(0, .ref (ad (9, 2 * s + c))), (1, .int (nI (kd))), (2, .int (nI (v)))] := hl
  refine lv_iconst (v := nI 0) Z.1 Z.2.1 md_Cor_sendToAll_0 (by decide) ?_
  refine lv_istore_n Z.1 Z.2.1 md_Cor_sendToAll_1 rfl hl (by decide) rfl (fun ls hl => ?_)
  have hl : lv_has ls 4 [(3, .int (nI (0))), (0, .ref (ad (9, 2 * s + c))), (1, .int (nI (kd))), (2, .int (nI (v)))] := hl
  have loop2 : ∀ (d i : Nat) (Mi : fr_M) (Hi : Heap) (Li : List Loc) (ls : Array Slot), i + d = n → (fr_K n q f (pz_sa kd s (S.2 s 8 c 0) v i S) ex M Mi) → xw_H D tb_cl (xw_A (fb_ids n) ad) st.heap (fb_ids n) ad (xw_M (fb_k n ad cI cZ cS cA) Mi) Hi Li → lv_has ls 4 [(3, .int (nI (i))), (0, .ref (ad (9, 2 * s + c))), (1, .int (nI (kd))), (2, .int (nI (v)))] → W p l e { frames := 1, cells := 0, slots := 0, locals := 28 } st m [.ref (ad (9, 2 * s + c)), .int (nI (kd)), .int (nI (v))].toArray below meth cd0 Hi Li 0 0 (MQ below (xw_Qc D tb_cl (fb_ids n) ad (fb_k n ad cI cZ cS cA) (none) (fr_K n q f (pz_sa kd s (S.2 s 8 c 0) v n S) ex M)) [.ref (ad (9, 2 * s + c)), .int (nI (kd)), .int (nI (v))].toArray st 0 0 (xw_A (fb_ids n) ad)) (F0 m 2 ls []) := by
    intro d
    induction d with
    | zero =>
      intro i Mi Hi Li ls hi hinv hw hl
      refine lv_iload_n Z.1 Z.2.1 md_Cor_sendToAll_2 rfl (lv_at hl 0 rfl) ?_
      refine lv_aload_n Z.1 Z.2.1 md_Cor_sendToAll_3 rfl (lv_at hl 1 rfl) ?_
      refine xb_get (v := .ref (ad (1, 0))) Z hw (fb_in9 n hs hc) (fb_e9 n ad cI cZ cS cA (2 * s + c)) rfl tb_iCor 1 (by decide) mk_Cor_15 rfl rfl md_Cor_sendToAll_4 ?_
      refine xb_get (v := .int (Mi (1, 0) 0)) Z hw (fb_in1 n) (fb_e1 n ad cI cZ cS cA) rfl tb_iSiz 0 (by decide) mk_Cor_23 rfl rfl md_Cor_sendToAll_7 ?_
      refine xi_re (show Mi (1, 0) 0 = nI (n) from hinv.1.1.1) ?_
      refine xi_icmp_ge (tgt := 39) Z md_Cor_sendToAll_10 (by decide) (by omega) (by omega) (fun h10 => ?_) (fun h10 => by exfalso; omega)
      exact xw_vret Z hr hlk hw md_Cor_sendToAll_39 (by rw [show i = n by omega] at hinv; exact hinv)
    | succ d ih =>
      intro i Mi Hi Li ls hi hinv hw hl
      refine lv_iload_n Z.1 Z.2.1 md_Cor_sendToAll_2 rfl (lv_at hl 0 rfl) ?_
      refine lv_aload_n Z.1 Z.2.1 md_Cor_sendToAll_3 rfl (lv_at hl 1 rfl) ?_
      refine xb_get (v := .ref (ad (1, 0))) Z hw (fb_in9 n hs hc) (fb_e9 n ad cI cZ cS cA (2 * s + c)) rfl tb_iCor 1 (by decide) mk_Cor_15 rfl rfl md_Cor_sendToAll_4 ?_
      refine xb_get (v := .int (Mi (1, 0) 0)) Z hw (fb_in1 n) (fb_e1 n ad cI cZ cS cA) rfl tb_iSiz 0 (by decide) mk_Cor_23 rfl rfl md_Cor_sendToAll_7 ?_
      refine xi_re (show Mi (1, 0) 0 = nI (n) from hinv.1.1.1) ?_
      refine xi_icmp_ge (tgt := 39) Z md_Cor_sendToAll_10 (by decide) (by omega) (by omega) (fun h10 => by exfalso; omega) (fun h10 => ?_)
      refine lv_aload_n Z.1 Z.2.1 md_Cor_sendToAll_13 rfl (lv_at hl 1 rfl) ?_
      refine xb_get (v := .ref (ad (2, 0))) Z hw (fb_in9 n hs hc) (fb_e9 n ad cI cZ cS cA (2 * s + c)) rfl tb_iCor 2 (by decide) mk_Cor_19 rfl rfl md_Cor_sendToAll_14 ?_
      refine lv_iload_n Z.1 Z.2.1 md_Cor_sendToAll_17 rfl (lv_at hl 2 rfl) ?_
      refine lv_aload_n Z.1 Z.2.1 md_Cor_sendToAll_18 rfl (lv_at hl 1 rfl) ?_
      refine xb_get (v := .int (Mi (9, 2 * s + c) 0)) Z hw (fb_in9 n hs hc) (fb_e9 n ad cI cZ cS cA (2 * s + c)) rfl tb_iCor 0 (by decide) mk_Cor_9 rfl rfl md_Cor_sendToAll_19 ?_
      refine xi_re (show Mi (9, 2 * s + c) 0 = nI (s) from (fr_c hinv.1 hs hc).1) ?_
      refine lv_aload_n Z.1 Z.2.1 md_Cor_sendToAll_22 rfl (lv_at hl 1 rfl) ?_
      refine xb_get (v := .int (Mi (9, 2 * s + c) 3)) Z hw (fb_in9 n hs hc) (fb_e9 n ad cI cZ cS cA (2 * s + c)) rfl tb_iCor 3 (by decide) mk_Cor_39 rfl rfl md_Cor_sendToAll_23 ?_
      refine xi_re (show Mi (9, 2 * s + c) 3 = nI (S.2 s 8 c 0) from (by have z := (fr_c hinv.1 hs hc).2.1; rw [pz_sa_2 _ _ _ _ _ hs] at z; exact z)) ?_
      refine lv_iconst (v := -1) Z.1 Z.2.1 md_Cor_sendToAll_26 (by decide) ?_
      refine lv_iload_n Z.1 Z.2.1 md_Cor_sendToAll_27 rfl (lv_at hl 0 rfl) ?_
      refine lv_iload_n Z.1 Z.2.1 md_Cor_sendToAll_28 rfl (lv_at hl 3 rfl) ?_
      refine lv_iconst (v := nI 0) Z.1 Z.2.1 md_Cor_sendToAll_29 (by decide) ?_
      refine xw_cV (n := 7) (rest := []) Z hml hl.1 hN hw (k_send (g := pz_mg kd s (S.2 s 8 c 0) 0 i v 0) (x := -1) l D ad cI cZ cS cA hinv.1 (fr_sa_len h60 i) (fun z => absurd z (by show ¬ (kd = 3 ∨ kd = 5); omega))) tb_g mc_Mail_send mk_Cor_140 mi_Mail_send ms_Mail_send mz_Mail ⟨by decide, by decide, by decide +kernel⟩ ⟨Nat.le_of_ble_eq_true rfl, Nat.le_of_ble_eq_true rfl⟩ (fb_in2 n) (fb_e2 n ad cI cZ cS cA _) rfl rfl rfl rfl (Nat.le_of_ble_eq_true rfl) ⟨Nat.le_refl _, Nat.le_refl _⟩ md_Cor_sendToAll_30 (fun M1 H1 locs1 hp hw => ?_)
      refine W.eq (g2 := F0 m 33 ls []) rfl ?_
      refine lv_iinc Z.1 Z.2.1 md_Cor_sendToAll_33 hl (k := 0) rfl (xi_inc1 (i)) (by decide) rfl (fun ls hl => ?_)
      have hl : lv_has ls 4 [(3, .int (nI (i + 1))), (0, .ref (ad (9, 2 * s + c))), (1, .int (nI (kd))), (2, .int (nI (v)))] := hl
      refine lv_goto (tgt := 2) Z.1 Z.2.1 md_Cor_sendToAll_36 (by decide) ?_
      refine ih (i + 1) M1 _ _ ls (by omega) (⟨hp.1, by rw [hp.2]; exact hinv.2⟩) hw ?_
      exact lv_sub hl [0, 1, 2, 3] rfl
  exact loop2 n (0) M _ _ ls (by omega) ⟨h, rfl⟩ hw (lv_sub hl [0, 1, 2, 3] rfl)
set_option maxHeartbeats 4000000 in
theorem k_startAsking (l : Launch) (D : va_G) {n : Nat} (ad : Nat × Nat → Nat) (cI cZ cS cA : ClassId) {M : fr_M} {q f : Nat} {S : pz_T} {ex : Nat → Nat → Prop} {s c : Nat} (hn : n ≤ 5) (h : fr_R n q f S ex M) (hs : s < 3) (hc : c < 2) {r : Nat} (h60 : S.1.length ≤ 60) (hci : pz_ci r = c) : fb_C l D n ad cI cZ cS cA my_Cor_startAsking mb_Cor_startAsking 2 none 2 51 M [.ref (ad (9, 2 * s + c)), .int (nI (r))] (none) (fr_K n q f (pz_begin n S s r) (fr_xs ex s c False) M) := by
  refine xw_start [.ref (ad (9, 2 * s + c)), .int (nI (r))] (by decide) (Nat.le_of_ble_eq_true rfl) ?_
  intro p e st m below meth cd0 ls Z hml hr hlk hN hl hw
  have hl : lv_has ls 2 [(0, .ref (ad (9, 2 * s + c))), (1, .int (nI (r)))] := hl
  refine lv_aload_n Z.1 Z.2.1 md_Cor_startAsking_0 rfl (lv_at hl 0 rfl) ?_
  refine lv_iload_n Z.1 Z.2.1 md_Cor_startAsking_1 rfl (lv_at hl 1 rfl) ?_
  refine xb_put Z hw (fb_in9 n hs hc) (fb_e9 n ad cI cZ cS cA (2 * s + c)) rfl tb_iCor tb_tCor tb_yCor tb_nCor 3 (by decide) mk_Cor_39 rfl rfl rfl (fb_s9_3 ad (2 * s + c) _) md_Cor_startAsking_2 (fun M1 H1 locs1 e1 hw => ?_)
  refine lv_aload_n Z.1 Z.2.1 md_Cor_startAsking_5 rfl (lv_at hl 0 rfl) ?_
  refine lv_iconst (v := nI 1) Z.1 Z.2.1 md_Cor_startAsking_6 (by decide) ?_
  refine xb_put Z hw (fb_in9 n hs hc) (fb_e9 n ad cI cZ cS cA (2 * s + c)) rfl tb_iCor tb_tCor tb_yCor tb_nCor 4 (by decide) mk_Cor_42 rfl rfl rfl (fb_s9_4 ad (2 * s + c) _) md_Cor_startAsking_7 (fun M2 H2 locs2 e2 hw => ?_)
  have h2c : M2 (9, 2 * s + c) = upd (upd (M (9, 2 * s + c)) 3 (nI r)) 4 (nI 1) := by rw [e2, xw_mw_s, e1, xw_mw_s]
  have h2m : ∀ k, k ≠ (9, 2 * s + c) → M2 k = M k := fun k hk => by rw [e2, xw_mw_n hk, e1, xw_mw_n hk]
  have h2 : fr_R n q f (pz_pw S s (pz_u (pz_u (S.2 s) 8 c 0 r) 9 c 0 1)) ex M2 := by
    have k := fr_c h hs hc
    refine fr_cor h hs hc h2m (fun _ _ y => y) (fun k x y hk => by simp only [pz_u]; repeat rw [if_neg (fun y => by omega)]) (fun k d hd h8 h10 => by simp only [pz_u]; repeat rw [if_neg (fun y => by omega)]) ?_ ?_
    · rw [h2c]
      refine ⟨?_, ?_, ?_, ?_⟩ <;> (simp only [upd, pz_u]; try simp) <;> first | exact k.1 | exact k.2.1 | exact k.2.2.1 | exact k.2.2.2
    · rw [h2c]; simp [upd]
  refine lv_aload_n Z.1 Z.2.1 md_Cor_startAsking_10 rfl (lv_at hl 0 rfl) ?_
  refine xw_cV (n := 0) (rest := []) Z hml hl.1 hN hw (k_forget l D ad cI cZ cS cA hn h2 hs hc) tb_g mc_Cor_forget mk_Cor_45 mi_Cor_forget ms_Cor_forget mz_Cor ⟨by decide, by decide, by decide +kernel⟩ ⟨Nat.le_of_ble_eq_true rfl, Nat.le_of_ble_eq_true rfl⟩ (fb_in9 n hs hc) (fb_e9 n ad cI cZ cS cA (2 * s + c) _) rfl rfl rfl rfl (Nat.le_of_ble_eq_true rfl) ⟨Nat.le_refl _, Nat.le_refl _⟩ md_Cor_startAsking_11 (fun M3 H3 locs3 h3 hw => ?_)
  refine W.eq (g2 := F0 m 14 ls []) rfl ?_
  have h3r : fr_R n q f (pz_pw S s (pz_ld (S.2 s) c r 1)) (fr_xs ex s c False) M3 := by
    have z := h3.1
    rw [pz_pw_s, pz_pw_pw, pz_cl_ld] at z
    exact z
  refine lv_aload_n Z.1 Z.2.1 md_Cor_startAsking_14 rfl (lv_at hl 0 rfl) ?_
  refine lv_iconst (v := nI 2) Z.1 Z.2.1 md_Cor_startAsking_15 (by decide) ?_
  refine lv_iconst (v := nI 0) Z.1 Z.2.1 md_Cor_startAsking_16 (by decide) ?_
  refine xw_cV (n := 2) (rest := []) Z hml hl.1 hN hw (k_sendToAll (kd := 2) (v := 0) l D ad cI cZ cS cA hn h3r hs hc h60 (by decide) (by decide)) tb_g mc_Cor_sendToAll mk_Cor_48 mi_Cor_sendToAll ms_Cor_sendToAll mz_Cor ⟨by decide, by decide, by decide +kernel⟩ ⟨Nat.le_of_ble_eq_true rfl, Nat.le_of_ble_eq_true rfl⟩ (fb_in9 n hs hc) (fb_e9 n ad cI cZ cS cA (2 * s + c) _) rfl rfl rfl rfl (Nat.le_of_ble_eq_true rfl) ⟨Nat.le_refl _, Nat.le_refl _⟩ md_Cor_startAsking_17 (fun M4 H4 locs4 h4 hw => ?_)
  refine W.eq (g2 := F0 m 20 ls []) rfl ?_
  refine xw_vret Z hr hlk hw md_Cor_startAsking_20 ⟨?_, by rw [h4.2, h3.2, h2m _ (fr_pair (by decide))]⟩
  have z := h4.1
  rw [pz_pw_s, pz_ld_8] at z
  unfold pz_begin
  rw [hci]
  exact z
set_option maxHeartbeats 4000000 in
theorem k_startVoting (l : Launch) (D : va_G) {n : Nat} (ad : Nat × Nat → Nat) (cI cZ cS cA : ClassId) {M : fr_M} {q f : Nat} {S : pz_T} {ex : Nat → Nat → Prop} {s c : Nat} (hn : n ≤ 5) (h : fr_R n q f S ex M) (hs : s < 3) (hc : c < 2) {v : Nat} (h60 : S.1.length ≤ 60) : fb_C l D n ad cI cZ cS cA my_Cor_startVoting mb_Cor_startVoting 2 none 2 51 M [.ref (ad (9, 2 * s + c)), .int (nI (v))] (none) (fr_K n q f (pz_sv n S s c v) (fr_xs ex s c False) M) := by
  refine xw_start [.ref (ad (9, 2 * s + c)), .int (nI (v))] (by decide) (Nat.le_of_ble_eq_true rfl) ?_
  intro p e st m below meth cd0 ls Z hml hr hlk hN hl hw
  have hl : lv_has ls 2 [(0, .ref (ad (9, 2 * s + c))), (1, .int (nI (v)))] := hl
  refine lv_aload_n Z.1 Z.2.1 md_Cor_startVoting_0 rfl (lv_at hl 0 rfl) ?_
  refine lv_iconst (v := nI 3) Z.1 Z.2.1 md_Cor_startVoting_1 (by decide) ?_
  refine xb_put Z hw (fb_in9 n hs hc) (fb_e9 n ad cI cZ cS cA (2 * s + c)) rfl tb_iCor tb_tCor tb_yCor tb_nCor 4 (by decide) mk_Cor_42 rfl rfl rfl (fb_s9_4 ad (2 * s + c) _) md_Cor_startVoting_2 (fun M1 H1 locs1 e1 hw => ?_)
  have h2c : M1 (9, 2 * s + c) = upd (M (9, 2 * s + c)) 4 (nI 3) := by rw [e1, xw_mw_s]
  have h2m : ∀ k, k ≠ (9, 2 * s + c) → M1 k = M k := fun k hk => by rw [e1, xw_mw_n hk]
  have h2 : fr_R n q f (pz_pw S s (pz_u (S.2 s) 9 c 0 3)) ex M1 := by
    have k := fr_c h hs hc
    refine fr_cor h hs hc h2m (fun _ _ y => y) (fun k x y hk => by simp only [pz_u]; repeat rw [if_neg (fun y => by omega)]) (fun k d hd h8 h10 => by simp only [pz_u]; repeat rw [if_neg (fun y => by omega)]) ?_ ?_
    · rw [h2c]
      refine ⟨?_, ?_, ?_, ?_⟩ <;> (simp only [upd, pz_u]; try simp) <;> first | exact k.1 | exact k.2.1 | exact k.2.2.1 | exact k.2.2.2
    · rw [h2c]; simp [upd]
  refine lv_aload_n Z.1 Z.2.1 md_Cor_startVoting_5 rfl (lv_at hl 0 rfl) ?_
  refine xw_cV (n := 0) (rest := []) Z hml hl.1 hN hw (k_forget l D ad cI cZ cS cA hn h2 hs hc) tb_g mc_Cor_forget mk_Cor_45 mi_Cor_forget ms_Cor_forget mz_Cor ⟨by decide, by decide, by decide +kernel⟩ ⟨Nat.le_of_ble_eq_true rfl, Nat.le_of_ble_eq_true rfl⟩ (fb_in9 n hs hc) (fb_e9 n ad cI cZ cS cA (2 * s + c) _) rfl rfl rfl rfl (Nat.le_of_ble_eq_true rfl) ⟨Nat.le_refl _, Nat.le_refl _⟩ md_Cor_startVoting_6 (fun M2 H2 locs2 h3 hw => ?_)
  refine W.eq (g2 := F0 m 9 ls []) rfl ?_
  have h3r : fr_R n q f (pz_pw S s (pz_cl (pz_u (S.2 s) 9 c 0 3) c)) (fr_xs ex s c False) M2 := by
    have z := h3.1
    rw [pz_pw_s, pz_pw_pw] at z
    exact z
  refine lv_aload_n Z.1 Z.2.1 md_Cor_startVoting_9 rfl (lv_at hl 0 rfl) ?_
  refine lv_iconst (v := nI 4) Z.1 Z.2.1 md_Cor_startVoting_10 (by decide) ?_
  refine lv_iload_n Z.1 Z.2.1 md_Cor_startVoting_11 rfl (lv_at hl 1 rfl) ?_
  refine xw_cV (n := 2) (rest := []) Z hml hl.1 hN hw (k_sendToAll (kd := 4) (v := v) l D ad cI cZ cS cA hn h3r hs hc h60 (by decide) (by decide)) tb_g mc_Cor_sendToAll mk_Cor_48 mi_Cor_sendToAll ms_Cor_sendToAll mz_Cor ⟨by decide, by decide, by decide +kernel⟩ ⟨Nat.le_of_ble_eq_true rfl, Nat.le_of_ble_eq_true rfl⟩ (fb_in9 n hs hc) (fb_e9 n ad cI cZ cS cA (2 * s + c) _) rfl rfl rfl rfl (Nat.le_of_ble_eq_true rfl) ⟨Nat.le_refl _, Nat.le_refl _⟩ md_Cor_startVoting_12 (fun M3 H3 locs3 h4 hw => ?_)
  refine W.eq (g2 := F0 m 15 ls []) rfl ?_
  refine xw_vret Z hr hlk hw md_Cor_startVoting_15 ⟨?_, by rw [h4.2, h3.2, h2m _ (fr_pair (by decide))]⟩
  have z := h4.1
  rw [pz_pw_s, show pz_cl (pz_u (S.2 s) 9 c 0 3) c 8 c 0 = S.2 s 8 c 0 from by unfold pz_cl; rw [if_neg (by omega), pz_u_k (by decide)]] at z
  exact z
set_option maxHeartbeats 4000000 in
theorem k_goOnWith (l : Launch) (D : va_G) {n : Nat} (ad : Nat × Nat → Nat) (cI cZ cS cA : ClassId) {M : fr_M} {q f : Nat} {S : pz_T} {ex : Nat → Nat → Prop} {s c : Nat} (hn : n ≤ 5) (h : fr_R n q f S ex M) (hs : s < 3) (hc : c < 2) {x : Nat} (h60 : S.1.length ≤ 60) (hx : x < 2 ^ 31) (h8 : S.2 s 8 c 0 < 2 ^ 31) (h10 : S.2 s 10 c 0 < 2 ^ 31) : fb_C l D n ad cI cZ cS cA my_Cor_goOnWith mb_Cor_goOnWith 2 none 3 72 M [.ref (ad (9, 2 * s + c)), .int (nI (x))] (none) (fr_K n q f (pz_gw n S s c x) (fr_xs ex s c ((pz_gw n S s c x).2 s 9 c 0 = 2)) M) := by
  refine xw_start [.ref (ad (9, 2 * s + c)), .int (nI (x))] (by decide) (Nat.le_of_ble_eq_true rfl) ?_
  intro p e st m below meth cd0 ls Z hml hr hlk hN hl hw
  have hl : lv_has ls 2 [(0, .ref (ad (9, 2 * s + c))), (1, .int (nI (x)))] := hl
  refine lv_iload_n Z.1 Z.2.1 md_Cor_goOnWith_0 rfl (lv_at hl 1 rfl) ?_
  refine xi_if_eq (tgt := 12) Z md_Cor_goOnWith_1 (by decide) (by omega) (fun h1 => ?_) (fun h1 => ?_)
  · refine lv_aload_n Z.1 Z.2.1 md_Cor_goOnWith_12 rfl (lv_at hl 0 rfl) ?_
    refine xb_get (v := .int (M (9, 2 * s + c) 3)) Z hw (fb_in9 n hs hc) (fb_e9 n ad cI cZ cS cA (2 * s + c)) rfl tb_iCor 3 (by decide) mk_Cor_39 rfl rfl md_Cor_goOnWith_13 ?_
    refine xi_re (show M (9, 2 * s + c) 3 = nI (S.2 s 8 c 0) from (fr_c h hs hc).2.1) ?_
    refine xw_cN (n := 1) (rest := []) Z hml hl.1 hN hw (k_isFast l D ad cI cZ cS cA (M := M) h8) tb_g mc_FB_isFast (host := "FastBallots") (List.mem_of_getElem? (i := 3) rfl) mt_FB_isFast mz_FB ⟨by decide, by decide, by decide +kernel⟩ ⟨Nat.le_of_ble_eq_true rfl, Nat.le_of_ble_eq_true rfl⟩ rfl rfl (Nat.le_of_ble_eq_true rfl) ⟨Nat.le_refl _, Nat.le_refl _⟩ md_Cor_goOnWith_16 (fun M1 H1 locs1 e1 hw => ?_)
    have ey1 := e1.symm
    subst ey1
    refine W.eq (g2 := F0 m 19 ls [.int (nI (S.2 s 8 c 0 % 2))]) rfl ?_
    refine xi_if_eq (tgt := 30) Z md_Cor_goOnWith_19 (by decide) (by omega) (fun h19 => ?_) (fun h19 => ?_)
    · refine lv_aload_n Z.1 Z.2.1 md_Cor_goOnWith_30 rfl (lv_at hl 0 rfl) ?_
      refine xb_get (v := .int (M (9, 2 * s + c) 5)) Z hw (fb_in9 n hs hc) (fb_e9 n ad cI cZ cS cA (2 * s + c)) rfl tb_iCor 5 (by decide) mk_Cor_71 rfl rfl md_Cor_goOnWith_31 ?_
      refine xi_re (show M (9, 2 * s + c) 5 = nI (S.2 s 10 c 0) from (fr_c h hs hc).2.2.2) ?_
      refine xi_if_eq (tgt := 48) Z md_Cor_goOnWith_34 (by decide) (by omega) (fun h34 => ?_) (fun h34 => ?_)
      · refine lv_aload_n Z.1 Z.2.1 md_Cor_goOnWith_48 rfl (lv_at hl 0 rfl) ?_
        refine lv_iconst (v := nI 2) Z.1 Z.2.1 md_Cor_goOnWith_49 (by decide) ?_
        refine xb_put Z hw (fb_in9 n hs hc) (fb_e9 n ad cI cZ cS cA (2 * s + c)) rfl tb_iCor tb_tCor tb_yCor tb_nCor 4 (by decide) mk_Cor_42 rfl rfl rfl (fb_s9_4 ad (2 * s + c) _) md_Cor_goOnWith_50 (fun M2 H2 locs2 e2 hw => ?_)
        have h2c : M2 (9, 2 * s + c) = upd (M (9, 2 * s + c)) 4 (nI 2) := by rw [e2, xw_mw_s]
        have h2m : ∀ k, k ≠ (9, 2 * s + c) → M2 k = M k := fun k hk => by rw [e2, xw_mw_n hk]
        have h2 : fr_R n q f (pz_pw S s (pz_u (S.2 s) 9 c 0 2)) ex M2 := by
          have k := fr_c h hs hc
          refine fr_cor h hs hc h2m (fun _ _ y => y) (fun k x y hk => by simp only [pz_u]; repeat rw [if_neg (fun y => by omega)]) (fun k d hd h8 h10 => by simp only [pz_u]; repeat rw [if_neg (fun y => by omega)]) ?_ ?_
          · rw [h2c]
            refine ⟨?_, ?_, ?_, ?_⟩ <;> (simp only [upd, pz_u]; try simp) <;> first | exact k.1 | exact k.2.1 | exact k.2.2.1 | exact k.2.2.2
          · rw [h2c]; simp [upd]
        refine xw_vret Z hr hlk hw md_Cor_goOnWith_53 ⟨?_, ?_⟩
        · unfold pz_gw
          rw [if_neg (by omega), if_neg (by omega), if_neg (by omega), pz_pw_s, pz_u_s]
          exact fr_xs_t h2 rfl
        · exact h2m _ (fr_pair (by decide))
      · refine lv_aload_n Z.1 Z.2.1 md_Cor_goOnWith_37 rfl (lv_at hl 0 rfl) ?_
        refine lv_aload_n Z.1 Z.2.1 md_Cor_goOnWith_38 rfl (lv_at hl 0 rfl) ?_
        refine xb_get (v := .int (M (9, 2 * s + c) 5)) Z hw (fb_in9 n hs hc) (fb_e9 n ad cI cZ cS cA (2 * s + c)) rfl tb_iCor 5 (by decide) mk_Cor_71 rfl rfl md_Cor_goOnWith_39 ?_
        refine xi_re (show M (9, 2 * s + c) 5 = nI (S.2 s 10 c 0) from (fr_c h hs hc).2.2.2) ?_
        refine xw_cV (n := 1) (rest := []) Z hml hl.1 hN hw (k_startVoting (v := S.2 s 10 c 0) l D ad cI cZ cS cA hn h hs hc h60) tb_g mc_Cor_startVoting mk_Cor_74 mi_Cor_startVoting ms_Cor_startVoting mz_Cor ⟨by decide, by decide, by decide +kernel⟩ ⟨Nat.le_of_ble_eq_true rfl, Nat.le_of_ble_eq_true rfl⟩ (fb_in9 n hs hc) (fb_e9 n ad cI cZ cS cA (2 * s + c) _) rfl rfl rfl rfl (Nat.le_of_ble_eq_true rfl) ⟨Nat.le_refl _, Nat.le_refl _⟩ md_Cor_goOnWith_42 (fun M3 H3 locs3 hv hw => ?_)
        refine W.eq (g2 := F0 m 45 ls []) rfl ?_
        refine lv_goto (tgt := 53) Z.1 Z.2.1 md_Cor_goOnWith_45 (by decide) ?_
        refine xw_vret Z hr hlk hw md_Cor_goOnWith_53 ⟨?_, ?_⟩
        · unfold pz_gw
          first | (rw [if_pos (by omega)]; exact fr_xs_w hv.1) | (rw [if_neg (by omega), if_pos (by omega)]; exact fr_xs_w hv.1) | (rw [if_neg (by omega), if_neg (by omega), if_pos (by omega)]; exact fr_xs_w hv.1)
        · exact hv.2
    · refine lv_aload_n Z.1 Z.2.1 md_Cor_goOnWith_22 rfl (lv_at hl 0 rfl) ?_
      refine lv_iconst (v := nI 0) Z.1 Z.2.1 md_Cor_goOnWith_23 (by decide) ?_
      refine xw_cV (n := 1) (rest := []) Z hml hl.1 hN hw (k_startVoting (v := 0) l D ad cI cZ cS cA hn h hs hc h60) tb_g mc_Cor_startVoting mk_Cor_74 mi_Cor_startVoting ms_Cor_startVoting mz_Cor ⟨by decide, by decide, by decide +kernel⟩ ⟨Nat.le_of_ble_eq_true rfl, Nat.le_of_ble_eq_true rfl⟩ (fb_in9 n hs hc) (fb_e9 n ad cI cZ cS cA (2 * s + c) _) rfl rfl rfl rfl (Nat.le_of_ble_eq_true rfl) ⟨Nat.le_refl _, Nat.le_refl _⟩ md_Cor_goOnWith_24 (fun M4 H4 locs4 hv hw => ?_)
      refine W.eq (g2 := F0 m 27 ls []) rfl ?_
      refine lv_goto (tgt := 53) Z.1 Z.2.1 md_Cor_goOnWith_27 (by decide) ?_
      refine xw_vret Z hr hlk hw md_Cor_goOnWith_53 ⟨?_, ?_⟩
      · unfold pz_gw
        first | (rw [if_pos (by omega)]; exact fr_xs_w hv.1) | (rw [if_neg (by omega), if_pos (by omega)]; exact fr_xs_w hv.1) | (rw [if_neg (by omega), if_neg (by omega), if_pos (by omega)]; exact fr_xs_w hv.1)
      · exact hv.2
  · refine lv_aload_n Z.1 Z.2.1 md_Cor_goOnWith_4 rfl (lv_at hl 0 rfl) ?_
    refine lv_iload_n Z.1 Z.2.1 md_Cor_goOnWith_5 rfl (lv_at hl 1 rfl) ?_
    refine xw_cV (n := 1) (rest := []) Z hml hl.1 hN hw (k_startVoting (v := x) l D ad cI cZ cS cA hn h hs hc h60) tb_g mc_Cor_startVoting mk_Cor_74 mi_Cor_startVoting ms_Cor_startVoting mz_Cor ⟨by decide, by decide, by decide +kernel⟩ ⟨Nat.le_of_ble_eq_true rfl, Nat.le_of_ble_eq_true rfl⟩ (fb_in9 n hs hc) (fb_e9 n ad cI cZ cS cA (2 * s + c) _) rfl rfl rfl rfl (Nat.le_of_ble_eq_true rfl) ⟨Nat.le_refl _, Nat.le_refl _⟩ md_Cor_goOnWith_6 (fun M5 H5 locs5 hv hw => ?_)
    refine W.eq (g2 := F0 m 9 ls []) rfl ?_
    refine lv_goto (tgt := 53) Z.1 Z.2.1 md_Cor_goOnWith_9 (by decide) ?_
    refine xw_vret Z hr hlk hw md_Cor_goOnWith_53 ⟨?_, ?_⟩
    · unfold pz_gw
      first | (rw [if_pos (by omega)]; exact fr_xs_w hv.1) | (rw [if_neg (by omega), if_pos (by omega)]; exact fr_xs_w hv.1) | (rw [if_neg (by omega), if_neg (by omega), if_pos (by omega)]; exact fr_xs_w hv.1)
    · exact hv.2
