/-! A vote in a tally; the acceptors. -/
theorem md_Acc_hear_0 : decode mb_Acc_hear 0 = .ok (.aload_n 1, 1) := by decide +kernel
theorem md_Acc_hear_1 : decode mb_Acc_hear 1 = .ok (.getfield 26, 3) := by decide +kernel
theorem md_Acc_hear_4 : decode mb_Acc_hear 4 = .ok (.tableswitch 69 1 4 #[32, 43, 69, 54], 32) := by decide +kernel
theorem md_Acc_hear_36 : decode mb_Acc_hear 36 = .ok (.aload_n 0, 1) := by decide +kernel
theorem md_Acc_hear_37 : decode mb_Acc_hear 37 = .ok (.aload_n 1, 1) := by decide +kernel
theorem md_Acc_hear_38 : decode mb_Acc_hear 38 = .ok (.getfield 31, 3) := by decide +kernel
theorem md_Acc_hear_41 : decode mb_Acc_hear 41 = .ok (.invokevirtual 34, 3) := by decide +kernel
theorem md_Acc_hear_44 : decode mb_Acc_hear 44 = .ok (.goto 29, 3) := by decide +kernel
theorem md_Acc_hear_47 : decode mb_Acc_hear 47 = .ok (.aload_n 0, 1) := by decide +kernel
theorem md_Acc_hear_48 : decode mb_Acc_hear 48 = .ok (.aload_n 1, 1) := by decide +kernel
theorem md_Acc_hear_49 : decode mb_Acc_hear 49 = .ok (.getfield 38, 3) := by decide +kernel
theorem md_Acc_hear_52 : decode mb_Acc_hear 52 = .ok (.invokevirtual 41, 3) := by decide +kernel
theorem md_Acc_hear_55 : decode mb_Acc_hear 55 = .ok (.goto 18, 3) := by decide +kernel
theorem md_Acc_hear_58 : decode mb_Acc_hear 58 = .ok (.aload_n 0, 1) := by decide +kernel
theorem md_Acc_hear_59 : decode mb_Acc_hear 59 = .ok (.aload_n 1, 1) := by decide +kernel
theorem md_Acc_hear_60 : decode mb_Acc_hear 60 = .ok (.getfield 38, 3) := by decide +kernel
theorem md_Acc_hear_63 : decode mb_Acc_hear 63 = .ok (.aload_n 1, 1) := by decide +kernel
theorem md_Acc_hear_64 : decode mb_Acc_hear 64 = .ok (.getfield 31, 3) := by decide +kernel
theorem md_Acc_hear_67 : decode mb_Acc_hear 67 = .ok (.invokevirtual 44, 3) := by decide +kernel
theorem md_Acc_hear_70 : decode mb_Acc_hear 70 = .ok (.goto 3, 3) := by decide +kernel
theorem md_Acc_hear_73 : decode mb_Acc_hear 73 = .ok (.return_, 1) := by decide +kernel
theorem md_Acc_hearProposal_0 : decode mb_Acc_hearProposal 0 = .ok (.aload_n 0, 1) := by decide +kernel
theorem md_Acc_hearProposal_1 : decode mb_Acc_hearProposal 1 = .ok (.getfield 48, 3) := by decide +kernel
theorem md_Acc_hearProposal_4 : decode mb_Acc_hearProposal 4 = .ok (.ifCond .eq 4, 3) := by decide +kernel
theorem md_Acc_hearProposal_7 : decode mb_Acc_hearProposal 7 = .ok (.return_, 1) := by decide +kernel
theorem md_Acc_hearProposal_8 : decode mb_Acc_hearProposal 8 = .ok (.aload_n 0, 1) := by decide +kernel
theorem md_Acc_hearProposal_9 : decode mb_Acc_hearProposal 9 = .ok (.iload_n 1, 1) := by decide +kernel
theorem md_Acc_hearProposal_10 : decode mb_Acc_hearProposal 10 = .ok (.putfield 48, 3) := by decide +kernel
theorem md_Acc_hearProposal_13 : decode mb_Acc_hearProposal 13 = .ok (.aload_n 0, 1) := by decide +kernel
theorem md_Acc_hearProposal_14 : decode mb_Acc_hearProposal 14 = .ok (.invokevirtual 51, 3) := by decide +kernel
theorem md_Acc_hearProposal_17 : decode mb_Acc_hearProposal 17 = .ok (.ifCond .eq 23, 3) := by decide +kernel
theorem md_Acc_hearProposal_20 : decode mb_Acc_hearProposal 20 = .ok (.aload_n 0, 1) := by decide +kernel
theorem md_Acc_hearProposal_21 : decode mb_Acc_hearProposal 21 = .ok (.getfield 55, 3) := by decide +kernel
theorem md_Acc_hearProposal_24 : decode mb_Acc_hearProposal 24 = .ok (.aload_n 0, 1) := by decide +kernel
theorem md_Acc_hearProposal_25 : decode mb_Acc_hearProposal 25 = .ok (.getfield 58, 3) := by decide +kernel
theorem md_Acc_hearProposal_28 : decode mb_Acc_hearProposal 28 = .ok (.if_icmp .eq 12, 3) := by decide +kernel
theorem md_Acc_hearProposal_31 : decode mb_Acc_hearProposal 31 = .ok (.aload_n 0, 1) := by decide +kernel
theorem md_Acc_hearProposal_32 : decode mb_Acc_hearProposal 32 = .ok (.aload_n 0, 1) := by decide +kernel
theorem md_Acc_hearProposal_33 : decode mb_Acc_hearProposal 33 = .ok (.getfield 58, 3) := by decide +kernel
theorem md_Acc_hearProposal_36 : decode mb_Acc_hearProposal 36 = .ok (.iload_n 1, 1) := by decide +kernel
theorem md_Acc_hearProposal_37 : decode mb_Acc_hearProposal 37 = .ok (.invokevirtual 61, 3) := by decide +kernel
theorem md_Acc_hearProposal_40 : decode mb_Acc_hearProposal 40 = .ok (.return_, 1) := by decide +kernel
theorem md_Acc_isOpenNow_0 : decode mb_Acc_isOpenNow 0 = .ok (.aload_n 0, 1) := by decide +kernel
theorem md_Acc_isOpenNow_1 : decode mb_Acc_isOpenNow 1 = .ok (.getfield 64, 3) := by decide +kernel
theorem md_Acc_isOpenNow_4 : decode mb_Acc_isOpenNow 4 = .ok (.ifCond .eq 18, 3) := by decide +kernel
theorem md_Acc_isOpenNow_7 : decode mb_Acc_isOpenNow 7 = .ok (.aload_n 0, 1) := by decide +kernel
theorem md_Acc_isOpenNow_8 : decode mb_Acc_isOpenNow 8 = .ok (.getfield 64, 3) := by decide +kernel
theorem md_Acc_isOpenNow_11 : decode mb_Acc_isOpenNow 11 = .ok (.aload_n 0, 1) := by decide +kernel
theorem md_Acc_isOpenNow_12 : decode mb_Acc_isOpenNow 12 = .ok (.getfield 58, 3) := by decide +kernel
theorem md_Acc_isOpenNow_15 : decode mb_Acc_isOpenNow 15 = .ok (.if_icmp .ne 7, 3) := by decide +kernel
theorem md_Acc_isOpenNow_18 : decode mb_Acc_isOpenNow 18 = .ok (.iconst 1, 1) := by decide +kernel
theorem md_Acc_isOpenNow_19 : decode mb_Acc_isOpenNow 19 = .ok (.goto 4, 3) := by decide +kernel
theorem md_Acc_isOpenNow_22 : decode mb_Acc_isOpenNow 22 = .ok (.iconst 0, 1) := by decide +kernel
theorem md_Acc_isOpenNow_23 : decode mb_Acc_isOpenNow 23 = .ok (.ireturn, 1) := by decide +kernel
theorem md_Acc_hearAsk_0 : decode mb_Acc_hearAsk 0 = .ok (.iload_n 1, 1) := by decide +kernel
theorem md_Acc_hearAsk_1 : decode mb_Acc_hearAsk 1 = .ok (.aload_n 0, 1) := by decide +kernel
theorem md_Acc_hearAsk_2 : decode mb_Acc_hearAsk 2 = .ok (.getfield 58, 3) := by decide +kernel
theorem md_Acc_hearAsk_5 : decode mb_Acc_hearAsk 5 = .ok (.if_icmp .gt 4, 3) := by decide +kernel
theorem md_Acc_hearAsk_8 : decode mb_Acc_hearAsk 8 = .ok (.return_, 1) := by decide +kernel
theorem md_Acc_hearAsk_9 : decode mb_Acc_hearAsk 9 = .ok (.aload_n 0, 1) := by decide +kernel
theorem md_Acc_hearAsk_10 : decode mb_Acc_hearAsk 10 = .ok (.iload_n 1, 1) := by decide +kernel
theorem md_Acc_hearAsk_11 : decode mb_Acc_hearAsk 11 = .ok (.putfield 58, 3) := by decide +kernel
theorem md_Acc_hearAsk_14 : decode mb_Acc_hearAsk 14 = .ok (.aload_n 0, 1) := by decide +kernel
theorem md_Acc_hearAsk_15 : decode mb_Acc_hearAsk 15 = .ok (.getfield 18, 3) := by decide +kernel
theorem md_Acc_hearAsk_18 : decode mb_Acc_hearAsk 18 = .ok (.iconst 3, 1) := by decide +kernel
theorem md_Acc_hearAsk_19 : decode mb_Acc_hearAsk 19 = .ok (.aload_n 0, 1) := by decide +kernel
theorem md_Acc_hearAsk_20 : decode mb_Acc_hearAsk 20 = .ok (.getfield 15, 3) := by decide +kernel
theorem md_Acc_hearAsk_23 : decode mb_Acc_hearAsk 23 = .ok (.iload_n 1, 1) := by decide +kernel
theorem md_Acc_hearAsk_24 : decode mb_Acc_hearAsk 24 = .ok (.aload_n 0, 1) := by decide +kernel
theorem md_Acc_hearAsk_25 : decode mb_Acc_hearAsk 25 = .ok (.getfield 9, 3) := by decide +kernel
theorem md_Acc_hearAsk_28 : decode mb_Acc_hearAsk 28 = .ok (.iload_n 1, 1) := by decide +kernel
theorem md_Acc_hearAsk_29 : decode mb_Acc_hearAsk 29 = .ok (.invokestatic 67, 3) := by decide +kernel
theorem md_Acc_hearAsk_32 : decode mb_Acc_hearAsk 32 = .ok (.aload_n 0, 1) := by decide +kernel
theorem md_Acc_hearAsk_33 : decode mb_Acc_hearAsk 33 = .ok (.getfield 71, 3) := by decide +kernel
theorem md_Acc_hearAsk_36 : decode mb_Acc_hearAsk 36 = .ok (.aload_n 0, 1) := by decide +kernel
theorem md_Acc_hearAsk_37 : decode mb_Acc_hearAsk 37 = .ok (.getfield 55, 3) := by decide +kernel
theorem md_Acc_hearAsk_40 : decode mb_Acc_hearAsk 40 = .ok (.invokevirtual 74, 3) := by decide +kernel
theorem md_Acc_hearAsk_43 : decode mb_Acc_hearAsk 43 = .ok (.return_, 1) := by decide +kernel
theorem md_Acc_hearVoteFor_0 : decode mb_Acc_hearVoteFor 0 = .ok (.iload_n 1, 1) := by decide +kernel
theorem md_Acc_hearVoteFor_1 : decode mb_Acc_hearVoteFor 1 = .ok (.aload_n 0, 1) := by decide +kernel
theorem md_Acc_hearVoteFor_2 : decode mb_Acc_hearVoteFor 2 = .ok (.getfield 58, 3) := by decide +kernel
theorem md_Acc_hearVoteFor_5 : decode mb_Acc_hearVoteFor 5 = .ok (.if_icmp .lt 11, 3) := by decide +kernel
theorem md_Acc_hearVoteFor_8 : decode mb_Acc_hearVoteFor 8 = .ok (.iload_n 1, 1) := by decide +kernel
theorem md_Acc_hearVoteFor_9 : decode mb_Acc_hearVoteFor 9 = .ok (.aload_n 0, 1) := by decide +kernel
theorem md_Acc_hearVoteFor_10 : decode mb_Acc_hearVoteFor 10 = .ok (.getfield 55, 3) := by decide +kernel
theorem md_Acc_hearVoteFor_13 : decode mb_Acc_hearVoteFor 13 = .ok (.if_icmp .gt 4, 3) := by decide +kernel
theorem md_Acc_hearVoteFor_16 : decode mb_Acc_hearVoteFor 16 = .ok (.return_, 1) := by decide +kernel
theorem md_Acc_hearVoteFor_17 : decode mb_Acc_hearVoteFor 17 = .ok (.aload_n 0, 1) := by decide +kernel
theorem md_Acc_hearVoteFor_18 : decode mb_Acc_hearVoteFor 18 = .ok (.iload_n 1, 1) := by decide +kernel
theorem md_Acc_hearVoteFor_19 : decode mb_Acc_hearVoteFor 19 = .ok (.putfield 58, 3) := by decide +kernel
theorem md_Acc_hearVoteFor_22 : decode mb_Acc_hearVoteFor 22 = .ok (.iload_n 2, 1) := by decide +kernel
theorem md_Acc_hearVoteFor_23 : decode mb_Acc_hearVoteFor 23 = .ok (.ifCond .eq 10, 3) := by decide +kernel
theorem md_Acc_hearVoteFor_26 : decode mb_Acc_hearVoteFor 26 = .ok (.aload_n 0, 1) := by decide +kernel
theorem md_Acc_hearVoteFor_27 : decode mb_Acc_hearVoteFor 27 = .ok (.iload_n 1, 1) := by decide +kernel
theorem md_Acc_hearVoteFor_28 : decode mb_Acc_hearVoteFor 28 = .ok (.iload_n 2, 1) := by decide +kernel
theorem md_Acc_hearVoteFor_29 : decode mb_Acc_hearVoteFor 29 = .ok (.invokevirtual 61, 3) := by decide +kernel
theorem md_Acc_hearVoteFor_32 : decode mb_Acc_hearVoteFor 32 = .ok (.return_, 1) := by decide +kernel
theorem md_Acc_hearVoteFor_33 : decode mb_Acc_hearVoteFor 33 = .ok (.aload_n 0, 1) := by decide +kernel
theorem md_Acc_hearVoteFor_34 : decode mb_Acc_hearVoteFor 34 = .ok (.iload_n 1, 1) := by decide +kernel
theorem md_Acc_hearVoteFor_35 : decode mb_Acc_hearVoteFor 35 = .ok (.putfield 64, 3) := by decide +kernel
theorem md_Acc_hearVoteFor_38 : decode mb_Acc_hearVoteFor 38 = .ok (.aload_n 0, 1) := by decide +kernel
theorem md_Acc_hearVoteFor_39 : decode mb_Acc_hearVoteFor 39 = .ok (.getfield 48, 3) := by decide +kernel
theorem md_Acc_hearVoteFor_42 : decode mb_Acc_hearVoteFor 42 = .ok (.ifCond .eq 12, 3) := by decide +kernel
theorem md_Acc_hearVoteFor_45 : decode mb_Acc_hearVoteFor 45 = .ok (.aload_n 0, 1) := by decide +kernel
theorem md_Acc_hearVoteFor_46 : decode mb_Acc_hearVoteFor 46 = .ok (.iload_n 1, 1) := by decide +kernel
theorem md_Acc_hearVoteFor_47 : decode mb_Acc_hearVoteFor 47 = .ok (.aload_n 0, 1) := by decide +kernel
theorem md_Acc_hearVoteFor_48 : decode mb_Acc_hearVoteFor 48 = .ok (.getfield 48, 3) := by decide +kernel
theorem md_Acc_hearVoteFor_51 : decode mb_Acc_hearVoteFor 51 = .ok (.invokevirtual 61, 3) := by decide +kernel
theorem md_Acc_hearVoteFor_54 : decode mb_Acc_hearVoteFor 54 = .ok (.return_, 1) := by decide +kernel
theorem md_Acc_castVote_0 : decode mb_Acc_castVote 0 = .ok (.aload_n 0, 1) := by decide +kernel
theorem md_Acc_castVote_1 : decode mb_Acc_castVote 1 = .ok (.iload_n 2, 1) := by decide +kernel
theorem md_Acc_castVote_2 : decode mb_Acc_castVote 2 = .ok (.putfield 71, 3) := by decide +kernel
theorem md_Acc_castVote_5 : decode mb_Acc_castVote 5 = .ok (.aload_n 0, 1) := by decide +kernel
theorem md_Acc_castVote_6 : decode mb_Acc_castVote 6 = .ok (.iload_n 1, 1) := by decide +kernel
theorem md_Acc_castVote_7 : decode mb_Acc_castVote 7 = .ok (.putfield 55, 3) := by decide +kernel
theorem md_Acc_castVote_10 : decode mb_Acc_castVote 10 = .ok (.aload_n 0, 1) := by decide +kernel
theorem md_Acc_castVote_11 : decode mb_Acc_castVote 11 = .ok (.getfield 22, 3) := by decide +kernel
theorem md_Acc_castVote_14 : decode mb_Acc_castVote 14 = .ok (.iload_n 1, 1) := by decide +kernel
theorem md_Acc_castVote_15 : decode mb_Acc_castVote 15 = .ok (.aload_n 0, 1) := by decide +kernel
theorem md_Acc_castVote_16 : decode mb_Acc_castVote 16 = .ok (.getfield 9, 3) := by decide +kernel
theorem md_Acc_castVote_19 : decode mb_Acc_castVote 19 = .ok (.iload_n 2, 1) := by decide +kernel
theorem md_Acc_castVote_20 : decode mb_Acc_castVote 20 = .ok (.invokevirtual 80, 3) := by decide +kernel
theorem md_Acc_castVote_23 : decode mb_Acc_castVote 23 = .ok (.aload_n 0, 1) := by decide +kernel
theorem md_Acc_castVote_24 : decode mb_Acc_castVote 24 = .ok (.getfield 18, 3) := by decide +kernel
theorem md_Acc_castVote_27 : decode mb_Acc_castVote 27 = .ok (.iconst 5, 1) := by decide +kernel
theorem md_Acc_castVote_28 : decode mb_Acc_castVote 28 = .ok (.aload_n 0, 1) := by decide +kernel
theorem md_Acc_castVote_29 : decode mb_Acc_castVote 29 = .ok (.getfield 15, 3) := by decide +kernel
theorem md_Acc_castVote_32 : decode mb_Acc_castVote 32 = .ok (.iload_n 1, 1) := by decide +kernel
theorem md_Acc_castVote_33 : decode mb_Acc_castVote 33 = .ok (.aload_n 0, 1) := by decide +kernel
theorem md_Acc_castVote_34 : decode mb_Acc_castVote 34 = .ok (.getfield 9, 3) := by decide +kernel
theorem md_Acc_castVote_37 : decode mb_Acc_castVote 37 = .ok (.iload_n 1, 1) := by decide +kernel
theorem md_Acc_castVote_38 : decode mb_Acc_castVote 38 = .ok (.invokestatic 67, 3) := by decide +kernel
theorem md_Acc_castVote_41 : decode mb_Acc_castVote 41 = .ok (.iload_n 2, 1) := by decide +kernel
theorem md_Acc_castVote_42 : decode mb_Acc_castVote 42 = .ok (.iconst 0, 1) := by decide +kernel
theorem md_Acc_castVote_43 : decode mb_Acc_castVote 43 = .ok (.invokevirtual 74, 3) := by decide +kernel
theorem md_Acc_castVote_46 : decode mb_Acc_castVote 46 = .ok (.aload_n 0, 1) := by decide +kernel
theorem md_Acc_castVote_47 : decode mb_Acc_castVote 47 = .ok (.getfield 18, 3) := by decide +kernel
theorem md_Acc_castVote_50 : decode mb_Acc_castVote 50 = .ok (.iconst 5, 1) := by decide +kernel
theorem md_Acc_castVote_51 : decode mb_Acc_castVote 51 = .ok (.aload_n 0, 1) := by decide +kernel
theorem md_Acc_castVote_52 : decode mb_Acc_castVote 52 = .ok (.getfield 15, 3) := by decide +kernel
theorem md_Acc_castVote_55 : decode mb_Acc_castVote 55 = .ok (.iload_n 1, 1) := by decide +kernel
theorem md_Acc_castVote_56 : decode mb_Acc_castVote 56 = .ok (.aload_n 0, 1) := by decide +kernel
theorem md_Acc_castVote_57 : decode mb_Acc_castVote 57 = .ok (.getfield 9, 3) := by decide +kernel
theorem md_Acc_castVote_60 : decode mb_Acc_castVote 60 = .ok (.bipush 10, 2) := by decide +kernel
theorem md_Acc_castVote_62 : decode mb_Acc_castVote 62 = .ok (.iload_n 2, 1) := by decide +kernel
theorem md_Acc_castVote_63 : decode mb_Acc_castVote 63 = .ok (.iconst 0, 1) := by decide +kernel
theorem md_Acc_castVote_64 : decode mb_Acc_castVote 64 = .ok (.invokevirtual 74, 3) := by decide +kernel
theorem md_Acc_castVote_67 : decode mb_Acc_castVote 67 = .ok (.return_, 1) := by decide +kernel
theorem fr_ix {n r a r' a' : Nat} (ha : a < n) (ha' : a' < n) (h : r' * n + a' = r * n + a) : r' = r ∧ a' = a := by
  rcases Nat.lt_trichotomy r' r with z | z | z
  · have h1 := Nat.mul_le_mul_right n (show r' + 1 ≤ r from z)
    rw [Nat.succ_mul] at h1
    omega
  · subst z; exact ⟨rfl, by omega⟩
  · have h1 := Nat.mul_le_mul_right n (show r + 1 ≤ r' from z)
    rw [Nat.succ_mul] at h1
    omega
theorem pz_u_id (p : pz_P) (k x y : Nat) : pz_u p k x y (p k x y) = p := by
  funext k' x' y'
  unfold pz_u
  split
  · rename_i h; rw [h.1, h.2.1, h.2.2]
  · rfl
set_option maxHeartbeats 4000000 in
theorem k_record0 (l : Launch) (D : va_G) {n : Nat} (ad : Nat × Nat → Nat) (cI cZ cS cA : ClassId) {M : fr_M} {q f : Nat} {S : pz_T} {ex : Nat → Nat → Prop} {s r a v : Nat} (hn : n ≤ 5) (hq : q ≤ 5) (hf : f ≤ 5) (h : fr_R n q f S ex M) (hs : s < 3) (hr12 : r ≤ 12) (ha : a < n) (hv : v < 2 ^ 31) (hb : ∀ b, b < n → S.2 s 5 r b < 2 ^ 31) (hse : S.2 s 16 0 0 < 2 ^ 31) : fb_C l D n ad cI cZ cS cA my_Tal_record mb_Tal_record 4 none 2 41 M [.ref (ad (13, 2 * s + 0)), .int (nI (r)), .int (nI (a)), .int (nI (v))] (none) (fr_K n q f (pz_pw S s (pz_u (pz_u (S.2 s) 5 r a v) 16 0 0 (if S.2 s 16 0 0 = 0 ∧ pz_en q f r ≤ pz_cv (pz_u (S.2 s) 5 r a v) n r v then v else S.2 s 16 0 0))) ex M) := by
  unfold fr_K
  refine xw_start [.ref (ad (13, 2 * s + 0)), .int (nI (r)), .int (nI (a)), .int (nI (v))] (by decide) (Nat.le_of_ble_eq_true rfl) ?_
  intro p e st m below meth cd0 ls Z hml hr hlk hN hl hw
  have hl : lv_has ls 4 [(0, .ref (ad (13, 2 * s + 0))), (1, .int (nI (r))), (2, .int (nI (a))), (3, .int (nI (v)))] := hl
  refine lv_aload_n Z.1 Z.2.1 md_Tal_record_0 rfl (lv_at hl 0 rfl) ?_
  refine xb_get (v := .ref (ad (14, 2 * s + 0))) Z hw (fb_in13 n hs (by decide)) (fb_e13 n ad cI cZ cS cA (2 * s + 0)) rfl tb_iTal 1 (by decide) mk_Tal_21 rfl rfl md_Tal_record_1 ?_
  refine lv_iload_n Z.1 Z.2.1 md_Tal_record_4 rfl (lv_at hl 1 rfl) ?_
  refine lv_aload_n Z.1 Z.2.1 md_Tal_record_5 rfl (lv_at hl 0 rfl) ?_
  refine xb_get (v := .ref (ad (1, 0))) Z hw (fb_in13 n hs (by decide)) (fb_e13 n ad cI cZ cS cA (2 * s + 0)) rfl tb_iTal 0 (by decide) mk_Tal_9 rfl rfl md_Tal_record_6 ?_
  refine xb_get (v := .int (M (1, 0) 0)) Z hw (fb_in1 n) (fb_e1 n ad cI cZ cS cA) rfl tb_iSiz 0 (by decide) mk_Tal_15 rfl rfl md_Tal_record_9 ?_
  refine xi_re (show M (1, 0) 0 = nI (n) from h.1.1) ?_
  refine xi_mul Z md_Tal_record_12 ?_
  refine lv_iload_n Z.1 Z.2.1 md_Tal_record_13 rfl (lv_at hl 2 rfl) ?_
  refine xi_add Z md_Tal_record_14 ?_
  refine lv_iload_n Z.1 Z.2.1 md_Tal_record_15 rfl (lv_at hl 3 rfl) ?_
  refine xb_iast Z hw (fb_in14 n hs (by decide)) (fb_e14 n ad cI cZ cS cA (2 * s + 0)) 0 rfl (r * n + a) rfl (by have h1 : r * n ≤ 12 * n := Nat.mul_le_mul_right n hr12; omega) (by omega) md_Tal_record_16 (fun M1 H1 locs1 e1 hw => ?_)
  have m1 : ∀ k, k ≠ (14, 2 * s + 0) → M1 k = M k := fun k hk => by rw [e1, xw_mw_n hk]
  have h1 : fr_R n q f (pz_pw S s (pz_u (S.2 s) 5 r a v)) ex M1 := by
    refine fr_tal (w := 0) h hs (by decide) (fun k _ h14 => m1 k h14) (fun k x y hk => pz_u_k hk.1) ⟨?_, ?_⟩ (fun x b hx hb2 => ⟨?_, ?_⟩)
    · rw [m1 _ (fr_pair (by decide)), pz_u_k (by decide)]; exact (fr_s h hs).1
    · rw [m1 _ (fr_pair (by decide)), pz_u_k (by decide)]; exact (fr_s h hs).2
    · rw [show M1 (14, 2 * s) = upd (M (14, 2 * s)) (r * n + a) (nI v) from by rw [e1]; exact xw_mw_s _ _ _]
      unfold upd pz_u
      by_cases z : x = r ∧ b = a
      · rw [z.1, z.2, if_pos rfl, if_pos ⟨rfl, rfl, rfl⟩]
      · rw [if_neg (fun y => z (fr_ix ha hb2 y)), if_neg (fun y => z ⟨y.2.1, y.2.2⟩)]; exact (fr_v h hs hx hb2).1
    · rw [m1 _ (fr_pair2 (by omega)), pz_u_k (by decide)]; exact (fr_v h hs hx hb2).2
  have hb1 : ∀ b, b < n → (pz_pw S s (pz_u (S.2 s) 5 r a v)).2 s 5 r b < 2 ^ 31 := fun b hb2 => by rw [pz_pw_s]; unfold pz_u; split <;> first | exact hv | exact hb b hb2
  have g6 : M1 (6, 0) = M (6, 0) := m1 _ (fr_pair (by decide))
  refine lv_aload_n Z.1 Z.2.1 md_Tal_record_17 rfl (lv_at hl 0 rfl) ?_
  refine xb_get (v := .int (M1 (13, 2 * s + 0) 2)) Z hw (fb_in13 n hs (by decide)) (fb_e13 n ad cI cZ cS cA (2 * s + 0)) rfl tb_iTal 2 (by decide) mk_Tal_25 rfl rfl md_Tal_record_18 ?_
  refine xi_re (show M1 (13, 2 * s + 0) 2 = nI (S.2 s 16 0 0) from (by rw [m1 _ (fr_pair (by decide))]; exact (fr_s h hs).1)) ?_
  refine xi_if_ne (tgt := 46) Z md_Tal_record_21 (by decide) (by omega) (fun h21 => ?_) (fun h21 => ?_)
  · exact xw_vret Z hr hlk hw md_Tal_record_46 ⟨by rw [if_neg (fun y => by omega), show S.2 s 16 0 0 = (pz_u (S.2 s) 5 r a v) 16 0 0 from (pz_u_k (by decide)).symm, pz_u_id]; exact h1, g6⟩
  · refine lv_aload_n Z.1 Z.2.1 md_Tal_record_24 rfl (lv_at hl 0 rfl) ?_
    refine lv_iload_n Z.1 Z.2.1 md_Tal_record_25 rfl (lv_at hl 1 rfl) ?_
    refine lv_iload_n Z.1 Z.2.1 md_Tal_record_26 rfl (lv_at hl 3 rfl) ?_
    refine xw_cV (n := 2) (rest := []) Z hml hl.1 hN hw (k_tally0 (S := pz_pw S s (pz_u (S.2 s) 5 r a v)) l D ad cI cZ cS cA hn h1 hs hr12 hv hb1) tb_g mc_Tal_tally mk_Tal_28 mi_Tal_tally ms_Tal_tally mz_Tal ⟨by decide, by decide, by decide +kernel⟩ ⟨Nat.le_of_ble_eq_true rfl, Nat.le_of_ble_eq_true rfl⟩ (fb_in13 n hs (by decide)) (fb_e13 n ad cI cZ cS cA (2 * s + 0) _) rfl rfl rfl rfl (Nat.le_of_ble_eq_true rfl) ⟨Nat.le_refl _, Nat.le_refl _⟩ md_Tal_record_27 (fun M2 H2 locs2 e2 hw => ?_)
    have ey2 := e2.symm
    subst ey2
    refine W.eq (g2 := F0 m 30 ls [.int (nI (pz_sm n (fun a_1 => if (pz_pw S s (pz_u (S.2 s) 5 r a v)).2 s 5 r a_1 = v then 1 else 0)))]) rfl ?_
    refine xi_re (show _ = nI (pz_cv (pz_u (S.2 s) 5 r a v) n r v) from (by rw [pz_pw_s]; rfl)) ?_
    refine lv_aload_n Z.1 Z.2.1 md_Tal_record_30 rfl (lv_at hl 0 rfl) ?_
    refine xb_get (v := .ref (ad (1, 0))) Z hw (fb_in13 n hs (by decide)) (fb_e13 n ad cI cZ cS cA (2 * s + 0)) rfl tb_iTal 0 (by decide) mk_Tal_9 rfl rfl md_Tal_record_31 ?_
    refine lv_iload_n Z.1 Z.2.1 md_Tal_record_34 rfl (lv_at hl 1 rfl) ?_
    refine xw_cV (n := 1) (rest := [.int (nI (pz_cv (pz_u (S.2 s) 5 r a v) n r v))]) Z hml hl.1 hN hw (k_quorumOf l D ad cI cZ cS cA h1.1 (by omega)) tb_g mc_Siz_quorumOf mk_Tal_32 mi_Siz_quorumOf ms_Siz_quorumOf mz_Siz ⟨by decide, by decide, by decide +kernel⟩ ⟨Nat.le_of_ble_eq_true rfl, Nat.le_of_ble_eq_true rfl⟩ (fb_in1 n) (fb_e1 n ad cI cZ cS cA _) rfl rfl rfl rfl (Nat.le_of_ble_eq_true rfl) ⟨Nat.le_refl _, Nat.le_refl _⟩ md_Tal_record_35 (fun M3 H3 locs3 e3 hw => ?_)
    have ey3 := e3.symm
    subst ey3
    refine W.eq (g2 := F0 m 38 ls [.int (nI (pz_en q f r)), .int (nI (pz_cv (pz_u (S.2 s) 5 r a v) n r v))]) rfl ?_
    have l1 : pz_en q f r < 2 ^ 31 := by unfold pz_en; split <;> omega
    have l2 : pz_cv (pz_u (S.2 s) 5 r a v) n r v ≤ n := Nat.le_trans (pz_sm_le n (h := fun _ => 1) (fun b _ => by split <;> omega)) (by rw [pz_sm_const]; omega)
    refine xi_icmp_lt (tgt := 46) Z md_Tal_record_38 (by decide) (by omega) (by omega) (fun h38 => ?_) (fun h38 => ?_)
    · exact xw_vret Z hr hlk hw md_Tal_record_46 ⟨by rw [if_neg (fun y => by omega), show S.2 s 16 0 0 = (pz_u (S.2 s) 5 r a v) 16 0 0 from (pz_u_k (by decide)).symm, pz_u_id]; exact h1, g6⟩
    · refine lv_aload_n Z.1 Z.2.1 md_Tal_record_41 rfl (lv_at hl 0 rfl) ?_
      refine lv_iload_n Z.1 Z.2.1 md_Tal_record_42 rfl (lv_at hl 3 rfl) ?_
      refine xb_put Z hw (fb_in13 n hs (by decide)) (fb_e13 n ad cI cZ cS cA (2 * s + 0)) rfl tb_iTal tb_tTal tb_yTal tb_nTal 2 (by decide) mk_Tal_25 rfl rfl rfl (fb_s13_2 ad (2 * s + 0) _) md_Tal_record_43 (fun M4 H4 locs4 e4 hw => ?_)
      rw [if_pos ⟨h21, h38⟩]
      have m2 : ∀ k, k ≠ (13, 2 * s + 0) → M4 k = M1 k := fun k hk => by rw [e4, xw_mw_n hk]
      have hX := fr_tal (w := 0) (p' := pz_u (pz_u (S.2 s) 5 r a v) 16 0 0 v) h1 hs (by decide) (fun k h13 _ => m2 k h13) (fun k x y hk => by rw [pz_pw_s]; exact pz_u_k hk.2.2.2) ⟨?_, ?_⟩ (fun x b hx hb2 => ⟨?_, ?_⟩)
      · rw [pz_pw_pw] at hX
        exact xw_vret Z hr hlk hw md_Tal_record_46 ⟨hX, by rw [m2 _ (fr_pair (by decide))]; exact g6⟩
      · rw [show M4 (13, 2 * s) = upd (M1 (13, 2 * s)) 2 (nI v) from by rw [e4]; exact xw_mw_s _ _ _, pz_u_s]; simp [upd]
      · rw [m2 _ (fr_pair2 (by omega)), pz_u_k (by decide)]; have := (fr_s h1 hs).2; rw [pz_pw_s] at this; exact this
      · rw [m2 _ (fr_pair (by decide)), pz_u_k (by decide)]; have := (fr_v h1 hs hx hb2).1; rw [pz_pw_s] at this; exact this
      · rw [m2 _ (fr_pair (by decide)), pz_u_k (by decide)]; have := (fr_v h1 hs hx hb2).2; rw [pz_pw_s] at this; exact this
set_option maxHeartbeats 4000000 in
theorem k_record1 (l : Launch) (D : va_G) {n : Nat} (ad : Nat × Nat → Nat) (cI cZ cS cA : ClassId) {M : fr_M} {q f : Nat} {S : pz_T} {ex : Nat → Nat → Prop} {s r a v : Nat} (hn : n ≤ 5) (hq : q ≤ 5) (hf : f ≤ 5) (h : fr_R n q f S ex M) (hs : s < 3) (hr12 : r ≤ 12) (ha : a < n) (hv : v < 2 ^ 31) (hb : ∀ b, b < n → S.2 s 6 r b < 2 ^ 31) (hse : S.2 s 7 0 0 < 2 ^ 31) : fb_C l D n ad cI cZ cS cA my_Tal_record mb_Tal_record 4 none 2 41 M [.ref (ad (13, 2 * s + 1)), .int (nI (r)), .int (nI (a)), .int (nI (v))] (none) (fr_K n q f (pz_pw S s (pz_u (pz_u (S.2 s) 6 r a v) 7 0 0 (if S.2 s 7 0 0 = 0 ∧ pz_en q f r ≤ pz_hv (pz_u (S.2 s) 6 r a v) n r v then v else S.2 s 7 0 0))) ex M) := by
  unfold fr_K
  refine xw_start [.ref (ad (13, 2 * s + 1)), .int (nI (r)), .int (nI (a)), .int (nI (v))] (by decide) (Nat.le_of_ble_eq_true rfl) ?_
  intro p e st m below meth cd0 ls Z hml hr hlk hN hl hw
  have hl : lv_has ls 4 [(0, .ref (ad (13, 2 * s + 1))), (1, .int (nI (r))), (2, .int (nI (a))), (3, .int (nI (v)))] := hl
  refine lv_aload_n Z.1 Z.2.1 md_Tal_record_0 rfl (lv_at hl 0 rfl) ?_
  refine xb_get (v := .ref (ad (14, 2 * s + 1))) Z hw (fb_in13 n hs (by decide)) (fb_e13 n ad cI cZ cS cA (2 * s + 1)) rfl tb_iTal 1 (by decide) mk_Tal_21 rfl rfl md_Tal_record_1 ?_
  refine lv_iload_n Z.1 Z.2.1 md_Tal_record_4 rfl (lv_at hl 1 rfl) ?_
  refine lv_aload_n Z.1 Z.2.1 md_Tal_record_5 rfl (lv_at hl 0 rfl) ?_
  refine xb_get (v := .ref (ad (1, 0))) Z hw (fb_in13 n hs (by decide)) (fb_e13 n ad cI cZ cS cA (2 * s + 1)) rfl tb_iTal 0 (by decide) mk_Tal_9 rfl rfl md_Tal_record_6 ?_
  refine xb_get (v := .int (M (1, 0) 0)) Z hw (fb_in1 n) (fb_e1 n ad cI cZ cS cA) rfl tb_iSiz 0 (by decide) mk_Tal_15 rfl rfl md_Tal_record_9 ?_
  refine xi_re (show M (1, 0) 0 = nI (n) from h.1.1) ?_
  refine xi_mul Z md_Tal_record_12 ?_
  refine lv_iload_n Z.1 Z.2.1 md_Tal_record_13 rfl (lv_at hl 2 rfl) ?_
  refine xi_add Z md_Tal_record_14 ?_
  refine lv_iload_n Z.1 Z.2.1 md_Tal_record_15 rfl (lv_at hl 3 rfl) ?_
  refine xb_iast Z hw (fb_in14 n hs (by decide)) (fb_e14 n ad cI cZ cS cA (2 * s + 1)) 0 rfl (r * n + a) rfl (by have h1 : r * n ≤ 12 * n := Nat.mul_le_mul_right n hr12; omega) (by omega) md_Tal_record_16 (fun M1 H1 locs1 e1 hw => ?_)
  have m1 : ∀ k, k ≠ (14, 2 * s + 1) → M1 k = M k := fun k hk => by rw [e1, xw_mw_n hk]
  have h1 : fr_R n q f (pz_pw S s (pz_u (S.2 s) 6 r a v)) ex M1 := by
    refine fr_tal (w := 1) h hs (by decide) (fun k _ h14 => m1 k h14) (fun k x y hk => pz_u_k hk.2.1) ⟨?_, ?_⟩ (fun x b hx hb2 => ⟨?_, ?_⟩)
    · rw [m1 _ (fr_pair (by decide)), pz_u_k (by decide)]; exact (fr_s h hs).1
    · rw [m1 _ (fr_pair (by decide)), pz_u_k (by decide)]; exact (fr_s h hs).2
    · rw [m1 _ (fr_pair2 (by omega)), pz_u_k (by decide)]; exact (fr_v h hs hx hb2).1
    · rw [show M1 (14, 2 * s + 1) = upd (M (14, 2 * s + 1)) (r * n + a) (nI v) from by rw [e1]; exact xw_mw_s _ _ _]
      unfold upd pz_u
      by_cases z : x = r ∧ b = a
      · rw [z.1, z.2, if_pos rfl, if_pos ⟨rfl, rfl, rfl⟩]
      · rw [if_neg (fun y => z (fr_ix ha hb2 y)), if_neg (fun y => z ⟨y.2.1, y.2.2⟩)]; exact (fr_v h hs hx hb2).2
  have hb1 : ∀ b, b < n → (pz_pw S s (pz_u (S.2 s) 6 r a v)).2 s 6 r b < 2 ^ 31 := fun b hb2 => by rw [pz_pw_s]; unfold pz_u; split <;> first | exact hv | exact hb b hb2
  have g6 : M1 (6, 0) = M (6, 0) := m1 _ (fr_pair (by decide))
  refine lv_aload_n Z.1 Z.2.1 md_Tal_record_17 rfl (lv_at hl 0 rfl) ?_
  refine xb_get (v := .int (M1 (13, 2 * s + 1) 2)) Z hw (fb_in13 n hs (by decide)) (fb_e13 n ad cI cZ cS cA (2 * s + 1)) rfl tb_iTal 2 (by decide) mk_Tal_25 rfl rfl md_Tal_record_18 ?_
  refine xi_re (show M1 (13, 2 * s + 1) 2 = nI (S.2 s 7 0 0) from (by rw [m1 _ (fr_pair (by decide))]; exact (fr_s h hs).2)) ?_
  refine xi_if_ne (tgt := 46) Z md_Tal_record_21 (by decide) (by omega) (fun h21 => ?_) (fun h21 => ?_)
  · exact xw_vret Z hr hlk hw md_Tal_record_46 ⟨by rw [if_neg (fun y => by omega), show S.2 s 7 0 0 = (pz_u (S.2 s) 6 r a v) 7 0 0 from (pz_u_k (by decide)).symm, pz_u_id]; exact h1, g6⟩
  · refine lv_aload_n Z.1 Z.2.1 md_Tal_record_24 rfl (lv_at hl 0 rfl) ?_
    refine lv_iload_n Z.1 Z.2.1 md_Tal_record_25 rfl (lv_at hl 1 rfl) ?_
    refine lv_iload_n Z.1 Z.2.1 md_Tal_record_26 rfl (lv_at hl 3 rfl) ?_
    refine xw_cV (n := 2) (rest := []) Z hml hl.1 hN hw (k_tally1 (S := pz_pw S s (pz_u (S.2 s) 6 r a v)) l D ad cI cZ cS cA hn h1 hs hr12 hv hb1) tb_g mc_Tal_tally mk_Tal_28 mi_Tal_tally ms_Tal_tally mz_Tal ⟨by decide, by decide, by decide +kernel⟩ ⟨Nat.le_of_ble_eq_true rfl, Nat.le_of_ble_eq_true rfl⟩ (fb_in13 n hs (by decide)) (fb_e13 n ad cI cZ cS cA (2 * s + 1) _) rfl rfl rfl rfl (Nat.le_of_ble_eq_true rfl) ⟨Nat.le_refl _, Nat.le_refl _⟩ md_Tal_record_27 (fun M2 H2 locs2 e2 hw => ?_)
    have ey2 := e2.symm
    subst ey2
    refine W.eq (g2 := F0 m 30 ls [.int (nI (pz_sm n (fun a_1 => if (pz_pw S s (pz_u (S.2 s) 6 r a v)).2 s 6 r a_1 = v then 1 else 0)))]) rfl ?_
    refine xi_re (show _ = nI (pz_hv (pz_u (S.2 s) 6 r a v) n r v) from (by rw [pz_pw_s]; rfl)) ?_
    refine lv_aload_n Z.1 Z.2.1 md_Tal_record_30 rfl (lv_at hl 0 rfl) ?_
    refine xb_get (v := .ref (ad (1, 0))) Z hw (fb_in13 n hs (by decide)) (fb_e13 n ad cI cZ cS cA (2 * s + 1)) rfl tb_iTal 0 (by decide) mk_Tal_9 rfl rfl md_Tal_record_31 ?_
    refine lv_iload_n Z.1 Z.2.1 md_Tal_record_34 rfl (lv_at hl 1 rfl) ?_
    refine xw_cV (n := 1) (rest := [.int (nI (pz_hv (pz_u (S.2 s) 6 r a v) n r v))]) Z hml hl.1 hN hw (k_quorumOf l D ad cI cZ cS cA h1.1 (by omega)) tb_g mc_Siz_quorumOf mk_Tal_32 mi_Siz_quorumOf ms_Siz_quorumOf mz_Siz ⟨by decide, by decide, by decide +kernel⟩ ⟨Nat.le_of_ble_eq_true rfl, Nat.le_of_ble_eq_true rfl⟩ (fb_in1 n) (fb_e1 n ad cI cZ cS cA _) rfl rfl rfl rfl (Nat.le_of_ble_eq_true rfl) ⟨Nat.le_refl _, Nat.le_refl _⟩ md_Tal_record_35 (fun M3 H3 locs3 e3 hw => ?_)
    have ey3 := e3.symm
    subst ey3
    refine W.eq (g2 := F0 m 38 ls [.int (nI (pz_en q f r)), .int (nI (pz_hv (pz_u (S.2 s) 6 r a v) n r v))]) rfl ?_
    have l1 : pz_en q f r < 2 ^ 31 := by unfold pz_en; split <;> omega
    have l2 : pz_hv (pz_u (S.2 s) 6 r a v) n r v ≤ n := Nat.le_trans (pz_sm_le n (h := fun _ => 1) (fun b _ => by split <;> omega)) (by rw [pz_sm_const]; omega)
    refine xi_icmp_lt (tgt := 46) Z md_Tal_record_38 (by decide) (by omega) (by omega) (fun h38 => ?_) (fun h38 => ?_)
    · exact xw_vret Z hr hlk hw md_Tal_record_46 ⟨by rw [if_neg (fun y => by omega), show S.2 s 7 0 0 = (pz_u (S.2 s) 6 r a v) 7 0 0 from (pz_u_k (by decide)).symm, pz_u_id]; exact h1, g6⟩
    · refine lv_aload_n Z.1 Z.2.1 md_Tal_record_41 rfl (lv_at hl 0 rfl) ?_
      refine lv_iload_n Z.1 Z.2.1 md_Tal_record_42 rfl (lv_at hl 3 rfl) ?_
      refine xb_put Z hw (fb_in13 n hs (by decide)) (fb_e13 n ad cI cZ cS cA (2 * s + 1)) rfl tb_iTal tb_tTal tb_yTal tb_nTal 2 (by decide) mk_Tal_25 rfl rfl rfl (fb_s13_2 ad (2 * s + 1) _) md_Tal_record_43 (fun M4 H4 locs4 e4 hw => ?_)
      rw [if_pos ⟨h21, h38⟩]
      have m2 : ∀ k, k ≠ (13, 2 * s + 1) → M4 k = M1 k := fun k hk => by rw [e4, xw_mw_n hk]
      have hX := fr_tal (w := 1) (p' := pz_u (pz_u (S.2 s) 6 r a v) 7 0 0 v) h1 hs (by decide) (fun k h13 _ => m2 k h13) (fun k x y hk => by rw [pz_pw_s]; exact pz_u_k hk.2.2.1) ⟨?_, ?_⟩ (fun x b hx hb2 => ⟨?_, ?_⟩)
      · rw [pz_pw_pw] at hX
        exact xw_vret Z hr hlk hw md_Tal_record_46 ⟨hX, by rw [m2 _ (fr_pair (by decide))]; exact g6⟩
      · rw [m2 _ (fr_pair2 (by omega)), pz_u_k (by decide)]; have := (fr_s h1 hs).1; rw [pz_pw_s] at this; exact this
      · rw [show M4 (13, 2 * s + 1) = upd (M1 (13, 2 * s + 1)) 2 (nI v) from by rw [e4]; exact xw_mw_s _ _ _, pz_u_s]; simp [upd]
      · rw [m2 _ (fr_pair (by decide)), pz_u_k (by decide)]; have := (fr_v h1 hs hx hb2).1; rw [pz_pw_s] at this; exact this
      · rw [m2 _ (fr_pair (by decide)), pz_u_k (by decide)]; have := (fr_v h1 hs hx hb2).2; rw [pz_pw_s] at this; exact this
set_option maxHeartbeats 4000000 in
theorem k_isOpenNow (l : Launch) (D : va_G) {n : Nat} (ad : Nat × Nat → Nat) (cI cZ cS cA : ClassId) {M : fr_M} {q f : Nat} {S : pz_T} {ex : Nat → Nat → Prop} {s a : Nat} (hn : n ≤ 5) (h : fr_R n q f S ex M) (hs : s < 3) (ha : a < n) (b4 : S.2 s 4 a 0 < 2 ^ 31) (b0 : S.2 s 0 a 0 < 2 ^ 31) : fb_C l D n ad cI cZ cS cA my_Acc_isOpenNow mb_Acc_isOpenNow 1 (some .boolean) 0 0 M [.ref (ad (15, 5 * s + a))] (some (.int (nI (if S.2 s 4 a 0 ≠ 0 ∧ S.2 s 4 a 0 = S.2 s 0 a 0 then 1 else 0)))) (fun M' => M' = M) := by
  refine xw_start [.ref (ad (15, 5 * s + a))] (by decide) (Nat.le_of_ble_eq_true rfl) ?_
  intro p e st m below meth cd0 ls Z hml hr hlk hN hl hw
  have hl : lv_has ls 1 [(0, .ref (ad (15, 5 * s + a)))] := hl
  refine lv_aload_n Z.1 Z.2.1 md_Acc_isOpenNow_0 rfl (lv_at hl 0 rfl) ?_
  refine xb_get (v := .int (M (15, 5 * s + a) 8)) Z hw (fb_in15 hn hs ha) (fb_e15 n ad cI cZ cS cA (5 * s + a)) rfl tb_iAcc 8 (by decide) mk_Acc_64 rfl rfl md_Acc_isOpenNow_1 ?_
  refine xi_re (show M (15, 5 * s + a) 8 = nI (S.2 s 4 a 0) from (fr_a h hs ha).2.2.2.2.2.2) ?_
  refine xi_if_eq (tgt := 22) Z md_Acc_isOpenNow_4 (by decide) (by omega) (fun h4 => ?_) (fun h4 => ?_)
  · refine lv_iconst (v := nI 0) Z.1 Z.2.1 md_Acc_isOpenNow_22 (by decide) ?_
    exact xw_zret Z hr hlk hw md_Acc_isOpenNow_23 (by first | rw [if_pos ⟨by omega, by omega⟩] | rw [if_neg (fun y => by omega)]) rfl rfl
  · refine lv_aload_n Z.1 Z.2.1 md_Acc_isOpenNow_7 rfl (lv_at hl 0 rfl) ?_
    refine xb_get (v := .int (M (15, 5 * s + a) 8)) Z hw (fb_in15 hn hs ha) (fb_e15 n ad cI cZ cS cA (5 * s + a)) rfl tb_iAcc 8 (by decide) mk_Acc_64 rfl rfl md_Acc_isOpenNow_8 ?_
    refine xi_re (show M (15, 5 * s + a) 8 = nI (S.2 s 4 a 0) from (fr_a h hs ha).2.2.2.2.2.2) ?_
    refine lv_aload_n Z.1 Z.2.1 md_Acc_isOpenNow_11 rfl (lv_at hl 0 rfl) ?_
    refine xb_get (v := .int (M (15, 5 * s + a) 4)) Z hw (fb_in15 hn hs ha) (fb_e15 n ad cI cZ cS cA (5 * s + a)) rfl tb_iAcc 4 (by decide) mk_Acc_58 rfl rfl md_Acc_isOpenNow_12 ?_
    refine xi_re (show M (15, 5 * s + a) 4 = nI (S.2 s 0 a 0) from (fr_a h hs ha).2.2.1) ?_
    refine xi_icmp_ne (tgt := 22) Z md_Acc_isOpenNow_15 (by decide) (by omega) (by omega) (fun h15 => ?_) (fun h15 => ?_)
    · refine lv_iconst (v := nI 0) Z.1 Z.2.1 md_Acc_isOpenNow_22 (by decide) ?_
      exact xw_zret Z hr hlk hw md_Acc_isOpenNow_23 (by first | rw [if_pos ⟨by omega, by omega⟩] | rw [if_neg (fun y => by omega)]) rfl rfl
    · refine lv_iconst (v := nI 1) Z.1 Z.2.1 md_Acc_isOpenNow_18 (by decide) ?_
      refine lv_goto (tgt := 23) Z.1 Z.2.1 md_Acc_isOpenNow_19 (by decide) ?_
      exact xw_zret Z hr hlk hw md_Acc_isOpenNow_23 (by first | rw [if_pos ⟨by omega, by omega⟩] | rw [if_neg (fun y => by omega)]) rfl rfl
set_option maxHeartbeats 4000000 in
theorem k_castVote (l : Launch) (D : va_G) {n : Nat} (ad : Nat × Nat → Nat) (cI cZ cS cA : ClassId) {M : fr_M} {q f : Nat} {S : pz_T} {ex : Nat → Nat → Prop} {s a r v : Nat} (hn : n ≤ 5) (hq : q ≤ 5) (hf : f ≤ 5) (h : fr_R n q f S ex M) (h60 : S.1.length ≤ 60) (hs : s < 3) (ha : a < n) (hr1 : 1 ≤ r) (hr12 : r ≤ 12) (hv : v < 2 ^ 31) (hb : ∀ b, b < n → S.2 s 5 r b < 2 ^ 31) (hse : S.2 s 16 0 0 < 2 ^ 31) : fb_C l D n ad cI cZ cS cA my_Acc_castVote mb_Acc_castVote 3 none 3 64 M [.ref (ad (15, 5 * s + a)), .int (nI (r)), .int (nI (v))] (none) (fr_K n q f (pz_cast n q f S s a r v) ex M) := by
  refine xw_start [.ref (ad (15, 5 * s + a)), .int (nI (r)), .int (nI (v))] (by decide) (Nat.le_of_ble_eq_true rfl) ?_
  intro p e st m below meth cd0 ls Z hml hr hlk hN hl hw
  have hl : lv_has ls 3 [(0, .ref (ad (15, 5 * s + a))), (1, .int (nI (r))), (2, .int (nI (v)))] := hl
  refine lv_aload_n Z.1 Z.2.1 md_Acc_castVote_0 rfl (lv_at hl 0 rfl) ?_
  refine lv_iload_n Z.1 Z.2.1 md_Acc_castVote_1 rfl (lv_at hl 2 rfl) ?_
  refine xb_put Z hw (fb_in15 hn hs ha) (fb_e15 n ad cI cZ cS cA (5 * s + a)) rfl tb_iAcc tb_tAcc tb_yAcc tb_nAcc 5 (by decide) mk_Acc_71 rfl rfl rfl (fb_s15_5 ad (5 * s + a) _) md_Acc_castVote_2 (fun M1 H1 locs1 e1 hw => ?_)
  refine lv_aload_n Z.1 Z.2.1 md_Acc_castVote_5 rfl (lv_at hl 0 rfl) ?_
  refine lv_iload_n Z.1 Z.2.1 md_Acc_castVote_6 rfl (lv_at hl 1 rfl) ?_
  refine xb_put Z hw (fb_in15 hn hs ha) (fb_e15 n ad cI cZ cS cA (5 * s + a)) rfl tb_iAcc tb_tAcc tb_yAcc tb_nAcc 6 (by decide) mk_Acc_55 rfl rfl rfl (fb_s15_6 ad (5 * s + a) _) md_Acc_castVote_7 (fun M2 H2 locs2 e2 hw => ?_)
  have h2c : M2 (15, 5 * s + a) = upd (upd (M (15, 5 * s + a)) 5 (nI v)) 6 (nI r) := by rw [e2, xw_mw_s, e1, xw_mw_s]
  have h2m : ∀ k, k ≠ (15, 5 * s + a) → M2 k = M k := fun k hk => by rw [e2, xw_mw_n hk, e1, xw_mw_n hk]
  have h2 : fr_R n q f (pz_pw S s (pz_u (pz_u (S.2 s) 1 a 0 v) 2 a 0 r)) ex M2 := by
    have k := fr_a h hs ha
    refine fr_acc hn h hs ha h2m (fun k x y h5 => by simp only [pz_u]; repeat rw [if_neg (fun y => by omega)]) (fun k b hk4 hb => by simp only [pz_u]; repeat rw [if_neg (fun y => by omega)]) ?_
    rw [h2c]
    refine ⟨?_, ?_, ?_, ?_, ?_, ?_, ?_⟩ <;> (simp only [upd, pz_u]; try simp) <;> first | exact k.1 | exact k.2.1 | exact k.2.2.1 | exact k.2.2.2.1 | exact k.2.2.2.2.1 | exact k.2.2.2.2.2.1 | exact k.2.2.2.2.2.2
  refine lv_aload_n Z.1 Z.2.1 md_Acc_castVote_10 rfl (lv_at hl 0 rfl) ?_
  refine xb_get (v := .ref (ad (13, 2 * s + 0))) Z hw (fb_in15 hn hs ha) (fb_e15 n ad cI cZ cS cA (5 * s + a)) rfl tb_iAcc 3 (by decide) mk_Acc_22 rfl (by show some (Value.ref (ad (13, 2 * ((5 * s + a) / 5) + 0))) = _; rw [show (5 * s + a) / 5 = s by omega]) md_Acc_castVote_11 ?_
  refine lv_iload_n Z.1 Z.2.1 md_Acc_castVote_14 rfl (lv_at hl 1 rfl) ?_
  refine lv_aload_n Z.1 Z.2.1 md_Acc_castVote_15 rfl (lv_at hl 0 rfl) ?_
  refine xb_get (v := .int (M2 (15, 5 * s + a) 0)) Z hw (fb_in15 hn hs ha) (fb_e15 n ad cI cZ cS cA (5 * s + a)) rfl tb_iAcc 0 (by decide) mk_Acc_9 rfl rfl md_Acc_castVote_16 ?_
  refine xi_re (show M2 (15, 5 * s + a) 0 = nI (a) from (fr_a h2 hs ha).1) ?_
  refine lv_iload_n Z.1 Z.2.1 md_Acc_castVote_19 rfl (lv_at hl 2 rfl) ?_
  refine xw_cV (n := 3) (rest := []) Z hml hl.1 hN hw (k_record0 (S := pz_pw S s (pz_u (pz_u (S.2 s) 1 a 0 v) 2 a 0 r)) l D ad cI cZ cS cA hn hq hf h2 hs hr12 ha hv (fun b hb2 => by rw [pz_pw_s, pz_u_k (by decide), pz_u_k (by decide)]; exact hb b hb2) (by rw [pz_pw_s, pz_u_k (by decide), pz_u_k (by decide)]; exact hse)) tb_g mc_Tal_record mk_Acc_80 mi_Tal_record ms_Tal_record mz_Tal ⟨by decide, by decide, by decide +kernel⟩ ⟨Nat.le_of_ble_eq_true rfl, Nat.le_of_ble_eq_true rfl⟩ (fb_in13 n hs (by decide)) (fb_e13 n ad cI cZ cS cA (2 * s + 0) _) rfl rfl rfl rfl (Nat.le_of_ble_eq_true rfl) ⟨Nat.le_refl _, Nat.le_refl _⟩ md_Acc_castVote_20 (fun M3 H3 locs3 h3 hw => ?_)
  refine W.eq (g2 := F0 m 23 ls []) rfl ?_
  have h3r : fr_R n q f (pz_pw S s (pz_v2 n q f (S.2 s) a r v)) ex M3 := by
    have z := h3.1
    rw [pz_pw_s, pz_pw_pw] at z
    exact z
  refine lv_aload_n Z.1 Z.2.1 md_Acc_castVote_23 rfl (lv_at hl 0 rfl) ?_
  refine xb_get (v := .ref (ad (2, 0))) Z hw (fb_in15 hn hs ha) (fb_e15 n ad cI cZ cS cA (5 * s + a)) rfl tb_iAcc 2 (by decide) mk_Acc_18 rfl rfl md_Acc_castVote_24 ?_
  refine lv_iconst (v := nI 5) Z.1 Z.2.1 md_Acc_castVote_27 (by decide) ?_
  refine lv_aload_n Z.1 Z.2.1 md_Acc_castVote_28 rfl (lv_at hl 0 rfl) ?_
  refine xb_get (v := .int (M3 (15, 5 * s + a) 1)) Z hw (fb_in15 hn hs ha) (fb_e15 n ad cI cZ cS cA (5 * s + a)) rfl tb_iAcc 1 (by decide) mk_Acc_15 rfl rfl md_Acc_castVote_29 ?_
  refine xi_re (show M3 (15, 5 * s + a) 1 = nI (s) from (fr_a h3r hs ha).2.1) ?_
  refine lv_iload_n Z.1 Z.2.1 md_Acc_castVote_32 rfl (lv_at hl 1 rfl) ?_
  refine lv_aload_n Z.1 Z.2.1 md_Acc_castVote_33 rfl (lv_at hl 0 rfl) ?_
  refine xb_get (v := .int (M3 (15, 5 * s + a) 0)) Z hw (fb_in15 hn hs ha) (fb_e15 n ad cI cZ cS cA (5 * s + a)) rfl tb_iAcc 0 (by decide) mk_Acc_9 rfl rfl md_Acc_castVote_34 ?_
  refine xi_re (show M3 (15, 5 * s + a) 0 = nI (a) from (fr_a h3r hs ha).1) ?_
  refine lv_iload_n Z.1 Z.2.1 md_Acc_castVote_37 rfl (lv_at hl 1 rfl) ?_
  refine xw_cN (n := 1) (rest := [.int (nI (a)), .int (nI (r)), .int (nI (s)), .int (nI (5)), .ref (ad (2, 0))]) Z hml hl.1 hN hw (k_coordinatorOf l D ad cI cZ cS cA (M := M3) hr1 (by omega)) tb_g mc_FB_coordinatorOf (host := "FastBallots") (List.mem_of_getElem? (i := 4) rfl) mt_FB_coordinatorOf mz_FB ⟨by decide, by decide, by decide +kernel⟩ ⟨Nat.le_of_ble_eq_true rfl, Nat.le_of_ble_eq_true rfl⟩ rfl rfl (Nat.le_of_ble_eq_true rfl) ⟨Nat.le_refl _, Nat.le_refl _⟩ md_Acc_castVote_38 (fun M4 H4 locs4 e4 hw => ?_)
  have ey4 := e4.symm
  subst ey4
  refine W.eq (g2 := F0 m 41 ls [.int (nI (8 + pz_ci r)), .int (nI (a)), .int (nI (r)), .int (nI (s)), .int (nI (5)), .ref (ad (2, 0))]) rfl ?_
  refine lv_iload_n Z.1 Z.2.1 md_Acc_castVote_41 rfl (lv_at hl 2 rfl) ?_
  refine lv_iconst (v := nI 0) Z.1 Z.2.1 md_Acc_castVote_42 (by decide) ?_
  refine xw_cV (n := 7) (rest := []) Z hml hl.1 hN hw (k_send (g := (pz_mg 5 s r a (8 + pz_ci r) v 0)) (x := nI a) l D ad cI cZ cS cA h3r h60 (fun _ => rfl)) tb_g mc_Mail_send mk_Acc_74 mi_Mail_send ms_Mail_send mz_Mail ⟨by decide, by decide, by decide +kernel⟩ ⟨Nat.le_of_ble_eq_true rfl, Nat.le_of_ble_eq_true rfl⟩ (fb_in2 n) (fb_e2 n ad cI cZ cS cA _) rfl rfl rfl rfl (Nat.le_of_ble_eq_true rfl) ⟨Nat.le_refl _, Nat.le_refl _⟩ md_Acc_castVote_43 (fun M5 H5 locs5 h5 hw => ?_)
  refine W.eq (g2 := F0 m 46 ls []) rfl ?_
  refine lv_aload_n Z.1 Z.2.1 md_Acc_castVote_46 rfl (lv_at hl 0 rfl) ?_
  refine xb_get (v := .ref (ad (2, 0))) Z hw (fb_in15 hn hs ha) (fb_e15 n ad cI cZ cS cA (5 * s + a)) rfl tb_iAcc 2 (by decide) mk_Acc_18 rfl rfl md_Acc_castVote_47 ?_
  refine lv_iconst (v := nI 5) Z.1 Z.2.1 md_Acc_castVote_50 (by decide) ?_
  refine lv_aload_n Z.1 Z.2.1 md_Acc_castVote_51 rfl (lv_at hl 0 rfl) ?_
  refine xb_get (v := .int (M5 (15, 5 * s + a) 1)) Z hw (fb_in15 hn hs ha) (fb_e15 n ad cI cZ cS cA (5 * s + a)) rfl tb_iAcc 1 (by decide) mk_Acc_15 rfl rfl md_Acc_castVote_52 ?_
  refine xi_re (show M5 (15, 5 * s + a) 1 = nI (s) from (fr_a h5.1 hs ha).2.1) ?_
  refine lv_iload_n Z.1 Z.2.1 md_Acc_castVote_55 rfl (lv_at hl 1 rfl) ?_
  refine lv_aload_n Z.1 Z.2.1 md_Acc_castVote_56 rfl (lv_at hl 0 rfl) ?_
  refine xb_get (v := .int (M5 (15, 5 * s + a) 0)) Z hw (fb_in15 hn hs ha) (fb_e15 n ad cI cZ cS cA (5 * s + a)) rfl tb_iAcc 0 (by decide) mk_Acc_9 rfl rfl md_Acc_castVote_57 ?_
  refine xi_re (show M5 (15, 5 * s + a) 0 = nI (a) from (fr_a h5.1 hs ha).1) ?_
  refine lv_bipush (v := nI 10) Z.1 Z.2.1 md_Acc_castVote_60 (by decide) ?_
  refine lv_iload_n Z.1 Z.2.1 md_Acc_castVote_62 rfl (lv_at hl 2 rfl) ?_
  refine lv_iconst (v := nI 0) Z.1 Z.2.1 md_Acc_castVote_63 (by decide) ?_
  refine xw_cV (n := 7) (rest := []) Z hml hl.1 hN hw (k_send (g := (pz_mg 5 s r a 10 v 0)) (x := nI a) l D ad cI cZ cS cA h5.1 (fr_sd_len h60) (fun _ => rfl)) tb_g mc_Mail_send mk_Acc_74 mi_Mail_send ms_Mail_send mz_Mail ⟨by decide, by decide, by decide +kernel⟩ ⟨Nat.le_of_ble_eq_true rfl, Nat.le_of_ble_eq_true rfl⟩ (fb_in2 n) (fb_e2 n ad cI cZ cS cA _) rfl rfl rfl rfl (Nat.le_of_ble_eq_true rfl) ⟨Nat.le_refl _, Nat.le_refl _⟩ md_Acc_castVote_64 (fun M6 H6 locs6 h6 hw => ?_)
  refine W.eq (g2 := F0 m 67 ls []) rfl ?_
  exact xw_vret Z hr hlk hw md_Acc_castVote_67 ⟨h6.1, by rw [h6.2, h5.2, h3.2, h2m _ (fr_pair (by decide))]⟩
set_option maxHeartbeats 4000000 in
theorem k_hearAsk (l : Launch) (D : va_G) {n : Nat} (ad : Nat × Nat → Nat) (cI cZ cS cA : ClassId) {M : fr_M} {q f : Nat} {S : pz_T} {ex : Nat → Nat → Prop} {s a r v : Nat} (hn : n ≤ 5) (hq : q ≤ 5) (hf : f ≤ 5) (h : fr_R n q f S ex M) (h60 : S.1.length ≤ 60) (I : pz_IV n q f (S.2 s)) (hs : s < 3) (ha : a < n) (hr1 : 1 ≤ r) (hr12 : r ≤ 12) : fb_C l D n ad cI cZ cS cA my_Acc_hearAsk mb_Acc_hearAsk 2 none 1 28 M [.ref (ad (15, 5 * s + a)), .int (nI (r))] (none) (fr_K n q f (pz_accept n q f S s a 2 r v) ex M) := by
  have iA := I.1 a ha
  have iO := I.2.1 a ha
  have iZ := I.2.2.2.2.2.2.1
  have iV : ∀ x b, b < n → S.2 s 5 x b < 2 ^ 31 := fun x b hb => by
    by_cases z : S.2 s 5 x b = 0
    · omega
    · have := ((I.1 b hb).2.2.1 x z).2.2
      omega
  have iS : S.2 s 16 0 0 < 2 ^ 31 := by have := iZ.2.2.2; omega
  obtain ⟨iA1, iA2, -, iA4⟩ := iA
  obtain ⟨iO1, iO2, iO3⟩ := iO
  refine xw_start [.ref (ad (15, 5 * s + a)), .int (nI (r))] (by decide) (Nat.le_of_ble_eq_true rfl) ?_
  intro p e st m below meth cd0 ls Z hml hr hlk hN hl hw
  have hl : lv_has ls 2 [(0, .ref (ad (15, 5 * s + a))), (1, .int (nI (r)))] := hl
  refine lv_iload_n Z.1 Z.2.1 md_Acc_hearAsk_0 rfl (lv_at hl 1 rfl) ?_
  refine lv_aload_n Z.1 Z.2.1 md_Acc_hearAsk_1 rfl (lv_at hl 0 rfl) ?_
  refine xb_get (v := .int (M (15, 5 * s + a) 4)) Z hw (fb_in15 hn hs ha) (fb_e15 n ad cI cZ cS cA (5 * s + a)) rfl tb_iAcc 4 (by decide) mk_Acc_58 rfl rfl md_Acc_hearAsk_2 ?_
  refine xi_re (show M (15, 5 * s + a) 4 = nI (S.2 s 0 a 0) from (fr_a h hs ha).2.2.1) ?_
  refine xi_icmp_gt (tgt := 9) Z md_Acc_hearAsk_5 (by decide) (by omega) (by omega) (fun h5 => ?_) (fun h5 => ?_)
  · have h5c := h5
    refine lv_aload_n Z.1 Z.2.1 md_Acc_hearAsk_9 rfl (lv_at hl 0 rfl) ?_
    refine lv_iload_n Z.1 Z.2.1 md_Acc_hearAsk_10 rfl (lv_at hl 1 rfl) ?_
    refine xb_put Z hw (fb_in15 hn hs ha) (fb_e15 n ad cI cZ cS cA (5 * s + a)) rfl tb_iAcc tb_tAcc tb_yAcc tb_nAcc 4 (by decide) mk_Acc_58 rfl rfl rfl (fb_s15_4 ad (5 * s + a) _) md_Acc_hearAsk_11 (fun M1 H1 locs1 e1 hw => ?_)
    have h1c : M1 (15, 5 * s + a) = upd (M (15, 5 * s + a)) 4 (nI r) := by rw [e1, xw_mw_s]
    have h1m : ∀ k, k ≠ (15, 5 * s + a) → M1 k = M k := fun k hk => by rw [e1, xw_mw_n hk]
    have h1 : fr_R n q f (pz_pw S s (pz_u (S.2 s) 0 a 0 r)) ex M1 := by
      have k := fr_a h hs ha
      refine fr_acc hn h hs ha h1m (fun k x y h5 => by simp only [pz_u]; repeat rw [if_neg (fun y => by omega)]) (fun k b hk4 hb => by simp only [pz_u]; repeat rw [if_neg (fun y => by omega)]) ?_
      rw [h1c]
      refine ⟨?_, ?_, ?_, ?_, ?_, ?_, ?_⟩ <;> (simp only [upd, pz_u]; try simp) <;> first | exact k.1 | exact k.2.1 | exact k.2.2.1 | exact k.2.2.2.1 | exact k.2.2.2.2.1 | exact k.2.2.2.2.2.1 | exact k.2.2.2.2.2.2
    refine lv_aload_n Z.1 Z.2.1 md_Acc_hearAsk_14 rfl (lv_at hl 0 rfl) ?_
    refine xb_get (v := .ref (ad (2, 0))) Z hw (fb_in15 hn hs ha) (fb_e15 n ad cI cZ cS cA (5 * s + a)) rfl tb_iAcc 2 (by decide) mk_Acc_18 rfl rfl md_Acc_hearAsk_15 ?_
    refine lv_iconst (v := nI 3) Z.1 Z.2.1 md_Acc_hearAsk_18 (by decide) ?_
    refine lv_aload_n Z.1 Z.2.1 md_Acc_hearAsk_19 rfl (lv_at hl 0 rfl) ?_
    refine xb_get (v := .int (M1 (15, 5 * s + a) 1)) Z hw (fb_in15 hn hs ha) (fb_e15 n ad cI cZ cS cA (5 * s + a)) rfl tb_iAcc 1 (by decide) mk_Acc_15 rfl rfl md_Acc_hearAsk_20 ?_
    refine xi_re (show M1 (15, 5 * s + a) 1 = nI (s) from (fr_a h1 hs ha).2.1) ?_
    refine lv_iload_n Z.1 Z.2.1 md_Acc_hearAsk_23 rfl (lv_at hl 1 rfl) ?_
    refine lv_aload_n Z.1 Z.2.1 md_Acc_hearAsk_24 rfl (lv_at hl 0 rfl) ?_
    refine xb_get (v := .int (M1 (15, 5 * s + a) 0)) Z hw (fb_in15 hn hs ha) (fb_e15 n ad cI cZ cS cA (5 * s + a)) rfl tb_iAcc 0 (by decide) mk_Acc_9 rfl rfl md_Acc_hearAsk_25 ?_
    refine xi_re (show M1 (15, 5 * s + a) 0 = nI (a) from (fr_a h1 hs ha).1) ?_
    refine lv_iload_n Z.1 Z.2.1 md_Acc_hearAsk_28 rfl (lv_at hl 1 rfl) ?_
    refine xw_cN (n := 1) (rest := [.int (nI (a)), .int (nI (r)), .int (nI (s)), .int (nI (3)), .ref (ad (2, 0))]) Z hml hl.1 hN hw (k_coordinatorOf l D ad cI cZ cS cA (M := M1) hr1 (by omega)) tb_g mc_FB_coordinatorOf (host := "FastBallots") (List.mem_of_getElem? (i := 4) rfl) mt_FB_coordinatorOf mz_FB ⟨by decide, by decide, by decide +kernel⟩ ⟨Nat.le_of_ble_eq_true rfl, Nat.le_of_ble_eq_true rfl⟩ rfl rfl (Nat.le_of_ble_eq_true rfl) ⟨Nat.le_refl _, Nat.le_refl _⟩ md_Acc_hearAsk_29 (fun M2 H2 locs2 e2 hw => ?_)
    have ey2 := e2.symm
    subst ey2
    refine W.eq (g2 := F0 m 32 ls [.int (nI (8 + pz_ci r)), .int (nI (a)), .int (nI (r)), .int (nI (s)), .int (nI (3)), .ref (ad (2, 0))]) rfl ?_
    refine lv_aload_n Z.1 Z.2.1 md_Acc_hearAsk_32 rfl (lv_at hl 0 rfl) ?_
    refine xb_get (v := .int (M1 (15, 5 * s + a) 5)) Z hw (fb_in15 hn hs ha) (fb_e15 n ad cI cZ cS cA (5 * s + a)) rfl tb_iAcc 5 (by decide) mk_Acc_71 rfl rfl md_Acc_hearAsk_33 ?_
    refine xi_re (show M1 (15, 5 * s + a) 5 = nI (S.2 s 1 a 0) from (by have z := (fr_a h1 hs ha).2.2.2.1; rw [pz_pw_s, pz_u_k (by decide)] at z; exact z)) ?_
    refine lv_aload_n Z.1 Z.2.1 md_Acc_hearAsk_36 rfl (lv_at hl 0 rfl) ?_
    refine xb_get (v := .int (M1 (15, 5 * s + a) 6)) Z hw (fb_in15 hn hs ha) (fb_e15 n ad cI cZ cS cA (5 * s + a)) rfl tb_iAcc 6 (by decide) mk_Acc_55 rfl rfl md_Acc_hearAsk_37 ?_
    refine xi_re (show M1 (15, 5 * s + a) 6 = nI (S.2 s 2 a 0) from (by have z := (fr_a h1 hs ha).2.2.2.2.1; rw [pz_pw_s, pz_u_k (by decide)] at z; exact z)) ?_
    refine xw_cV (n := 7) (rest := []) Z hml hl.1 hN hw (k_send (g := pz_mg 3 s r a (8 + pz_ci r) (S.2 s 1 a 0) (S.2 s 2 a 0)) (x := nI a) l D ad cI cZ cS cA h1 h60 (fun _ => rfl)) tb_g mc_Mail_send mk_Acc_74 mi_Mail_send ms_Mail_send mz_Mail ⟨by decide, by decide, by decide +kernel⟩ ⟨Nat.le_of_ble_eq_true rfl, Nat.le_of_ble_eq_true rfl⟩ (fb_in2 n) (fb_e2 n ad cI cZ cS cA _) rfl rfl rfl rfl (Nat.le_of_ble_eq_true rfl) ⟨Nat.le_refl _, Nat.le_refl _⟩ md_Acc_hearAsk_40 (fun M3 H3 locs3 h5 hw => ?_)
    refine W.eq (g2 := F0 m 43 ls []) rfl ?_
    refine xw_vret Z hr hlk hw md_Acc_hearAsk_43 ⟨?_, by rw [h5.2, h1m _ (fr_pair (by decide))]⟩
    unfold pz_accept
    rw [if_pos rfl, if_pos h5c]
    exact h5.1
  · refine xw_vret Z hr hlk hw md_Acc_hearAsk_8 ⟨?_, rfl⟩
    unfold pz_accept
    rw [if_pos rfl, if_neg (by omega)]
    exact h
set_option maxHeartbeats 4000000 in
theorem k_hearVoteFor (l : Launch) (D : va_G) {n : Nat} (ad : Nat × Nat → Nat) (cI cZ cS cA : ClassId) {M : fr_M} {q f : Nat} {S : pz_T} {ex : Nat → Nat → Prop} {s a r v : Nat} (hn : n ≤ 5) (hq : q ≤ 5) (hf : f ≤ 5) (h : fr_R n q f S ex M) (h60 : S.1.length ≤ 60) (I : pz_IV n q f (S.2 s)) (hs : s < 3) (ha : a < n) (hr1 : 1 ≤ r) (hr12 : r ≤ 12) (hv : v < 2 ^ 31) : fb_C l D n ad cI cZ cS cA my_Acc_hearVoteFor mb_Acc_hearVoteFor 3 none 4 86 M [.ref (ad (15, 5 * s + a)), .int (nI (r)), .int (nI (v))] (none) (fr_K n q f (pz_accept n q f S s a 4 r v) ex M) := by
  have iA := I.1 a ha
  have iO := I.2.1 a ha
  have iZ := I.2.2.2.2.2.2.1
  have iV : ∀ x b, b < n → S.2 s 5 x b < 2 ^ 31 := fun x b hb => by
    by_cases z : S.2 s 5 x b = 0
    · omega
    · have := ((I.1 b hb).2.2.1 x z).2.2
      omega
  have iS : S.2 s 16 0 0 < 2 ^ 31 := by have := iZ.2.2.2; omega
  obtain ⟨iA1, iA2, -, iA4⟩ := iA
  obtain ⟨iO1, iO2, iO3⟩ := iO
  refine xw_start [.ref (ad (15, 5 * s + a)), .int (nI (r)), .int (nI (v))] (by decide) (Nat.le_of_ble_eq_true rfl) ?_
  intro p e st m below meth cd0 ls Z hml hr hlk hN hl hw
  have hl : lv_has ls 3 [(0, .ref (ad (15, 5 * s + a))), (1, .int (nI (r))), (2, .int (nI (v)))] := hl
  refine lv_iload_n Z.1 Z.2.1 md_Acc_hearVoteFor_0 rfl (lv_at hl 1 rfl) ?_
  refine lv_aload_n Z.1 Z.2.1 md_Acc_hearVoteFor_1 rfl (lv_at hl 0 rfl) ?_
  refine xb_get (v := .int (M (15, 5 * s + a) 4)) Z hw (fb_in15 hn hs ha) (fb_e15 n ad cI cZ cS cA (5 * s + a)) rfl tb_iAcc 4 (by decide) mk_Acc_58 rfl rfl md_Acc_hearVoteFor_2 ?_
  refine xi_re (show M (15, 5 * s + a) 4 = nI (S.2 s 0 a 0) from (fr_a h hs ha).2.2.1) ?_
  refine xi_icmp_lt (tgt := 16) Z md_Acc_hearVoteFor_5 (by decide) (by omega) (by omega) (fun h5 => ?_) (fun h5 => ?_)
  · refine xw_vret Z hr hlk hw md_Acc_hearVoteFor_16 ⟨?_, rfl⟩
    unfold pz_accept
    rw [if_neg (by decide), if_pos rfl, if_neg (fun y => by omega)]
    exact h
  · refine lv_iload_n Z.1 Z.2.1 md_Acc_hearVoteFor_8 rfl (lv_at hl 1 rfl) ?_
    refine lv_aload_n Z.1 Z.2.1 md_Acc_hearVoteFor_9 rfl (lv_at hl 0 rfl) ?_
    refine xb_get (v := .int (M (15, 5 * s + a) 6)) Z hw (fb_in15 hn hs ha) (fb_e15 n ad cI cZ cS cA (5 * s + a)) rfl tb_iAcc 6 (by decide) mk_Acc_55 rfl rfl md_Acc_hearVoteFor_10 ?_
    refine xi_re (show M (15, 5 * s + a) 6 = nI (S.2 s 2 a 0) from (fr_a h hs ha).2.2.2.2.1) ?_
    refine xi_icmp_gt (tgt := 17) Z md_Acc_hearVoteFor_13 (by decide) (by omega) (by omega) (fun h13 => ?_) (fun h13 => ?_)
    · refine lv_aload_n Z.1 Z.2.1 md_Acc_hearVoteFor_17 rfl (lv_at hl 0 rfl) ?_
      refine lv_iload_n Z.1 Z.2.1 md_Acc_hearVoteFor_18 rfl (lv_at hl 1 rfl) ?_
      refine xb_put Z hw (fb_in15 hn hs ha) (fb_e15 n ad cI cZ cS cA (5 * s + a)) rfl tb_iAcc tb_tAcc tb_yAcc tb_nAcc 4 (by decide) mk_Acc_58 rfl rfl rfl (fb_s15_4 ad (5 * s + a) _) md_Acc_hearVoteFor_19 (fun M1 H1 locs1 e1 hw => ?_)
      have h1c : M1 (15, 5 * s + a) = upd (M (15, 5 * s + a)) 4 (nI r) := by rw [e1, xw_mw_s]
      have h1m : ∀ k, k ≠ (15, 5 * s + a) → M1 k = M k := fun k hk => by rw [e1, xw_mw_n hk]
      have h1 : fr_R n q f (pz_pw S s (pz_u (S.2 s) 0 a 0 r)) ex M1 := by
        have k := fr_a h hs ha
        refine fr_acc hn h hs ha h1m (fun k x y h5 => by simp only [pz_u]; repeat rw [if_neg (fun y => by omega)]) (fun k b hk4 hb => by simp only [pz_u]; repeat rw [if_neg (fun y => by omega)]) ?_
        rw [h1c]
        refine ⟨?_, ?_, ?_, ?_, ?_, ?_, ?_⟩ <;> (simp only [upd, pz_u]; try simp) <;> first | exact k.1 | exact k.2.1 | exact k.2.2.1 | exact k.2.2.2.1 | exact k.2.2.2.2.1 | exact k.2.2.2.2.2.1 | exact k.2.2.2.2.2.2
      refine lv_iload_n Z.1 Z.2.1 md_Acc_hearVoteFor_22 rfl (lv_at hl 2 rfl) ?_
      refine xi_if_eq (tgt := 33) Z md_Acc_hearVoteFor_23 (by decide) (by omega) (fun h23 => ?_) (fun h23 => ?_)
      · refine lv_aload_n Z.1 Z.2.1 md_Acc_hearVoteFor_33 rfl (lv_at hl 0 rfl) ?_
        refine lv_iload_n Z.1 Z.2.1 md_Acc_hearVoteFor_34 rfl (lv_at hl 1 rfl) ?_
        refine xb_put Z hw (fb_in15 hn hs ha) (fb_e15 n ad cI cZ cS cA (5 * s + a)) rfl tb_iAcc tb_tAcc tb_yAcc tb_nAcc 8 (by decide) mk_Acc_64 rfl rfl rfl (fb_s15_8 ad (5 * s + a) _) md_Acc_hearVoteFor_35 (fun M2 H2 locs2 e2 hw => ?_)
        have h3c : M2 (15, 5 * s + a) = upd (upd (M (15, 5 * s + a)) 4 (nI r)) 8 (nI r) := by rw [e2, xw_mw_s, e1, xw_mw_s]
        have h3m : ∀ k, k ≠ (15, 5 * s + a) → M2 k = M k := fun k hk => by rw [e2, xw_mw_n hk, e1, xw_mw_n hk]
        have h3 : fr_R n q f (pz_pw S s (pz_u (pz_u (S.2 s) 0 a 0 r) 4 a 0 r)) ex M2 := by
          have k := fr_a h hs ha
          refine fr_acc hn h hs ha h3m (fun k x y h5 => by simp only [pz_u]; repeat rw [if_neg (fun y => by omega)]) (fun k b hk4 hb => by simp only [pz_u]; repeat rw [if_neg (fun y => by omega)]) ?_
          rw [h3c]
          refine ⟨?_, ?_, ?_, ?_, ?_, ?_, ?_⟩ <;> (simp only [upd, pz_u]; try simp) <;> first | exact k.1 | exact k.2.1 | exact k.2.2.1 | exact k.2.2.2.1 | exact k.2.2.2.2.1 | exact k.2.2.2.2.2.1 | exact k.2.2.2.2.2.2
        refine lv_aload_n Z.1 Z.2.1 md_Acc_hearVoteFor_38 rfl (lv_at hl 0 rfl) ?_
        refine xb_get (v := .int (M2 (15, 5 * s + a) 7)) Z hw (fb_in15 hn hs ha) (fb_e15 n ad cI cZ cS cA (5 * s + a)) rfl tb_iAcc 7 (by decide) mk_Acc_48 rfl rfl md_Acc_hearVoteFor_39 ?_
        refine xi_re (show M2 (15, 5 * s + a) 7 = nI (S.2 s 3 a 0) from (by have z := (fr_a h3 hs ha).2.2.2.2.2.1; rw [pz_pw_s, pz_u_k (by decide), pz_u_k (by decide)] at z; exact z)) ?_
        refine xi_if_eq (tgt := 54) Z md_Acc_hearVoteFor_42 (by decide) (by omega) (fun h42 => ?_) (fun h42 => ?_)
        · refine xw_vret Z hr hlk hw md_Acc_hearVoteFor_54 ⟨?_, by rw [h3m _ (fr_pair (by decide))]⟩
          unfold pz_accept
          rw [if_neg (by decide), if_pos rfl, if_pos ⟨by omega, by omega⟩, if_neg (fun y => y h23), if_neg (fun y => y h42)]
          exact h3
        · refine lv_aload_n Z.1 Z.2.1 md_Acc_hearVoteFor_45 rfl (lv_at hl 0 rfl) ?_
          refine lv_iload_n Z.1 Z.2.1 md_Acc_hearVoteFor_46 rfl (lv_at hl 1 rfl) ?_
          refine lv_aload_n Z.1 Z.2.1 md_Acc_hearVoteFor_47 rfl (lv_at hl 0 rfl) ?_
          refine xb_get (v := .int (M2 (15, 5 * s + a) 7)) Z hw (fb_in15 hn hs ha) (fb_e15 n ad cI cZ cS cA (5 * s + a)) rfl tb_iAcc 7 (by decide) mk_Acc_48 rfl rfl md_Acc_hearVoteFor_48 ?_
          refine xi_re (show M2 (15, 5 * s + a) 7 = nI (S.2 s 3 a 0) from (by have z := (fr_a h3 hs ha).2.2.2.2.2.1; rw [pz_pw_s, pz_u_k (by decide), pz_u_k (by decide)] at z; exact z)) ?_
          refine xw_cV (n := 2) (rest := []) Z hml hl.1 hN hw (k_castVote (S := pz_pw S s (pz_u (pz_u (S.2 s) 0 a 0 r) 4 a 0 r)) l D ad cI cZ cS cA hn hq hf h3 h60 hs ha hr1 hr12 (by omega) (fun b hb2 => by rw [pz_pw_s, pz_u_k (by decide), pz_u_k (by decide)]; exact iV r b hb2) (by rw [pz_pw_s, pz_u_k (by decide), pz_u_k (by decide)]; exact iS)) tb_g mc_Acc_castVote mk_Acc_61 mi_Acc_castVote ms_Acc_castVote mz_Acc ⟨by decide, by decide, by decide +kernel⟩ ⟨Nat.le_of_ble_eq_true rfl, Nat.le_of_ble_eq_true rfl⟩ (fb_in15 hn hs ha) (fb_e15 n ad cI cZ cS cA (5 * s + a) _) rfl rfl rfl rfl (Nat.le_of_ble_eq_true rfl) ⟨Nat.le_refl _, Nat.le_refl _⟩ md_Acc_hearVoteFor_51 (fun M3 H3 locs3 h9 hw => ?_)
          refine W.eq (g2 := F0 m 54 ls []) rfl ?_
          refine xw_vret Z hr hlk hw md_Acc_hearVoteFor_54 ⟨?_, by rw [h9.2, h3m _ (fr_pair (by decide))]⟩
          unfold pz_accept
          rw [if_neg (by decide), if_pos rfl, if_pos ⟨by omega, by omega⟩, if_neg (fun y => y h23), if_pos h42]
          exact h9.1
      · refine lv_aload_n Z.1 Z.2.1 md_Acc_hearVoteFor_26 rfl (lv_at hl 0 rfl) ?_
        refine lv_iload_n Z.1 Z.2.1 md_Acc_hearVoteFor_27 rfl (lv_at hl 1 rfl) ?_
        refine lv_iload_n Z.1 Z.2.1 md_Acc_hearVoteFor_28 rfl (lv_at hl 2 rfl) ?_
        refine xw_cV (n := 2) (rest := []) Z hml hl.1 hN hw (k_castVote (S := pz_pw S s (pz_u (S.2 s) 0 a 0 r)) l D ad cI cZ cS cA hn hq hf h1 h60 hs ha hr1 hr12 hv (fun b hb2 => by rw [pz_pw_s, pz_u_k (by decide)]; exact iV r b hb2) (by rw [pz_pw_s, pz_u_k (by decide)]; exact iS)) tb_g mc_Acc_castVote mk_Acc_61 mi_Acc_castVote ms_Acc_castVote mz_Acc ⟨by decide, by decide, by decide +kernel⟩ ⟨Nat.le_of_ble_eq_true rfl, Nat.le_of_ble_eq_true rfl⟩ (fb_in15 hn hs ha) (fb_e15 n ad cI cZ cS cA (5 * s + a) _) rfl rfl rfl rfl (Nat.le_of_ble_eq_true rfl) ⟨Nat.le_refl _, Nat.le_refl _⟩ md_Acc_hearVoteFor_29 (fun M4 H4 locs4 h9 hw => ?_)
        refine W.eq (g2 := F0 m 32 ls []) rfl ?_
        refine xw_vret Z hr hlk hw md_Acc_hearVoteFor_32 ⟨?_, by rw [h9.2, h1m _ (fr_pair (by decide))]⟩
        unfold pz_accept
        rw [if_neg (by decide), if_pos rfl, if_pos ⟨by omega, by omega⟩, if_pos h23]
        exact h9.1
    · refine xw_vret Z hr hlk hw md_Acc_hearVoteFor_16 ⟨?_, rfl⟩
      unfold pz_accept
      rw [if_neg (by decide), if_pos rfl, if_neg (fun y => by omega)]
      exact h
set_option maxHeartbeats 4000000 in
theorem k_AhearProposal (l : Launch) (D : va_G) {n : Nat} (ad : Nat × Nat → Nat) (cI cZ cS cA : ClassId) {M : fr_M} {q f : Nat} {S : pz_T} {ex : Nat → Nat → Prop} {s a r v : Nat} (hn : n ≤ 5) (hq : q ≤ 5) (hf : f ≤ 5) (h : fr_R n q f S ex M) (h60 : S.1.length ≤ 60) (I : pz_IV n q f (S.2 s)) (hs : s < 3) (ha : a < n) (hv : v < 2 ^ 31) : fb_C l D n ad cI cZ cS cA my_Acc_hearProposal mb_Acc_hearProposal 2 none 4 86 M [.ref (ad (15, 5 * s + a)), .int (nI (v))] (none) (fr_K n q f (pz_accept n q f S s a 1 r v) ex M) := by
  have iA := I.1 a ha
  have iO := I.2.1 a ha
  have iZ := I.2.2.2.2.2.2.1
  have iV : ∀ x b, b < n → S.2 s 5 x b < 2 ^ 31 := fun x b hb => by
    by_cases z : S.2 s 5 x b = 0
    · omega
    · have := ((I.1 b hb).2.2.1 x z).2.2
      omega
  have iS : S.2 s 16 0 0 < 2 ^ 31 := by have := iZ.2.2.2; omega
  obtain ⟨iA1, iA2, -, iA4⟩ := iA
  obtain ⟨iO1, iO2, iO3⟩ := iO
  refine xw_start [.ref (ad (15, 5 * s + a)), .int (nI (v))] (by decide) (Nat.le_of_ble_eq_true rfl) ?_
  intro p e st m below meth cd0 ls Z hml hr hlk hN hl hw
  have hl : lv_has ls 2 [(0, .ref (ad (15, 5 * s + a))), (1, .int (nI (v)))] := hl
  refine lv_aload_n Z.1 Z.2.1 md_Acc_hearProposal_0 rfl (lv_at hl 0 rfl) ?_
  refine xb_get (v := .int (M (15, 5 * s + a) 7)) Z hw (fb_in15 hn hs ha) (fb_e15 n ad cI cZ cS cA (5 * s + a)) rfl tb_iAcc 7 (by decide) mk_Acc_48 rfl rfl md_Acc_hearProposal_1 ?_
  refine xi_re (show M (15, 5 * s + a) 7 = nI (S.2 s 3 a 0) from (fr_a h hs ha).2.2.2.2.2.1) ?_
  refine xi_if_eq (tgt := 8) Z md_Acc_hearProposal_4 (by decide) (by omega) (fun h4 => ?_) (fun h4 => ?_)
  · refine lv_aload_n Z.1 Z.2.1 md_Acc_hearProposal_8 rfl (lv_at hl 0 rfl) ?_
    refine lv_iload_n Z.1 Z.2.1 md_Acc_hearProposal_9 rfl (lv_at hl 1 rfl) ?_
    refine xb_put Z hw (fb_in15 hn hs ha) (fb_e15 n ad cI cZ cS cA (5 * s + a)) rfl tb_iAcc tb_tAcc tb_yAcc tb_nAcc 7 (by decide) mk_Acc_48 rfl rfl rfl (fb_s15_7 ad (5 * s + a) _) md_Acc_hearProposal_10 (fun M1 H1 locs1 e1 hw => ?_)
    have h1c : M1 (15, 5 * s + a) = upd (M (15, 5 * s + a)) 7 (nI v) := by rw [e1, xw_mw_s]
    have h1m : ∀ k, k ≠ (15, 5 * s + a) → M1 k = M k := fun k hk => by rw [e1, xw_mw_n hk]
    have h1 : fr_R n q f (pz_pw S s (pz_u (S.2 s) 3 a 0 v)) ex M1 := by
      have k := fr_a h hs ha
      refine fr_acc hn h hs ha h1m (fun k x y h5 => by simp only [pz_u]; repeat rw [if_neg (fun y => by omega)]) (fun k b hk4 hb => by simp only [pz_u]; repeat rw [if_neg (fun y => by omega)]) ?_
      rw [h1c]
      refine ⟨?_, ?_, ?_, ?_, ?_, ?_, ?_⟩ <;> (simp only [upd, pz_u]; try simp) <;> first | exact k.1 | exact k.2.1 | exact k.2.2.1 | exact k.2.2.2.1 | exact k.2.2.2.2.1 | exact k.2.2.2.2.2.1 | exact k.2.2.2.2.2.2
    refine lv_aload_n Z.1 Z.2.1 md_Acc_hearProposal_13 rfl (lv_at hl 0 rfl) ?_
    refine xw_cV (n := 0) (rest := []) Z hml hl.1 hN hw (k_isOpenNow (S := pz_pw S s (pz_u (S.2 s) 3 a 0 v)) l D ad cI cZ cS cA hn h1 hs ha (by rw [pz_pw_s, pz_u_k (by decide)]; omega) (by rw [pz_pw_s, pz_u_k (by decide)]; omega)) tb_g mc_Acc_isOpenNow mk_Acc_51 mi_Acc_isOpenNow ms_Acc_isOpenNow mz_Acc ⟨by decide, by decide, by decide +kernel⟩ ⟨Nat.le_of_ble_eq_true rfl, Nat.le_of_ble_eq_true rfl⟩ (fb_in15 hn hs ha) (fb_e15 n ad cI cZ cS cA (5 * s + a) _) rfl rfl rfl rfl (Nat.le_of_ble_eq_true rfl) ⟨Nat.le_refl _, Nat.le_refl _⟩ md_Acc_hearProposal_14 (fun M2 H2 locs2 e2 hw => ?_)
    have ey2 := e2.symm
    subst ey2
    refine W.eq (g2 := F0 m 17 ls [.int (nI (if (pz_pw S s (pz_u (S.2 s) 3 a 0 v)).2 s 4 a 0 ≠ 0 ∧ (pz_pw S s (pz_u (S.2 s) 3 a 0 v)).2 s 4 a 0 = (pz_pw S s (pz_u (S.2 s) 3 a 0 v)).2 s 0 a 0 then 1 else 0))]) rfl ?_
    refine xi_re (show _ = nI ((if S.2 s 4 a 0 ≠ 0 ∧ S.2 s 4 a 0 = S.2 s 0 a 0 then 1 else 0)) from (by rw [pz_pw_s, pz_u_k (by decide), pz_u_k (by decide)])) ?_
    have lO : (if S.2 s 4 a 0 ≠ 0 ∧ S.2 s 4 a 0 = S.2 s 0 a 0 then 1 else 0) < 2 := by split <;> omega
    refine xi_if_eq (tgt := 40) Z md_Acc_hearProposal_17 (by decide) (by omega) (fun h17 => ?_) (fun h17 => ?_)
    · try have h17n : ¬ (S.2 s 4 a 0 ≠ 0 ∧ S.2 s 4 a 0 = S.2 s 0 a 0) := (fun y => by rw [if_pos y] at h17; exact absurd h17 (by decide))
      refine xw_vret Z hr hlk hw md_Acc_hearProposal_40 ⟨?_, by rw [h1m _ (fr_pair (by decide))]⟩
      unfold pz_accept
      rw [if_neg (by decide), if_neg (by decide), if_pos rfl, if_pos h4, if_neg (fun y => by omega)]
      exact h1
    · have h17o : S.2 s 4 a 0 ≠ 0 ∧ S.2 s 4 a 0 = S.2 s 0 a 0 := by
        by_cases z : S.2 s 4 a 0 ≠ 0 ∧ S.2 s 4 a 0 = S.2 s 0 a 0
        · exact z
        · rw [if_neg z] at h17; exact absurd rfl h17
      refine lv_aload_n Z.1 Z.2.1 md_Acc_hearProposal_20 rfl (lv_at hl 0 rfl) ?_
      refine xb_get (v := .int (M1 (15, 5 * s + a) 6)) Z hw (fb_in15 hn hs ha) (fb_e15 n ad cI cZ cS cA (5 * s + a)) rfl tb_iAcc 6 (by decide) mk_Acc_55 rfl rfl md_Acc_hearProposal_21 ?_
      refine xi_re (show M1 (15, 5 * s + a) 6 = nI (S.2 s 2 a 0) from (by have z := (fr_a h1 hs ha).2.2.2.2.1; rw [pz_pw_s, pz_u_k (by decide)] at z; exact z)) ?_
      refine lv_aload_n Z.1 Z.2.1 md_Acc_hearProposal_24 rfl (lv_at hl 0 rfl) ?_
      refine xb_get (v := .int (M1 (15, 5 * s + a) 4)) Z hw (fb_in15 hn hs ha) (fb_e15 n ad cI cZ cS cA (5 * s + a)) rfl tb_iAcc 4 (by decide) mk_Acc_58 rfl rfl md_Acc_hearProposal_25 ?_
      refine xi_re (show M1 (15, 5 * s + a) 4 = nI (S.2 s 0 a 0) from (by have z := (fr_a h1 hs ha).2.2.1; rw [pz_pw_s, pz_u_k (by decide)] at z; exact z)) ?_
      refine xi_icmp_eq (tgt := 40) Z md_Acc_hearProposal_28 (by decide) (by omega) (by omega) (fun h28 => ?_) (fun h28 => ?_)
      · try have h17n : ¬ (S.2 s 4 a 0 ≠ 0 ∧ S.2 s 4 a 0 = S.2 s 0 a 0) := (fun y => by rw [if_pos y] at h17; exact absurd h17 (by decide))
        refine xw_vret Z hr hlk hw md_Acc_hearProposal_40 ⟨?_, by rw [h1m _ (fr_pair (by decide))]⟩
        unfold pz_accept
        rw [if_neg (by decide), if_neg (by decide), if_pos rfl, if_pos h4, if_neg (fun y => by omega)]
        exact h1
      · refine lv_aload_n Z.1 Z.2.1 md_Acc_hearProposal_31 rfl (lv_at hl 0 rfl) ?_
        refine lv_aload_n Z.1 Z.2.1 md_Acc_hearProposal_32 rfl (lv_at hl 0 rfl) ?_
        refine xb_get (v := .int (M1 (15, 5 * s + a) 4)) Z hw (fb_in15 hn hs ha) (fb_e15 n ad cI cZ cS cA (5 * s + a)) rfl tb_iAcc 4 (by decide) mk_Acc_58 rfl rfl md_Acc_hearProposal_33 ?_
        refine xi_re (show M1 (15, 5 * s + a) 4 = nI (S.2 s 0 a 0) from (by have z := (fr_a h1 hs ha).2.2.1; rw [pz_pw_s, pz_u_k (by decide)] at z; exact z)) ?_
        refine lv_iload_n Z.1 Z.2.1 md_Acc_hearProposal_36 rfl (lv_at hl 1 rfl) ?_
        refine xw_cV (n := 2) (rest := []) Z hml hl.1 hN hw (k_castVote (S := pz_pw S s (pz_u (S.2 s) 3 a 0 v)) (r := S.2 s 0 a 0) l D ad cI cZ cS cA hn hq hf h1 h60 hs ha (by omega) (by omega) hv (fun b hb2 => by rw [pz_pw_s, pz_u_k (by decide)]; exact iV _ b hb2) (by rw [pz_pw_s, pz_u_k (by decide)]; exact iS)) tb_g mc_Acc_castVote mk_Acc_61 mi_Acc_castVote ms_Acc_castVote mz_Acc ⟨by decide, by decide, by decide +kernel⟩ ⟨Nat.le_of_ble_eq_true rfl, Nat.le_of_ble_eq_true rfl⟩ (fb_in15 hn hs ha) (fb_e15 n ad cI cZ cS cA (5 * s + a) _) rfl rfl rfl rfl (Nat.le_of_ble_eq_true rfl) ⟨Nat.le_refl _, Nat.le_refl _⟩ md_Acc_hearProposal_37 (fun M3 H3 locs3 h9 hw => ?_)
        refine W.eq (g2 := F0 m 40 ls []) rfl ?_
        refine xw_vret Z hr hlk hw md_Acc_hearProposal_40 ⟨?_, by rw [h9.2, h1m _ (fr_pair (by decide))]⟩
        unfold pz_accept
        rw [if_neg (by decide), if_neg (by decide), if_pos rfl, if_pos h4, if_pos ⟨by omega, by omega, by omega⟩]
        exact h9.1
  · refine xw_vret Z hr hlk hw md_Acc_hearProposal_7 ⟨?_, rfl⟩
    unfold pz_accept
    rw [if_neg (by decide), if_neg (by decide), if_pos rfl, if_neg h4]
    exact h
set_option maxHeartbeats 4000000 in
theorem k_Ahear1 (l : Launch) (D : va_G) {n : Nat} (ad : Nat × Nat → Nat) (cI cZ cS cA : ClassId) {M : fr_M} {q f : Nat} {S : pz_T} {ex : Nat → Nat → Prop} {s a : Nat} {g : pz_M} (hn : n ≤ 5) (hq : q ≤ 5) (hf : f ≤ 5) (h : fr_R n q f S ex M) (h60 : S.1.length ≤ 60) (I : pz_IV n q f (S.2 s)) (hs : s < 3) (ha : a < n) (hg : fr_row g (M (6, 0))) (hk : g 0 = 1) (hv : g 5 < 2 ^ 31) : fb_C l D n ad cI cZ cS cA my_Acc_hear mb_Acc_hear 2 none 5 107 M [.ref (ad (15, 5 * s + a)), .ref (ad (6, 0))] (none) (fr_K n q f (pz_accept n q f S s a (g 0) (g 2) (g 5)) ex M) := by
  refine xw_start [.ref (ad (15, 5 * s + a)), .ref (ad (6, 0))] (by decide) (Nat.le_of_ble_eq_true rfl) ?_
  intro p e st m below meth cd0 ls Z hml hr hlk hN hl hw
  have hl : lv_has ls 2 [(0, .ref (ad (15, 5 * s + a))), (1, .ref (ad (6, 0)))] := hl
  refine lv_aload_n Z.1 Z.2.1 md_Acc_hear_0 rfl (lv_at hl 1 rfl) ?_
  refine xb_get (v := .int (M (6, 0) 0)) Z hw (fb_in6 n) (fb_e6 n ad cI cZ cS cA) rfl tb_iMsg 0 (by decide) mk_Acc_26 rfl rfl md_Acc_hear_1 ?_
  refine xi_re (show M (6, 0) 0 = nI (1) from (by rw [hg.1, hk])) ?_
  refine lv_tableIn (tgt := 36) Z.1 Z.2.1 md_Acc_hear_4 (by decide) (by decide) rfl (by decide) ?_
  refine lv_aload_n Z.1 Z.2.1 md_Acc_hear_36 rfl (lv_at hl 0 rfl) ?_
  refine lv_aload_n Z.1 Z.2.1 md_Acc_hear_37 rfl (lv_at hl 1 rfl) ?_
  refine xb_get (v := .int (M (6, 0) 5)) Z hw (fb_in6 n) (fb_e6 n ad cI cZ cS cA) rfl tb_iMsg 5 (by decide) mk_Acc_31 rfl rfl md_Acc_hear_38 ?_
  refine xi_re (show M (6, 0) 5 = nI (g 5) from hg.2.2.2.2.2.1) ?_
  refine xw_cV (n := 1) (rest := []) Z hml hl.1 hN hw (k_AhearProposal (r := g 2) (v := g 5) l D ad cI cZ cS cA hn hq hf h h60 I hs ha hv) tb_g mc_Acc_hearProposal mk_Acc_34 mi_Acc_hearProposal ms_Acc_hearProposal mz_Acc ⟨by decide, by decide, by decide +kernel⟩ ⟨Nat.le_of_ble_eq_true rfl, Nat.le_of_ble_eq_true rfl⟩ (fb_in15 hn hs ha) (fb_e15 n ad cI cZ cS cA (5 * s + a) _) rfl rfl rfl rfl (Nat.le_of_ble_eq_true rfl) ⟨Nat.le_refl _, Nat.le_refl _⟩ md_Acc_hear_41 (fun M1 H1 locs1 h9 hw => ?_)
  refine W.eq (g2 := F0 m 44 ls []) rfl ?_
  refine lv_goto (tgt := 73) Z.1 Z.2.1 md_Acc_hear_44 (by decide) ?_
  exact xw_vret Z hr hlk hw md_Acc_hear_73 (by rw [hk]; exact h9)
set_option maxHeartbeats 4000000 in
theorem k_Ahear2 (l : Launch) (D : va_G) {n : Nat} (ad : Nat × Nat → Nat) (cI cZ cS cA : ClassId) {M : fr_M} {q f : Nat} {S : pz_T} {ex : Nat → Nat → Prop} {s a : Nat} {g : pz_M} (hn : n ≤ 5) (hq : q ≤ 5) (hf : f ≤ 5) (h : fr_R n q f S ex M) (h60 : S.1.length ≤ 60) (I : pz_IV n q f (S.2 s)) (hs : s < 3) (ha : a < n) (hg : fr_row g (M (6, 0))) (hk : g 0 = 2) (hr1 : 1 ≤ g 2) (hr12 : g 2 ≤ 12) : fb_C l D n ad cI cZ cS cA my_Acc_hear mb_Acc_hear 2 none 2 49 M [.ref (ad (15, 5 * s + a)), .ref (ad (6, 0))] (none) (fr_K n q f (pz_accept n q f S s a (g 0) (g 2) (g 5)) ex M) := by
  refine xw_start [.ref (ad (15, 5 * s + a)), .ref (ad (6, 0))] (by decide) (Nat.le_of_ble_eq_true rfl) ?_
  intro p e st m below meth cd0 ls Z hml hr hlk hN hl hw
  have hl : lv_has ls 2 [(0, .ref (ad (15, 5 * s + a))), (1, .ref (ad (6, 0)))] := hl
  refine lv_aload_n Z.1 Z.2.1 md_Acc_hear_0 rfl (lv_at hl 1 rfl) ?_
  refine xb_get (v := .int (M (6, 0) 0)) Z hw (fb_in6 n) (fb_e6 n ad cI cZ cS cA) rfl tb_iMsg 0 (by decide) mk_Acc_26 rfl rfl md_Acc_hear_1 ?_
  refine xi_re (show M (6, 0) 0 = nI (2) from (by rw [hg.1, hk])) ?_
  refine lv_tableIn (tgt := 47) Z.1 Z.2.1 md_Acc_hear_4 (by decide) (by decide) rfl (by decide) ?_
  refine lv_aload_n Z.1 Z.2.1 md_Acc_hear_47 rfl (lv_at hl 0 rfl) ?_
  refine lv_aload_n Z.1 Z.2.1 md_Acc_hear_48 rfl (lv_at hl 1 rfl) ?_
  refine xb_get (v := .int (M (6, 0) 2)) Z hw (fb_in6 n) (fb_e6 n ad cI cZ cS cA) rfl tb_iMsg 2 (by decide) mk_Acc_38 rfl rfl md_Acc_hear_49 ?_
  refine xi_re (show M (6, 0) 2 = nI (g 2) from hg.2.2.1) ?_
  refine xw_cV (n := 1) (rest := []) Z hml hl.1 hN hw (k_hearAsk (r := g 2) (v := g 5) l D ad cI cZ cS cA hn hq hf h h60 I hs ha hr1 hr12) tb_g mc_Acc_hearAsk mk_Acc_41 mi_Acc_hearAsk ms_Acc_hearAsk mz_Acc ⟨by decide, by decide, by decide +kernel⟩ ⟨Nat.le_of_ble_eq_true rfl, Nat.le_of_ble_eq_true rfl⟩ (fb_in15 hn hs ha) (fb_e15 n ad cI cZ cS cA (5 * s + a) _) rfl rfl rfl rfl (Nat.le_of_ble_eq_true rfl) ⟨Nat.le_refl _, Nat.le_refl _⟩ md_Acc_hear_52 (fun M1 H1 locs1 h9 hw => ?_)
  refine W.eq (g2 := F0 m 55 ls []) rfl ?_
  refine lv_goto (tgt := 73) Z.1 Z.2.1 md_Acc_hear_55 (by decide) ?_
  exact xw_vret Z hr hlk hw md_Acc_hear_73 (by rw [hk]; exact h9)
set_option maxHeartbeats 4000000 in
theorem k_Ahear4 (l : Launch) (D : va_G) {n : Nat} (ad : Nat × Nat → Nat) (cI cZ cS cA : ClassId) {M : fr_M} {q f : Nat} {S : pz_T} {ex : Nat → Nat → Prop} {s a : Nat} {g : pz_M} (hn : n ≤ 5) (hq : q ≤ 5) (hf : f ≤ 5) (h : fr_R n q f S ex M) (h60 : S.1.length ≤ 60) (I : pz_IV n q f (S.2 s)) (hs : s < 3) (ha : a < n) (hg : fr_row g (M (6, 0))) (hk : g 0 = 4) (hr1 : 1 ≤ g 2) (hr12 : g 2 ≤ 12) (hv : g 5 < 2 ^ 31) : fb_C l D n ad cI cZ cS cA my_Acc_hear mb_Acc_hear 2 none 5 108 M [.ref (ad (15, 5 * s + a)), .ref (ad (6, 0))] (none) (fr_K n q f (pz_accept n q f S s a (g 0) (g 2) (g 5)) ex M) := by
  refine xw_start [.ref (ad (15, 5 * s + a)), .ref (ad (6, 0))] (by decide) (Nat.le_of_ble_eq_true rfl) ?_
  intro p e st m below meth cd0 ls Z hml hr hlk hN hl hw
  have hl : lv_has ls 2 [(0, .ref (ad (15, 5 * s + a))), (1, .ref (ad (6, 0)))] := hl
  refine lv_aload_n Z.1 Z.2.1 md_Acc_hear_0 rfl (lv_at hl 1 rfl) ?_
  refine xb_get (v := .int (M (6, 0) 0)) Z hw (fb_in6 n) (fb_e6 n ad cI cZ cS cA) rfl tb_iMsg 0 (by decide) mk_Acc_26 rfl rfl md_Acc_hear_1 ?_
  refine xi_re (show M (6, 0) 0 = nI (4) from (by rw [hg.1, hk])) ?_
  refine lv_tableIn (tgt := 58) Z.1 Z.2.1 md_Acc_hear_4 (by decide) (by decide) rfl (by decide) ?_
  refine lv_aload_n Z.1 Z.2.1 md_Acc_hear_58 rfl (lv_at hl 0 rfl) ?_
  refine lv_aload_n Z.1 Z.2.1 md_Acc_hear_59 rfl (lv_at hl 1 rfl) ?_
  refine xb_get (v := .int (M (6, 0) 2)) Z hw (fb_in6 n) (fb_e6 n ad cI cZ cS cA) rfl tb_iMsg 2 (by decide) mk_Acc_38 rfl rfl md_Acc_hear_60 ?_
  refine xi_re (show M (6, 0) 2 = nI (g 2) from hg.2.2.1) ?_
  refine lv_aload_n Z.1 Z.2.1 md_Acc_hear_63 rfl (lv_at hl 1 rfl) ?_
  refine xb_get (v := .int (M (6, 0) 5)) Z hw (fb_in6 n) (fb_e6 n ad cI cZ cS cA) rfl tb_iMsg 5 (by decide) mk_Acc_31 rfl rfl md_Acc_hear_64 ?_
  refine xi_re (show M (6, 0) 5 = nI (g 5) from hg.2.2.2.2.2.1) ?_
  refine xw_cV (n := 2) (rest := []) Z hml hl.1 hN hw (k_hearVoteFor (r := g 2) (v := g 5) l D ad cI cZ cS cA hn hq hf h h60 I hs ha hr1 hr12 hv) tb_g mc_Acc_hearVoteFor mk_Acc_44 mi_Acc_hearVoteFor ms_Acc_hearVoteFor mz_Acc ⟨by decide, by decide, by decide +kernel⟩ ⟨Nat.le_of_ble_eq_true rfl, Nat.le_of_ble_eq_true rfl⟩ (fb_in15 hn hs ha) (fb_e15 n ad cI cZ cS cA (5 * s + a) _) rfl rfl rfl rfl (Nat.le_of_ble_eq_true rfl) ⟨Nat.le_refl _, Nat.le_refl _⟩ md_Acc_hear_67 (fun M1 H1 locs1 h9 hw => ?_)
  refine W.eq (g2 := F0 m 70 ls []) rfl ?_
  refine lv_goto (tgt := 73) Z.1 Z.2.1 md_Acc_hear_70 (by decide) ?_
  exact xw_vret Z hr hlk hw md_Acc_hear_73 (by rw [hk]; exact h9)
