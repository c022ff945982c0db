/-! The mail, the sizes, the tallies. -/
theorem md_Mail_remove_0 : decode mb_Mail_remove 0 = .ok (.iload_n 1, 1) := by decide +kernel
theorem md_Mail_remove_1 : decode mb_Mail_remove 1 = .ok (.iconst 1, 1) := by decide +kernel
theorem md_Mail_remove_2 : decode mb_Mail_remove 2 = .ok (.iadd, 1) := by decide +kernel
theorem md_Mail_remove_3 : decode mb_Mail_remove 3 = .ok (.bipush 7, 2) := by decide +kernel
theorem md_Mail_remove_5 : decode mb_Mail_remove 5 = .ok (.imul, 1) := by decide +kernel
theorem md_Mail_remove_6 : decode mb_Mail_remove 6 = .ok (.istore_n 2, 1) := by decide +kernel
theorem md_Mail_remove_7 : decode mb_Mail_remove 7 = .ok (.aload_n 0, 1) := by decide +kernel
theorem md_Mail_remove_8 : decode mb_Mail_remove 8 = .ok (.getfield 9, 3) := by decide +kernel
theorem md_Mail_remove_11 : decode mb_Mail_remove 11 = .ok (.iload_n 2, 1) := by decide +kernel
theorem md_Mail_remove_12 : decode mb_Mail_remove 12 = .ok (.aload_n 0, 1) := by decide +kernel
theorem md_Mail_remove_13 : decode mb_Mail_remove 13 = .ok (.getfield 9, 3) := by decide +kernel
theorem md_Mail_remove_16 : decode mb_Mail_remove 16 = .ok (.iload_n 1, 1) := by decide +kernel
theorem md_Mail_remove_17 : decode mb_Mail_remove 17 = .ok (.bipush 7, 2) := by decide +kernel
theorem md_Mail_remove_19 : decode mb_Mail_remove 19 = .ok (.imul, 1) := by decide +kernel
theorem md_Mail_remove_20 : decode mb_Mail_remove 20 = .ok (.aload_n 0, 1) := by decide +kernel
theorem md_Mail_remove_21 : decode mb_Mail_remove 21 = .ok (.getfield 20, 3) := by decide +kernel
theorem md_Mail_remove_24 : decode mb_Mail_remove 24 = .ok (.bipush 7, 2) := by decide +kernel
theorem md_Mail_remove_26 : decode mb_Mail_remove 26 = .ok (.imul, 1) := by decide +kernel
theorem md_Mail_remove_27 : decode mb_Mail_remove 27 = .ok (.iload_n 2, 1) := by decide +kernel
theorem md_Mail_remove_28 : decode mb_Mail_remove 28 = .ok (.isub, 1) := by decide +kernel
theorem md_Mail_remove_29 : decode mb_Mail_remove 29 = .ok (.invokestatic 52, 3) := by decide +kernel
theorem md_Mail_remove_32 : decode mb_Mail_remove 32 = .ok (.aload_n 0, 1) := by decide +kernel
theorem md_Mail_remove_33 : decode mb_Mail_remove 33 = .ok (.dup, 1) := by decide +kernel
theorem md_Mail_remove_34 : decode mb_Mail_remove 34 = .ok (.getfield 20, 3) := by decide +kernel
theorem md_Mail_remove_37 : decode mb_Mail_remove 37 = .ok (.iconst 1, 1) := by decide +kernel
theorem md_Mail_remove_38 : decode mb_Mail_remove 38 = .ok (.isub, 1) := by decide +kernel
theorem md_Mail_remove_39 : decode mb_Mail_remove 39 = .ok (.putfield 20, 3) := by decide +kernel
theorem md_Mail_remove_42 : decode mb_Mail_remove 42 = .ok (.return_, 1) := by decide +kernel
theorem md_Mail_take_0 : decode mb_Mail_take 0 = .ok (.iload_n 1, 1) := by decide +kernel
theorem md_Mail_take_1 : decode mb_Mail_take 1 = .ok (.bipush 7, 2) := by decide +kernel
theorem md_Mail_take_3 : decode mb_Mail_take 3 = .ok (.imul, 1) := by decide +kernel
theorem md_Mail_take_4 : decode mb_Mail_take 4 = .ok (.istore_n 2, 1) := by decide +kernel
theorem md_Mail_take_5 : decode mb_Mail_take 5 = .ok (.aload_n 0, 1) := by decide +kernel
theorem md_Mail_take_6 : decode mb_Mail_take 6 = .ok (.getfield 16, 3) := by decide +kernel
theorem md_Mail_take_9 : decode mb_Mail_take 9 = .ok (.aload_n 0, 1) := by decide +kernel
theorem md_Mail_take_10 : decode mb_Mail_take 10 = .ok (.getfield 9, 3) := by decide +kernel
theorem md_Mail_take_13 : decode mb_Mail_take 13 = .ok (.iload_n 2, 1) := by decide +kernel
theorem md_Mail_take_14 : decode mb_Mail_take 14 = .ok (.iconst 0, 1) := by decide +kernel
theorem md_Mail_take_15 : decode mb_Mail_take 15 = .ok (.iadd, 1) := by decide +kernel
theorem md_Mail_take_16 : decode mb_Mail_take 16 = .ok (.iaload, 1) := by decide +kernel
theorem md_Mail_take_17 : decode mb_Mail_take 17 = .ok (.putfield 27, 3) := by decide +kernel
theorem md_Mail_take_20 : decode mb_Mail_take 20 = .ok (.aload_n 0, 1) := by decide +kernel
theorem md_Mail_take_21 : decode mb_Mail_take 21 = .ok (.getfield 16, 3) := by decide +kernel
theorem md_Mail_take_24 : decode mb_Mail_take 24 = .ok (.aload_n 0, 1) := by decide +kernel
theorem md_Mail_take_25 : decode mb_Mail_take 25 = .ok (.getfield 9, 3) := by decide +kernel
theorem md_Mail_take_28 : decode mb_Mail_take 28 = .ok (.iload_n 2, 1) := by decide +kernel
theorem md_Mail_take_29 : decode mb_Mail_take 29 = .ok (.iconst 1, 1) := by decide +kernel
theorem md_Mail_take_30 : decode mb_Mail_take 30 = .ok (.iadd, 1) := by decide +kernel
theorem md_Mail_take_31 : decode mb_Mail_take 31 = .ok (.iaload, 1) := by decide +kernel
theorem md_Mail_take_32 : decode mb_Mail_take 32 = .ok (.putfield 30, 3) := by decide +kernel
theorem md_Mail_take_35 : decode mb_Mail_take 35 = .ok (.aload_n 0, 1) := by decide +kernel
theorem md_Mail_take_36 : decode mb_Mail_take 36 = .ok (.getfield 16, 3) := by decide +kernel
theorem md_Mail_take_39 : decode mb_Mail_take 39 = .ok (.aload_n 0, 1) := by decide +kernel
theorem md_Mail_take_40 : decode mb_Mail_take 40 = .ok (.getfield 9, 3) := by decide +kernel
theorem md_Mail_take_43 : decode mb_Mail_take 43 = .ok (.iload_n 2, 1) := by decide +kernel
theorem md_Mail_take_44 : decode mb_Mail_take 44 = .ok (.iconst 2, 1) := by decide +kernel
theorem md_Mail_take_45 : decode mb_Mail_take 45 = .ok (.iadd, 1) := by decide +kernel
theorem md_Mail_take_46 : decode mb_Mail_take 46 = .ok (.iaload, 1) := by decide +kernel
theorem md_Mail_take_47 : decode mb_Mail_take 47 = .ok (.putfield 33, 3) := by decide +kernel
theorem md_Mail_take_50 : decode mb_Mail_take 50 = .ok (.aload_n 0, 1) := by decide +kernel
theorem md_Mail_take_51 : decode mb_Mail_take 51 = .ok (.getfield 16, 3) := by decide +kernel
theorem md_Mail_take_54 : decode mb_Mail_take 54 = .ok (.aload_n 0, 1) := by decide +kernel
theorem md_Mail_take_55 : decode mb_Mail_take 55 = .ok (.getfield 9, 3) := by decide +kernel
theorem md_Mail_take_58 : decode mb_Mail_take 58 = .ok (.iload_n 2, 1) := by decide +kernel
theorem md_Mail_take_59 : decode mb_Mail_take 59 = .ok (.iconst 3, 1) := by decide +kernel
theorem md_Mail_take_60 : decode mb_Mail_take 60 = .ok (.iadd, 1) := by decide +kernel
theorem md_Mail_take_61 : decode mb_Mail_take 61 = .ok (.iaload, 1) := by decide +kernel
theorem md_Mail_take_62 : decode mb_Mail_take 62 = .ok (.putfield 36, 3) := by decide +kernel
theorem md_Mail_take_65 : decode mb_Mail_take 65 = .ok (.aload_n 0, 1) := by decide +kernel
theorem md_Mail_take_66 : decode mb_Mail_take 66 = .ok (.getfield 16, 3) := by decide +kernel
theorem md_Mail_take_69 : decode mb_Mail_take 69 = .ok (.aload_n 0, 1) := by decide +kernel
theorem md_Mail_take_70 : decode mb_Mail_take 70 = .ok (.getfield 9, 3) := by decide +kernel
theorem md_Mail_take_73 : decode mb_Mail_take 73 = .ok (.iload_n 2, 1) := by decide +kernel
theorem md_Mail_take_74 : decode mb_Mail_take 74 = .ok (.iconst 4, 1) := by decide +kernel
theorem md_Mail_take_75 : decode mb_Mail_take 75 = .ok (.iadd, 1) := by decide +kernel
theorem md_Mail_take_76 : decode mb_Mail_take 76 = .ok (.iaload, 1) := by decide +kernel
theorem md_Mail_take_77 : decode mb_Mail_take 77 = .ok (.putfield 39, 3) := by decide +kernel
theorem md_Mail_take_80 : decode mb_Mail_take 80 = .ok (.aload_n 0, 1) := by decide +kernel
theorem md_Mail_take_81 : decode mb_Mail_take 81 = .ok (.getfield 16, 3) := by decide +kernel
theorem md_Mail_take_84 : decode mb_Mail_take 84 = .ok (.aload_n 0, 1) := by decide +kernel
theorem md_Mail_take_85 : decode mb_Mail_take 85 = .ok (.getfield 9, 3) := by decide +kernel
theorem md_Mail_take_88 : decode mb_Mail_take 88 = .ok (.iload_n 2, 1) := by decide +kernel
theorem md_Mail_take_89 : decode mb_Mail_take 89 = .ok (.iconst 5, 1) := by decide +kernel
theorem md_Mail_take_90 : decode mb_Mail_take 90 = .ok (.iadd, 1) := by decide +kernel
theorem md_Mail_take_91 : decode mb_Mail_take 91 = .ok (.iaload, 1) := by decide +kernel
theorem md_Mail_take_92 : decode mb_Mail_take 92 = .ok (.putfield 42, 3) := by decide +kernel
theorem md_Mail_take_95 : decode mb_Mail_take 95 = .ok (.aload_n 0, 1) := by decide +kernel
theorem md_Mail_take_96 : decode mb_Mail_take 96 = .ok (.getfield 16, 3) := by decide +kernel
theorem md_Mail_take_99 : decode mb_Mail_take 99 = .ok (.aload_n 0, 1) := by decide +kernel
theorem md_Mail_take_100 : decode mb_Mail_take 100 = .ok (.getfield 9, 3) := by decide +kernel
theorem md_Mail_take_103 : decode mb_Mail_take 103 = .ok (.iload_n 2, 1) := by decide +kernel
theorem md_Mail_take_104 : decode mb_Mail_take 104 = .ok (.bipush 6, 2) := by decide +kernel
theorem md_Mail_take_106 : decode mb_Mail_take 106 = .ok (.iadd, 1) := by decide +kernel
theorem md_Mail_take_107 : decode mb_Mail_take 107 = .ok (.iaload, 1) := by decide +kernel
theorem md_Mail_take_108 : decode mb_Mail_take 108 = .ok (.putfield 45, 3) := by decide +kernel
theorem md_Mail_take_111 : decode mb_Mail_take 111 = .ok (.aload_n 0, 1) := by decide +kernel
theorem md_Mail_take_112 : decode mb_Mail_take 112 = .ok (.iload_n 1, 1) := by decide +kernel
theorem md_Mail_take_113 : decode mb_Mail_take 113 = .ok (.invokevirtual 48, 3) := by decide +kernel
theorem md_Mail_take_116 : decode mb_Mail_take 116 = .ok (.aload_n 0, 1) := by decide +kernel
theorem md_Mail_take_117 : decode mb_Mail_take 117 = .ok (.getfield 16, 3) := by decide +kernel
theorem md_Mail_take_120 : decode mb_Mail_take 120 = .ok (.areturn, 1) := by decide +kernel
theorem md_Siz_quorumOf_0 : decode mb_Siz_quorumOf 0 = .ok (.iload_n 1, 1) := by decide +kernel
theorem md_Siz_quorumOf_1 : decode mb_Siz_quorumOf 1 = .ok (.invokestatic 34, 3) := by decide +kernel
theorem md_Siz_quorumOf_4 : decode mb_Siz_quorumOf 4 = .ok (.ifCond .eq 10, 3) := by decide +kernel
theorem md_Siz_quorumOf_7 : decode mb_Siz_quorumOf 7 = .ok (.aload_n 0, 1) := by decide +kernel
theorem md_Siz_quorumOf_8 : decode mb_Siz_quorumOf 8 = .ok (.getfield 31, 3) := by decide +kernel
theorem md_Siz_quorumOf_11 : decode mb_Siz_quorumOf 11 = .ok (.goto 7, 3) := by decide +kernel
theorem md_Siz_quorumOf_14 : decode mb_Siz_quorumOf 14 = .ok (.aload_n 0, 1) := by decide +kernel
theorem md_Siz_quorumOf_15 : decode mb_Siz_quorumOf 15 = .ok (.getfield 28, 3) := by decide +kernel
theorem md_Siz_quorumOf_18 : decode mb_Siz_quorumOf 18 = .ok (.ireturn, 1) := by decide +kernel
theorem md_Tal_tally_0 : decode mb_Tal_tally 0 = .ok (.iload_n 1, 1) := by decide +kernel
theorem md_Tal_tally_1 : decode mb_Tal_tally 1 = .ok (.aload_n 0, 1) := by decide +kernel
theorem md_Tal_tally_2 : decode mb_Tal_tally 2 = .ok (.getfield 9, 3) := by decide +kernel
theorem md_Tal_tally_5 : decode mb_Tal_tally 5 = .ok (.getfield 15, 3) := by decide +kernel
theorem md_Tal_tally_8 : decode mb_Tal_tally 8 = .ok (.imul, 1) := by decide +kernel
theorem md_Tal_tally_9 : decode mb_Tal_tally 9 = .ok (.istore_n 3, 1) := by decide +kernel
theorem md_Tal_tally_10 : decode mb_Tal_tally 10 = .ok (.iconst 0, 1) := by decide +kernel
theorem md_Tal_tally_11 : decode mb_Tal_tally 11 = .ok (.istore 4, 2) := by decide +kernel
theorem md_Tal_tally_13 : decode mb_Tal_tally 13 = .ok (.iconst 0, 1) := by decide +kernel
theorem md_Tal_tally_14 : decode mb_Tal_tally 14 = .ok (.istore 5, 2) := by decide +kernel
theorem md_Tal_tally_16 : decode mb_Tal_tally 16 = .ok (.iload 5, 2) := by decide +kernel
theorem md_Tal_tally_18 : decode mb_Tal_tally 18 = .ok (.aload_n 0, 1) := by decide +kernel
theorem md_Tal_tally_19 : decode mb_Tal_tally 19 = .ok (.getfield 9, 3) := by decide +kernel
theorem md_Tal_tally_22 : decode mb_Tal_tally 22 = .ok (.getfield 15, 3) := by decide +kernel
theorem md_Tal_tally_25 : decode mb_Tal_tally 25 = .ok (.if_icmp .ge 25, 3) := by decide +kernel
theorem md_Tal_tally_28 : decode mb_Tal_tally 28 = .ok (.aload_n 0, 1) := by decide +kernel
theorem md_Tal_tally_29 : decode mb_Tal_tally 29 = .ok (.getfield 21, 3) := by decide +kernel
theorem md_Tal_tally_32 : decode mb_Tal_tally 32 = .ok (.iload_n 3, 1) := by decide +kernel
theorem md_Tal_tally_33 : decode mb_Tal_tally 33 = .ok (.iload 5, 2) := by decide +kernel
theorem md_Tal_tally_35 : decode mb_Tal_tally 35 = .ok (.iadd, 1) := by decide +kernel
theorem md_Tal_tally_36 : decode mb_Tal_tally 36 = .ok (.iaload, 1) := by decide +kernel
theorem md_Tal_tally_37 : decode mb_Tal_tally 37 = .ok (.iload_n 2, 1) := by decide +kernel
theorem md_Tal_tally_38 : decode mb_Tal_tally 38 = .ok (.if_icmp .ne 6, 3) := by decide +kernel
theorem md_Tal_tally_41 : decode mb_Tal_tally 41 = .ok (.iinc 4 1, 3) := by decide +kernel
theorem md_Tal_tally_44 : decode mb_Tal_tally 44 = .ok (.iinc 5 1, 3) := by decide +kernel
theorem md_Tal_tally_47 : decode mb_Tal_tally 47 = .ok (.goto (-31), 3) := by decide +kernel
theorem md_Tal_tally_50 : decode mb_Tal_tally 50 = .ok (.iload 4, 2) := by decide +kernel
theorem md_Tal_tally_52 : decode mb_Tal_tally 52 = .ok (.ireturn, 1) := by decide +kernel
theorem md_Tal_record_0 : decode mb_Tal_record 0 = .ok (.aload_n 0, 1) := by decide +kernel
theorem md_Tal_record_1 : decode mb_Tal_record 1 = .ok (.getfield 21, 3) := by decide +kernel
theorem md_Tal_record_4 : decode mb_Tal_record 4 = .ok (.iload_n 1, 1) := by decide +kernel
theorem md_Tal_record_5 : decode mb_Tal_record 5 = .ok (.aload_n 0, 1) := by decide +kernel
theorem md_Tal_record_6 : decode mb_Tal_record 6 = .ok (.getfield 9, 3) := by decide +kernel
theorem md_Tal_record_9 : decode mb_Tal_record 9 = .ok (.getfield 15, 3) := by decide +kernel
theorem md_Tal_record_12 : decode mb_Tal_record 12 = .ok (.imul, 1) := by decide +kernel
theorem md_Tal_record_13 : decode mb_Tal_record 13 = .ok (.iload_n 2, 1) := by decide +kernel
theorem md_Tal_record_14 : decode mb_Tal_record 14 = .ok (.iadd, 1) := by decide +kernel
theorem md_Tal_record_15 : decode mb_Tal_record 15 = .ok (.iload_n 3, 1) := by decide +kernel
theorem md_Tal_record_16 : decode mb_Tal_record 16 = .ok (.iastore, 1) := by decide +kernel
theorem md_Tal_record_17 : decode mb_Tal_record 17 = .ok (.aload_n 0, 1) := by decide +kernel
theorem md_Tal_record_18 : decode mb_Tal_record 18 = .ok (.getfield 25, 3) := by decide +kernel
theorem md_Tal_record_21 : decode mb_Tal_record 21 = .ok (.ifCond .ne 25, 3) := by decide +kernel
theorem md_Tal_record_24 : decode mb_Tal_record 24 = .ok (.aload_n 0, 1) := by decide +kernel
theorem md_Tal_record_25 : decode mb_Tal_record 25 = .ok (.iload_n 1, 1) := by decide +kernel
theorem md_Tal_record_26 : decode mb_Tal_record 26 = .ok (.iload_n 3, 1) := by decide +kernel
theorem md_Tal_record_27 : decode mb_Tal_record 27 = .ok (.invokevirtual 28, 3) := by decide +kernel
theorem md_Tal_record_30 : decode mb_Tal_record 30 = .ok (.aload_n 0, 1) := by decide +kernel
theorem md_Tal_record_31 : decode mb_Tal_record 31 = .ok (.getfield 9, 3) := by decide +kernel
theorem md_Tal_record_34 : decode mb_Tal_record 34 = .ok (.iload_n 1, 1) := by decide +kernel
theorem md_Tal_record_35 : decode mb_Tal_record 35 = .ok (.invokevirtual 32, 3) := by decide +kernel
theorem md_Tal_record_38 : decode mb_Tal_record 38 = .ok (.if_icmp .lt 8, 3) := by decide +kernel
theorem md_Tal_record_41 : decode mb_Tal_record 41 = .ok (.aload_n 0, 1) := by decide +kernel
theorem md_Tal_record_42 : decode mb_Tal_record 42 = .ok (.iload_n 3, 1) := by decide +kernel
theorem md_Tal_record_43 : decode mb_Tal_record 43 = .ok (.putfield 25, 3) := by decide +kernel
theorem md_Tal_record_46 : decode mb_Tal_record 46 = .ok (.return_, 1) := by decide +kernel
theorem fr_k6 {n q f : Nat} {S : pz_T} {ex : Nat → Nat → Prop} {M M' : fr_M} (h : fr_R n q f S ex M) (hk : ∀ k, k ≠ (6, 0) → M' k = M k) : fr_R n q f S ex M' := by
  obtain ⟨a1, a2, a4, a5, a9, a10, a13, a14, a15⟩ := h
  have m : ∀ x y, x ≠ 6 → M' (x, y) = M (x, y) := fun x y hx => hk _ (fr_pair hx)
  refine ⟨?_, ?_, ?_, ?_, ?_, ?_, ?_, ?_, ?_⟩
  · unfold fr_1; rw [m 1 0 (by omega)]; exact a1
  · unfold fr_2; rw [m 2 0 (by omega)]; exact a2
  · intro w hw; rw [m 4 0 (by omega)]; exact a4 w hw
  · intro i x hx; rw [m 5 0 (by omega)]; exact a5 i x hx
  · intro s c hs hc; rw [m 9 _ (by omega)]; exact a9 s c hs hc
  · intro s c hs hc hx; rw [m 9 _ (by omega), m 10 _ (by omega), m 11 _ (by omega), m 12 _ (by omega)]; exact a10 s c hs hc hx
  · intro s hs; rw [m 13 _ (by omega), m 13 _ (by omega)]; exact a13 s hs
  · intro s r a hs hr ha; rw [m 14 _ (by omega), m 14 _ (by omega)]; exact a14 s r a hs hr ha
  · intro s a hs ha; rw [m 15 _ (by omega)]; exact a15 s a hs ha
set_option maxHeartbeats 4000000 in
theorem k_valueIn (l : Launch) (D : va_G) {n : Nat} (ad : Nat × Nat → Nat) (cI cZ cS cA : ClassId) {M : fr_M} {q f : Nat} {S : pz_T} {ex : Nat → Nat → Prop} {j : Nat} {g : pz_M} (h : fr_R n q f S ex M) (h60 : S.1.length ≤ 60) (hg : S.1[j]? = some g) : fb_C l D n ad cI cZ cS cA my_Mail_valueIn mb_Mail_valueIn 2 (some .int) 0 0 M [.ref (ad (2, 0)), .int (nI (j))] (some (.int (nI (g 5)))) (fun M' => M' = M) := by
  have hj : j < S.1.length := (List.getElem?_eq_some_iff.mp hg).1
  have hrow := h.2.2.2.1 j g hg
  refine xw_start [.ref (ad (2, 0)), .int (nI (j))] (by decide) (Nat.le_of_ble_eq_true rfl) ?_
  intro p e st m below meth cd0 ls Z hml hr hlk hN hl hw
  have hl : lv_has ls 2 [(0, .ref (ad (2, 0))), (1, .int (nI (j)))] := hl
  refine lv_aload_n Z.1 Z.2.1 md_Mail_valueIn_0 rfl (lv_at hl 0 rfl) ?_
  refine xb_get (v := .ref (ad (5, 0))) Z hw (fb_in2 n) (fb_e2 n ad cI cZ cS cA) rfl tb_iMail 0 (by decide) mk_Mail_9 rfl rfl md_Mail_valueIn_1 ?_
  refine lv_iload_n Z.1 Z.2.1 md_Mail_valueIn_4 rfl (lv_at hl 1 rfl) ?_
  refine lv_bipush (v := nI 7) Z.1 Z.2.1 md_Mail_valueIn_5 (by decide) ?_
  refine xi_mul Z md_Mail_valueIn_7 ?_
  refine lv_iconst (v := nI 5) Z.1 Z.2.1 md_Mail_valueIn_8 (by decide) ?_
  refine xi_add Z md_Mail_valueIn_9 ?_
  refine xw_iald Z hw (fb_in5 n) (fb_e5 n ad cI cZ cS cA) 0 rfl (j * 7 + 5) rfl (by omega) (by omega) md_Mail_valueIn_10 ?_
  refine xi_re (show M (5, 0) (j * 7 + 5) = nI (g 5) from hrow.2.2.2.2.2.1) ?_
  exact xw_iret Z hr hlk hw md_Mail_valueIn_11 rfl rfl
set_option maxHeartbeats 4000000 in
theorem k_label (l : Launch) (D : va_G) {n : Nat} (ad : Nat × Nat → Nat) (cI cZ cS cA : ClassId) {M : fr_M} {q f : Nat} {S : pz_T} {ex : Nat → Nat → Prop} {j : Nat} {g : pz_M} (h : fr_R n q f S ex M) (h60 : S.1.length ≤ 60) (hg : S.1[j]? = some g) : fb_C l D n ad cI cZ cS cA my_Mail_label mb_Mail_label 4 (some .int) 0 0 M [.ref (ad (2, 0)), .int (nI (j))] (some (.int (nI (100000 * g 0 + 10000 * g 1 + 100 * g 2 + g 4)))) (fun M' => M' = M) := by
  have hj : j < S.1.length := (List.getElem?_eq_some_iff.mp hg).1
  have hrow := h.2.2.2.1 j g hg
  refine xw_start [.ref (ad (2, 0)), .int (nI (j))] (by decide) (Nat.le_of_ble_eq_true rfl) ?_
  intro p e st m below meth cd0 ls Z hml hr hlk hN hl hw
  have hl : lv_has ls 4 [(0, .ref (ad (2, 0))), (1, .int (nI (j)))] := hl
  refine lv_iload_n Z.1 Z.2.1 md_Mail_label_0 rfl (lv_at hl 1 rfl) ?_
  refine lv_bipush (v := nI 7) Z.1 Z.2.1 md_Mail_label_1 (by decide) ?_
  refine xi_mul Z md_Mail_label_3 ?_
  refine lv_istore_n Z.1 Z.2.1 md_Mail_label_4 rfl hl (by decide) rfl (fun ls hl => ?_)
  have hl : lv_has ls 4 [(2, .int (nI (j * 7))), (0, .ref (ad (2, 0))), (1, .int (nI (j)))] := hl
  refine lv_ldc Z.1 Z.2.1 Z.2.2.2.1 (Z.2.2.1 _ (List.mem_cons_of_mem _ mk_Mail_58)) md_Mail_label_5 ?_
  refine xi_re (show _ = nI (100000) by decide) ?_
  refine lv_aload_n Z.1 Z.2.1 md_Mail_label_7 rfl (lv_at hl 1 rfl) ?_
  refine xb_get (v := .ref (ad (5, 0))) Z hw (fb_in2 n) (fb_e2 n ad cI cZ cS cA) rfl tb_iMail 0 (by decide) mk_Mail_9 rfl rfl md_Mail_label_8 ?_
  refine lv_iload_n Z.1 Z.2.1 md_Mail_label_11 rfl (lv_at hl 0 rfl) ?_
  refine lv_iconst (v := nI 0) Z.1 Z.2.1 md_Mail_label_12 (by decide) ?_
  refine xi_add Z md_Mail_label_13 ?_
  refine xw_iald Z hw (fb_in5 n) (fb_e5 n ad cI cZ cS cA) 0 rfl (j * 7 + 0) rfl (by omega) (by omega) md_Mail_label_14 ?_
  refine xi_re (show M (5, 0) (j * 7 + 0) = nI (g 0) from hrow.1) ?_
  refine xi_mul Z md_Mail_label_15 ?_
  refine lv_sipush (v := nI 10000) Z.1 Z.2.1 md_Mail_label_16 (by decide) ?_
  refine lv_aload_n Z.1 Z.2.1 md_Mail_label_19 rfl (lv_at hl 1 rfl) ?_
  refine xb_get (v := .ref (ad (5, 0))) Z hw (fb_in2 n) (fb_e2 n ad cI cZ cS cA) rfl tb_iMail 0 (by decide) mk_Mail_9 rfl rfl md_Mail_label_20 ?_
  refine lv_iload_n Z.1 Z.2.1 md_Mail_label_23 rfl (lv_at hl 0 rfl) ?_
  refine lv_iconst (v := nI 1) Z.1 Z.2.1 md_Mail_label_24 (by decide) ?_
  refine xi_add Z md_Mail_label_25 ?_
  refine xw_iald Z hw (fb_in5 n) (fb_e5 n ad cI cZ cS cA) 0 rfl (j * 7 + 1) rfl (by omega) (by omega) md_Mail_label_26 ?_
  refine xi_re (show M (5, 0) (j * 7 + 1) = nI (g 1) from hrow.2.1) ?_
  refine xi_mul Z md_Mail_label_27 ?_
  refine xi_add Z md_Mail_label_28 ?_
  refine lv_istore_n Z.1 Z.2.1 md_Mail_label_29 rfl hl (by decide) rfl (fun ls hl => ?_)
  have hl : lv_has ls 4 [(3, .int (nI ((100000 * (g 0)) + (10000 * (g 1))))), (2, .int (nI (j * 7))), (0, .ref (ad (2, 0))), (1, .int (nI (j)))] := hl
  refine lv_iload_n Z.1 Z.2.1 md_Mail_label_30 rfl (lv_at hl 0 rfl) ?_
  refine lv_bipush (v := nI 100) Z.1 Z.2.1 md_Mail_label_31 (by decide) ?_
  refine lv_aload_n Z.1 Z.2.1 md_Mail_label_33 rfl (lv_at hl 2 rfl) ?_
  refine xb_get (v := .ref (ad (5, 0))) Z hw (fb_in2 n) (fb_e2 n ad cI cZ cS cA) rfl tb_iMail 0 (by decide) mk_Mail_9 rfl rfl md_Mail_label_34 ?_
  refine lv_iload_n Z.1 Z.2.1 md_Mail_label_37 rfl (lv_at hl 1 rfl) ?_
  refine lv_iconst (v := nI 2) Z.1 Z.2.1 md_Mail_label_38 (by decide) ?_
  refine xi_add Z md_Mail_label_39 ?_
  refine xw_iald Z hw (fb_in5 n) (fb_e5 n ad cI cZ cS cA) 0 rfl (j * 7 + 2) rfl (by omega) (by omega) md_Mail_label_40 ?_
  refine xi_re (show M (5, 0) (j * 7 + 2) = nI (g 2) from hrow.2.2.1) ?_
  refine xi_mul Z md_Mail_label_41 ?_
  refine xi_add Z md_Mail_label_42 ?_
  refine lv_aload_n Z.1 Z.2.1 md_Mail_label_43 rfl (lv_at hl 2 rfl) ?_
  refine xb_get (v := .ref (ad (5, 0))) Z hw (fb_in2 n) (fb_e2 n ad cI cZ cS cA) rfl tb_iMail 0 (by decide) mk_Mail_9 rfl rfl md_Mail_label_44 ?_
  refine lv_iload_n Z.1 Z.2.1 md_Mail_label_47 rfl (lv_at hl 1 rfl) ?_
  refine lv_iconst (v := nI 4) Z.1 Z.2.1 md_Mail_label_48 (by decide) ?_
  refine xi_add Z md_Mail_label_49 ?_
  refine xw_iald Z hw (fb_in5 n) (fb_e5 n ad cI cZ cS cA) 0 rfl (j * 7 + 4) rfl (by omega) (by omega) md_Mail_label_50 ?_
  refine xi_re (show M (5, 0) (j * 7 + 4) = nI (g 4) from hrow.2.2.2.2.1) ?_
  refine xi_add Z md_Mail_label_51 ?_
  exact xw_iret Z hr hlk hw md_Mail_label_52 rfl rfl
set_option maxHeartbeats 4000000 in
theorem k_remove (l : Launch) (D : va_G) {n : Nat} (ad : Nat × Nat → Nat) (cI cZ cS cA : ClassId) {M : fr_M} {q f : Nat} {S : pz_T} {ex : Nat → Nat → Prop} {j : Nat} (h : fr_R n q f S ex M) (h60 : S.1.length ≤ 60) (hj : j < S.1.length) : fb_C l D n ad cI cZ cS cA my_Mail_remove mb_Mail_remove 3 none 1 18 M [.ref (ad (2, 0)), .int (nI (j))] (none) (fr_K n q f (pz_rm S j) ex M) := by
  refine xw_start [.ref (ad (2, 0)), .int (nI (j))] (by decide) (Nat.le_of_ble_eq_true rfl) ?_
  intro p e st m below meth cd0 ls Z hml hr hlk hN hl hw
  have hl : lv_has ls 3 [(0, .ref (ad (2, 0))), (1, .int (nI (j)))] := hl
  refine lv_iload_n Z.1 Z.2.1 md_Mail_remove_0 rfl (lv_at hl 1 rfl) ?_
  refine lv_iconst (v := nI 1) Z.1 Z.2.1 md_Mail_remove_1 (by decide) ?_
  refine xi_add Z md_Mail_remove_2 ?_
  refine lv_bipush (v := nI 7) Z.1 Z.2.1 md_Mail_remove_3 (by decide) ?_
  refine xi_mul Z md_Mail_remove_5 ?_
  refine lv_istore_n Z.1 Z.2.1 md_Mail_remove_6 rfl hl (by decide) rfl (fun ls hl => ?_)
  have hl : lv_has ls 3 [(2, .int (nI ((j + 1) * 7))), (0, .ref (ad (2, 0))), (1, .int (nI (j)))] := hl
  refine lv_aload_n Z.1 Z.2.1 md_Mail_remove_7 rfl (lv_at hl 1 rfl) ?_
  refine xb_get (v := .ref (ad (5, 0))) Z hw (fb_in2 n) (fb_e2 n ad cI cZ cS cA) rfl tb_iMail 0 (by decide) mk_Mail_9 rfl rfl md_Mail_remove_8 ?_
  refine lv_iload_n Z.1 Z.2.1 md_Mail_remove_11 rfl (lv_at hl 0 rfl) ?_
  refine lv_aload_n Z.1 Z.2.1 md_Mail_remove_12 rfl (lv_at hl 1 rfl) ?_
  refine xb_get (v := .ref (ad (5, 0))) Z hw (fb_in2 n) (fb_e2 n ad cI cZ cS cA) rfl tb_iMail 0 (by decide) mk_Mail_9 rfl rfl md_Mail_remove_13 ?_
  refine lv_iload_n Z.1 Z.2.1 md_Mail_remove_16 rfl (lv_at hl 2 rfl) ?_
  refine lv_bipush (v := nI 7) Z.1 Z.2.1 md_Mail_remove_17 (by decide) ?_
  refine xi_mul Z md_Mail_remove_19 ?_
  refine lv_aload_n Z.1 Z.2.1 md_Mail_remove_20 rfl (lv_at hl 1 rfl) ?_
  refine xb_get (v := .int (M (2, 0) 2)) Z hw (fb_in2 n) (fb_e2 n ad cI cZ cS cA) rfl tb_iMail 2 (by decide) mk_Mail_20 rfl rfl md_Mail_remove_21 ?_
  refine xi_re (show M (2, 0) 2 = nI (S.1.length) from h.2.1.1) ?_
  refine lv_bipush (v := nI 7) Z.1 Z.2.1 md_Mail_remove_24 (by decide) ?_
  refine xi_mul Z md_Mail_remove_26 ?_
  refine lv_iload_n Z.1 Z.2.1 md_Mail_remove_27 rfl (lv_at hl 0 rfl) ?_
  refine xi_sub Z md_Mail_remove_28 (by omega) ?_
  refine xb_copy Z (hml.trans hl.1.symm) hw (fb_in5 n) (fb_e5 n ad cI cZ cS cA) 0 rfl mk_Mail_52 (a := (j + 1) * 7) (b := j * 7) (d := ((S.1.length) * 7) - ((j + 1) * 7)) (by omega) (by omega) (by decide) (Nat.le_of_ble_eq_true rfl) (Nat.le_of_ble_eq_true rfl) md_Mail_remove_29 (fun M1 H1 locs1 e1 hw => ?_)
  have h2 : M1 (2, 0) = M (2, 0) := by rw [e1, xw_mw_n (by decide)]
  refine lv_aload_n Z.1 Z.2.1 md_Mail_remove_32 rfl (lv_at hl 1 rfl) ?_
  refine lv_dup Z.1 Z.2.1 md_Mail_remove_33 rfl ?_
  refine xb_get (v := .int (M1 (2, 0) 2)) Z hw (fb_in2 n) (fb_e2 n ad cI cZ cS cA) rfl tb_iMail 2 (by decide) mk_Mail_20 rfl rfl md_Mail_remove_34 ?_
  refine xi_re (show M1 (2, 0) 2 = nI (S.1.length) from (by rw [h2]; exact h.2.1.1)) ?_
  refine lv_iconst (v := nI 1) Z.1 Z.2.1 md_Mail_remove_37 (by decide) ?_
  refine xi_sub Z md_Mail_remove_38 (by omega) ?_
  refine xb_put Z hw (fb_in2 n) (fb_e2 n ad cI cZ cS cA) rfl tb_iMail tb_tMail tb_yMail tb_nMail 2 (by decide) mk_Mail_20 rfl rfl rfl (fb_s2_2 ad _) md_Mail_remove_39 (fun M2 H2 locs2 e2 hw => ?_)
  refine xw_vret Z hr hlk hw md_Mail_remove_42 ⟨fr_rm h hj (fun k h2 h5 _ => by rw [e2, xw_mw_n h2, e1, xw_mw_n h5]) ?_ ?_ (fun t ht => ?_) (fun t ht1 ht2 => ?_), by rw [e2, xw_mw_n (by decide), e1, xw_mw_n (by decide)]⟩
  · rw [e2, xw_mw_s]; simp [upd]
  · rw [e2, xw_mw_s]; simp only [upd]; rw [if_neg (by decide), h2]
  · rw [e2, xw_mw_n (by decide), e1, xw_mw_s]; exact pk_cpy_out (by omega)
  · rw [e2, xw_mw_n (by decide), e1, xw_mw_s, pk_cpy_in (by omega) (by omega)]; exact congrArg _ (by omega)
set_option maxHeartbeats 4000000 in
theorem k_take (l : Launch) (D : va_G) {n : Nat} (ad : Nat × Nat → Nat) (cI cZ cS cA : ClassId) {M : fr_M} {q f : Nat} {S : pz_T} {ex : Nat → Nat → Prop} {j : Nat} {g : pz_M} (h : fr_R n q f S ex M) (h60 : S.1.length ≤ 60) (hg : S.1[j]? = some g) : fb_C l D n ad cI cZ cS cA my_Mail_take mb_Mail_take 3 (some (.object "FastBallots$Message")) 2 40 M [.ref (ad (2, 0)), .int (nI (j))] (some (.ref (ad (6, 0)))) (fun M' => fr_R n q f (pz_rm S j) ex M' ∧ fr_row g (M' (6, 0))) := by
  have hj : j < S.1.length := (List.getElem?_eq_some_iff.mp hg).1
  have hrow := h.2.2.2.1 j g hg
  refine xw_start [.ref (ad (2, 0)), .int (nI (j))] (by decide) (Nat.le_of_ble_eq_true rfl) ?_
  intro p e st m below meth cd0 ls Z hml hr hlk hN hl hw
  have hl : lv_has ls 3 [(0, .ref (ad (2, 0))), (1, .int (nI (j)))] := hl
  refine lv_iload_n Z.1 Z.2.1 md_Mail_take_0 rfl (lv_at hl 1 rfl) ?_
  refine lv_bipush (v := nI 7) Z.1 Z.2.1 md_Mail_take_1 (by decide) ?_
  refine xi_mul Z md_Mail_take_3 ?_
  refine lv_istore_n Z.1 Z.2.1 md_Mail_take_4 rfl hl (by decide) rfl (fun ls hl => ?_)
  have hl : lv_has ls 3 [(2, .int (nI (j * 7))), (0, .ref (ad (2, 0))), (1, .int (nI (j)))] := hl
  refine lv_aload_n Z.1 Z.2.1 md_Mail_take_5 rfl (lv_at hl 1 rfl) ?_
  refine xb_get (v := .ref (ad (6, 0))) Z hw (fb_in2 n) (fb_e2 n ad cI cZ cS cA) rfl tb_iMail 1 (by decide) mk_Mail_16 rfl rfl md_Mail_take_6 ?_
  refine lv_aload_n Z.1 Z.2.1 md_Mail_take_9 rfl (lv_at hl 1 rfl) ?_
  refine xb_get (v := .ref (ad (5, 0))) Z hw (fb_in2 n) (fb_e2 n ad cI cZ cS cA) rfl tb_iMail 0 (by decide) mk_Mail_9 rfl rfl md_Mail_take_10 ?_
  refine lv_iload_n Z.1 Z.2.1 md_Mail_take_13 rfl (lv_at hl 0 rfl) ?_
  refine lv_iconst (v := nI 0) Z.1 Z.2.1 md_Mail_take_14 (by decide) ?_
  refine xi_add Z md_Mail_take_15 ?_
  refine xw_iald Z hw (fb_in5 n) (fb_e5 n ad cI cZ cS cA) 0 rfl (j * 7 + 0) rfl (by omega) (by omega) md_Mail_take_16 ?_
  refine xb_put Z hw (fb_in6 n) (fb_e6 n ad cI cZ cS cA) rfl tb_iMsg tb_tMsg tb_yMsg tb_nMsg 0 (by decide) mk_Mail_27 rfl rfl rfl (fb_s6_0 ad _) md_Mail_take_17 (fun M1 H1 locs1 e1 hw => ?_)
  refine lv_aload_n Z.1 Z.2.1 md_Mail_take_20 rfl (lv_at hl 1 rfl) ?_
  refine xb_get (v := .ref (ad (6, 0))) Z hw (fb_in2 n) (fb_e2 n ad cI cZ cS cA) rfl tb_iMail 1 (by decide) mk_Mail_16 rfl rfl md_Mail_take_21 ?_
  refine lv_aload_n Z.1 Z.2.1 md_Mail_take_24 rfl (lv_at hl 1 rfl) ?_
  refine xb_get (v := .ref (ad (5, 0))) Z hw (fb_in2 n) (fb_e2 n ad cI cZ cS cA) rfl tb_iMail 0 (by decide) mk_Mail_9 rfl rfl md_Mail_take_25 ?_
  refine lv_iload_n Z.1 Z.2.1 md_Mail_take_28 rfl (lv_at hl 0 rfl) ?_
  refine lv_iconst (v := nI 1) Z.1 Z.2.1 md_Mail_take_29 (by decide) ?_
  refine xi_add Z md_Mail_take_30 ?_
  refine xw_iald Z hw (fb_in5 n) (fb_e5 n ad cI cZ cS cA) 0 rfl (j * 7 + 1) rfl (by omega) (by omega) md_Mail_take_31 ?_
  refine xi_re (show M1 (5, 0) (j * 7 + 1) = M (5, 0) (j * 7 + 1) from congrFun (by rw [e1, xw_mw_n (by decide)] : M1 (5, 0) = M (5, 0)) _) ?_
  refine xb_put Z hw (fb_in6 n) (fb_e6 n ad cI cZ cS cA) rfl tb_iMsg tb_tMsg tb_yMsg tb_nMsg 1 (by decide) mk_Mail_30 rfl rfl rfl (fb_s6_1 ad _) md_Mail_take_32 (fun M2 H2 locs2 e2 hw => ?_)
  refine lv_aload_n Z.1 Z.2.1 md_Mail_take_35 rfl (lv_at hl 1 rfl) ?_
  refine xb_get (v := .ref (ad (6, 0))) Z hw (fb_in2 n) (fb_e2 n ad cI cZ cS cA) rfl tb_iMail 1 (by decide) mk_Mail_16 rfl rfl md_Mail_take_36 ?_
  refine lv_aload_n Z.1 Z.2.1 md_Mail_take_39 rfl (lv_at hl 1 rfl) ?_
  refine xb_get (v := .ref (ad (5, 0))) Z hw (fb_in2 n) (fb_e2 n ad cI cZ cS cA) rfl tb_iMail 0 (by decide) mk_Mail_9 rfl rfl md_Mail_take_40 ?_
  refine lv_iload_n Z.1 Z.2.1 md_Mail_take_43 rfl (lv_at hl 0 rfl) ?_
  refine lv_iconst (v := nI 2) Z.1 Z.2.1 md_Mail_take_44 (by decide) ?_
  refine xi_add Z md_Mail_take_45 ?_
  refine xw_iald Z hw (fb_in5 n) (fb_e5 n ad cI cZ cS cA) 0 rfl (j * 7 + 2) rfl (by omega) (by omega) md_Mail_take_46 ?_
  refine xi_re (show M2 (5, 0) (j * 7 + 2) = M (5, 0) (j * 7 + 2) from congrFun (by rw [e2, xw_mw_n (by decide), e1, xw_mw_n (by decide)] : M2 (5, 0) = M (5, 0)) _) ?_
  refine xb_put Z hw (fb_in6 n) (fb_e6 n ad cI cZ cS cA) rfl tb_iMsg tb_tMsg tb_yMsg tb_nMsg 2 (by decide) mk_Mail_33 rfl rfl rfl (fb_s6_2 ad _) md_Mail_take_47 (fun M3 H3 locs3 e3 hw => ?_)
  refine lv_aload_n Z.1 Z.2.1 md_Mail_take_50 rfl (lv_at hl 1 rfl) ?_
  refine xb_get (v := .ref (ad (6, 0))) Z hw (fb_in2 n) (fb_e2 n ad cI cZ cS cA) rfl tb_iMail 1 (by decide) mk_Mail_16 rfl rfl md_Mail_take_51 ?_
  refine lv_aload_n Z.1 Z.2.1 md_Mail_take_54 rfl (lv_at hl 1 rfl) ?_
  refine xb_get (v := .ref (ad (5, 0))) Z hw (fb_in2 n) (fb_e2 n ad cI cZ cS cA) rfl tb_iMail 0 (by decide) mk_Mail_9 rfl rfl md_Mail_take_55 ?_
  refine lv_iload_n Z.1 Z.2.1 md_Mail_take_58 rfl (lv_at hl 0 rfl) ?_
  refine lv_iconst (v := nI 3) Z.1 Z.2.1 md_Mail_take_59 (by decide) ?_
  refine xi_add Z md_Mail_take_60 ?_
  refine xw_iald Z hw (fb_in5 n) (fb_e5 n ad cI cZ cS cA) 0 rfl (j * 7 + 3) rfl (by omega) (by omega) md_Mail_take_61 ?_
  refine xi_re (show M3 (5, 0) (j * 7 + 3) = M (5, 0) (j * 7 + 3) from congrFun (by rw [e3, xw_mw_n (by decide), e2, xw_mw_n (by decide), e1, xw_mw_n (by decide)] : M3 (5, 0) = M (5, 0)) _) ?_
  refine xb_put Z hw (fb_in6 n) (fb_e6 n ad cI cZ cS cA) rfl tb_iMsg tb_tMsg tb_yMsg tb_nMsg 3 (by decide) mk_Mail_36 rfl rfl rfl (fb_s6_3 ad _) md_Mail_take_62 (fun M4 H4 locs4 e4 hw => ?_)
  refine lv_aload_n Z.1 Z.2.1 md_Mail_take_65 rfl (lv_at hl 1 rfl) ?_
  refine xb_get (v := .ref (ad (6, 0))) Z hw (fb_in2 n) (fb_e2 n ad cI cZ cS cA) rfl tb_iMail 1 (by decide) mk_Mail_16 rfl rfl md_Mail_take_66 ?_
  refine lv_aload_n Z.1 Z.2.1 md_Mail_take_69 rfl (lv_at hl 1 rfl) ?_
  refine xb_get (v := .ref (ad (5, 0))) Z hw (fb_in2 n) (fb_e2 n ad cI cZ cS cA) rfl tb_iMail 0 (by decide) mk_Mail_9 rfl rfl md_Mail_take_70 ?_
  refine lv_iload_n Z.1 Z.2.1 md_Mail_take_73 rfl (lv_at hl 0 rfl) ?_
  refine lv_iconst (v := nI 4) Z.1 Z.2.1 md_Mail_take_74 (by decide) ?_
  refine xi_add Z md_Mail_take_75 ?_
  refine xw_iald Z hw (fb_in5 n) (fb_e5 n ad cI cZ cS cA) 0 rfl (j * 7 + 4) rfl (by omega) (by omega) md_Mail_take_76 ?_
  refine xi_re (show M4 (5, 0) (j * 7 + 4) = M (5, 0) (j * 7 + 4) from congrFun (by rw [e4, xw_mw_n (by decide), e3, xw_mw_n (by decide), e2, xw_mw_n (by decide), e1, xw_mw_n (by decide)] : M4 (5, 0) = M (5, 0)) _) ?_
  refine xb_put Z hw (fb_in6 n) (fb_e6 n ad cI cZ cS cA) rfl tb_iMsg tb_tMsg tb_yMsg tb_nMsg 4 (by decide) mk_Mail_39 rfl rfl rfl (fb_s6_4 ad _) md_Mail_take_77 (fun M5 H5 locs5 e5 hw => ?_)
  refine lv_aload_n Z.1 Z.2.1 md_Mail_take_80 rfl (lv_at hl 1 rfl) ?_
  refine xb_get (v := .ref (ad (6, 0))) Z hw (fb_in2 n) (fb_e2 n ad cI cZ cS cA) rfl tb_iMail 1 (by decide) mk_Mail_16 rfl rfl md_Mail_take_81 ?_
  refine lv_aload_n Z.1 Z.2.1 md_Mail_take_84 rfl (lv_at hl 1 rfl) ?_
  refine xb_get (v := .ref (ad (5, 0))) Z hw (fb_in2 n) (fb_e2 n ad cI cZ cS cA) rfl tb_iMail 0 (by decide) mk_Mail_9 rfl rfl md_Mail_take_85 ?_
  refine lv_iload_n Z.1 Z.2.1 md_Mail_take_88 rfl (lv_at hl 0 rfl) ?_
  refine lv_iconst (v := nI 5) Z.1 Z.2.1 md_Mail_take_89 (by decide) ?_
  refine xi_add Z md_Mail_take_90 ?_
  refine xw_iald Z hw (fb_in5 n) (fb_e5 n ad cI cZ cS cA) 0 rfl (j * 7 + 5) rfl (by omega) (by omega) md_Mail_take_91 ?_
  refine xi_re (show M5 (5, 0) (j * 7 + 5) = M (5, 0) (j * 7 + 5) from congrFun (by rw [e5, xw_mw_n (by decide), e4, xw_mw_n (by decide), e3, xw_mw_n (by decide), e2, xw_mw_n (by decide), e1, xw_mw_n (by decide)] : M5 (5, 0) = M (5, 0)) _) ?_
  refine xb_put Z hw (fb_in6 n) (fb_e6 n ad cI cZ cS cA) rfl tb_iMsg tb_tMsg tb_yMsg tb_nMsg 5 (by decide) mk_Mail_42 rfl rfl rfl (fb_s6_5 ad _) md_Mail_take_92 (fun M6 H6 locs6 e6 hw => ?_)
  refine lv_aload_n Z.1 Z.2.1 md_Mail_take_95 rfl (lv_at hl 1 rfl) ?_
  refine xb_get (v := .ref (ad (6, 0))) Z hw (fb_in2 n) (fb_e2 n ad cI cZ cS cA) rfl tb_iMail 1 (by decide) mk_Mail_16 rfl rfl md_Mail_take_96 ?_
  refine lv_aload_n Z.1 Z.2.1 md_Mail_take_99 rfl (lv_at hl 1 rfl) ?_
  refine xb_get (v := .ref (ad (5, 0))) Z hw (fb_in2 n) (fb_e2 n ad cI cZ cS cA) rfl tb_iMail 0 (by decide) mk_Mail_9 rfl rfl md_Mail_take_100 ?_
  refine lv_iload_n Z.1 Z.2.1 md_Mail_take_103 rfl (lv_at hl 0 rfl) ?_
  refine lv_bipush (v := nI 6) Z.1 Z.2.1 md_Mail_take_104 (by decide) ?_
  refine xi_add Z md_Mail_take_106 ?_
  refine xw_iald Z hw (fb_in5 n) (fb_e5 n ad cI cZ cS cA) 0 rfl (j * 7 + 6) rfl (by omega) (by omega) md_Mail_take_107 ?_
  refine xi_re (show M6 (5, 0) (j * 7 + 6) = M (5, 0) (j * 7 + 6) from congrFun (by rw [e6, xw_mw_n (by decide), e5, xw_mw_n (by decide), e4, xw_mw_n (by decide), e3, xw_mw_n (by decide), e2, xw_mw_n (by decide), e1, xw_mw_n (by decide)] : M6 (5, 0) = M (5, 0)) _) ?_
  refine xb_put Z hw (fb_in6 n) (fb_e6 n ad cI cZ cS cA) rfl tb_iMsg tb_tMsg tb_yMsg tb_nMsg 6 (by decide) mk_Mail_45 rfl rfl rfl (fb_s6_6 ad _) md_Mail_take_108 (fun M7 H7 locs7 e7 hw => ?_)
  refine lv_aload_n Z.1 Z.2.1 md_Mail_take_111 rfl (lv_at hl 1 rfl) ?_
  refine lv_iload_n Z.1 Z.2.1 md_Mail_take_112 rfl (lv_at hl 2 rfl) ?_
  have c6 : M7 (6, 0) = upd (upd (upd (upd (upd (upd (upd (M (6, 0)) 0 (M (5, 0) (j * 7 + 0))) 1 (M (5, 0) (j * 7 + 1))) 2 (M (5, 0) (j * 7 + 2))) 3 (M (5, 0) (j * 7 + 3))) 4 (M (5, 0) (j * 7 + 4))) 5 (M (5, 0) (j * 7 + 5))) 6 (M (5, 0) (j * 7 + 6)) := by rw [e7, xw_mw_s, e6, xw_mw_s, e5, xw_mw_s, e4, xw_mw_s, e3, xw_mw_s, e2, xw_mw_s, e1, xw_mw_s]
  have h7 : fr_R n q f S ex M7 := fr_k6 h (fun k hk => by rw [e7, xw_mw_n hk, e6, xw_mw_n hk, e5, xw_mw_n hk, e4, xw_mw_n hk, e3, xw_mw_n hk, e2, xw_mw_n hk, e1, xw_mw_n hk])
  refine xw_cV (n := 1) (rest := []) Z hml hl.1 hN hw (k_remove l D ad cI cZ cS cA h7 h60 hj) tb_g mc_Mail_remove mk_Mail_48 mi_Mail_remove ms_Mail_remove mz_Mail ⟨by decide, by decide, by decide +kernel⟩ ⟨Nat.le_of_ble_eq_true rfl, Nat.le_of_ble_eq_true rfl⟩ (fb_in2 n) (fb_e2 n ad cI cZ cS cA _) rfl rfl rfl rfl (Nat.le_of_ble_eq_true rfl) ⟨Nat.le_refl _, Nat.le_refl _⟩ md_Mail_take_113 (fun M8 H8 locs8 h8 hw => ?_)
  refine W.eq (g2 := F0 m 116 ls []) rfl ?_
  refine lv_aload_n Z.1 Z.2.1 md_Mail_take_116 rfl (lv_at hl 1 rfl) ?_
  refine xb_get (v := .ref (ad (6, 0))) Z hw (fb_in2 n) (fb_e2 n ad cI cZ cS cA) rfl tb_iMail 1 (by decide) mk_Mail_16 rfl rfl md_Mail_take_117 ?_
  exact xw_aret Z hr hlk hw md_Mail_take_120 ⟨h8.1, by rw [h8.2, c6]; exact ⟨hrow.1, hrow.2.1, hrow.2.2.1, hrow.2.2.2.1, hrow.2.2.2.2.1, hrow.2.2.2.2.2.1, hrow.2.2.2.2.2.2⟩⟩
set_option maxHeartbeats 4000000 in
theorem k_quorumOf (l : Launch) (D : va_G) {n : Nat} (ad : Nat × Nat → Nat) (cI cZ cS cA : ClassId) {M : fr_M} {q f r : Nat} (h : fr_1 n q f M) (hr2 : r < 2 ^ 31) : fb_C l D n ad cI cZ cS cA my_Siz_quorumOf mb_Siz_quorumOf 2 (some .int) 1 20 M [.ref (ad (1, 0)), .int (nI (r))] (some (.int (nI (pz_en q f r)))) (fun M' => M' = M) := by
  refine xw_start [.ref (ad (1, 0)), .int (nI (r))] (by decide) (Nat.le_of_ble_eq_true rfl) ?_
  intro p e st m below meth cd0 ls Z hml hr hlk hN hl hw
  have hl : lv_has ls 2 [(0, .ref (ad (1, 0))), (1, .int (nI (r)))] := hl
  refine lv_iload_n Z.1 Z.2.1 md_Siz_quorumOf_0 rfl (lv_at hl 1 rfl) ?_
  refine xw_cN (n := 1) (rest := []) Z hml hl.1 hN hw (k_isFast l D ad cI cZ cS cA (M := M) hr2) tb_g mc_FB_isFast (host := "FastBallots") (List.mem_of_getElem? (i := 2) rfl) mt_FB_isFast mz_FB ⟨by decide, by decide, by decide +kernel⟩ ⟨Nat.le_of_ble_eq_true rfl, Nat.le_of_ble_eq_true rfl⟩ rfl rfl (Nat.le_of_ble_eq_true rfl) ⟨Nat.le_refl _, Nat.le_refl _⟩ md_Siz_quorumOf_1 (fun M1 H1 locs1 e1 hw => ?_)
  have ey1 := e1.symm
  subst ey1
  refine W.eq (g2 := F0 m 4 ls [.int (nI (r % 2))]) rfl ?_
  refine xi_if_eq (tgt := 14) Z md_Siz_quorumOf_4 (by decide) (by omega) (fun h4 => ?_) (fun h4 => ?_)
  · refine lv_aload_n Z.1 Z.2.1 md_Siz_quorumOf_14 rfl (lv_at hl 0 rfl) ?_
    refine xb_get (v := .int (M (1, 0) 1)) Z hw (fb_in1 n) (fb_e1 n ad cI cZ cS cA) rfl tb_iSiz 1 (by decide) mk_Siz_28 rfl rfl md_Siz_quorumOf_15 ?_
    refine xi_re (show M (1, 0) 1 = nI (q) from h.2.1) ?_
    exact xw_iret Z hr hlk hw md_Siz_quorumOf_18 (by unfold pz_en; first | rw [if_pos (by omega)] | rw [if_neg (by omega)]) rfl
  · refine lv_aload_n Z.1 Z.2.1 md_Siz_quorumOf_7 rfl (lv_at hl 0 rfl) ?_
    refine xb_get (v := .int (M (1, 0) 2)) Z hw (fb_in1 n) (fb_e1 n ad cI cZ cS cA) rfl tb_iSiz 2 (by decide) mk_Siz_31 rfl rfl md_Siz_quorumOf_8 ?_
    refine xi_re (show M (1, 0) 2 = nI (f) from h.2.2) ?_
    refine lv_goto (tgt := 18) Z.1 Z.2.1 md_Siz_quorumOf_11 (by decide) ?_
    exact xw_iret Z hr hlk hw md_Siz_quorumOf_18 (by unfold pz_en; first | rw [if_pos (by omega)] | rw [if_neg (by omega)]) rfl
set_option maxHeartbeats 4000000 in
theorem k_tally0 (l : Launch) (D : va_G) {n : Nat} (ad : Nat × Nat → Nat) (cI cZ cS cA : ClassId) {M : fr_M} {q f : Nat} {S : pz_T} {ex : Nat → Nat → Prop} {s r v : Nat} (hn : n ≤ 5) (h : fr_R n q f S ex M) (hs : s < 3) (hr12 : r ≤ 12) (hv : v < 2 ^ 31) (hb : ∀ a, a < n → S.2 s 5 r a < 2 ^ 31) : fb_C l D n ad cI cZ cS cA my_Tal_tally mb_Tal_tally 6 (some .int) 0 0 M [.ref (ad (13, 2 * s + 0)), .int (nI (r)), .int (nI (v))] (some (.int (nI (pz_sm n (fun a => if S.2 s 5 r a = v then 1 else 0))))) (fun M' => M' = M) := by
  refine xw_start [.ref (ad (13, 2 * s + 0)), .int (nI (r)), .int (nI (v))] (by decide) (Nat.le_of_ble_eq_true rfl) ?_
  intro p e st m below meth cd0 ls Z hml hr hlk hN hl hw
  have hl : lv_has ls 6 [(0, .ref (ad (13, 2 * s + 0))), (1, .int (nI (r))), (2, .int (nI (v)))] := hl
  refine lv_iload_n Z.1 Z.2.1 md_Tal_tally_0 rfl (lv_at hl 1 rfl) ?_
  refine lv_aload_n Z.1 Z.2.1 md_Tal_tally_1 rfl (lv_at hl 0 rfl) ?_
  refine xb_get (v := .ref (ad (1, 0))) Z hw (fb_in13 n hs (by decide)) (fb_e13 n ad cI cZ cS cA (2 * s + 0)) rfl tb_iTal 0 (by decide) mk_Tal_9 rfl rfl md_Tal_tally_2 ?_
  refine xb_get (v := .int (M (1, 0) 0)) Z hw (fb_in1 n) (fb_e1 n ad cI cZ cS cA) rfl tb_iSiz 0 (by decide) mk_Tal_15 rfl rfl md_Tal_tally_5 ?_
  refine xi_re (show M (1, 0) 0 = nI (n) from h.1.1) ?_
  refine xi_mul Z md_Tal_tally_8 ?_
  refine lv_istore_n Z.1 Z.2.1 md_Tal_tally_9 rfl hl (by decide) rfl (fun ls hl => ?_)
  have hl : lv_has ls 6 [(3, .int (nI (r * n))), (0, .ref (ad (13, 2 * s + 0))), (1, .int (nI (r))), (2, .int (nI (v)))] := hl
  refine lv_iconst (v := nI 0) Z.1 Z.2.1 md_Tal_tally_10 (by decide) ?_
  refine lv_istore Z.1 Z.2.1 md_Tal_tally_11 hl (by decide) rfl (fun ls hl => ?_)
  have hl : lv_has ls 6 [(4, .int (nI (0))), (3, .int (nI (r * n))), (0, .ref (ad (13, 2 * s + 0))), (1, .int (nI (r))), (2, .int (nI (v)))] := hl
  refine lv_iconst (v := nI 0) Z.1 Z.2.1 md_Tal_tally_13 (by decide) ?_
  refine lv_istore Z.1 Z.2.1 md_Tal_tally_14 hl (by decide) rfl (fun ls hl => ?_)
  have hl : lv_has ls 6 [(5, .int (nI (0))), (4, .int (nI (0))), (3, .int (nI (r * n))), (0, .ref (ad (13, 2 * s + 0))), (1, .int (nI (r))), (2, .int (nI (v)))] := hl
  have loop16 : ∀ (d i : Nat) (Hi : Heap) (Li : List Loc) (ls : Array Slot), i + d = n → xw_H D tb_cl (xw_A (fb_ids n) ad) st.heap (fb_ids n) ad (xw_M (fb_k n ad cI cZ cS cA) M) Hi Li → lv_has ls 6 [(5, .int (nI (i))), (4, .int (nI (pz_sm i (fun a => if S.2 s 5 r a = v then 1 else 0)))), (3, .int (nI (r * n))), (0, .ref (ad (13, 2 * s + 0))), (1, .int (nI (r))), (2, .int (nI (v)))] → W p l e { frames := 0, cells := 0, slots := 0, locals := 0 } st m [.ref (ad (13, 2 * s + 0)), .int (nI (r)), .int (nI (v))].toArray below meth cd0 Hi Li 0 0 (MQ below (xw_Qc D tb_cl (fb_ids n) ad (fb_k n ad cI cZ cS cA) (some (.int (nI (pz_sm n (fun a => if S.2 s 5 r a = v then 1 else 0))))) (fun M' => M' = M)) [.ref (ad (13, 2 * s + 0)), .int (nI (r)), .int (nI (v))].toArray st 0 0 (xw_A (fb_ids n) ad)) (F0 m 16 ls []) := by
    intro d
    induction d with
    | zero =>
      intro i Hi Li ls hi hw hl
      refine lv_iload Z.1 Z.2.1 md_Tal_tally_16 (lv_at hl 0 rfl) ?_
      refine lv_aload_n Z.1 Z.2.1 md_Tal_tally_18 rfl (lv_at hl 3 rfl) ?_
      refine xb_get (v := .ref (ad (1, 0))) Z hw (fb_in13 n hs (by decide)) (fb_e13 n ad cI cZ cS cA (2 * s + 0)) rfl tb_iTal 0 (by decide) mk_Tal_9 rfl rfl md_Tal_tally_19 ?_
      refine xb_get (v := .int (M (1, 0) 0)) Z hw (fb_in1 n) (fb_e1 n ad cI cZ cS cA) rfl tb_iSiz 0 (by decide) mk_Tal_15 rfl rfl md_Tal_tally_22 ?_
      refine xi_re (show M (1, 0) 0 = nI (n) from h.1.1) ?_
      refine xi_icmp_ge (tgt := 50) Z md_Tal_tally_25 (by decide) (by omega) (by omega) (fun h25 => ?_) (fun h25 => by exfalso; omega)
      refine lv_iload Z.1 Z.2.1 md_Tal_tally_50 (lv_at hl 1 rfl) ?_
      exact xw_iret Z hr hlk hw md_Tal_tally_52 (by rw [show i = n by omega]) rfl
    | succ d ih =>
      intro i Hi Li ls hi hw hl
      refine lv_iload Z.1 Z.2.1 md_Tal_tally_16 (lv_at hl 0 rfl) ?_
      refine lv_aload_n Z.1 Z.2.1 md_Tal_tally_18 rfl (lv_at hl 3 rfl) ?_
      refine xb_get (v := .ref (ad (1, 0))) Z hw (fb_in13 n hs (by decide)) (fb_e13 n ad cI cZ cS cA (2 * s + 0)) rfl tb_iTal 0 (by decide) mk_Tal_9 rfl rfl md_Tal_tally_19 ?_
      refine xb_get (v := .int (M (1, 0) 0)) Z hw (fb_in1 n) (fb_e1 n ad cI cZ cS cA) rfl tb_iSiz 0 (by decide) mk_Tal_15 rfl rfl md_Tal_tally_22 ?_
      refine xi_re (show M (1, 0) 0 = nI (n) from h.1.1) ?_
      refine xi_icmp_ge (tgt := 50) Z md_Tal_tally_25 (by decide) (by omega) (by omega) (fun h25 => by exfalso; omega) (fun h25 => ?_)
      refine lv_aload_n Z.1 Z.2.1 md_Tal_tally_28 rfl (lv_at hl 3 rfl) ?_
      refine xb_get (v := .ref (ad (14, 2 * s + 0))) Z hw (fb_in13 n hs (by decide)) (fb_e13 n ad cI cZ cS cA (2 * s + 0)) rfl tb_iTal 1 (by decide) mk_Tal_21 rfl rfl md_Tal_tally_29 ?_
      refine lv_iload_n Z.1 Z.2.1 md_Tal_tally_32 rfl (lv_at hl 2 rfl) ?_
      refine lv_iload Z.1 Z.2.1 md_Tal_tally_33 (lv_at hl 0 rfl) ?_
      refine xi_add Z md_Tal_tally_35 ?_
      refine xw_iald Z hw (fb_in14 n hs (by decide)) (fb_e14 n ad cI cZ cS cA (2 * s + 0)) 0 rfl (r * n + i) rfl (by have h1 : r * n ≤ 12 * n := Nat.mul_le_mul_right n hr12; omega) (by omega) md_Tal_tally_36 ?_
      refine xi_re (show M (14, 2 * s + 0) (r * n + i) = nI (S.2 s 5 r i) from (fr_v h hs hr12 (show i < n by omega)).1) ?_
      refine lv_iload_n Z.1 Z.2.1 md_Tal_tally_37 rfl (lv_at hl 5 rfl) ?_
      have hbi := hb i (by omega)
      refine xi_icmp_ne (tgt := 44) Z md_Tal_tally_38 (by decide) (by omega) (by omega) (fun h38 => ?_) (fun h38 => ?_)
      · refine lv_iinc Z.1 Z.2.1 md_Tal_tally_44 hl (k := 0) rfl (xi_inc1 (i)) (by decide) rfl (fun ls hl => ?_)
        have hl : lv_has ls 6 [(5, .int (nI (i + 1))), (4, .int (nI (pz_sm i (fun a => if S.2 s 5 r a = v then 1 else 0)))), (3, .int (nI (r * n))), (0, .ref (ad (13, 2 * s + 0))), (1, .int (nI (r))), (2, .int (nI (v)))] := hl
        refine lv_goto (tgt := 16) Z.1 Z.2.1 md_Tal_tally_47 (by decide) ?_
        refine ih (i + 1) _ _ ls (by omega) hw ?_
        first | (rw [show pz_sm (i + 1) (fun a => if S.2 s 5 r a = v then 1 else 0) = pz_sm i (fun a => if S.2 s 5 r a = v then 1 else 0) + 1 from by simp only [pz_sm]; rw [if_pos h38]]; exact lv_sub hl [0, 1, 2, 3, 4, 5] rfl) | (rw [show pz_sm (i + 1) (fun a => if S.2 s 5 r a = v then 1 else 0) = pz_sm i (fun a => if S.2 s 5 r a = v then 1 else 0) from by simp only [pz_sm]; rw [if_neg h38]; rfl]; exact lv_sub hl [0, 1, 2, 3, 4, 5] rfl)
      · refine lv_iinc Z.1 Z.2.1 md_Tal_tally_41 hl (k := 1) rfl (xi_inc1 (pz_sm i (fun a => if S.2 s 5 r a = v then 1 else 0))) (by decide) rfl (fun ls hl => ?_)
        have hl : lv_has ls 6 [(4, .int (nI ((pz_sm i (fun a => if S.2 s 5 r a = v then 1 else 0)) + 1))), (5, .int (nI (i))), (3, .int (nI (r * n))), (0, .ref (ad (13, 2 * s + 0))), (1, .int (nI (r))), (2, .int (nI (v)))] := hl
        refine lv_iinc Z.1 Z.2.1 md_Tal_tally_44 hl (k := 1) rfl (xi_inc1 (i)) (by decide) rfl (fun ls hl => ?_)
        have hl : lv_has ls 6 [(5, .int (nI (i + 1))), (4, .int (nI ((pz_sm i (fun a => if S.2 s 5 r a = v then 1 else 0)) + 1))), (3, .int (nI (r * n))), (0, .ref (ad (13, 2 * s + 0))), (1, .int (nI (r))), (2, .int (nI (v)))] := hl
        refine lv_goto (tgt := 16) Z.1 Z.2.1 md_Tal_tally_47 (by decide) ?_
        refine ih (i + 1) _ _ ls (by omega) hw ?_
        first | (rw [show pz_sm (i + 1) (fun a => if S.2 s 5 r a = v then 1 else 0) = pz_sm i (fun a => if S.2 s 5 r a = v then 1 else 0) + 1 from by simp only [pz_sm]; rw [if_pos h38]]; exact lv_sub hl [0, 1, 2, 3, 4, 5] rfl) | (rw [show pz_sm (i + 1) (fun a => if S.2 s 5 r a = v then 1 else 0) = pz_sm i (fun a => if S.2 s 5 r a = v then 1 else 0) from by simp only [pz_sm]; rw [if_neg h38]; rfl]; exact lv_sub hl [0, 1, 2, 3, 4, 5] rfl)
  exact loop16 n (0) _ _ ls (by omega) hw (lv_sub hl [0, 1, 2, 3, 4, 5] rfl)
set_option maxHeartbeats 4000000 in
theorem k_tally1 (l : Launch) (D : va_G) {n : Nat} (ad : Nat × Nat → Nat) (cI cZ cS cA : ClassId) {M : fr_M} {q f : Nat} {S : pz_T} {ex : Nat → Nat → Prop} {s r v : Nat} (hn : n ≤ 5) (h : fr_R n q f S ex M) (hs : s < 3) (hr12 : r ≤ 12) (hv : v < 2 ^ 31) (hb : ∀ a, a < n → S.2 s 6 r a < 2 ^ 31) : fb_C l D n ad cI cZ cS cA my_Tal_tally mb_Tal_tally 6 (some .int) 0 0 M [.ref (ad (13, 2 * s + 1)), .int (nI (r)), .int (nI (v))] (some (.int (nI (pz_sm n (fun a => if S.2 s 6 r a = v then 1 else 0))))) (fun M' => M' = M) := by
  refine xw_start [.ref (ad (13, 2 * s + 1)), .int (nI (r)), .int (nI (v))] (by decide) (Nat.le_of_ble_eq_true rfl) ?_
  intro p e st m below meth cd0 ls Z hml hr hlk hN hl hw
  have hl : lv_has ls 6 [(0, .ref (ad (13, 2 * s + 1))), (1, .int (nI (r))), (2, .int (nI (v)))] := hl
  refine lv_iload_n Z.1 Z.2.1 md_Tal_tally_0 rfl (lv_at hl 1 rfl) ?_
  refine lv_aload_n Z.1 Z.2.1 md_Tal_tally_1 rfl (lv_at hl 0 rfl) ?_
  refine xb_get (v := .ref (ad (1, 0))) Z hw (fb_in13 n hs (by decide)) (fb_e13 n ad cI cZ cS cA (2 * s + 1)) rfl tb_iTal 0 (by decide) mk_Tal_9 rfl rfl md_Tal_tally_2 ?_
  refine xb_get (v := .int (M (1, 0) 0)) Z hw (fb_in1 n) (fb_e1 n ad cI cZ cS cA) rfl tb_iSiz 0 (by decide) mk_Tal_15 rfl rfl md_Tal_tally_5 ?_
  refine xi_re (show M (1, 0) 0 = nI (n) from h.1.1) ?_
  refine xi_mul Z md_Tal_tally_8 ?_
  refine lv_istore_n Z.1 Z.2.1 md_Tal_tally_9 rfl hl (by decide) rfl (fun ls hl => ?_)
  have hl : lv_has ls 6 [(3, .int (nI (r * n))), (0, .ref (ad (13, 2 * s + 1))), (1, .int (nI (r))), (2, .int (nI (v)))] := hl
  refine lv_iconst (v := nI 0) Z.1 Z.2.1 md_Tal_tally_10 (by decide) ?_
  refine lv_istore Z.1 Z.2.1 md_Tal_tally_11 hl (by decide) rfl (fun ls hl => ?_)
  have hl : lv_has ls 6 [(4, .int (nI (0))), (3, .int (nI (r * n))), (0, .ref (ad (13, 2 * s + 1))), (1, .int (nI (r))), (2, .int (nI (v)))] := hl
  refine lv_iconst (v := nI 0) Z.1 Z.2.1 md_Tal_tally_13 (by decide) ?_
  refine lv_istore Z.1 Z.2.1 md_Tal_tally_14 hl (by decide) rfl (fun ls hl => ?_)
  have hl : lv_has ls 6 [(5, .int (nI (0))), (4, .int (nI (0))), (3, .int (nI (r * n))), (0, .ref (ad (13, 2 * s + 1))), (1, .int (nI (r))), (2, .int (nI (v)))] := hl
  have loop16 : ∀ (d i : Nat) (Hi : Heap) (Li : List Loc) (ls : Array Slot), i + d = n → xw_H D tb_cl (xw_A (fb_ids n) ad) st.heap (fb_ids n) ad (xw_M (fb_k n ad cI cZ cS cA) M) Hi Li → lv_has ls 6 [(5, .int (nI (i))), (4, .int (nI (pz_sm i (fun a => if S.2 s 6 r a = v then 1 else 0)))), (3, .int (nI (r * n))), (0, .ref (ad (13, 2 * s + 1))), (1, .int (nI (r))), (2, .int (nI (v)))] → W p l e { frames := 0, cells := 0, slots := 0, locals := 0 } st m [.ref (ad (13, 2 * s + 1)), .int (nI (r)), .int (nI (v))].toArray below meth cd0 Hi Li 0 0 (MQ below (xw_Qc D tb_cl (fb_ids n) ad (fb_k n ad cI cZ cS cA) (some (.int (nI (pz_sm n (fun a => if S.2 s 6 r a = v then 1 else 0))))) (fun M' => M' = M)) [.ref (ad (13, 2 * s + 1)), .int (nI (r)), .int (nI (v))].toArray st 0 0 (xw_A (fb_ids n) ad)) (F0 m 16 ls []) := by
    intro d
    induction d with
    | zero =>
      intro i Hi Li ls hi hw hl
      refine lv_iload Z.1 Z.2.1 md_Tal_tally_16 (lv_at hl 0 rfl) ?_
      refine lv_aload_n Z.1 Z.2.1 md_Tal_tally_18 rfl (lv_at hl 3 rfl) ?_
      refine xb_get (v := .ref (ad (1, 0))) Z hw (fb_in13 n hs (by decide)) (fb_e13 n ad cI cZ cS cA (2 * s + 1)) rfl tb_iTal 0 (by decide) mk_Tal_9 rfl rfl md_Tal_tally_19 ?_
      refine xb_get (v := .int (M (1, 0) 0)) Z hw (fb_in1 n) (fb_e1 n ad cI cZ cS cA) rfl tb_iSiz 0 (by decide) mk_Tal_15 rfl rfl md_Tal_tally_22 ?_
      refine xi_re (show M (1, 0) 0 = nI (n) from h.1.1) ?_
      refine xi_icmp_ge (tgt := 50) Z md_Tal_tally_25 (by decide) (by omega) (by omega) (fun h25 => ?_) (fun h25 => by exfalso; omega)
      refine lv_iload Z.1 Z.2.1 md_Tal_tally_50 (lv_at hl 1 rfl) ?_
      exact xw_iret Z hr hlk hw md_Tal_tally_52 (by rw [show i = n by omega]) rfl
    | succ d ih =>
      intro i Hi Li ls hi hw hl
      refine lv_iload Z.1 Z.2.1 md_Tal_tally_16 (lv_at hl 0 rfl) ?_
      refine lv_aload_n Z.1 Z.2.1 md_Tal_tally_18 rfl (lv_at hl 3 rfl) ?_
      refine xb_get (v := .ref (ad (1, 0))) Z hw (fb_in13 n hs (by decide)) (fb_e13 n ad cI cZ cS cA (2 * s + 1)) rfl tb_iTal 0 (by decide) mk_Tal_9 rfl rfl md_Tal_tally_19 ?_
      refine xb_get (v := .int (M (1, 0) 0)) Z hw (fb_in1 n) (fb_e1 n ad cI cZ cS cA) rfl tb_iSiz 0 (by decide) mk_Tal_15 rfl rfl md_Tal_tally_22 ?_
      refine xi_re (show M (1, 0) 0 = nI (n) from h.1.1) ?_
      refine xi_icmp_ge (tgt := 50) Z md_Tal_tally_25 (by decide) (by omega) (by omega) (fun h25 => by exfalso; omega) (fun h25 => ?_)
      refine lv_aload_n Z.1 Z.2.1 md_Tal_tally_28 rfl (lv_at hl 3 rfl) ?_
      refine xb_get (v := .ref (ad (14, 2 * s + 1))) Z hw (fb_in13 n hs (by decide)) (fb_e13 n ad cI cZ cS cA (2 * s + 1)) rfl tb_iTal 1 (by decide) mk_Tal_21 rfl rfl md_Tal_tally_29 ?_
      refine lv_iload_n Z.1 Z.2.1 md_Tal_tally_32 rfl (lv_at hl 2 rfl) ?_
      refine lv_iload Z.1 Z.2.1 md_Tal_tally_33 (lv_at hl 0 rfl) ?_
      refine xi_add Z md_Tal_tally_35 ?_
      refine xw_iald Z hw (fb_in14 n hs (by decide)) (fb_e14 n ad cI cZ cS cA (2 * s + 1)) 0 rfl (r * n + i) rfl (by have h1 : r * n ≤ 12 * n := Nat.mul_le_mul_right n hr12; omega) (by omega) md_Tal_tally_36 ?_
      refine xi_re (show M (14, 2 * s + 1) (r * n + i) = nI (S.2 s 6 r i) from (fr_v h hs hr12 (show i < n by omega)).2) ?_
      refine lv_iload_n Z.1 Z.2.1 md_Tal_tally_37 rfl (lv_at hl 5 rfl) ?_
      have hbi := hb i (by omega)
      refine xi_icmp_ne (tgt := 44) Z md_Tal_tally_38 (by decide) (by omega) (by omega) (fun h38 => ?_) (fun h38 => ?_)
      · refine lv_iinc Z.1 Z.2.1 md_Tal_tally_44 hl (k := 0) rfl (xi_inc1 (i)) (by decide) rfl (fun ls hl => ?_)
        have hl : lv_has ls 6 [(5, .int (nI (i + 1))), (4, .int (nI (pz_sm i (fun a => if S.2 s 6 r a = v then 1 else 0)))), (3, .int (nI (r * n))), (0, .ref (ad (13, 2 * s + 1))), (1, .int (nI (r))), (2, .int (nI (v)))] := hl
        refine lv_goto (tgt := 16) Z.1 Z.2.1 md_Tal_tally_47 (by decide) ?_
        refine ih (i + 1) _ _ ls (by omega) hw ?_
        first | (rw [show pz_sm (i + 1) (fun a => if S.2 s 6 r a = v then 1 else 0) = pz_sm i (fun a => if S.2 s 6 r a = v then 1 else 0) + 1 from by simp only [pz_sm]; rw [if_pos h38]]; exact lv_sub hl [0, 1, 2, 3, 4, 5] rfl) | (rw [show pz_sm (i + 1) (fun a => if S.2 s 6 r a = v then 1 else 0) = pz_sm i (fun a => if S.2 s 6 r a = v then 1 else 0) from by simp only [pz_sm]; rw [if_neg h38]; rfl]; exact lv_sub hl [0, 1, 2, 3, 4, 5] rfl)
      · refine lv_iinc Z.1 Z.2.1 md_Tal_tally_41 hl (k := 1) rfl (xi_inc1 (pz_sm i (fun a => if S.2 s 6 r a = v then 1 else 0))) (by decide) rfl (fun ls hl => ?_)
        have hl : lv_has ls 6 [(4, .int (nI ((pz_sm i (fun a => if S.2 s 6 r a = v then 1 else 0)) + 1))), (5, .int (nI (i))), (3, .int (nI (r * n))), (0, .ref (ad (13, 2 * s + 1))), (1, .int (nI (r))), (2, .int (nI (v)))] := hl
        refine lv_iinc Z.1 Z.2.1 md_Tal_tally_44 hl (k := 1) rfl (xi_inc1 (i)) (by decide) rfl (fun ls hl => ?_)
        have hl : lv_has ls 6 [(5, .int (nI (i + 1))), (4, .int (nI ((pz_sm i (fun a => if S.2 s 6 r a = v then 1 else 0)) + 1))), (3, .int (nI (r * n))), (0, .ref (ad (13, 2 * s + 1))), (1, .int (nI (r))), (2, .int (nI (v)))] := hl
        refine lv_goto (tgt := 16) Z.1 Z.2.1 md_Tal_tally_47 (by decide) ?_
        refine ih (i + 1) _ _ ls (by omega) hw ?_
        first | (rw [show pz_sm (i + 1) (fun a => if S.2 s 6 r a = v then 1 else 0) = pz_sm i (fun a => if S.2 s 6 r a = v then 1 else 0) + 1 from by simp only [pz_sm]; rw [if_pos h38]]; exact lv_sub hl [0, 1, 2, 3, 4, 5] rfl) | (rw [show pz_sm (i + 1) (fun a => if S.2 s 6 r a = v then 1 else 0) = pz_sm i (fun a => if S.2 s 6 r a = v then 1 else 0) from by simp only [pz_sm]; rw [if_neg h38]; rfl]; exact lv_sub hl [0, 1, 2, 3, 4, 5] rfl)
  exact loop16 n (0) _ _ ls (by omega) hw (lv_sub hl [0, 1, 2, 3, 4, 5] rfl)
