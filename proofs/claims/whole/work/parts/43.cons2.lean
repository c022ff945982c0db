/-! Constructors of a slot and of the whole. -/
def xe_fn (g : Nat → Nat) (j : Nat) : Nat → Option Nat := fun k => if k < j then some (g k) else none
theorem xe_fn0 (g : Nat → Nat) : xe_fn g 0 = fun _ => none := by
  funext k
  simp [xe_fn]
theorem xe_fnS (g : Nat → Nat) (j : Nat) : va_up (xe_fn g j) j (some (g j)) = xe_fn g (j + 1) := by
  funext k
  unfold va_up xe_fn
  by_cases h : k = j
  · subst h; simp
  · rw [if_neg h]
    by_cases h2 : k < j
    · rw [if_pos h2, if_pos (by omega)]
    · rw [if_neg h2, if_neg (by omega)]
def xe_S0 (cI cZ cA : ClassId) (n siz mail i a : Nat) (f : Nat → Option Nat) : List va_E := [.inr (4, [.ref (a + 13), .ref (a + 5), .ref (a + 9), .ref (a + 1), .ref (a + 3)]), .inr (6, [.ref siz, .ref (a + 2), .int 0]), .inl (cI, 13 * n, .inl (fun _ => 0)), .inr (6, [.ref siz, .ref (a + 4), .int 0]), .inl (cI, 13 * n, .inl (fun _ => 0)), .inr (5, [.int (nI i), .ref siz, .ref mail, .int 0, .int 0, .int 0, .ref (a + 6), .ref (a + 7), .ref (a + 8), .int 0]), .inl (cZ, n, .inl (fun _ => 0)), .inl (cI, n, .inl (fun _ => 0)), .inl (cI, n, .inl (fun _ => 0)), .inr (5, [.int (nI i), .ref siz, .ref mail, .int 0, .int 0, .int 0, .ref (a + 10), .ref (a + 11), .ref (a + 12), .int 0]), .inl (cZ, n, .inl (fun _ => 0)), .inl (cI, n, .inl (fun _ => 0)), .inl (cI, n, .inl (fun _ => 0)), .inl (cA, n, .inr (.inr (.inr (.inr f))))]
def xe_SA (mail i a j : Nat) : List va_E := (List.range j).map (fun k => xe_Acc mail (a + 1) k i)
theorem xe_SAS (mail i a j : Nat) : xe_SA mail i a (j + 1) = xe_SA mail i a j ++ [xe_Acc mail (a + 1) j i] := by simp [xe_SA, List.range_succ]
theorem xe_SAl (mail i a j : Nat) : (xe_SA mail i a j).length = j := by simp [xe_SA]
def xe_Slt (cI cZ cA : ClassId) (n siz mail i a : Nat) : List va_E := xe_S0 cI cZ cA n siz mail i a (xe_fn (fun k => a + 14 + k) n) ++ xe_SA mail i a n
theorem md_Slt_init_0 : decode mb_Slt_init 0 = .ok (.aload_n 0, 1) := by decide +kernel
theorem md_Slt_init_1 : decode mb_Slt_init 1 = .ok (.invokespecial 3, 3) := by decide +kernel
theorem md_Slt_init_4 : decode mb_Slt_init 4 = .ok (.aload_n 0, 1) := by decide +kernel
theorem md_Slt_init_5 : decode mb_Slt_init 5 = .ok (.new 9, 3) := by decide +kernel
theorem md_Slt_init_8 : decode mb_Slt_init 8 = .ok (.dup, 1) := by decide +kernel
theorem md_Slt_init_9 : decode mb_Slt_init 9 = .ok (.aload_n 2, 1) := by decide +kernel
theorem md_Slt_init_10 : decode mb_Slt_init 10 = .ok (.invokespecial 11, 3) := by decide +kernel
theorem md_Slt_init_13 : decode mb_Slt_init 13 = .ok (.putfield 14, 3) := by decide +kernel
theorem md_Slt_init_16 : decode mb_Slt_init 16 = .ok (.aload_n 0, 1) := by decide +kernel
theorem md_Slt_init_17 : decode mb_Slt_init 17 = .ok (.new 9, 3) := by decide +kernel
theorem md_Slt_init_20 : decode mb_Slt_init 20 = .ok (.dup, 1) := by decide +kernel
theorem md_Slt_init_21 : decode mb_Slt_init 21 = .ok (.aload_n 2, 1) := by decide +kernel
theorem md_Slt_init_22 : decode mb_Slt_init 22 = .ok (.invokespecial 11, 3) := by decide +kernel
theorem md_Slt_init_25 : decode mb_Slt_init 25 = .ok (.putfield 20, 3) := by decide +kernel
theorem md_Slt_init_28 : decode mb_Slt_init 28 = .ok (.aload_n 0, 1) := by decide +kernel
theorem md_Slt_init_29 : decode mb_Slt_init 29 = .ok (.new 23, 3) := by decide +kernel
theorem md_Slt_init_32 : decode mb_Slt_init 32 = .ok (.dup, 1) := by decide +kernel
theorem md_Slt_init_33 : decode mb_Slt_init 33 = .ok (.iload_n 1, 1) := by decide +kernel
theorem md_Slt_init_34 : decode mb_Slt_init 34 = .ok (.aload_n 2, 1) := by decide +kernel
theorem md_Slt_init_35 : decode mb_Slt_init 35 = .ok (.aload_n 3, 1) := by decide +kernel
theorem md_Slt_init_36 : decode mb_Slt_init 36 = .ok (.invokespecial 25, 3) := by decide +kernel
theorem md_Slt_init_39 : decode mb_Slt_init 39 = .ok (.putfield 28, 3) := by decide +kernel
theorem md_Slt_init_42 : decode mb_Slt_init 42 = .ok (.aload_n 0, 1) := by decide +kernel
theorem md_Slt_init_43 : decode mb_Slt_init 43 = .ok (.new 23, 3) := by decide +kernel
theorem md_Slt_init_46 : decode mb_Slt_init 46 = .ok (.dup, 1) := by decide +kernel
theorem md_Slt_init_47 : decode mb_Slt_init 47 = .ok (.iload_n 1, 1) := by decide +kernel
theorem md_Slt_init_48 : decode mb_Slt_init 48 = .ok (.aload_n 2, 1) := by decide +kernel
theorem md_Slt_init_49 : decode mb_Slt_init 49 = .ok (.aload_n 3, 1) := by decide +kernel
theorem md_Slt_init_50 : decode mb_Slt_init 50 = .ok (.invokespecial 25, 3) := by decide +kernel
theorem md_Slt_init_53 : decode mb_Slt_init 53 = .ok (.putfield 32, 3) := by decide +kernel
theorem md_Slt_init_56 : decode mb_Slt_init 56 = .ok (.aload_n 0, 1) := by decide +kernel
theorem md_Slt_init_57 : decode mb_Slt_init 57 = .ok (.aload_n 2, 1) := by decide +kernel
theorem md_Slt_init_58 : decode mb_Slt_init 58 = .ok (.getfield 35, 3) := by decide +kernel
theorem md_Slt_init_61 : decode mb_Slt_init 61 = .ok (.anewarray 41, 3) := by decide +kernel
theorem md_Slt_init_64 : decode mb_Slt_init 64 = .ok (.putfield 43, 3) := by decide +kernel
theorem md_Slt_init_67 : decode mb_Slt_init 67 = .ok (.iconst 0, 1) := by decide +kernel
theorem md_Slt_init_68 : decode mb_Slt_init 68 = .ok (.istore 4, 2) := by decide +kernel
theorem md_Slt_init_70 : decode mb_Slt_init 70 = .ok (.iload 4, 2) := by decide +kernel
theorem md_Slt_init_72 : decode mb_Slt_init 72 = .ok (.aload_n 2, 1) := by decide +kernel
theorem md_Slt_init_73 : decode mb_Slt_init 73 = .ok (.getfield 35, 3) := by decide +kernel
theorem md_Slt_init_76 : decode mb_Slt_init 76 = .ok (.if_icmp .ge 31, 3) := by decide +kernel
theorem md_Slt_init_79 : decode mb_Slt_init 79 = .ok (.aload_n 0, 1) := by decide +kernel
theorem md_Slt_init_80 : decode mb_Slt_init 80 = .ok (.getfield 43, 3) := by decide +kernel
theorem md_Slt_init_83 : decode mb_Slt_init 83 = .ok (.iload 4, 2) := by decide +kernel
theorem md_Slt_init_85 : decode mb_Slt_init 85 = .ok (.new 41, 3) := by decide +kernel
theorem md_Slt_init_88 : decode mb_Slt_init 88 = .ok (.dup, 1) := by decide +kernel
theorem md_Slt_init_89 : decode mb_Slt_init 89 = .ok (.iload 4, 2) := by decide +kernel
theorem md_Slt_init_91 : decode mb_Slt_init 91 = .ok (.iload_n 1, 1) := by decide +kernel
theorem md_Slt_init_92 : decode mb_Slt_init 92 = .ok (.aload_n 3, 1) := by decide +kernel
theorem md_Slt_init_93 : decode mb_Slt_init 93 = .ok (.aload_n 0, 1) := by decide +kernel
theorem md_Slt_init_94 : decode mb_Slt_init 94 = .ok (.getfield 14, 3) := by decide +kernel
theorem md_Slt_init_97 : decode mb_Slt_init 97 = .ok (.invokespecial 46, 3) := by decide +kernel
theorem md_Slt_init_100 : decode mb_Slt_init 100 = .ok (.aastore, 1) := by decide +kernel
theorem md_Slt_init_101 : decode mb_Slt_init 101 = .ok (.iinc 4 1, 3) := by decide +kernel
theorem md_Slt_init_104 : decode mb_Slt_init 104 = .ok (.goto (-34), 3) := by decide +kernel
theorem md_Slt_init_107 : decode mb_Slt_init 107 = .ok (.return_, 1) := by decide +kernel
theorem md_FB_init_0 : decode mb_FB_init 0 = .ok (.aload_n 0, 1) := by decide +kernel
theorem md_FB_init_1 : decode mb_FB_init 1 = .ok (.invokespecial 1, 3) := by decide +kernel
theorem md_FB_init_4 : decode mb_FB_init 4 = .ok (.aload_n 0, 1) := by decide +kernel
theorem md_FB_init_5 : decode mb_FB_init 5 = .ok (.new 7, 3) := by decide +kernel
theorem md_FB_init_8 : decode mb_FB_init 8 = .ok (.dup, 1) := by decide +kernel
theorem md_FB_init_9 : decode mb_FB_init 9 = .ok (.iload_n 1, 1) := by decide +kernel
theorem md_FB_init_10 : decode mb_FB_init 10 = .ok (.iload_n 2, 1) := by decide +kernel
theorem md_FB_init_11 : decode mb_FB_init 11 = .ok (.iload_n 3, 1) := by decide +kernel
theorem md_FB_init_12 : decode mb_FB_init 12 = .ok (.invokespecial 9, 3) := by decide +kernel
theorem md_FB_init_15 : decode mb_FB_init 15 = .ok (.putfield 12, 3) := by decide +kernel
theorem md_FB_init_18 : decode mb_FB_init 18 = .ok (.aload_n 0, 1) := by decide +kernel
theorem md_FB_init_19 : decode mb_FB_init 19 = .ok (.new 18, 3) := by decide +kernel
theorem md_FB_init_22 : decode mb_FB_init 22 = .ok (.dup, 1) := by decide +kernel
theorem md_FB_init_23 : decode mb_FB_init 23 = .ok (.invokespecial 20, 3) := by decide +kernel
theorem md_FB_init_26 : decode mb_FB_init 26 = .ok (.putfield 21, 3) := by decide +kernel
theorem md_FB_init_29 : decode mb_FB_init 29 = .ok (.aload_n 0, 1) := by decide +kernel
theorem md_FB_init_30 : decode mb_FB_init 30 = .ok (.bipush 11, 2) := by decide +kernel
theorem md_FB_init_32 : decode mb_FB_init 32 = .ok (.newarray .boolean, 2) := by decide +kernel
theorem md_FB_init_34 : decode mb_FB_init 34 = .ok (.putfield 25, 3) := by decide +kernel
theorem md_FB_init_37 : decode mb_FB_init 37 = .ok (.aload_n 0, 1) := by decide +kernel
theorem md_FB_init_38 : decode mb_FB_init 38 = .ok (.iconst 3, 1) := by decide +kernel
theorem md_FB_init_39 : decode mb_FB_init 39 = .ok (.anewarray 29, 3) := by decide +kernel
theorem md_FB_init_42 : decode mb_FB_init 42 = .ok (.putfield 31, 3) := by decide +kernel
theorem md_FB_init_45 : decode mb_FB_init 45 = .ok (.iconst 0, 1) := by decide +kernel
theorem md_FB_init_46 : decode mb_FB_init 46 = .ok (.istore 4, 2) := by decide +kernel
theorem md_FB_init_48 : decode mb_FB_init 48 = .ok (.iload 4, 2) := by decide +kernel
theorem md_FB_init_50 : decode mb_FB_init 50 = .ok (.iconst 3, 1) := by decide +kernel
theorem md_FB_init_51 : decode mb_FB_init 51 = .ok (.if_icmp .ge 33, 3) := by decide +kernel
theorem md_FB_init_54 : decode mb_FB_init 54 = .ok (.aload_n 0, 1) := by decide +kernel
theorem md_FB_init_55 : decode mb_FB_init 55 = .ok (.getfield 31, 3) := by decide +kernel
theorem md_FB_init_58 : decode mb_FB_init 58 = .ok (.iload 4, 2) := by decide +kernel
theorem md_FB_init_60 : decode mb_FB_init 60 = .ok (.new 29, 3) := by decide +kernel
theorem md_FB_init_63 : decode mb_FB_init 63 = .ok (.dup, 1) := by decide +kernel
theorem md_FB_init_64 : decode mb_FB_init 64 = .ok (.iload 4, 2) := by decide +kernel
theorem md_FB_init_66 : decode mb_FB_init 66 = .ok (.aload_n 0, 1) := by decide +kernel
theorem md_FB_init_67 : decode mb_FB_init 67 = .ok (.getfield 12, 3) := by decide +kernel
theorem md_FB_init_70 : decode mb_FB_init 70 = .ok (.aload_n 0, 1) := by decide +kernel
theorem md_FB_init_71 : decode mb_FB_init 71 = .ok (.getfield 21, 3) := by decide +kernel
theorem md_FB_init_74 : decode mb_FB_init 74 = .ok (.invokespecial 35, 3) := by decide +kernel
theorem md_FB_init_77 : decode mb_FB_init 77 = .ok (.aastore, 1) := by decide +kernel
theorem md_FB_init_78 : decode mb_FB_init 78 = .ok (.iinc 4 1, 3) := by decide +kernel
theorem md_FB_init_81 : decode mb_FB_init 81 = .ok (.goto (-33), 3) := by decide +kernel
theorem md_FB_init_84 : decode mb_FB_init 84 = .ok (.return_, 1) := by decide +kernel
set_option maxHeartbeats 4000000 in
theorem n_Slt (l : Launch) (D : va_G) (cI cZ cS cA : ClassId) (a : Nat) (mail i : Nat) (siz : Nat) {n q f : Nat} (hn : n ≤ 5) : xn_C l D cI cZ cS cA my_Slt_init mb_Slt_init 5 2 18 236 36 a (.inr (4, [.null, .null, .null, .null, .null])) [(siz, .inr (1, [.int (nI (n)), .int (nI (q)), .int (nI (f))]))] [.int (nI (i)), .ref (siz), .ref (mail)] (xe_Slt cI cZ cA n siz mail i a) := by
  refine xn_start (.inr (4, [.null, .null, .null, .null, .null])) [.int (nI (i)), .ref (siz), .ref (mail)] (by decide) rfl (Nat.le_of_ble_eq_true rfl) ?_
  intro p e st m below meth cd0 ls Z hml hr hlk hin hN hAO hl hlow hw
  have hl : lv_has ls 5 [(0, .ref (a)), (1, .int (nI (i))), (2, .ref (siz)), (3, .ref (mail))] := hl
  refine lv_aload_n Z.1 Z.2.1 md_Slt_init_0 rfl (lv_at hl 0 rfl) ?_
  refine xn_obj Z (hl.1.trans hml.symm) mo_Slt mo_i mo_c md_Slt_init_1 (Nat.le_of_ble_eq_true rfl) (Nat.le_of_ble_eq_true rfl) ?_
  refine lv_aload_n Z.1 Z.2.1 md_Slt_init_4 rfl (lv_at hl 0 rfl) ?_
  refine xn_new Z hw (ci := 6) rfl tb_iTal tb_tTal tb_yTal mk_Slt_9 mn_Tal mz_Tal [.null, .null, .int 0] mf_Tal 1 3 (Nat.le_of_ble_eq_true rfl) (Nat.le_of_ble_eq_true rfl) (Nat.le_of_ble_eq_true rfl) (Nat.le_of_ble_eq_true rfl) (a + 1) rfl md_Slt_init_5 (fun H hw => ?_)
  have hw : xn_H D tb_cl a [.inr (4, [.null, .null, .null, .null, .null]), .inr (6, [.null, .null, .int 0])] st.heap _ _ := hw
  refine lv_dup Z.1 Z.2.1 md_Slt_init_8 rfl ?_
  refine lv_aload_n Z.1 Z.2.1 md_Slt_init_9 rfl (lv_at hl 2 rfl) ?_
  have hw : xn_H D tb_cl a ([.inr (4, [.null, .null, .null, .null, .null])] ++ [.inr (6, [.null, .null, .int 0])]) st.heap _ _ := hw
  refine xn_cI (n := 1) (rest := [.ref (a + 1), .ref (a)]) Z hml hl.1 hN hAO hw rfl (n_Tal l D cI cZ cS cA (a + 1) siz hn) (fun q h => ⟨xn_low hlow hw.2 h, Nat.lt_of_lt_of_le (hlow q h).2 (Nat.le_add_right _ _)⟩) tb_g mc_Tal_init mk_Slt_11 mi_Tal_init mz_Tal (by decide) ⟨by decide, by decide, by decide +kernel⟩ ⟨(Nat.le_of_ble_eq_true rfl), (Nat.le_of_ble_eq_true rfl)⟩ rfl rfl (Nat.le_of_ble_eq_true rfl) ⟨(Nat.le_of_ble_eq_true rfl), (Nat.le_of_ble_eq_true rfl)⟩ md_Slt_init_10 (fun H locs hw => ?_)
  have hw : xn_H D tb_cl a [.inr (4, [.null, .null, .null, .null, .null]), .inr (6, [.ref siz, .ref (a + 2), .int 0]), .inl (cI, 13 * n, .inl (fun _ => 0))] st.heap _ _ := hw
  refine xn_put Z hin hw 0 rfl rfl tb_iSlt tb_tSlt tb_ySlt tb_nSlt 3 (by decide) mk_Slt_14 rfl rfl rfl rfl (Nat.le_of_ble_eq_true rfl) rfl md_Slt_init_13 (fun H locs hw => ?_)
  have hw : xn_H D tb_cl a [.inr (4, [.null, .null, .null, .ref (a + 1), .null]), .inr (6, [.ref siz, .ref (a + 2), .int 0]), .inl (cI, 13 * n, .inl (fun _ => 0))] st.heap _ _ := hw
  refine lv_aload_n Z.1 Z.2.1 md_Slt_init_16 rfl (lv_at hl 0 rfl) ?_
  refine xn_new Z hw (ci := 6) rfl tb_iTal tb_tTal tb_yTal mk_Slt_9 mn_Tal mz_Tal [.null, .null, .int 0] mf_Tal 3 71 (Nat.le_of_ble_eq_true rfl) (Nat.le_of_ble_eq_true rfl) (Nat.le_of_ble_eq_true rfl) (Nat.le_of_ble_eq_true rfl) (a + 3) rfl md_Slt_init_17 (fun H hw => ?_)
  have hw : xn_H D tb_cl a [.inr (4, [.null, .null, .null, .ref (a + 1), .null]), .inr (6, [.ref siz, .ref (a + 2), .int 0]), .inl (cI, 13 * n, .inl (fun _ => 0)), .inr (6, [.null, .null, .int 0])] st.heap _ _ := hw
  refine lv_dup Z.1 Z.2.1 md_Slt_init_20 rfl ?_
  refine lv_aload_n Z.1 Z.2.1 md_Slt_init_21 rfl (lv_at hl 2 rfl) ?_
  have hw : xn_H D tb_cl a ([.inr (4, [.null, .null, .null, .ref (a + 1), .null]), .inr (6, [.ref siz, .ref (a + 2), .int 0]), .inl (cI, 13 * n, .inl (fun _ => 0))] ++ [.inr (6, [.null, .null, .int 0])]) st.heap _ _ := hw
  refine xn_cI (n := 1) (rest := [.ref (a + 3), .ref (a)]) Z hml hl.1 hN hAO hw rfl (n_Tal l D cI cZ cS cA (a + 3) siz hn) (fun q h => ⟨xn_low hlow hw.2 h, Nat.lt_of_lt_of_le (hlow q h).2 (Nat.le_add_right _ _)⟩) tb_g mc_Tal_init mk_Slt_11 mi_Tal_init mz_Tal (by decide) ⟨by decide, by decide, by decide +kernel⟩ ⟨(Nat.le_of_ble_eq_true rfl), (Nat.le_of_ble_eq_true rfl)⟩ rfl rfl (Nat.le_of_ble_eq_true rfl) ⟨(Nat.le_of_ble_eq_true rfl), (Nat.le_of_ble_eq_true rfl)⟩ md_Slt_init_22 (fun H locs hw => ?_)
  have hw : xn_H D tb_cl a [.inr (4, [.null, .null, .null, .ref (a + 1), .null]), .inr (6, [.ref siz, .ref (a + 2), .int 0]), .inl (cI, 13 * n, .inl (fun _ => 0)), .inr (6, [.ref siz, .ref (a + 4), .int 0]), .inl (cI, 13 * n, .inl (fun _ => 0))] st.heap _ _ := hw
  refine xn_put Z hin hw 0 rfl rfl tb_iSlt tb_tSlt tb_ySlt tb_nSlt 4 (by decide) mk_Slt_20 rfl rfl rfl rfl (Nat.le_of_ble_eq_true rfl) rfl md_Slt_init_25 (fun H locs hw => ?_)
  have hw : xn_H D tb_cl a [.inr (4, [.null, .null, .null, .ref (a + 1), .ref (a + 3)]), .inr (6, [.ref siz, .ref (a + 2), .int 0]), .inl (cI, 13 * n, .inl (fun _ => 0)), .inr (6, [.ref siz, .ref (a + 4), .int 0]), .inl (cI, 13 * n, .inl (fun _ => 0))] st.heap _ _ := hw
  refine lv_aload_n Z.1 Z.2.1 md_Slt_init_28 rfl (lv_at hl 0 rfl) ?_
  refine xn_new Z hw (ci := 5) rfl tb_iCor tb_tCor tb_yCor mk_Slt_23 mn_Cor mz_Cor [.int 0, .null, .null, .int 0, .int 0, .int 0, .null, .null, .null, .int 0] mf_Cor 5 146 (Nat.le_of_ble_eq_true rfl) (Nat.le_of_ble_eq_true rfl) (Nat.le_of_ble_eq_true rfl) (Nat.le_of_ble_eq_true rfl) (a + 5) rfl md_Slt_init_29 (fun H hw => ?_)
  have hw : xn_H D tb_cl a [.inr (4, [.null, .null, .null, .ref (a + 1), .ref (a + 3)]), .inr (6, [.ref siz, .ref (a + 2), .int 0]), .inl (cI, 13 * n, .inl (fun _ => 0)), .inr (6, [.ref siz, .ref (a + 4), .int 0]), .inl (cI, 13 * n, .inl (fun _ => 0)), .inr (5, [.int 0, .null, .null, .int 0, .int 0, .int 0, .null, .null, .null, .int 0])] st.heap _ _ := hw
  refine lv_dup Z.1 Z.2.1 md_Slt_init_32 rfl ?_
  refine lv_iload_n Z.1 Z.2.1 md_Slt_init_33 rfl (lv_at hl 1 rfl) ?_
  refine lv_aload_n Z.1 Z.2.1 md_Slt_init_34 rfl (lv_at hl 2 rfl) ?_
  refine lv_aload_n Z.1 Z.2.1 md_Slt_init_35 rfl (lv_at hl 3 rfl) ?_
  have hw : xn_H D tb_cl a ([.inr (4, [.null, .null, .null, .ref (a + 1), .ref (a + 3)]), .inr (6, [.ref siz, .ref (a + 2), .int 0]), .inl (cI, 13 * n, .inl (fun _ => 0)), .inr (6, [.ref siz, .ref (a + 4), .int 0]), .inl (cI, 13 * n, .inl (fun _ => 0))] ++ [.inr (5, [.int 0, .null, .null, .int 0, .int 0, .int 0, .null, .null, .null, .int 0])]) st.heap _ _ := hw
  refine xn_cI (n := 3) (rest := [.ref (a + 5), .ref (a)]) Z hml hl.1 hN hAO hw rfl (n_Cor l D cI cZ cS cA (a + 5) mail i siz hn) (fun q h => ⟨xn_low hlow hw.2 h, Nat.lt_of_lt_of_le (hlow q h).2 (Nat.le_add_right _ _)⟩) tb_g mc_Cor_init mk_Slt_25 mi_Cor_init mz_Cor (by decide) ⟨by decide, by decide, by decide +kernel⟩ ⟨(Nat.le_of_ble_eq_true rfl), (Nat.le_of_ble_eq_true rfl)⟩ rfl rfl (Nat.le_of_ble_eq_true rfl) ⟨(Nat.le_of_ble_eq_true rfl), (Nat.le_of_ble_eq_true rfl)⟩ md_Slt_init_36 (fun H locs hw => ?_)
  have hw : xn_H D tb_cl a [.inr (4, [.null, .null, .null, .ref (a + 1), .ref (a + 3)]), .inr (6, [.ref siz, .ref (a + 2), .int 0]), .inl (cI, 13 * n, .inl (fun _ => 0)), .inr (6, [.ref siz, .ref (a + 4), .int 0]), .inl (cI, 13 * n, .inl (fun _ => 0)), .inr (5, [.int (nI i), .ref siz, .ref mail, .int 0, .int 0, .int 0, .ref (a + 6), .ref (a + 7), .ref (a + 8), .int 0]), .inl (cZ, n, .inl (fun _ => 0)), .inl (cI, n, .inl (fun _ => 0)), .inl (cI, n, .inl (fun _ => 0))] st.heap _ _ := hw
  refine xn_put Z hin hw 0 rfl rfl tb_iSlt tb_tSlt tb_ySlt tb_nSlt 1 (by decide) mk_Slt_28 rfl rfl rfl rfl (Nat.le_of_ble_eq_true rfl) rfl md_Slt_init_39 (fun H locs hw => ?_)
  have hw : xn_H D tb_cl a [.inr (4, [.null, .ref (a + 5), .null, .ref (a + 1), .ref (a + 3)]), .inr (6, [.ref siz, .ref (a + 2), .int 0]), .inl (cI, 13 * n, .inl (fun _ => 0)), .inr (6, [.ref siz, .ref (a + 4), .int 0]), .inl (cI, 13 * n, .inl (fun _ => 0)), .inr (5, [.int (nI i), .ref siz, .ref mail, .int 0, .int 0, .int 0, .ref (a + 6), .ref (a + 7), .ref (a + 8), .int 0]), .inl (cZ, n, .inl (fun _ => 0)), .inl (cI, n, .inl (fun _ => 0)), .inl (cI, n, .inl (fun _ => 0))] st.heap _ _ := hw
  refine lv_aload_n Z.1 Z.2.1 md_Slt_init_42 rfl (lv_at hl 0 rfl) ?_
  refine xn_new Z hw (ci := 5) rfl tb_iCor tb_tCor tb_yCor mk_Slt_23 mn_Cor mz_Cor [.int 0, .null, .null, .int 0, .int 0, .int 0, .null, .null, .null, .int 0] mf_Cor 9 171 (Nat.le_of_ble_eq_true rfl) (Nat.le_of_ble_eq_true rfl) (Nat.le_of_ble_eq_true rfl) (Nat.le_of_ble_eq_true rfl) (a + 9) rfl md_Slt_init_43 (fun H hw => ?_)
  have hw : xn_H D tb_cl a [.inr (4, [.null, .ref (a + 5), .null, .ref (a + 1), .ref (a + 3)]), .inr (6, [.ref siz, .ref (a + 2), .int 0]), .inl (cI, 13 * n, .inl (fun _ => 0)), .inr (6, [.ref siz, .ref (a + 4), .int 0]), .inl (cI, 13 * n, .inl (fun _ => 0)), .inr (5, [.int (nI i), .ref siz, .ref mail, .int 0, .int 0, .int 0, .ref (a + 6), .ref (a + 7), .ref (a + 8), .int 0]), .inl (cZ, n, .inl (fun _ => 0)), .inl (cI, n, .inl (fun _ => 0)), .inl (cI, n, .inl (fun _ => 0)), .inr (5, [.int 0, .null, .null, .int 0, .int 0, .int 0, .null, .null, .null, .int 0])] st.heap _ _ := hw
  refine lv_dup Z.1 Z.2.1 md_Slt_init_46 rfl ?_
  refine lv_iload_n Z.1 Z.2.1 md_Slt_init_47 rfl (lv_at hl 1 rfl) ?_
  refine lv_aload_n Z.1 Z.2.1 md_Slt_init_48 rfl (lv_at hl 2 rfl) ?_
  refine lv_aload_n Z.1 Z.2.1 md_Slt_init_49 rfl (lv_at hl 3 rfl) ?_
  have hw : xn_H D tb_cl a ([.inr (4, [.null, .ref (a + 5), .null, .ref (a + 1), .ref (a + 3)]), .inr (6, [.ref siz, .ref (a + 2), .int 0]), .inl (cI, 13 * n, .inl (fun _ => 0)), .inr (6, [.ref siz, .ref (a + 4), .int 0]), .inl (cI, 13 * n, .inl (fun _ => 0)), .inr (5, [.int (nI i), .ref siz, .ref mail, .int 0, .int 0, .int 0, .ref (a + 6), .ref (a + 7), .ref (a + 8), .int 0]), .inl (cZ, n, .inl (fun _ => 0)), .inl (cI, n, .inl (fun _ => 0)), .inl (cI, n, .inl (fun _ => 0))] ++ [.inr (5, [.int 0, .null, .null, .int 0, .int 0, .int 0, .null, .null, .null, .int 0])]) st.heap _ _ := hw
  refine xn_cI (n := 3) (rest := [.ref (a + 9), .ref (a)]) Z hml hl.1 hN hAO hw rfl (n_Cor l D cI cZ cS cA (a + 9) mail i siz hn) (fun q h => ⟨xn_low hlow hw.2 h, Nat.lt_of_lt_of_le (hlow q h).2 (Nat.le_add_right _ _)⟩) tb_g mc_Cor_init mk_Slt_25 mi_Cor_init mz_Cor (by decide) ⟨by decide, by decide, by decide +kernel⟩ ⟨(Nat.le_of_ble_eq_true rfl), (Nat.le_of_ble_eq_true rfl)⟩ rfl rfl (Nat.le_of_ble_eq_true rfl) ⟨(Nat.le_of_ble_eq_true rfl), (Nat.le_of_ble_eq_true rfl)⟩ md_Slt_init_50 (fun H locs hw => ?_)
  have hw : xn_H D tb_cl a [.inr (4, [.null, .ref (a + 5), .null, .ref (a + 1), .ref (a + 3)]), .inr (6, [.ref siz, .ref (a + 2), .int 0]), .inl (cI, 13 * n, .inl (fun _ => 0)), .inr (6, [.ref siz, .ref (a + 4), .int 0]), .inl (cI, 13 * n, .inl (fun _ => 0)), .inr (5, [.int (nI i), .ref siz, .ref mail, .int 0, .int 0, .int 0, .ref (a + 6), .ref (a + 7), .ref (a + 8), .int 0]), .inl (cZ, n, .inl (fun _ => 0)), .inl (cI, n, .inl (fun _ => 0)), .inl (cI, n, .inl (fun _ => 0)), .inr (5, [.int (nI i), .ref siz, .ref mail, .int 0, .int 0, .int 0, .ref (a + 10), .ref (a + 11), .ref (a + 12), .int 0]), .inl (cZ, n, .inl (fun _ => 0)), .inl (cI, n, .inl (fun _ => 0)), .inl (cI, n, .inl (fun _ => 0))] st.heap _ _ := hw
  refine xn_put Z hin hw 0 rfl rfl tb_iSlt tb_tSlt tb_ySlt tb_nSlt 2 (by decide) mk_Slt_32 rfl rfl rfl rfl (Nat.le_of_ble_eq_true rfl) rfl md_Slt_init_53 (fun H locs hw => ?_)
  have hw : xn_H D tb_cl a [.inr (4, [.null, .ref (a + 5), .ref (a + 9), .ref (a + 1), .ref (a + 3)]), .inr (6, [.ref siz, .ref (a + 2), .int 0]), .inl (cI, 13 * n, .inl (fun _ => 0)), .inr (6, [.ref siz, .ref (a + 4), .int 0]), .inl (cI, 13 * n, .inl (fun _ => 0)), .inr (5, [.int (nI i), .ref siz, .ref mail, .int 0, .int 0, .int 0, .ref (a + 6), .ref (a + 7), .ref (a + 8), .int 0]), .inl (cZ, n, .inl (fun _ => 0)), .inl (cI, n, .inl (fun _ => 0)), .inl (cI, n, .inl (fun _ => 0)), .inr (5, [.int (nI i), .ref siz, .ref mail, .int 0, .int 0, .int 0, .ref (a + 10), .ref (a + 11), .ref (a + 12), .int 0]), .inl (cZ, n, .inl (fun _ => 0)), .inl (cI, n, .inl (fun _ => 0)), .inl (cI, n, .inl (fun _ => 0))] st.heap _ _ := hw
  refine lv_aload_n Z.1 Z.2.1 md_Slt_init_56 rfl (lv_at hl 0 rfl) ?_
  refine lv_aload_n Z.1 Z.2.1 md_Slt_init_57 rfl (lv_at hl 2 rfl) ?_
  refine xn_get (v := .int (nI (n))) Z (xn_low hlow hw.2 (List.mem_of_getElem? (i := 0) rfl)) rfl tb_iSiz 0 (by decide) mk_Slt_35 rfl rfl md_Slt_init_58 ?_
  refine xn_anew Z hw mk_Slt_41 hAO.2 3 rfl (n) rfl (by omega) 13 191 (Nat.le_of_ble_eq_true rfl) (by omega) (Nat.le_of_ble_eq_true rfl) (Nat.le_of_ble_eq_true rfl) (a + 13) rfl md_Slt_init_61 (fun H hw => ?_)
  have hw : xn_H D tb_cl a [.inr (4, [.null, .ref (a + 5), .ref (a + 9), .ref (a + 1), .ref (a + 3)]), .inr (6, [.ref siz, .ref (a + 2), .int 0]), .inl (cI, 13 * n, .inl (fun _ => 0)), .inr (6, [.ref siz, .ref (a + 4), .int 0]), .inl (cI, 13 * n, .inl (fun _ => 0)), .inr (5, [.int (nI i), .ref siz, .ref mail, .int 0, .int 0, .int 0, .ref (a + 6), .ref (a + 7), .ref (a + 8), .int 0]), .inl (cZ, n, .inl (fun _ => 0)), .inl (cI, n, .inl (fun _ => 0)), .inl (cI, n, .inl (fun _ => 0)), .inr (5, [.int (nI i), .ref siz, .ref mail, .int 0, .int 0, .int 0, .ref (a + 10), .ref (a + 11), .ref (a + 12), .int 0]), .inl (cZ, n, .inl (fun _ => 0)), .inl (cI, n, .inl (fun _ => 0)), .inl (cI, n, .inl (fun _ => 0)), .inl (cA, n, .inr (.inr (.inr (.inr (fun _ => none)))))] st.heap _ _ := hw
  refine xn_put Z hin hw 0 rfl rfl tb_iSlt tb_tSlt tb_ySlt tb_nSlt 0 (by decide) mk_Slt_43 rfl rfl rfl rfl (Nat.le_of_ble_eq_true rfl) rfl md_Slt_init_64 (fun H locs hw => ?_)
  have hw : xn_H D tb_cl a [.inr (4, [.ref (a + 13), .ref (a + 5), .ref (a + 9), .ref (a + 1), .ref (a + 3)]), .inr (6, [.ref siz, .ref (a + 2), .int 0]), .inl (cI, 13 * n, .inl (fun _ => 0)), .inr (6, [.ref siz, .ref (a + 4), .int 0]), .inl (cI, 13 * n, .inl (fun _ => 0)), .inr (5, [.int (nI i), .ref siz, .ref mail, .int 0, .int 0, .int 0, .ref (a + 6), .ref (a + 7), .ref (a + 8), .int 0]), .inl (cZ, n, .inl (fun _ => 0)), .inl (cI, n, .inl (fun _ => 0)), .inl (cI, n, .inl (fun _ => 0)), .inr (5, [.int (nI i), .ref siz, .ref mail, .int 0, .int 0, .int 0, .ref (a + 10), .ref (a + 11), .ref (a + 12), .int 0]), .inl (cZ, n, .inl (fun _ => 0)), .inl (cI, n, .inl (fun _ => 0)), .inl (cI, n, .inl (fun _ => 0)), .inl (cA, n, .inr (.inr (.inr (.inr (fun _ => none)))))] st.heap _ _ := hw
  refine lv_iconst (v := nI 0) Z.1 Z.2.1 md_Slt_init_67 (by decide) ?_
  refine lv_istore Z.1 Z.2.1 md_Slt_init_68 hl (by decide) rfl (fun ls hl => ?_)
  have hl : lv_has ls 5 [(4, .int (nI (0))), (0, .ref (a)), (1, .int (nI (i))), (2, .ref (siz)), (3, .ref (mail))] := hl
  have loop : ∀ (dd j : Nat) (H : Heap) (locs : List Loc) (ls : Array Slot), j + dd = n → xn_H D tb_cl a (xe_S0 cI cZ cA n siz mail i a (xe_fn (fun k => a + 14 + k) j) ++ xe_SA mail i a j) st.heap H locs → lv_has ls 5 [(4, .int (nI j)), (0, .ref a), (1, .int (nI i)), (2, .ref siz), (3, .ref mail)] → W p l e { frames := 2, cells := 18, slots := 236, locals := 36 } st m ([.ref a, .int (nI i), .ref siz, .ref mail] : List Value).toArray below meth cd0 H locs (13 + j) (191 + 9 * j) (MQ below (xn_Qc D tb_cl a (xe_Slt cI cZ cA n siz mail i a)) ([.ref a, .int (nI i), .ref siz, .ref mail] : List Value).toArray st 18 236 (fun q => a ≤ q)) (F0 m 70 ls []) := by
    intro dd
    induction dd with
    | zero =>
      intro j H locs ls hj hw hl
      refine lv_iload Z.1 Z.2.1 md_Slt_init_70 (lv_at hl 0 rfl) ?_
      refine lv_aload_n Z.1 Z.2.1 md_Slt_init_72 rfl (lv_at hl 3 rfl) ?_
      refine xn_get (v := .int (nI n)) Z (xn_low hlow hw.2 (List.mem_of_getElem? (i := 0) rfl)) rfl tb_iSiz 0 (by decide) mk_Slt_35 rfl rfl md_Slt_init_73 ?_
      refine xi_icmp_ge (tgt := 107) Z md_Slt_init_76 (by decide) (by omega) (by omega) (fun _ => ?_) (fun h => by exfalso; omega)
      have hjn : j = n := by omega
      rw [hjn] at hw ⊢
      exact xn_ret Z hr hlk hw (by omega) (by omega) md_Slt_init_107
    | succ dd ih =>
      intro j H locs ls hj hw hl
      refine lv_iload Z.1 Z.2.1 md_Slt_init_70 (lv_at hl 0 rfl) ?_
      refine lv_aload_n Z.1 Z.2.1 md_Slt_init_72 rfl (lv_at hl 3 rfl) ?_
      refine xn_get (v := .int (nI n)) Z (xn_low hlow hw.2 (List.mem_of_getElem? (i := 0) rfl)) rfl tb_iSiz 0 (by decide) mk_Slt_35 rfl rfl md_Slt_init_73 ?_
      refine xi_icmp_ge (tgt := 107) Z md_Slt_init_76 (by decide) (by omega) (by omega) (fun h => by exfalso; omega) (fun _ => ?_)
      refine lv_aload_n Z.1 Z.2.1 md_Slt_init_79 rfl (lv_at hl 1 rfl) ?_
      refine xn_get (v := .ref (a + 13)) Z (xn_at hw (j := 0) rfl rfl) rfl tb_iSlt 0 (by decide) mk_Slt_43 rfl rfl md_Slt_init_80 ?_
      refine lv_iload Z.1 Z.2.1 md_Slt_init_83 (lv_at hl 0 rfl) ?_
      have hlen : a + (xe_S0 cI cZ cA n siz mail i a (xe_fn (fun k => a + 14 + k) j) ++ xe_SA mail i a j).length = a + 14 + j := by rw [List.length_append, xe_SAl]; simp [xe_S0]; omega
      refine xn_new Z hw (ci := 7) rfl tb_iAcc tb_tAcc tb_yAcc mk_Slt_41 mn_Acc mz_Acc [.int 0, .int 0, .null, .null, .int 0, .int 0, .int 0, .int 0, .int 0] mf_Acc (13 + j + 1) (191 + 9 * j + 9) (by omega) (by omega) (by show 13 + j + 1 ≤ 18; omega) (by show 191 + 9 * j + 9 ≤ 236; omega) (a + 14 + j) hlen md_Slt_init_85 (fun H hw => ?_)
      refine lv_dup Z.1 Z.2.1 md_Slt_init_88 rfl ?_
      refine lv_iload Z.1 Z.2.1 md_Slt_init_89 (lv_at hl 0 rfl) ?_
      refine lv_iload_n Z.1 Z.2.1 md_Slt_init_91 rfl (lv_at hl 2 rfl) ?_
      refine lv_aload_n Z.1 Z.2.1 md_Slt_init_92 rfl (lv_at hl 4 rfl) ?_
      refine lv_aload_n Z.1 Z.2.1 md_Slt_init_93 rfl (lv_at hl 1 rfl) ?_
      refine xn_get (v := .ref (a + 1)) Z (xn_at hw (j := 0) rfl rfl) rfl tb_iSlt 3 (by decide) mk_Slt_14 rfl rfl md_Slt_init_94 ?_
      refine xn_cI (n := 4) (rest := [.ref (a + 14 + j), .int (nI j), .ref (a + 13)]) Z hml hl.1 hN hAO hw hlen (n_Acc l D cI cZ cS cA (a + 14 + j) mail (a + 1) j i) (fun q h => by cases h) tb_g mc_Acc_init mk_Slt_46 mi_Acc_init mz_Acc (by decide) ⟨by decide, by decide, by decide +kernel⟩ ⟨(Nat.le_of_ble_eq_true rfl), (Nat.le_of_ble_eq_true rfl)⟩ rfl rfl (Nat.le_of_ble_eq_true rfl) ⟨by show 13 + j + 1 + 0 ≤ 18; omega, by show 191 + 9 * j + 9 + 0 ≤ 236; omega⟩ md_Slt_init_97 (fun H locs hw => ?_)
      refine xn_aast Z hw 13 3 7 rfl rfl (xn_at hw (j := 14 + j) (x := xe_Acc mail (a + 1) j i) (by rw [List.getElem?_append_right (by rw [List.length_append, xe_SAl]; exact Nat.le_refl _), List.length_append, xe_SAl, show 14 + j - ((xe_S0 cI cZ cA n siz mail i a (xe_fn (fun k => a + 14 + k) j)).length + j) = 0 by simp [xe_S0]]; rfl) (by omega)) rfl j rfl (by omega) (by omega) rfl md_Slt_init_100 (fun H locs hw => ?_)
      refine lv_iinc Z.1 Z.2.1 md_Slt_init_101 hl (k := 0) rfl (xi_inc1 (j)) (by decide) rfl (fun ls hl => ?_)
      refine lv_goto (tgt := 70) Z.1 Z.2.1 md_Slt_init_104 (by decide) ?_
      refine W.widen (k := 13 + (j + 1)) (n := 191 + 9 * (j + 1)) (by omega) (by omega) ?_
      refine ih (j + 1) H locs ls (by omega) ?_ hl
      rw [xe_SAS, ← xe_fnS, ← List.append_assoc]
      exact hw
  have hw : xn_H D tb_cl a (xe_S0 cI cZ cA n siz mail i a (xe_fn (fun k => a + 14 + k) 0) ++ xe_SA mail i a 0) st.heap H locs := by rw [xe_fn0]; exact hw
  exact loop n 0 _ _ ls (by omega) hw (lv_sub hl [0, 1, 2, 3, 4] rfl)
def xe_F0 (cI cZ cS : ClassId) (n q f a : Nat) (g : Nat → Option Nat) : List va_E := [.inr (0, [.ref (a + 1), .ref (a + 2), .ref (a + 6), .ref (a + 5)]), .inr (1, [.int (nI (n)), .int (nI (q)), .int (nI (f))]), .inr (2, [.ref (a + 3), .ref (a + 4), .int 0, .int 0]), .inl (cI, 420, .inl (fun _ => 0)), .inr (3, [.int 0, .int 0, .int 0, .int 0, .int 0, .int 0, .int 0]), .inl (cZ, 11, .inl (fun _ => 0)), .inl (cS, 3, .inr (.inr (.inr (.inr g))))]
def xe_sl (n a k : Nat) : Nat := a + 7 + k * (14 + n)
def xe_FS (cI cZ cA : ClassId) (n a j : Nat) : List va_E := (List.range j).flatMap (fun k => xe_Slt cI cZ cA n (a + 1) (a + 2) k (xe_sl n a k))
theorem xe_FSS (cI cZ cA : ClassId) (n a j : Nat) : xe_FS cI cZ cA n a (j + 1) = xe_FS cI cZ cA n a j ++ xe_Slt cI cZ cA n (a + 1) (a + 2) j (xe_sl n a j) := by simp [xe_FS, List.range_succ]
theorem xe_Sltl (cI cZ cA : ClassId) (n siz mail i a : Nat) : (xe_Slt cI cZ cA n siz mail i a).length = 14 + n := by unfold xe_Slt; rw [List.length_append, xe_SAl]; rfl
theorem xe_FSl (cI cZ cA : ClassId) (n a j : Nat) : (xe_FS cI cZ cA n a j).length = j * (14 + n) := by
  induction j with
  | zero => simp [xe_FS]
  | succ j ih => rw [xe_FSS, List.length_append, ih, xe_Sltl, Nat.succ_mul]
def xe_FB (cI cZ cS cA : ClassId) (n q f a : Nat) : List va_E := xe_F0 cI cZ cS n q f a (xe_fn (xe_sl n a) 3) ++ xe_FS cI cZ cA n a 3
set_option maxHeartbeats 4000000 in
theorem n_FB (l : Launch) (D : va_G) (cI cZ cS cA : ClassId) (a : Nat) {x y z : Int32} {n q f : Nat} (hx : zx_at x n) (hq : zq_at n y z q f) : xn_C l D cI cZ cS cA my_FB_init mb_FB_init 5 3 63 1171 60 a (.inr (0, [.null, .null, .null, .null])) [] [.int (x), .int (y), .int (z)] (xe_FB cI cZ cS cA n q f a) := by
  have hn := hx.2.1
  refine xn_start (.inr (0, [.null, .null, .null, .null])) [.int (x), .int (y), .int (z)] (by decide) rfl (Nat.le_of_ble_eq_true rfl) ?_
  intro p e st m below meth cd0 ls Z hml hr hlk hin hN hAO hl hlow hw
  have hl : lv_has ls 5 [(0, .ref (a)), (1, .int (x)), (2, .int (y)), (3, .int (z))] := hl
  refine lv_aload_n Z.1 Z.2.1 md_FB_init_0 rfl (lv_at hl 0 rfl) ?_
  refine xn_obj Z (hl.1.trans hml.symm) mo_FB mo_i mo_c md_FB_init_1 (Nat.le_of_ble_eq_true rfl) (Nat.le_of_ble_eq_true rfl) ?_
  refine lv_aload_n Z.1 Z.2.1 md_FB_init_4 rfl (lv_at hl 0 rfl) ?_
  refine xn_new Z hw (ci := 1) rfl tb_iSiz tb_tSiz tb_ySiz mk_FB_7 mn_Siz mz_Siz [.int 0, .int 0, .int 0] mf_Siz 1 3 (Nat.le_of_ble_eq_true rfl) (Nat.le_of_ble_eq_true rfl) (Nat.le_of_ble_eq_true rfl) (Nat.le_of_ble_eq_true rfl) (a + 1) rfl md_FB_init_5 (fun H hw => ?_)
  have hw : xn_H D tb_cl a [.inr (0, [.null, .null, .null, .null]), .inr (1, [.int 0, .int 0, .int 0])] st.heap _ _ := hw
  refine lv_dup Z.1 Z.2.1 md_FB_init_8 rfl ?_
  refine lv_iload_n Z.1 Z.2.1 md_FB_init_9 rfl (lv_at hl 1 rfl) ?_
  refine lv_iload_n Z.1 Z.2.1 md_FB_init_10 rfl (lv_at hl 2 rfl) ?_
  refine lv_iload_n Z.1 Z.2.1 md_FB_init_11 rfl (lv_at hl 3 rfl) ?_
  have hw : xn_H D tb_cl a ([.inr (0, [.null, .null, .null, .null])] ++ [.inr (1, [.int 0, .int 0, .int 0])]) st.heap _ _ := hw
  refine xn_cI (n := 3) (rest := [.ref (a + 1), .ref (a)]) Z hml hl.1 hN hAO hw rfl (n_Siz l D cI cZ cS cA (a + 1) hx hq) (fun q h => by cases h) tb_g mc_Siz_init mk_FB_9 mi_Siz_init mz_Siz (by decide) ⟨by decide, by decide, by decide +kernel⟩ ⟨(Nat.le_of_ble_eq_true rfl), (Nat.le_of_ble_eq_true rfl)⟩ rfl rfl (Nat.le_of_ble_eq_true rfl) ⟨(Nat.le_of_ble_eq_true rfl), (Nat.le_of_ble_eq_true rfl)⟩ md_FB_init_12 (fun H locs hw => ?_)
  have hw : xn_H D tb_cl a [.inr (0, [.null, .null, .null, .null]), .inr (1, [.int (nI (n)), .int (nI (q)), .int (nI (f))])] st.heap _ _ := hw
  refine xn_put Z hin hw 0 rfl rfl tb_iFB tb_tFB tb_yFB tb_nFB 0 (by decide) mk_FB_12 rfl rfl rfl rfl (Nat.le_of_ble_eq_true rfl) rfl md_FB_init_15 (fun H locs hw => ?_)
  have hw : xn_H D tb_cl a [.inr (0, [.ref (a + 1), .null, .null, .null]), .inr (1, [.int (nI (n)), .int (nI (q)), .int (nI (f))])] st.heap _ _ := hw
  refine lv_aload_n Z.1 Z.2.1 md_FB_init_18 rfl (lv_at hl 0 rfl) ?_
  refine xn_new Z hw (ci := 2) rfl tb_iMail tb_tMail tb_yMail mk_FB_18 mn_Mail mz_Mail [.null, .null, .int 0, .int 0] mf_Mail 2 7 (Nat.le_of_ble_eq_true rfl) (Nat.le_of_ble_eq_true rfl) (Nat.le_of_ble_eq_true rfl) (Nat.le_of_ble_eq_true rfl) (a + 2) rfl md_FB_init_19 (fun H hw => ?_)
  have hw : xn_H D tb_cl a [.inr (0, [.ref (a + 1), .null, .null, .null]), .inr (1, [.int (nI (n)), .int (nI (q)), .int (nI (f))]), .inr (2, [.null, .null, .int 0, .int 0])] st.heap _ _ := hw
  refine lv_dup Z.1 Z.2.1 md_FB_init_22 rfl ?_
  have hw : xn_H D tb_cl a ([.inr (0, [.ref (a + 1), .null, .null, .null]), .inr (1, [.int (nI (n)), .int (nI (q)), .int (nI (f))])] ++ [.inr (2, [.null, .null, .int 0, .int 0])]) st.heap _ _ := hw
  refine xn_cIN (n := 0) (rest := [.ref (a + 2), .ref (a)]) Z hml hl.1 hN hAO hw rfl (n_Mail l D cI cZ cS cA (a + 2)) (fun q h => by cases h) tb_g mc_Mail_init (host := "FastBallots") (List.mem_of_getElem? (i := 0) rfl) mi_Mail_init mz_Mail (by decide) ⟨by decide, by decide, by decide +kernel⟩ ⟨(Nat.le_of_ble_eq_true rfl), (Nat.le_of_ble_eq_true rfl)⟩ rfl rfl (Nat.le_of_ble_eq_true rfl) ⟨(Nat.le_of_ble_eq_true rfl), (Nat.le_of_ble_eq_true rfl)⟩ md_FB_init_23 (fun H locs hw => ?_)
  have hw : xn_H D tb_cl a [.inr (0, [.ref (a + 1), .null, .null, .null]), .inr (1, [.int (nI (n)), .int (nI (q)), .int (nI (f))]), .inr (2, [.ref (a + 3), .ref (a + 4), .int 0, .int 0]), .inl (cI, 420, .inl (fun _ => 0)), .inr (3, [.int 0, .int 0, .int 0, .int 0, .int 0, .int 0, .int 0])] st.heap _ _ := hw
  refine xn_put Z hin hw 0 rfl rfl tb_iFB tb_tFB tb_yFB tb_nFB 1 (by decide) mk_FB_21 rfl rfl rfl rfl (Nat.le_of_ble_eq_true rfl) rfl md_FB_init_26 (fun H locs hw => ?_)
  have hw : xn_H D tb_cl a [.inr (0, [.ref (a + 1), .ref (a + 2), .null, .null]), .inr (1, [.int (nI (n)), .int (nI (q)), .int (nI (f))]), .inr (2, [.ref (a + 3), .ref (a + 4), .int 0, .int 0]), .inl (cI, 420, .inl (fun _ => 0)), .inr (3, [.int 0, .int 0, .int 0, .int 0, .int 0, .int 0, .int 0])] st.heap _ _ := hw
  refine lv_aload_n Z.1 Z.2.1 md_FB_init_29 rfl (lv_at hl 0 rfl) ?_
  refine lv_bipush (v := nI 11) Z.1 Z.2.1 md_FB_init_30 (by decide) ?_
  refine xn_newa (atype := .boolean) (ty := .boolean) Z hw rfl (Or.inr rfl) mr_boolean 1 rfl (11) rfl (Nat.le_of_ble_eq_true rfl) 5 445 (Nat.le_of_ble_eq_true rfl) (Nat.le_of_ble_eq_true rfl) (Nat.le_of_ble_eq_true rfl) (Nat.le_of_ble_eq_true rfl) (a + 5) rfl md_FB_init_32 (fun H hw => ?_)
  have hw : xn_H D tb_cl a [.inr (0, [.ref (a + 1), .ref (a + 2), .null, .null]), .inr (1, [.int (nI (n)), .int (nI (q)), .int (nI (f))]), .inr (2, [.ref (a + 3), .ref (a + 4), .int 0, .int 0]), .inl (cI, 420, .inl (fun _ => 0)), .inr (3, [.int 0, .int 0, .int 0, .int 0, .int 0, .int 0, .int 0]), .inl (cZ, 11, .inl (fun _ => 0))] st.heap _ _ := hw
  refine xn_put Z hin hw 0 rfl rfl tb_iFB tb_tFB tb_yFB tb_nFB 3 (by decide) mk_FB_25 rfl rfl rfl rfl (Nat.le_of_ble_eq_true rfl) rfl md_FB_init_34 (fun H locs hw => ?_)
  have hw : xn_H D tb_cl a [.inr (0, [.ref (a + 1), .ref (a + 2), .null, .ref (a + 5)]), .inr (1, [.int (nI (n)), .int (nI (q)), .int (nI (f))]), .inr (2, [.ref (a + 3), .ref (a + 4), .int 0, .int 0]), .inl (cI, 420, .inl (fun _ => 0)), .inr (3, [.int 0, .int 0, .int 0, .int 0, .int 0, .int 0, .int 0]), .inl (cZ, 11, .inl (fun _ => 0))] st.heap _ _ := hw
  refine lv_aload_n Z.1 Z.2.1 md_FB_init_37 rfl (lv_at hl 0 rfl) ?_
  refine lv_iconst (v := nI 3) Z.1 Z.2.1 md_FB_init_38 (by decide) ?_
  refine xn_anew Z hw mk_FB_29 hAO.1 2 rfl (3) rfl (Nat.le_of_ble_eq_true rfl) 6 448 (Nat.le_of_ble_eq_true rfl) (Nat.le_of_ble_eq_true rfl) (Nat.le_of_ble_eq_true rfl) (Nat.le_of_ble_eq_true rfl) (a + 6) rfl md_FB_init_39 (fun H hw => ?_)
  have hw : xn_H D tb_cl a [.inr (0, [.ref (a + 1), .ref (a + 2), .null, .ref (a + 5)]), .inr (1, [.int (nI (n)), .int (nI (q)), .int (nI (f))]), .inr (2, [.ref (a + 3), .ref (a + 4), .int 0, .int 0]), .inl (cI, 420, .inl (fun _ => 0)), .inr (3, [.int 0, .int 0, .int 0, .int 0, .int 0, .int 0, .int 0]), .inl (cZ, 11, .inl (fun _ => 0)), .inl (cS, 3, .inr (.inr (.inr (.inr (fun _ => none)))))] st.heap _ _ := hw
  refine xn_put Z hin hw 0 rfl rfl tb_iFB tb_tFB tb_yFB tb_nFB 2 (by decide) mk_FB_31 rfl rfl rfl rfl (Nat.le_of_ble_eq_true rfl) rfl md_FB_init_42 (fun H locs hw => ?_)
  have hw : xn_H D tb_cl a [.inr (0, [.ref (a + 1), .ref (a + 2), .ref (a + 6), .ref (a + 5)]), .inr (1, [.int (nI (n)), .int (nI (q)), .int (nI (f))]), .inr (2, [.ref (a + 3), .ref (a + 4), .int 0, .int 0]), .inl (cI, 420, .inl (fun _ => 0)), .inr (3, [.int 0, .int 0, .int 0, .int 0, .int 0, .int 0, .int 0]), .inl (cZ, 11, .inl (fun _ => 0)), .inl (cS, 3, .inr (.inr (.inr (.inr (fun _ => none)))))] st.heap _ _ := hw
  refine lv_iconst (v := nI 0) Z.1 Z.2.1 md_FB_init_45 (by decide) ?_
  refine lv_istore Z.1 Z.2.1 md_FB_init_46 hl (by decide) rfl (fun ls hl => ?_)
  have hl : lv_has ls 5 [(4, .int (nI (0))), (0, .ref (a)), (1, .int (x)), (2, .int (y)), (3, .int (z))] := hl
  have loop : ∀ (dd j : Nat) (H : Heap) (locs : List Loc) (ls : Array Slot), j + dd = 3 → xn_H D tb_cl a (xe_F0 cI cZ cS n q f a (xe_fn (xe_sl n a) j) ++ xe_FS cI cZ cA n a j) st.heap H locs → lv_has ls 5 [(4, .int (nI j)), (0, .ref a)] → W p l e { frames := 3, cells := 63, slots := 1171, locals := 60 } st m ([.ref a, .int x, .int y, .int z] : List Value).toArray below meth cd0 H locs (6 + 19 * j) (448 + 241 * j) (MQ below (xn_Qc D tb_cl a (xe_FB cI cZ cS cA n q f a)) ([.ref a, .int x, .int y, .int z] : List Value).toArray st 63 1171 (fun q => a ≤ q)) (F0 m 48 ls []) := by
    intro dd
    induction dd with
    | zero =>
      intro j H locs ls hj hw hl
      refine lv_iload Z.1 Z.2.1 md_FB_init_48 (lv_at hl 0 rfl) ?_
      refine lv_iconst (v := nI 3) Z.1 Z.2.1 md_FB_init_50 (by decide) ?_
      refine xi_icmp_ge (tgt := 84) Z md_FB_init_51 (by decide) (by omega) (by omega) (fun _ => ?_) (fun h => by exfalso; omega)
      have hjn : j = 3 := by omega
      rw [hjn] at hw ⊢
      exact xn_ret Z hr hlk hw (by omega) (by omega) md_FB_init_84
    | succ dd ih =>
      intro j H locs ls hj hw hl
      refine lv_iload Z.1 Z.2.1 md_FB_init_48 (lv_at hl 0 rfl) ?_
      refine lv_iconst (v := nI 3) Z.1 Z.2.1 md_FB_init_50 (by decide) ?_
      refine xi_icmp_ge (tgt := 84) Z md_FB_init_51 (by decide) (by omega) (by omega) (fun h => by exfalso; omega) (fun _ => ?_)
      refine lv_aload_n Z.1 Z.2.1 md_FB_init_54 rfl (lv_at hl 1 rfl) ?_
      refine xn_get (v := .ref (a + 6)) Z (xn_at hw (j := 0) rfl rfl) rfl tb_iFB 2 (by decide) mk_FB_31 rfl rfl md_FB_init_55 ?_
      refine lv_iload Z.1 Z.2.1 md_FB_init_58 (lv_at hl 0 rfl) ?_
      have hlen : a + (xe_F0 cI cZ cS n q f a (xe_fn (xe_sl n a) j) ++ xe_FS cI cZ cA n a j).length = xe_sl n a j := by rw [List.length_append, xe_FSl]; simp [xe_F0, xe_sl]; omega
      refine xn_new Z hw (ci := 4) rfl tb_iSlt tb_tSlt tb_ySlt mk_FB_29 mn_Slt mz_Slt [.null, .null, .null, .null, .null] mf_Slt (6 + 19 * j + 1) (448 + 241 * j + 5) (by omega) (by omega) (by show 6 + 19 * j + 1 ≤ 63; omega) (by show 448 + 241 * j + 5 ≤ 1171; omega) (xe_sl n a j) hlen md_FB_init_60 (fun H hw => ?_)
      refine lv_dup Z.1 Z.2.1 md_FB_init_63 rfl ?_
      refine lv_iload Z.1 Z.2.1 md_FB_init_64 (lv_at hl 0 rfl) ?_
      refine lv_aload_n Z.1 Z.2.1 md_FB_init_66 rfl (lv_at hl 1 rfl) ?_
      refine xn_get (v := .ref (a + 1)) Z (xn_at hw (j := 0) rfl rfl) rfl tb_iFB 0 (by decide) mk_FB_12 rfl rfl md_FB_init_67 ?_
      refine lv_aload_n Z.1 Z.2.1 md_FB_init_70 rfl (lv_at hl 1 rfl) ?_
      refine xn_get (v := .ref (a + 2)) Z (xn_at hw (j := 0) rfl rfl) rfl tb_iFB 1 (by decide) mk_FB_21 rfl rfl md_FB_init_71 ?_
      refine xn_cI (n := 3) (rest := [.ref (xe_sl n a j), .int (nI j), .ref (a + 6)]) Z hml hl.1 hN hAO hw hlen (n_Slt l D cI cZ cS cA (xe_sl n a j) (a + 2) j (a + 1) (n := n) (q := q) (f := f) hn) (fun q0 h => by rw [List.mem_singleton] at h; subst h; exact ⟨xn_at hw (j := 1) rfl rfl, by show a + 1 < a + 7 + _; omega⟩) tb_g mc_Slt_init mk_FB_35 mi_Slt_init mz_Slt (by decide) ⟨by decide, by decide, by decide +kernel⟩ ⟨(Nat.le_of_ble_eq_true rfl), (Nat.le_of_ble_eq_true rfl)⟩ rfl rfl (Nat.le_of_ble_eq_true rfl) ⟨by show 6 + 19 * j + 1 + 18 ≤ 63; omega, by show 448 + 241 * j + 5 + 236 ≤ 1171; omega⟩ md_FB_init_74 (fun H locs hw => ?_)
      refine xn_aast Z hw 6 2 4 rfl rfl (xn_at hw (j := 7 + j * (14 + n)) (x := .inr (4, [.ref (xe_sl n a j + 13), .ref (xe_sl n a j + 5), .ref (xe_sl n a j + 9), .ref (xe_sl n a j + 1), .ref (xe_sl n a j + 3)])) (by rw [List.getElem?_append_right (by rw [List.length_append, xe_FSl]; exact Nat.le_refl _), List.length_append, xe_FSl, show 7 + j * (14 + n) - ((xe_F0 cI cZ cS n q f a (xe_fn (xe_sl n a) j)).length + j * (14 + n)) = 0 by simp [xe_F0]]; rfl) (by unfold xe_sl; omega)) rfl j rfl (by omega) (by omega) rfl md_FB_init_77 (fun H locs hw => ?_)
      refine lv_iinc Z.1 Z.2.1 md_FB_init_78 hl (k := 0) rfl (xi_inc1 (j)) (by decide) rfl (fun ls hl => ?_)
      refine lv_goto (tgt := 48) Z.1 Z.2.1 md_FB_init_81 (by decide) ?_
      refine W.widen (k := 6 + 19 * (j + 1)) (n := 448 + 241 * (j + 1)) (by omega) (by omega) ?_
      refine ih (j + 1) H locs ls (by omega) ?_ hl
      rw [xe_FSS, ← xe_fnS, ← List.append_assoc]
      exact hw
  have hw : xn_H D tb_cl a (xe_F0 cI cZ cS n q f a (xe_fn (xe_sl n a) 0) ++ xe_FS cI cZ cA n a 0) st.heap H locs := by rw [xe_fn0]; exact hw
  exact loop 3 0 _ _ ls (by omega) hw (lv_sub hl [0, 1] rfl)
