/-! Constructors of the small classes. -/
theorem mf_Siz : ∀ j, j < 3 → defaultValue (tb_tSiz j) = vp_V [.int 0, .int 0, .int 0] j := fun j hj => by
  rcases (show j = 0 ∨ j = 1 ∨ j = 2 by omega) with rfl | rfl | rfl <;> rfl
theorem mf_Mail : ∀ j, j < 4 → defaultValue (tb_tMail j) = vp_V [.null, .null, .int 0, .int 0] j := fun j hj => by
  rcases (show j = 0 ∨ j = 1 ∨ j = 2 ∨ j = 3 by omega) with rfl | rfl | rfl | rfl <;> rfl
theorem mf_Msg : ∀ j, j < 7 → defaultValue (tb_tMsg j) = vp_V [.int 0, .int 0, .int 0, .int 0, .int 0, .int 0, .int 0] j := fun j hj => by
  rcases (show j = 0 ∨ j = 1 ∨ j = 2 ∨ j = 3 ∨ j = 4 ∨ j = 5 ∨ j = 6 by omega) with rfl | rfl | rfl | rfl | rfl | rfl | rfl <;> rfl
theorem mf_Slt : ∀ j, j < 5 → defaultValue (tb_tSlt j) = vp_V [.null, .null, .null, .null, .null] j := fun j hj => by
  rcases (show j = 0 ∨ j = 1 ∨ j = 2 ∨ j = 3 ∨ j = 4 by omega) with rfl | rfl | rfl | rfl | rfl <;> rfl
theorem mf_Tal : ∀ j, j < 3 → defaultValue (tb_tTal j) = vp_V [.null, .null, .int 0] j := fun j hj => by
  rcases (show j = 0 ∨ j = 1 ∨ j = 2 by omega) with rfl | rfl | rfl <;> rfl
theorem mf_Cor : ∀ j, j < 10 → defaultValue (tb_tCor j) = vp_V [.int 0, .null, .null, .int 0, .int 0, .int 0, .null, .null, .null, .int 0] j := fun j hj => by
  rcases (show j = 0 ∨ j = 1 ∨ j = 2 ∨ j = 3 ∨ j = 4 ∨ j = 5 ∨ j = 6 ∨ j = 7 ∨ j = 8 ∨ j = 9 by omega) with rfl | rfl | rfl | rfl | rfl | rfl | rfl | rfl | rfl | rfl <;> rfl
theorem mf_Acc : ∀ j, j < 9 → defaultValue (tb_tAcc j) = vp_V [.int 0, .int 0, .null, .null, .int 0, .int 0, .int 0, .int 0, .int 0] j := fun j hj => by
  rcases (show j = 0 ∨ j = 1 ∨ j = 2 ∨ j = 3 ∨ j = 4 ∨ j = 5 ∨ j = 6 ∨ j = 7 ∨ j = 8 by omega) with rfl | rfl | rfl | rfl | rfl | rfl | rfl | rfl | rfl <;> rfl
theorem mf_FB : ∀ j, j < 4 → defaultValue (tb_tFB j) = vp_V [.null, .null, .null, .null] j := fun j hj => by
  rcases (show j = 0 ∨ j = 1 ∨ j = 2 ∨ j = 3 by omega) with rfl | rfl | rfl | rfl <;> rfl
theorem mf_Mod : ∀ j, j < 27 → defaultValue (tb_tMod j) = vp_V [.int 0, .int 0, .int 0, .null, .int 0, .int 0, .null, .null, .null, .null, .null, .null, .null, .null, .null, .null, .null, .null, .null, .null, .null, .null, .null, .null, .null, .null, .null] j := fun j hj => by
  rcases (show j = 0 ∨ j = 1 ∨ j = 2 ∨ j = 3 ∨ j = 4 ∨ j = 5 ∨ j = 6 ∨ j = 7 ∨ j = 8 ∨ j = 9 ∨ j = 10 ∨ j = 11 ∨ j = 12 ∨ j = 13 ∨ j = 14 ∨ j = 15 ∨ j = 16 ∨ j = 17 ∨ j = 18 ∨ j = 19 ∨ j = 20 ∨ j = 21 ∨ j = 22 ∨ j = 23 ∨ j = 24 ∨ j = 25 ∨ j = 26 by omega) with rfl | rfl | rfl | rfl | rfl | rfl | rfl | rfl | rfl | rfl | rfl | rfl | rfl | rfl | rfl | rfl | rfl | rfl | rfl | rfl | rfl | rfl | rfl | rfl | rfl | rfl | rfl <;> rfl
theorem md_Siz_areQuorums_0 : decode mb_Siz_areQuorums 0 = .ok (.iload_n 1, 1) := by decide +kernel
theorem md_Siz_areQuorums_1 : decode mb_Siz_areQuorums 1 = .ok (.iconst 1, 1) := by decide +kernel
theorem md_Siz_areQuorums_2 : decode mb_Siz_areQuorums 2 = .ok (.if_icmp .lt 18, 3) := by decide +kernel
theorem md_Siz_areQuorums_5 : decode mb_Siz_areQuorums 5 = .ok (.iload_n 1, 1) := by decide +kernel
theorem md_Siz_areQuorums_6 : decode mb_Siz_areQuorums 6 = .ok (.iload_n 0, 1) := by decide +kernel
theorem md_Siz_areQuorums_7 : decode mb_Siz_areQuorums 7 = .ok (.if_icmp .gt 13, 3) := by decide +kernel
theorem md_Siz_areQuorums_10 : decode mb_Siz_areQuorums 10 = .ok (.iload_n 2, 1) := by decide +kernel
theorem md_Siz_areQuorums_11 : decode mb_Siz_areQuorums 11 = .ok (.iconst 1, 1) := by decide +kernel
theorem md_Siz_areQuorums_12 : decode mb_Siz_areQuorums 12 = .ok (.if_icmp .lt 8, 3) := by decide +kernel
theorem md_Siz_areQuorums_15 : decode mb_Siz_areQuorums 15 = .ok (.iload_n 2, 1) := by decide +kernel
theorem md_Siz_areQuorums_16 : decode mb_Siz_areQuorums 16 = .ok (.iload_n 0, 1) := by decide +kernel
theorem md_Siz_areQuorums_17 : decode mb_Siz_areQuorums 17 = .ok (.if_icmp .le 5, 3) := by decide +kernel
theorem md_Siz_areQuorums_20 : decode mb_Siz_areQuorums 20 = .ok (.iconst 0, 1) := by decide +kernel
theorem md_Siz_areQuorums_21 : decode mb_Siz_areQuorums 21 = .ok (.ireturn, 1) := by decide +kernel
theorem md_Siz_areQuorums_22 : decode mb_Siz_areQuorums 22 = .ok (.iconst 2, 1) := by decide +kernel
theorem md_Siz_areQuorums_23 : decode mb_Siz_areQuorums 23 = .ok (.iload_n 1, 1) := by decide +kernel
theorem md_Siz_areQuorums_24 : decode mb_Siz_areQuorums 24 = .ok (.imul, 1) := by decide +kernel
theorem md_Siz_areQuorums_25 : decode mb_Siz_areQuorums 25 = .ok (.iload_n 0, 1) := by decide +kernel
theorem md_Siz_areQuorums_26 : decode mb_Siz_areQuorums 26 = .ok (.if_icmp .le 18, 3) := by decide +kernel
theorem md_Siz_areQuorums_29 : decode mb_Siz_areQuorums 29 = .ok (.iload_n 1, 1) := by decide +kernel
theorem md_Siz_areQuorums_30 : decode mb_Siz_areQuorums 30 = .ok (.iconst 2, 1) := by decide +kernel
theorem md_Siz_areQuorums_31 : decode mb_Siz_areQuorums 31 = .ok (.iload_n 2, 1) := by decide +kernel
theorem md_Siz_areQuorums_32 : decode mb_Siz_areQuorums 32 = .ok (.imul, 1) := by decide +kernel
theorem md_Siz_areQuorums_33 : decode mb_Siz_areQuorums 33 = .ok (.iadd, 1) := by decide +kernel
theorem md_Siz_areQuorums_34 : decode mb_Siz_areQuorums 34 = .ok (.iconst 2, 1) := by decide +kernel
theorem md_Siz_areQuorums_35 : decode mb_Siz_areQuorums 35 = .ok (.iload_n 0, 1) := by decide +kernel
theorem md_Siz_areQuorums_36 : decode mb_Siz_areQuorums 36 = .ok (.imul, 1) := by decide +kernel
theorem md_Siz_areQuorums_37 : decode mb_Siz_areQuorums 37 = .ok (.if_icmp .le 7, 3) := by decide +kernel
theorem md_Siz_areQuorums_40 : decode mb_Siz_areQuorums 40 = .ok (.iconst 1, 1) := by decide +kernel
theorem md_Siz_areQuorums_41 : decode mb_Siz_areQuorums 41 = .ok (.goto 4, 3) := by decide +kernel
theorem md_Siz_areQuorums_44 : decode mb_Siz_areQuorums 44 = .ok (.iconst 0, 1) := by decide +kernel
theorem md_Siz_areQuorums_45 : decode mb_Siz_areQuorums 45 = .ok (.ireturn, 1) := by decide +kernel
set_option maxHeartbeats 4000000 in
theorem ar_T (l : Launch) (D : va_G) (tys : List (ClassId × FieldType)) {n q f : Nat} (h : pz_Q n q f) : xo_C l D tys (fun _ => True) my_Siz_areQuorums mb_Siz_areQuorums 3 (some .boolean) 0 0 [.int (nI (n)), .int (nI (q)), .int (nI (f))] (nI 1) := by
  have h1 := h; unfold pz_Q at h1
  refine xo_start [.int (nI (n)), .int (nI (q)), .int (nI (f))] (by decide) (Nat.le_of_ble_eq_true rfl) ?_
  intro p e st m below meth cd0 ls Z hml hr hlk hB hl
  have hl : lv_has ls 3 [(0, .int (nI (n))), (1, .int (nI (q))), (2, .int (nI (f)))] := hl
  refine lv_iload_n Z.1 Z.2.1 md_Siz_areQuorums_0 rfl (lv_at hl 1 rfl) ?_
  refine lv_iconst (v := nI 1) Z.1 Z.2.1 md_Siz_areQuorums_1 (by decide) ?_
  refine xi_icmp_lt (tgt := 20) Z md_Siz_areQuorums_2 (by decide) (by omega) (by omega) (fun h2 => by exfalso; omega) (fun h2 => ?_)
  refine lv_iload_n Z.1 Z.2.1 md_Siz_areQuorums_5 rfl (lv_at hl 1 rfl) ?_
  refine lv_iload_n Z.1 Z.2.1 md_Siz_areQuorums_6 rfl (lv_at hl 0 rfl) ?_
  refine xi_icmp_gt (tgt := 20) Z md_Siz_areQuorums_7 (by decide) (by omega) (by omega) (fun h7 => by exfalso; omega) (fun h7 => ?_)
  refine lv_iload_n Z.1 Z.2.1 md_Siz_areQuorums_10 rfl (lv_at hl 2 rfl) ?_
  refine lv_iconst (v := nI 1) Z.1 Z.2.1 md_Siz_areQuorums_11 (by decide) ?_
  refine xi_icmp_lt (tgt := 20) Z md_Siz_areQuorums_12 (by decide) (by omega) (by omega) (fun h12 => by exfalso; omega) (fun h12 => ?_)
  refine lv_iload_n Z.1 Z.2.1 md_Siz_areQuorums_15 rfl (lv_at hl 2 rfl) ?_
  refine lv_iload_n Z.1 Z.2.1 md_Siz_areQuorums_16 rfl (lv_at hl 0 rfl) ?_
  refine xi_icmp_le (tgt := 22) Z md_Siz_areQuorums_17 (by decide) (by omega) (by omega) (fun h17 => ?_) (fun h17 => by exfalso; omega)
  refine lv_iconst (v := nI 2) Z.1 Z.2.1 md_Siz_areQuorums_22 (by decide) ?_
  refine lv_iload_n Z.1 Z.2.1 md_Siz_areQuorums_23 rfl (lv_at hl 1 rfl) ?_
  refine xi_mul Z md_Siz_areQuorums_24 ?_
  refine lv_iload_n Z.1 Z.2.1 md_Siz_areQuorums_25 rfl (lv_at hl 0 rfl) ?_
  refine xi_icmp_le (tgt := 44) Z md_Siz_areQuorums_26 (by decide) (by omega) (by omega) (fun h26 => by exfalso; omega) (fun h26 => ?_)
  refine lv_iload_n Z.1 Z.2.1 md_Siz_areQuorums_29 rfl (lv_at hl 1 rfl) ?_
  refine lv_iconst (v := nI 2) Z.1 Z.2.1 md_Siz_areQuorums_30 (by decide) ?_
  refine lv_iload_n Z.1 Z.2.1 md_Siz_areQuorums_31 rfl (lv_at hl 2 rfl) ?_
  refine xi_mul Z md_Siz_areQuorums_32 ?_
  refine xi_add Z md_Siz_areQuorums_33 ?_
  refine lv_iconst (v := nI 2) Z.1 Z.2.1 md_Siz_areQuorums_34 (by decide) ?_
  refine lv_iload_n Z.1 Z.2.1 md_Siz_areQuorums_35 rfl (lv_at hl 0 rfl) ?_
  refine xi_mul Z md_Siz_areQuorums_36 ?_
  refine xi_icmp_le (tgt := 44) Z md_Siz_areQuorums_37 (by decide) (by omega) (by omega) (fun h37 => by exfalso; omega) (fun h37 => ?_)
  refine lv_iconst (v := nI 1) Z.1 Z.2.1 md_Siz_areQuorums_40 (by decide) ?_
  refine lv_goto (tgt := 45) Z.1 Z.2.1 md_Siz_areQuorums_41 (by decide) ?_
  exact xo_zret Z hr hlk md_Siz_areQuorums_45 rfl rfl
set_option maxHeartbeats 4000000 in
theorem ar_F (l : Launch) (D : va_G) (tys : List (ClassId × FieldType)) {n : Nat} {y z : Int32} (h : zq_o n y z) : xo_C l D tys (fun _ => True) my_Siz_areQuorums mb_Siz_areQuorums 3 (some .boolean) 0 0 [.int (nI (n)), .int (y), .int (z)] (nI 0) := by
  refine xo_start [.int (nI (n)), .int (y), .int (z)] (by decide) (Nat.le_of_ble_eq_true rfl) ?_
  intro p e st m below meth cd0 ls Z hml hr hlk hB hl
  have hl : lv_has ls 3 [(0, .int (nI (n))), (1, .int (y)), (2, .int (z))] := hl
  refine lv_iload_n Z.1 Z.2.1 md_Siz_areQuorums_0 rfl (lv_at hl 1 rfl) ?_
  refine lv_iconst (v := nI 1) Z.1 Z.2.1 md_Siz_areQuorums_1 (by decide) ?_
  refine lv_icmp_lt (tgt := 20) Z.1 Z.2.1 md_Siz_areQuorums_2 (by decide) (fun h2 => ?_) (fun h2 => ?_)
  · refine lv_iconst (v := nI 0) Z.1 Z.2.1 md_Siz_areQuorums_20 (by decide) ?_
    exact xo_zret Z hr hlk md_Siz_areQuorums_21 rfl rfl
  · refine lv_iload_n Z.1 Z.2.1 md_Siz_areQuorums_5 rfl (lv_at hl 1 rfl) ?_
    refine lv_iload_n Z.1 Z.2.1 md_Siz_areQuorums_6 rfl (lv_at hl 0 rfl) ?_
    refine lv_icmp_gt (tgt := 20) Z.1 Z.2.1 md_Siz_areQuorums_7 (by decide) (fun h7 => ?_) (fun h7 => ?_)
    · refine lv_iconst (v := nI 0) Z.1 Z.2.1 md_Siz_areQuorums_20 (by decide) ?_
      exact xo_zret Z hr hlk md_Siz_areQuorums_21 rfl rfl
    · refine lv_iload_n Z.1 Z.2.1 md_Siz_areQuorums_10 rfl (lv_at hl 2 rfl) ?_
      refine lv_iconst (v := nI 1) Z.1 Z.2.1 md_Siz_areQuorums_11 (by decide) ?_
      refine lv_icmp_lt (tgt := 20) Z.1 Z.2.1 md_Siz_areQuorums_12 (by decide) (fun h12 => ?_) (fun h12 => ?_)
      · refine lv_iconst (v := nI 0) Z.1 Z.2.1 md_Siz_areQuorums_20 (by decide) ?_
        exact xo_zret Z hr hlk md_Siz_areQuorums_21 rfl rfl
      · refine lv_iload_n Z.1 Z.2.1 md_Siz_areQuorums_15 rfl (lv_at hl 2 rfl) ?_
        refine lv_iload_n Z.1 Z.2.1 md_Siz_areQuorums_16 rfl (lv_at hl 0 rfl) ?_
        refine lv_icmp_le (tgt := 22) Z.1 Z.2.1 md_Siz_areQuorums_17 (by decide) (fun h17 => by exfalso; rcases h with h | h | h | h; exact h2 h; exact h7 h; exact h12 h; exact Int32.not_le.mpr h h17) (fun h17 => ?_)
        refine lv_iconst (v := nI 0) Z.1 Z.2.1 md_Siz_areQuorums_20 (by decide) ?_
        exact xo_zret Z hr hlk md_Siz_areQuorums_21 rfl rfl
set_option maxHeartbeats 4000000 in
theorem ar_G (l : Launch) (D : va_G) (tys : List (ClassId × FieldType)) {n q f : Nat} (h : zq_b n q f) : xo_C l D tys (fun _ => True) my_Siz_areQuorums mb_Siz_areQuorums 3 (some .boolean) 0 0 [.int (nI (n)), .int (nI (q)), .int (nI (f))] (nI 0) := by
  have h1 := h; unfold zq_b at h1
  refine xo_start [.int (nI (n)), .int (nI (q)), .int (nI (f))] (by decide) (Nat.le_of_ble_eq_true rfl) ?_
  intro p e st m below meth cd0 ls Z hml hr hlk hB hl
  have hl : lv_has ls 3 [(0, .int (nI (n))), (1, .int (nI (q))), (2, .int (nI (f)))] := hl
  refine lv_iload_n Z.1 Z.2.1 md_Siz_areQuorums_0 rfl (lv_at hl 1 rfl) ?_
  refine lv_iconst (v := nI 1) Z.1 Z.2.1 md_Siz_areQuorums_1 (by decide) ?_
  refine xi_icmp_lt (tgt := 20) Z md_Siz_areQuorums_2 (by decide) (by omega) (by omega) (fun h2 => by exfalso; omega) (fun h2 => ?_)
  refine lv_iload_n Z.1 Z.2.1 md_Siz_areQuorums_5 rfl (lv_at hl 1 rfl) ?_
  refine lv_iload_n Z.1 Z.2.1 md_Siz_areQuorums_6 rfl (lv_at hl 0 rfl) ?_
  refine xi_icmp_gt (tgt := 20) Z md_Siz_areQuorums_7 (by decide) (by omega) (by omega) (fun h7 => by exfalso; omega) (fun h7 => ?_)
  refine lv_iload_n Z.1 Z.2.1 md_Siz_areQuorums_10 rfl (lv_at hl 2 rfl) ?_
  refine lv_iconst (v := nI 1) Z.1 Z.2.1 md_Siz_areQuorums_11 (by decide) ?_
  refine xi_icmp_lt (tgt := 20) Z md_Siz_areQuorums_12 (by decide) (by omega) (by omega) (fun h12 => by exfalso; omega) (fun h12 => ?_)
  refine lv_iload_n Z.1 Z.2.1 md_Siz_areQuorums_15 rfl (lv_at hl 2 rfl) ?_
  refine lv_iload_n Z.1 Z.2.1 md_Siz_areQuorums_16 rfl (lv_at hl 0 rfl) ?_
  refine xi_icmp_le (tgt := 22) Z md_Siz_areQuorums_17 (by decide) (by omega) (by omega) (fun h17 => ?_) (fun h17 => by exfalso; omega)
  refine lv_iconst (v := nI 2) Z.1 Z.2.1 md_Siz_areQuorums_22 (by decide) ?_
  refine lv_iload_n Z.1 Z.2.1 md_Siz_areQuorums_23 rfl (lv_at hl 1 rfl) ?_
  refine xi_mul Z md_Siz_areQuorums_24 ?_
  refine lv_iload_n Z.1 Z.2.1 md_Siz_areQuorums_25 rfl (lv_at hl 0 rfl) ?_
  refine xi_icmp_le (tgt := 44) Z md_Siz_areQuorums_26 (by decide) (by omega) (by omega) (fun h26 => ?_) (fun h26 => ?_)
  · refine lv_iconst (v := nI 0) Z.1 Z.2.1 md_Siz_areQuorums_44 (by decide) ?_
    exact xo_zret Z hr hlk md_Siz_areQuorums_45 rfl rfl
  · refine lv_iload_n Z.1 Z.2.1 md_Siz_areQuorums_29 rfl (lv_at hl 1 rfl) ?_
    refine lv_iconst (v := nI 2) Z.1 Z.2.1 md_Siz_areQuorums_30 (by decide) ?_
    refine lv_iload_n Z.1 Z.2.1 md_Siz_areQuorums_31 rfl (lv_at hl 2 rfl) ?_
    refine xi_mul Z md_Siz_areQuorums_32 ?_
    refine xi_add Z md_Siz_areQuorums_33 ?_
    refine lv_iconst (v := nI 2) Z.1 Z.2.1 md_Siz_areQuorums_34 (by decide) ?_
    refine lv_iload_n Z.1 Z.2.1 md_Siz_areQuorums_35 rfl (lv_at hl 0 rfl) ?_
    refine xi_mul Z md_Siz_areQuorums_36 ?_
    refine xi_icmp_le (tgt := 44) Z md_Siz_areQuorums_37 (by decide) (by omega) (by omega) (fun h37 => ?_) (fun h37 => by exfalso; omega)
    refine lv_iconst (v := nI 0) Z.1 Z.2.1 md_Siz_areQuorums_44 (by decide) ?_
    exact xo_zret Z hr hlk md_Siz_areQuorums_45 rfl rfl
theorem ar_blind {D : va_G} {tys : List (ClassId × FieldType)} {av : List Value} : FrameBlind (xo_Pc D tys (fun _ => True) av) := fun a U g mk q => ⟨q.1, va_K.moved (u := U) (U := U.calling g mk a) (Vm.Alike.refl U.vm) q.2.1, trivial⟩
theorem md_Msg_init_0 : decode mb_Msg_init 0 = .ok (.aload_n 0, 1) := by decide +kernel
theorem md_Msg_init_1 : decode mb_Msg_init 1 = .ok (.invokespecial 1, 3) := by decide +kernel
theorem md_Msg_init_4 : decode mb_Msg_init 4 = .ok (.return_, 1) := by decide +kernel
theorem md_Mail_init_0 : decode mb_Mail_init 0 = .ok (.aload_n 0, 1) := by decide +kernel
theorem md_Mail_init_1 : decode mb_Mail_init 1 = .ok (.invokespecial 1, 3) := by decide +kernel
theorem md_Mail_init_4 : decode mb_Mail_init 4 = .ok (.aload_n 0, 1) := by decide +kernel
theorem md_Mail_init_5 : decode mb_Mail_init 5 = .ok (.sipush 420, 3) := by decide +kernel
theorem md_Mail_init_8 : decode mb_Mail_init 8 = .ok (.newarray .int, 2) := by decide +kernel
theorem md_Mail_init_10 : decode mb_Mail_init 10 = .ok (.putfield 9, 3) := by decide +kernel
theorem md_Mail_init_13 : decode mb_Mail_init 13 = .ok (.aload_n 0, 1) := by decide +kernel
theorem md_Mail_init_14 : decode mb_Mail_init 14 = .ok (.new 13, 3) := by decide +kernel
theorem md_Mail_init_17 : decode mb_Mail_init 17 = .ok (.dup, 1) := by decide +kernel
theorem md_Mail_init_18 : decode mb_Mail_init 18 = .ok (.invokespecial 15, 3) := by decide +kernel
theorem md_Mail_init_21 : decode mb_Mail_init 21 = .ok (.putfield 16, 3) := by decide +kernel
theorem md_Mail_init_24 : decode mb_Mail_init 24 = .ok (.return_, 1) := by decide +kernel
theorem md_Siz_init_0 : decode mb_Siz_init 0 = .ok (.aload_n 0, 1) := by decide +kernel
theorem md_Siz_init_1 : decode mb_Siz_init 1 = .ok (.invokespecial 3, 3) := by decide +kernel
theorem md_Siz_init_4 : decode mb_Siz_init 4 = .ok (.iconst 3, 1) := by decide +kernel
theorem md_Siz_init_5 : decode mb_Siz_init 5 = .ok (.iconst 5, 1) := by decide +kernel
theorem md_Siz_init_6 : decode mb_Siz_init 6 = .ok (.iload_n 1, 1) := by decide +kernel
theorem md_Siz_init_7 : decode mb_Siz_init 7 = .ok (.invokestatic 9, 3) := by decide +kernel
theorem md_Siz_init_10 : decode mb_Siz_init 10 = .ok (.invokestatic 15, 3) := by decide +kernel
theorem md_Siz_init_13 : decode mb_Siz_init 13 = .ok (.istore 4, 2) := by decide +kernel
theorem md_Siz_init_15 : decode mb_Siz_init 15 = .ok (.iload 4, 2) := by decide +kernel
theorem md_Siz_init_17 : decode mb_Siz_init 17 = .ok (.iload_n 2, 1) := by decide +kernel
theorem md_Siz_init_18 : decode mb_Siz_init 18 = .ok (.iload_n 3, 1) := by decide +kernel
theorem md_Siz_init_19 : decode mb_Siz_init 19 = .ok (.invokestatic 18, 3) := by decide +kernel
theorem md_Siz_init_22 : decode mb_Siz_init 22 = .ok (.istore 5, 2) := by decide +kernel
theorem md_Siz_init_24 : decode mb_Siz_init 24 = .ok (.aload_n 0, 1) := by decide +kernel
theorem md_Siz_init_25 : decode mb_Siz_init 25 = .ok (.iload 4, 2) := by decide +kernel
theorem md_Siz_init_27 : decode mb_Siz_init 27 = .ok (.putfield 24, 3) := by decide +kernel
theorem md_Siz_init_30 : decode mb_Siz_init 30 = .ok (.aload_n 0, 1) := by decide +kernel
theorem md_Siz_init_31 : decode mb_Siz_init 31 = .ok (.iload 5, 2) := by decide +kernel
theorem md_Siz_init_33 : decode mb_Siz_init 33 = .ok (.ifCond .eq 7, 3) := by decide +kernel
theorem md_Siz_init_36 : decode mb_Siz_init 36 = .ok (.iload_n 2, 1) := by decide +kernel
theorem md_Siz_init_37 : decode mb_Siz_init 37 = .ok (.goto 9, 3) := by decide +kernel
theorem md_Siz_init_40 : decode mb_Siz_init 40 = .ok (.iload 4, 2) := by decide +kernel
theorem md_Siz_init_42 : decode mb_Siz_init 42 = .ok (.iconst 2, 1) := by decide +kernel
theorem md_Siz_init_43 : decode mb_Siz_init 43 = .ok (.idiv, 1) := by decide +kernel
theorem md_Siz_init_44 : decode mb_Siz_init 44 = .ok (.iconst 1, 1) := by decide +kernel
theorem md_Siz_init_45 : decode mb_Siz_init 45 = .ok (.iadd, 1) := by decide +kernel
theorem md_Siz_init_46 : decode mb_Siz_init 46 = .ok (.putfield 28, 3) := by decide +kernel
theorem md_Siz_init_49 : decode mb_Siz_init 49 = .ok (.aload_n 0, 1) := by decide +kernel
theorem md_Siz_init_50 : decode mb_Siz_init 50 = .ok (.iload 5, 2) := by decide +kernel
theorem md_Siz_init_52 : decode mb_Siz_init 52 = .ok (.ifCond .eq 7, 3) := by decide +kernel
theorem md_Siz_init_55 : decode mb_Siz_init 55 = .ok (.iload_n 3, 1) := by decide +kernel
theorem md_Siz_init_56 : decode mb_Siz_init 56 = .ok (.goto 11, 3) := by decide +kernel
theorem md_Siz_init_59 : decode mb_Siz_init 59 = .ok (.iconst 3, 1) := by decide +kernel
theorem md_Siz_init_60 : decode mb_Siz_init 60 = .ok (.iload 4, 2) := by decide +kernel
theorem md_Siz_init_62 : decode mb_Siz_init 62 = .ok (.imul, 1) := by decide +kernel
theorem md_Siz_init_63 : decode mb_Siz_init 63 = .ok (.iconst 3, 1) := by decide +kernel
theorem md_Siz_init_64 : decode mb_Siz_init 64 = .ok (.iadd, 1) := by decide +kernel
theorem md_Siz_init_65 : decode mb_Siz_init 65 = .ok (.iconst 4, 1) := by decide +kernel
theorem md_Siz_init_66 : decode mb_Siz_init 66 = .ok (.idiv, 1) := by decide +kernel
theorem md_Siz_init_67 : decode mb_Siz_init 67 = .ok (.putfield 31, 3) := by decide +kernel
theorem md_Siz_init_70 : decode mb_Siz_init 70 = .ok (.return_, 1) := by decide +kernel
theorem md_Tal_init_0 : decode mb_Tal_init 0 = .ok (.aload_n 0, 1) := by decide +kernel
theorem md_Tal_init_1 : decode mb_Tal_init 1 = .ok (.invokespecial 3, 3) := by decide +kernel
theorem md_Tal_init_4 : decode mb_Tal_init 4 = .ok (.aload_n 0, 1) := by decide +kernel
theorem md_Tal_init_5 : decode mb_Tal_init 5 = .ok (.aload_n 1, 1) := by decide +kernel
theorem md_Tal_init_6 : decode mb_Tal_init 6 = .ok (.putfield 9, 3) := by decide +kernel
theorem md_Tal_init_9 : decode mb_Tal_init 9 = .ok (.aload_n 0, 1) := by decide +kernel
theorem md_Tal_init_10 : decode mb_Tal_init 10 = .ok (.bipush 13, 2) := by decide +kernel
theorem md_Tal_init_12 : decode mb_Tal_init 12 = .ok (.aload_n 1, 1) := by decide +kernel
theorem md_Tal_init_13 : decode mb_Tal_init 13 = .ok (.getfield 15, 3) := by decide +kernel
theorem md_Tal_init_16 : decode mb_Tal_init 16 = .ok (.imul, 1) := by decide +kernel
theorem md_Tal_init_17 : decode mb_Tal_init 17 = .ok (.newarray .int, 2) := by decide +kernel
theorem md_Tal_init_19 : decode mb_Tal_init 19 = .ok (.putfield 21, 3) := by decide +kernel
theorem md_Tal_init_22 : decode mb_Tal_init 22 = .ok (.return_, 1) := by decide +kernel
theorem md_Cor_init_0 : decode mb_Cor_init 0 = .ok (.aload_n 0, 1) := by decide +kernel
theorem md_Cor_init_1 : decode mb_Cor_init 1 = .ok (.invokespecial 3, 3) := by decide +kernel
theorem md_Cor_init_4 : decode mb_Cor_init 4 = .ok (.aload_n 0, 1) := by decide +kernel
theorem md_Cor_init_5 : decode mb_Cor_init 5 = .ok (.iload_n 1, 1) := by decide +kernel
theorem md_Cor_init_6 : decode mb_Cor_init 6 = .ok (.putfield 9, 3) := by decide +kernel
theorem md_Cor_init_9 : decode mb_Cor_init 9 = .ok (.aload_n 0, 1) := by decide +kernel
theorem md_Cor_init_10 : decode mb_Cor_init 10 = .ok (.aload_n 2, 1) := by decide +kernel
theorem md_Cor_init_11 : decode mb_Cor_init 11 = .ok (.putfield 15, 3) := by decide +kernel
theorem md_Cor_init_14 : decode mb_Cor_init 14 = .ok (.aload_n 0, 1) := by decide +kernel
theorem md_Cor_init_15 : decode mb_Cor_init 15 = .ok (.aload_n 3, 1) := by decide +kernel
theorem md_Cor_init_16 : decode mb_Cor_init 16 = .ok (.putfield 19, 3) := by decide +kernel
theorem md_Cor_init_19 : decode mb_Cor_init 19 = .ok (.aload_n 0, 1) := by decide +kernel
theorem md_Cor_init_20 : decode mb_Cor_init 20 = .ok (.aload_n 2, 1) := by decide +kernel
theorem md_Cor_init_21 : decode mb_Cor_init 21 = .ok (.getfield 23, 3) := by decide +kernel
theorem md_Cor_init_24 : decode mb_Cor_init 24 = .ok (.newarray .boolean, 2) := by decide +kernel
theorem md_Cor_init_26 : decode mb_Cor_init 26 = .ok (.putfield 28, 3) := by decide +kernel
theorem md_Cor_init_29 : decode mb_Cor_init 29 = .ok (.aload_n 0, 1) := by decide +kernel
theorem md_Cor_init_30 : decode mb_Cor_init 30 = .ok (.aload_n 2, 1) := by decide +kernel
theorem md_Cor_init_31 : decode mb_Cor_init 31 = .ok (.getfield 23, 3) := by decide +kernel
theorem md_Cor_init_34 : decode mb_Cor_init 34 = .ok (.newarray .int, 2) := by decide +kernel
theorem md_Cor_init_36 : decode mb_Cor_init 36 = .ok (.putfield 32, 3) := by decide +kernel
theorem md_Cor_init_39 : decode mb_Cor_init 39 = .ok (.aload_n 0, 1) := by decide +kernel
theorem md_Cor_init_40 : decode mb_Cor_init 40 = .ok (.aload_n 2, 1) := by decide +kernel
theorem md_Cor_init_41 : decode mb_Cor_init 41 = .ok (.getfield 23, 3) := by decide +kernel
theorem md_Cor_init_44 : decode mb_Cor_init 44 = .ok (.newarray .int, 2) := by decide +kernel
theorem md_Cor_init_46 : decode mb_Cor_init 46 = .ok (.putfield 36, 3) := by decide +kernel
theorem md_Cor_init_49 : decode mb_Cor_init 49 = .ok (.return_, 1) := by decide +kernel
theorem md_Acc_init_0 : decode mb_Acc_init 0 = .ok (.aload_n 0, 1) := by decide +kernel
theorem md_Acc_init_1 : decode mb_Acc_init 1 = .ok (.invokespecial 3, 3) := by decide +kernel
theorem md_Acc_init_4 : decode mb_Acc_init 4 = .ok (.aload_n 0, 1) := by decide +kernel
theorem md_Acc_init_5 : decode mb_Acc_init 5 = .ok (.iload_n 1, 1) := by decide +kernel
theorem md_Acc_init_6 : decode mb_Acc_init 6 = .ok (.putfield 9, 3) := by decide +kernel
theorem md_Acc_init_9 : decode mb_Acc_init 9 = .ok (.aload_n 0, 1) := by decide +kernel
theorem md_Acc_init_10 : decode mb_Acc_init 10 = .ok (.iload_n 2, 1) := by decide +kernel
theorem md_Acc_init_11 : decode mb_Acc_init 11 = .ok (.putfield 15, 3) := by decide +kernel
theorem md_Acc_init_14 : decode mb_Acc_init 14 = .ok (.aload_n 0, 1) := by decide +kernel
theorem md_Acc_init_15 : decode mb_Acc_init 15 = .ok (.aload_n 3, 1) := by decide +kernel
theorem md_Acc_init_16 : decode mb_Acc_init 16 = .ok (.putfield 18, 3) := by decide +kernel
theorem md_Acc_init_19 : decode mb_Acc_init 19 = .ok (.aload_n 0, 1) := by decide +kernel
theorem md_Acc_init_20 : decode mb_Acc_init 20 = .ok (.aload 4, 2) := by decide +kernel
theorem md_Acc_init_22 : decode mb_Acc_init 22 = .ok (.putfield 22, 3) := by decide +kernel
theorem md_Acc_init_25 : decode mb_Acc_init 25 = .ok (.return_, 1) := by decide +kernel
set_option maxHeartbeats 4000000 in
theorem n_Msg (l : Launch) (D : va_G) (cI cZ cS cA : ClassId) (a : Nat) : xn_C l D cI cZ cS cA my_Msg_init mb_Msg_init 1 1 0 0 12 a (.inr (3, [.int 0, .int 0, .int 0, .int 0, .int 0, .int 0, .int 0])) [] [] [.inr (3, [.int 0, .int 0, .int 0, .int 0, .int 0, .int 0, .int 0])] := by
  refine xn_start (.inr (3, [.int 0, .int 0, .int 0, .int 0, .int 0, .int 0, .int 0])) [] (by decide) rfl (Nat.le_of_ble_eq_true rfl) ?_
  intro p e st m below meth cd0 ls Z hml hr hlk hin hN hAO hl hlow hw
  have hl : lv_has ls 1 [(0, .ref (a))] := hl
  refine lv_aload_n Z.1 Z.2.1 md_Msg_init_0 rfl (lv_at hl 0 rfl) ?_
  refine xn_obj Z (hl.1.trans hml.symm) mo_Msg mo_i mo_c md_Msg_init_1 (Nat.le_of_ble_eq_true rfl) (Nat.le_of_ble_eq_true rfl) ?_
  exact xn_ret Z hr hlk hw (Nat.le_of_ble_eq_true rfl) (Nat.le_of_ble_eq_true rfl) md_Msg_init_4
def xe_Mail (cI : ClassId) (a : Nat) : List va_E := [.inr (2, [.ref (a + 1), .ref (a + 2), .int 0, .int 0]), .inl (cI, 420, .inl (fun _ => 0)), .inr (3, [.int 0, .int 0, .int 0, .int 0, .int 0, .int 0, .int 0])]
set_option maxHeartbeats 4000000 in
theorem n_Mail (l : Launch) (D : va_G) (cI cZ cS cA : ClassId) (a : Nat) : xn_C l D cI cZ cS cA my_Mail_init mb_Mail_init 1 2 2 427 32 a (.inr (2, [.null, .null, .int 0, .int 0])) [] [] (xe_Mail cI a) := by
  refine xn_start (.inr (2, [.null, .null, .int 0, .int 0])) [] (by decide) rfl (Nat.le_of_ble_eq_true rfl) ?_
  intro p e st m below meth cd0 ls Z hml hr hlk hin hN hAO hl hlow hw
  have hl : lv_has ls 1 [(0, .ref (a))] := hl
  refine lv_aload_n Z.1 Z.2.1 md_Mail_init_0 rfl (lv_at hl 0 rfl) ?_
  refine xn_obj Z (hl.1.trans hml.symm) mo_Mail mo_i mo_c md_Mail_init_1 (Nat.le_of_ble_eq_true rfl) (Nat.le_of_ble_eq_true rfl) ?_
  refine lv_aload_n Z.1 Z.2.1 md_Mail_init_4 rfl (lv_at hl 0 rfl) ?_
  refine lv_sipush (v := nI 420) Z.1 Z.2.1 md_Mail_init_5 (by decide) ?_
  refine xn_newa (atype := .int) (ty := .int) Z hw rfl (Or.inl rfl) mr_int 0 rfl (420) rfl (Nat.le_of_ble_eq_true rfl) 1 420 (Nat.le_of_ble_eq_true rfl) (Nat.le_of_ble_eq_true rfl) (Nat.le_of_ble_eq_true rfl) (Nat.le_of_ble_eq_true rfl) (a + 1) rfl md_Mail_init_8 (fun H hw => ?_)
  have hw : xn_H D tb_cl a [.inr (2, [.null, .null, .int 0, .int 0]), .inl (cI, 420, .inl (fun _ => 0))] st.heap _ _ := hw
  refine xn_put Z hin hw 0 rfl rfl tb_iMail tb_tMail tb_yMail tb_nMail 0 (by decide) mk_Mail_9 rfl rfl rfl rfl (Nat.le_of_ble_eq_true rfl) rfl md_Mail_init_10 (fun H locs hw => ?_)
  have hw : xn_H D tb_cl a [.inr (2, [.ref (a + 1), .null, .int 0, .int 0]), .inl (cI, 420, .inl (fun _ => 0))] st.heap _ _ := hw
  refine lv_aload_n Z.1 Z.2.1 md_Mail_init_13 rfl (lv_at hl 0 rfl) ?_
  refine xn_new Z hw (ci := 3) rfl tb_iMsg tb_tMsg tb_yMsg mk_Mail_13 mn_Msg mz_Msg [.int 0, .int 0, .int 0, .int 0, .int 0, .int 0, .int 0] mf_Msg 2 427 (Nat.le_of_ble_eq_true rfl) (Nat.le_of_ble_eq_true rfl) (Nat.le_of_ble_eq_true rfl) (Nat.le_of_ble_eq_true rfl) (a + 2) rfl md_Mail_init_14 (fun H hw => ?_)
  have hw : xn_H D tb_cl a [.inr (2, [.ref (a + 1), .null, .int 0, .int 0]), .inl (cI, 420, .inl (fun _ => 0)), .inr (3, [.int 0, .int 0, .int 0, .int 0, .int 0, .int 0, .int 0])] st.heap _ _ := hw
  refine lv_dup Z.1 Z.2.1 md_Mail_init_17 rfl ?_
  have hw : xn_H D tb_cl a ([.inr (2, [.ref (a + 1), .null, .int 0, .int 0]), .inl (cI, 420, .inl (fun _ => 0))] ++ [.inr (3, [.int 0, .int 0, .int 0, .int 0, .int 0, .int 0, .int 0])]) st.heap _ _ := hw
  refine xn_cIN (n := 0) (rest := [.ref (a + 2), .ref (a)]) Z hml hl.1 hN hAO hw rfl (n_Msg l D cI cZ cS cA (a + 2)) (fun q h => by cases h) tb_g mc_Msg_init (host := "FastBallots") (List.mem_of_getElem? (i := 1) rfl) mi_Msg_init mz_Msg (by decide) ⟨by decide, by decide, by decide +kernel⟩ ⟨(Nat.le_of_ble_eq_true rfl), (Nat.le_of_ble_eq_true rfl)⟩ rfl rfl (Nat.le_of_ble_eq_true rfl) ⟨(Nat.le_of_ble_eq_true rfl), (Nat.le_of_ble_eq_true rfl)⟩ md_Mail_init_18 (fun H locs hw => ?_)
  have hw : xn_H D tb_cl a [.inr (2, [.ref (a + 1), .null, .int 0, .int 0]), .inl (cI, 420, .inl (fun _ => 0)), .inr (3, [.int 0, .int 0, .int 0, .int 0, .int 0, .int 0, .int 0])] st.heap _ _ := hw
  refine xn_put Z hin hw 0 rfl rfl tb_iMail tb_tMail tb_yMail tb_nMail 1 (by decide) mk_Mail_16 rfl rfl rfl rfl (Nat.le_of_ble_eq_true rfl) rfl md_Mail_init_21 (fun H locs hw => ?_)
  have hw : xn_H D tb_cl a [.inr (2, [.ref (a + 1), .ref (a + 2), .int 0, .int 0]), .inl (cI, 420, .inl (fun _ => 0)), .inr (3, [.int 0, .int 0, .int 0, .int 0, .int 0, .int 0, .int 0])] st.heap _ _ := hw
  exact xn_ret Z hr hlk hw (Nat.le_of_ble_eq_true rfl) (Nat.le_of_ble_eq_true rfl) md_Mail_init_24
set_option maxHeartbeats 4000000 in
theorem n_SizT (l : Launch) (D : va_G) (cI cZ cS cA : ClassId) (a : Nat) {x : Int32} {n q f : Nat} (hx : zx_at x n) (hq : pz_Q n q f) : xn_C l D cI cZ cS cA my_Siz_init mb_Siz_init 6 1 0 0 22 a (.inr (1, [.int 0, .int 0, .int 0])) [] [.int (x), .int (nI (q)), .int (nI (f))] [.inr (1, [.int (nI (n)), .int (nI (q)), .int (nI (f))])] := by
  have hn1 := hx.1; have hn2 := hx.2.1
  refine xn_start (.inr (1, [.int 0, .int 0, .int 0])) [.int (x), .int (nI (q)), .int (nI (f))] (by decide) rfl (Nat.le_of_ble_eq_true rfl) ?_
  intro p e st m below meth cd0 ls Z hml hr hlk hin hN hAO hl hlow hw
  have hl : lv_has ls 6 [(0, .ref (a)), (1, .int (x)), (2, .int (nI (q))), (3, .int (nI (f)))] := hl
  refine lv_aload_n Z.1 Z.2.1 md_Siz_init_0 rfl (lv_at hl 0 rfl) ?_
  refine xn_obj Z (hl.1.trans hml.symm) mo_Siz mo_i mo_c md_Siz_init_1 (Nat.le_of_ble_eq_true rfl) (Nat.le_of_ble_eq_true rfl) ?_
  refine lv_iconst (v := nI 3) Z.1 Z.2.1 md_Siz_init_4 (by decide) ?_
  refine lv_iconst (v := nI 5) Z.1 Z.2.1 md_Siz_init_5 (by decide) ?_
  refine lv_iload_n Z.1 Z.2.1 md_Siz_init_6 rfl (lv_at hl 1 rfl) ?_
  refine va_mmin Z.1 Z.2.1 (hml.trans hl.1.symm) Z.2.2.2.1 (Z.2.2.1 _ (List.mem_cons_of_mem _ mk_Siz_9)) (Z.2.2.1 _ (List.mem_cons_of_mem _ mt_min)) (Z.2.2.1 _ (List.mem_cons_of_mem _ mz_Math)) (Z.2.2.1 _ (List.mem_cons_of_mem _ mc_min)) (Nat.le_of_ble_eq_true rfl) (Nat.le_of_ble_eq_true rfl) (Nat.le_of_ble_eq_true rfl) (Nat.le_of_ble_eq_true rfl) md_Siz_init_7 ?_
  refine va_mmax Z.1 Z.2.1 (hml.trans hl.1.symm) Z.2.2.2.1 (Z.2.2.1 _ (List.mem_cons_of_mem _ mk_Siz_15)) (Z.2.2.1 _ (List.mem_cons_of_mem _ mt_max)) (Z.2.2.1 _ (List.mem_cons_of_mem _ mz_Math)) (Z.2.2.1 _ (List.mem_cons_of_mem _ mc_max)) (Nat.le_of_ble_eq_true rfl) (Nat.le_of_ble_eq_true rfl) (Nat.le_of_ble_eq_true rfl) (Nat.le_of_ble_eq_true rfl) md_Siz_init_10 ?_
  refine xi_re (zx_mm hx) ?_
  refine lv_istore Z.1 Z.2.1 md_Siz_init_13 hl (by decide) rfl (fun ls hl => ?_)
  have hl : lv_has ls 6 [(4, .int (nI (n))), (0, .ref (a)), (1, .int (x)), (2, .int (nI (q))), (3, .int (nI (f)))] := hl
  refine lv_iload Z.1 Z.2.1 md_Siz_init_15 (lv_at hl 0 rfl) ?_
  refine lv_iload_n Z.1 Z.2.1 md_Siz_init_17 rfl (lv_at hl 3 rfl) ?_
  refine lv_iload_n Z.1 Z.2.1 md_Siz_init_18 rfl (lv_at hl 4 rfl) ?_
  refine xo_cS (n := 3) (rest := []) Z Z.2.2.2.2 hml hl.1 (ar_T l D _ hq) ar_blind (fun _ _ _ => trivial) mc_Siz_areQuorums mk_Siz_18 mt_Siz_areQuorums mz_Siz ⟨by decide, by decide, by decide +kernel⟩ ⟨(Nat.le_of_ble_eq_true rfl), (Nat.le_of_ble_eq_true rfl)⟩ rfl rfl (Nat.le_of_ble_eq_true rfl) ⟨(Nat.le_of_ble_eq_true rfl), (Nat.le_of_ble_eq_true rfl)⟩ md_Siz_init_19 ?_
  refine lv_istore Z.1 Z.2.1 md_Siz_init_22 hl (by decide) rfl (fun ls hl => ?_)
  have hl : lv_has ls 6 [(5, .int (nI (1))), (4, .int (nI (n))), (0, .ref (a)), (1, .int (x)), (2, .int (nI (q))), (3, .int (nI (f)))] := hl
  refine lv_aload_n Z.1 Z.2.1 md_Siz_init_24 rfl (lv_at hl 2 rfl) ?_
  refine lv_iload Z.1 Z.2.1 md_Siz_init_25 (lv_at hl 1 rfl) ?_
  refine xn_put Z hin hw 0 rfl rfl tb_iSiz tb_tSiz tb_ySiz tb_nSiz 0 (by decide) mk_Siz_24 rfl rfl rfl rfl (Nat.le_of_ble_eq_true rfl) rfl md_Siz_init_27 (fun H locs hw => ?_)
  have hw : xn_H D tb_cl a [.inr (1, [.int (nI (n)), .int 0, .int 0])] st.heap _ _ := hw
  refine lv_aload_n Z.1 Z.2.1 md_Siz_init_30 rfl (lv_at hl 2 rfl) ?_
  refine lv_iload Z.1 Z.2.1 md_Siz_init_31 (lv_at hl 0 rfl) ?_
  refine xi_if_eq (tgt := 40) Z md_Siz_init_33 (by decide) (by omega) (fun h33 => by exfalso; omega) (fun h33 => ?_)
  refine lv_iload_n Z.1 Z.2.1 md_Siz_init_36 rfl (lv_at hl 4 rfl) ?_
  refine lv_goto (tgt := 46) Z.1 Z.2.1 md_Siz_init_37 (by decide) ?_
  refine xn_put Z hin hw 0 rfl rfl tb_iSiz tb_tSiz tb_ySiz tb_nSiz 1 (by decide) mk_Siz_28 rfl rfl rfl rfl (Nat.le_of_ble_eq_true rfl) rfl md_Siz_init_46 (fun H locs hw => ?_)
  have hw : xn_H D tb_cl a [.inr (1, [.int (nI (n)), .int (nI (q)), .int 0])] st.heap _ _ := hw
  refine lv_aload_n Z.1 Z.2.1 md_Siz_init_49 rfl (lv_at hl 2 rfl) ?_
  refine lv_iload Z.1 Z.2.1 md_Siz_init_50 (lv_at hl 0 rfl) ?_
  refine xi_if_eq (tgt := 59) Z md_Siz_init_52 (by decide) (by omega) (fun h52 => by exfalso; omega) (fun h52 => ?_)
  refine lv_iload_n Z.1 Z.2.1 md_Siz_init_55 rfl (lv_at hl 5 rfl) ?_
  refine lv_goto (tgt := 67) Z.1 Z.2.1 md_Siz_init_56 (by decide) ?_
  refine xn_put Z hin hw 0 rfl rfl tb_iSiz tb_tSiz tb_ySiz tb_nSiz 2 (by decide) mk_Siz_31 rfl rfl rfl rfl (Nat.le_of_ble_eq_true rfl) rfl md_Siz_init_67 (fun H locs hw => ?_)
  have hw : xn_H D tb_cl a [.inr (1, [.int (nI (n)), .int (nI (q)), .int (nI (f))])] st.heap _ _ := hw
  exact xn_ret Z hr hlk hw (Nat.le_of_ble_eq_true rfl) (Nat.le_of_ble_eq_true rfl) md_Siz_init_70
set_option maxHeartbeats 4000000 in
theorem n_SizF (l : Launch) (D : va_G) (cI cZ cS cA : ClassId) (a : Nat) {x y z : Int32} {n : Nat} (hx : zx_at x n) (hq : zq_o n y z) : xn_C l D cI cZ cS cA my_Siz_init mb_Siz_init 6 1 0 0 22 a (.inr (1, [.int 0, .int 0, .int 0])) [] [.int (x), .int (y), .int (z)] [.inr (1, [.int (nI (n)), .int (nI (n / 2 + 1)), .int (nI ((3 * n + 3) / 4))])] := by
  have hn1 := hx.1; have hn2 := hx.2.1
  refine xn_start (.inr (1, [.int 0, .int 0, .int 0])) [.int (x), .int (y), .int (z)] (by decide) rfl (Nat.le_of_ble_eq_true rfl) ?_
  intro p e st m below meth cd0 ls Z hml hr hlk hin hN hAO hl hlow hw
  have hl : lv_has ls 6 [(0, .ref (a)), (1, .int (x)), (2, .int (y)), (3, .int (z))] := hl
  refine lv_aload_n Z.1 Z.2.1 md_Siz_init_0 rfl (lv_at hl 0 rfl) ?_
  refine xn_obj Z (hl.1.trans hml.symm) mo_Siz mo_i mo_c md_Siz_init_1 (Nat.le_of_ble_eq_true rfl) (Nat.le_of_ble_eq_true rfl) ?_
  refine lv_iconst (v := nI 3) Z.1 Z.2.1 md_Siz_init_4 (by decide) ?_
  refine lv_iconst (v := nI 5) Z.1 Z.2.1 md_Siz_init_5 (by decide) ?_
  refine lv_iload_n Z.1 Z.2.1 md_Siz_init_6 rfl (lv_at hl 1 rfl) ?_
  refine va_mmin Z.1 Z.2.1 (hml.trans hl.1.symm) Z.2.2.2.1 (Z.2.2.1 _ (List.mem_cons_of_mem _ mk_Siz_9)) (Z.2.2.1 _ (List.mem_cons_of_mem _ mt_min)) (Z.2.2.1 _ (List.mem_cons_of_mem _ mz_Math)) (Z.2.2.1 _ (List.mem_cons_of_mem _ mc_min)) (Nat.le_of_ble_eq_true rfl) (Nat.le_of_ble_eq_true rfl) (Nat.le_of_ble_eq_true rfl) (Nat.le_of_ble_eq_true rfl) md_Siz_init_7 ?_
  refine va_mmax Z.1 Z.2.1 (hml.trans hl.1.symm) Z.2.2.2.1 (Z.2.2.1 _ (List.mem_cons_of_mem _ mk_Siz_15)) (Z.2.2.1 _ (List.mem_cons_of_mem _ mt_max)) (Z.2.2.1 _ (List.mem_cons_of_mem _ mz_Math)) (Z.2.2.1 _ (List.mem_cons_of_mem _ mc_max)) (Nat.le_of_ble_eq_true rfl) (Nat.le_of_ble_eq_true rfl) (Nat.le_of_ble_eq_true rfl) (Nat.le_of_ble_eq_true rfl) md_Siz_init_10 ?_
  refine xi_re (zx_mm hx) ?_
  refine lv_istore Z.1 Z.2.1 md_Siz_init_13 hl (by decide) rfl (fun ls hl => ?_)
  have hl : lv_has ls 6 [(4, .int (nI (n))), (0, .ref (a)), (1, .int (x)), (2, .int (y)), (3, .int (z))] := hl
  refine lv_iload Z.1 Z.2.1 md_Siz_init_15 (lv_at hl 0 rfl) ?_
  refine lv_iload_n Z.1 Z.2.1 md_Siz_init_17 rfl (lv_at hl 3 rfl) ?_
  refine lv_iload_n Z.1 Z.2.1 md_Siz_init_18 rfl (lv_at hl 4 rfl) ?_
  refine xo_cS (n := 3) (rest := []) Z Z.2.2.2.2 hml hl.1 (ar_F l D _ hq) ar_blind (fun _ _ _ => trivial) mc_Siz_areQuorums mk_Siz_18 mt_Siz_areQuorums mz_Siz ⟨by decide, by decide, by decide +kernel⟩ ⟨(Nat.le_of_ble_eq_true rfl), (Nat.le_of_ble_eq_true rfl)⟩ rfl rfl (Nat.le_of_ble_eq_true rfl) ⟨(Nat.le_of_ble_eq_true rfl), (Nat.le_of_ble_eq_true rfl)⟩ md_Siz_init_19 ?_
  refine lv_istore Z.1 Z.2.1 md_Siz_init_22 hl (by decide) rfl (fun ls hl => ?_)
  have hl : lv_has ls 6 [(5, .int (nI (0))), (4, .int (nI (n))), (0, .ref (a)), (1, .int (x)), (2, .int (y)), (3, .int (z))] := hl
  refine lv_aload_n Z.1 Z.2.1 md_Siz_init_24 rfl (lv_at hl 2 rfl) ?_
  refine lv_iload Z.1 Z.2.1 md_Siz_init_25 (lv_at hl 1 rfl) ?_
  refine xn_put Z hin hw 0 rfl rfl tb_iSiz tb_tSiz tb_ySiz tb_nSiz 0 (by decide) mk_Siz_24 rfl rfl rfl rfl (Nat.le_of_ble_eq_true rfl) rfl md_Siz_init_27 (fun H locs hw => ?_)
  have hw : xn_H D tb_cl a [.inr (1, [.int (nI (n)), .int 0, .int 0])] st.heap _ _ := hw
  refine lv_aload_n Z.1 Z.2.1 md_Siz_init_30 rfl (lv_at hl 2 rfl) ?_
  refine lv_iload Z.1 Z.2.1 md_Siz_init_31 (lv_at hl 0 rfl) ?_
  refine xi_if_eq (tgt := 40) Z md_Siz_init_33 (by decide) (by omega) (fun h33 => ?_) (fun h33 => by exfalso; omega)
  refine lv_iload Z.1 Z.2.1 md_Siz_init_40 (lv_at hl 1 rfl) ?_
  refine lv_iconst (v := nI 2) Z.1 Z.2.1 md_Siz_init_42 (by decide) ?_
  refine xi_div Z md_Siz_init_43 (by omega) (by omega) (by omega) ?_
  refine lv_iconst (v := nI 1) Z.1 Z.2.1 md_Siz_init_44 (by decide) ?_
  refine xi_add Z md_Siz_init_45 ?_
  refine xn_put Z hin hw 0 rfl rfl tb_iSiz tb_tSiz tb_ySiz tb_nSiz 1 (by decide) mk_Siz_28 rfl rfl rfl rfl (Nat.le_of_ble_eq_true rfl) rfl md_Siz_init_46 (fun H locs hw => ?_)
  have hw : xn_H D tb_cl a [.inr (1, [.int (nI (n)), .int (nI ((n / 2) + 1)), .int 0])] st.heap _ _ := hw
  refine lv_aload_n Z.1 Z.2.1 md_Siz_init_49 rfl (lv_at hl 2 rfl) ?_
  refine lv_iload Z.1 Z.2.1 md_Siz_init_50 (lv_at hl 0 rfl) ?_
  refine xi_if_eq (tgt := 59) Z md_Siz_init_52 (by decide) (by omega) (fun h52 => ?_) (fun h52 => by exfalso; omega)
  refine lv_iconst (v := nI 3) Z.1 Z.2.1 md_Siz_init_59 (by decide) ?_
  refine lv_iload Z.1 Z.2.1 md_Siz_init_60 (lv_at hl 1 rfl) ?_
  refine xi_mul Z md_Siz_init_62 ?_
  refine lv_iconst (v := nI 3) Z.1 Z.2.1 md_Siz_init_63 (by decide) ?_
  refine xi_add Z md_Siz_init_64 ?_
  refine lv_iconst (v := nI 4) Z.1 Z.2.1 md_Siz_init_65 (by decide) ?_
  refine xi_div Z md_Siz_init_66 (by omega) (by omega) (by omega) ?_
  refine xn_put Z hin hw 0 rfl rfl tb_iSiz tb_tSiz tb_ySiz tb_nSiz 2 (by decide) mk_Siz_31 rfl rfl rfl rfl (Nat.le_of_ble_eq_true rfl) rfl md_Siz_init_67 (fun H locs hw => ?_)
  have hw : xn_H D tb_cl a [.inr (1, [.int (nI (n)), .int (nI ((n / 2) + 1)), .int (nI (((3 * n) + 3) / 4))])] st.heap _ _ := hw
  exact xn_ret Z hr hlk hw (Nat.le_of_ble_eq_true rfl) (Nat.le_of_ble_eq_true rfl) md_Siz_init_70
set_option maxHeartbeats 4000000 in
theorem n_SizG (l : Launch) (D : va_G) (cI cZ cS cA : ClassId) (a : Nat) {x : Int32} {n q f : Nat} (hx : zx_at x n) (hq : zq_b n q f) : xn_C l D cI cZ cS cA my_Siz_init mb_Siz_init 6 1 0 0 22 a (.inr (1, [.int 0, .int 0, .int 0])) [] [.int (x), .int (nI (q)), .int (nI (f))] [.inr (1, [.int (nI (n)), .int (nI (n / 2 + 1)), .int (nI ((3 * n + 3) / 4))])] := by
  have hn1 := hx.1; have hn2 := hx.2.1
  refine xn_start (.inr (1, [.int 0, .int 0, .int 0])) [.int (x), .int (nI (q)), .int (nI (f))] (by decide) rfl (Nat.le_of_ble_eq_true rfl) ?_
  intro p e st m below meth cd0 ls Z hml hr hlk hin hN hAO hl hlow hw
  have hl : lv_has ls 6 [(0, .ref (a)), (1, .int (x)), (2, .int (nI (q))), (3, .int (nI (f)))] := hl
  refine lv_aload_n Z.1 Z.2.1 md_Siz_init_0 rfl (lv_at hl 0 rfl) ?_
  refine xn_obj Z (hl.1.trans hml.symm) mo_Siz mo_i mo_c md_Siz_init_1 (Nat.le_of_ble_eq_true rfl) (Nat.le_of_ble_eq_true rfl) ?_
  refine lv_iconst (v := nI 3) Z.1 Z.2.1 md_Siz_init_4 (by decide) ?_
  refine lv_iconst (v := nI 5) Z.1 Z.2.1 md_Siz_init_5 (by decide) ?_
  refine lv_iload_n Z.1 Z.2.1 md_Siz_init_6 rfl (lv_at hl 1 rfl) ?_
  refine va_mmin Z.1 Z.2.1 (hml.trans hl.1.symm) Z.2.2.2.1 (Z.2.2.1 _ (List.mem_cons_of_mem _ mk_Siz_9)) (Z.2.2.1 _ (List.mem_cons_of_mem _ mt_min)) (Z.2.2.1 _ (List.mem_cons_of_mem _ mz_Math)) (Z.2.2.1 _ (List.mem_cons_of_mem _ mc_min)) (Nat.le_of_ble_eq_true rfl) (Nat.le_of_ble_eq_true rfl) (Nat.le_of_ble_eq_true rfl) (Nat.le_of_ble_eq_true rfl) md_Siz_init_7 ?_
  refine va_mmax Z.1 Z.2.1 (hml.trans hl.1.symm) Z.2.2.2.1 (Z.2.2.1 _ (List.mem_cons_of_mem _ mk_Siz_15)) (Z.2.2.1 _ (List.mem_cons_of_mem _ mt_max)) (Z.2.2.1 _ (List.mem_cons_of_mem _ mz_Math)) (Z.2.2.1 _ (List.mem_cons_of_mem _ mc_max)) (Nat.le_of_ble_eq_true rfl) (Nat.le_of_ble_eq_true rfl) (Nat.le_of_ble_eq_true rfl) (Nat.le_of_ble_eq_true rfl) md_Siz_init_10 ?_
  refine xi_re (zx_mm hx) ?_
  refine lv_istore Z.1 Z.2.1 md_Siz_init_13 hl (by decide) rfl (fun ls hl => ?_)
  have hl : lv_has ls 6 [(4, .int (nI (n))), (0, .ref (a)), (1, .int (x)), (2, .int (nI (q))), (3, .int (nI (f)))] := hl
  refine lv_iload Z.1 Z.2.1 md_Siz_init_15 (lv_at hl 0 rfl) ?_
  refine lv_iload_n Z.1 Z.2.1 md_Siz_init_17 rfl (lv_at hl 3 rfl) ?_
  refine lv_iload_n Z.1 Z.2.1 md_Siz_init_18 rfl (lv_at hl 4 rfl) ?_
  refine xo_cS (n := 3) (rest := []) Z Z.2.2.2.2 hml hl.1 (ar_G l D _ hq) ar_blind (fun _ _ _ => trivial) mc_Siz_areQuorums mk_Siz_18 mt_Siz_areQuorums mz_Siz ⟨by decide, by decide, by decide +kernel⟩ ⟨(Nat.le_of_ble_eq_true rfl), (Nat.le_of_ble_eq_true rfl)⟩ rfl rfl (Nat.le_of_ble_eq_true rfl) ⟨(Nat.le_of_ble_eq_true rfl), (Nat.le_of_ble_eq_true rfl)⟩ md_Siz_init_19 ?_
  refine lv_istore Z.1 Z.2.1 md_Siz_init_22 hl (by decide) rfl (fun ls hl => ?_)
  have hl : lv_has ls 6 [(5, .int (nI (0))), (4, .int (nI (n))), (0, .ref (a)), (1, .int (x)), (2, .int (nI (q))), (3, .int (nI (f)))] := hl
  refine lv_aload_n Z.1 Z.2.1 md_Siz_init_24 rfl (lv_at hl 2 rfl) ?_
  refine lv_iload Z.1 Z.2.1 md_Siz_init_25 (lv_at hl 1 rfl) ?_
  refine xn_put Z hin hw 0 rfl rfl tb_iSiz tb_tSiz tb_ySiz tb_nSiz 0 (by decide) mk_Siz_24 rfl rfl rfl rfl (Nat.le_of_ble_eq_true rfl) rfl md_Siz_init_27 (fun H locs hw => ?_)
  have hw : xn_H D tb_cl a [.inr (1, [.int (nI (n)), .int 0, .int 0])] st.heap _ _ := hw
  refine lv_aload_n Z.1 Z.2.1 md_Siz_init_30 rfl (lv_at hl 2 rfl) ?_
  refine lv_iload Z.1 Z.2.1 md_Siz_init_31 (lv_at hl 0 rfl) ?_
  refine xi_if_eq (tgt := 40) Z md_Siz_init_33 (by decide) (by omega) (fun h33 => ?_) (fun h33 => by exfalso; omega)
  refine lv_iload Z.1 Z.2.1 md_Siz_init_40 (lv_at hl 1 rfl) ?_
  refine lv_iconst (v := nI 2) Z.1 Z.2.1 md_Siz_init_42 (by decide) ?_
  refine xi_div Z md_Siz_init_43 (by omega) (by omega) (by omega) ?_
  refine lv_iconst (v := nI 1) Z.1 Z.2.1 md_Siz_init_44 (by decide) ?_
  refine xi_add Z md_Siz_init_45 ?_
  refine xn_put Z hin hw 0 rfl rfl tb_iSiz tb_tSiz tb_ySiz tb_nSiz 1 (by decide) mk_Siz_28 rfl rfl rfl rfl (Nat.le_of_ble_eq_true rfl) rfl md_Siz_init_46 (fun H locs hw => ?_)
  have hw : xn_H D tb_cl a [.inr (1, [.int (nI (n)), .int (nI ((n / 2) + 1)), .int 0])] st.heap _ _ := hw
  refine lv_aload_n Z.1 Z.2.1 md_Siz_init_49 rfl (lv_at hl 2 rfl) ?_
  refine lv_iload Z.1 Z.2.1 md_Siz_init_50 (lv_at hl 0 rfl) ?_
  refine xi_if_eq (tgt := 59) Z md_Siz_init_52 (by decide) (by omega) (fun h52 => ?_) (fun h52 => by exfalso; omega)
  refine lv_iconst (v := nI 3) Z.1 Z.2.1 md_Siz_init_59 (by decide) ?_
  refine lv_iload Z.1 Z.2.1 md_Siz_init_60 (lv_at hl 1 rfl) ?_
  refine xi_mul Z md_Siz_init_62 ?_
  refine lv_iconst (v := nI 3) Z.1 Z.2.1 md_Siz_init_63 (by decide) ?_
  refine xi_add Z md_Siz_init_64 ?_
  refine lv_iconst (v := nI 4) Z.1 Z.2.1 md_Siz_init_65 (by decide) ?_
  refine xi_div Z md_Siz_init_66 (by omega) (by omega) (by omega) ?_
  refine xn_put Z hin hw 0 rfl rfl tb_iSiz tb_tSiz tb_ySiz tb_nSiz 2 (by decide) mk_Siz_31 rfl rfl rfl rfl (Nat.le_of_ble_eq_true rfl) rfl md_Siz_init_67 (fun H locs hw => ?_)
  have hw : xn_H D tb_cl a [.inr (1, [.int (nI (n)), .int (nI ((n / 2) + 1)), .int (nI (((3 * n) + 3) / 4))])] st.heap _ _ := hw
  exact xn_ret Z hr hlk hw (Nat.le_of_ble_eq_true rfl) (Nat.le_of_ble_eq_true rfl) md_Siz_init_70
theorem n_Siz (l : Launch) (D : va_G) (cI cZ cS cA : ClassId) (a : Nat) {x y z : Int32} {n q f : Nat} (hx : zx_at x n) (hq : zq_at n y z q f) : xn_C l D cI cZ cS cA my_Siz_init mb_Siz_init 6 1 0 0 22 a (.inr (1, [.int 0, .int 0, .int 0])) [] [.int x, .int y, .int z] [.inr (1, [.int (nI (n)), .int (nI (q)), .int (nI (f))])] := by
  rcases hq with ⟨rfl, rfl, hQ⟩ | ⟨ho | ⟨q1, f1, rfl, rfl, hb⟩, rfl, rfl⟩
  · exact n_SizT l D cI cZ cS cA a hx hQ
  · exact n_SizF l D cI cZ cS cA a hx ho
  · exact n_SizG l D cI cZ cS cA a hx hb
def xe_Tal (cI : ClassId) (n siz a : Nat) : List va_E := [.inr (6, [.ref siz, .ref (a + 1), .int 0]), .inl (cI, 13 * n, .inl (fun _ => 0))]
set_option maxHeartbeats 4000000 in
theorem n_Tal (l : Launch) (D : va_G) (cI cZ cS cA : ClassId) (a : Nat) (siz : Nat) {n q f : Nat} (hn : n ≤ 5) : xn_C l D cI cZ cS cA my_Tal_init mb_Tal_init 2 1 1 65 12 a (.inr (6, [.null, .null, .int 0])) [(siz, .inr (1, [.int (nI (n)), .int (nI (q)), .int (nI (f))]))] [.ref (siz)] (xe_Tal cI n siz a) := by
  refine xn_start (.inr (6, [.null, .null, .int 0])) [.ref (siz)] (by decide) rfl (Nat.le_of_ble_eq_true rfl) ?_
  intro p e st m below meth cd0 ls Z hml hr hlk hin hN hAO hl hlow hw
  have hl : lv_has ls 2 [(0, .ref (a)), (1, .ref (siz))] := hl
  refine lv_aload_n Z.1 Z.2.1 md_Tal_init_0 rfl (lv_at hl 0 rfl) ?_
  refine xn_obj Z (hl.1.trans hml.symm) mo_Tal mo_i mo_c md_Tal_init_1 (Nat.le_of_ble_eq_true rfl) (Nat.le_of_ble_eq_true rfl) ?_
  refine lv_aload_n Z.1 Z.2.1 md_Tal_init_4 rfl (lv_at hl 0 rfl) ?_
  refine lv_aload_n Z.1 Z.2.1 md_Tal_init_5 rfl (lv_at hl 1 rfl) ?_
  refine xn_put Z hin hw 0 rfl rfl tb_iTal tb_tTal tb_yTal tb_nTal 0 (by decide) mk_Tal_9 rfl rfl rfl rfl (Nat.le_of_ble_eq_true rfl) rfl md_Tal_init_6 (fun H locs hw => ?_)
  have hw : xn_H D tb_cl a [.inr (6, [.ref (siz), .null, .int 0])] st.heap _ _ := hw
  refine lv_aload_n Z.1 Z.2.1 md_Tal_init_9 rfl (lv_at hl 0 rfl) ?_
  refine lv_bipush (v := nI 13) Z.1 Z.2.1 md_Tal_init_10 (by decide) ?_
  refine lv_aload_n Z.1 Z.2.1 md_Tal_init_12 rfl (lv_at hl 1 rfl) ?_
  refine xn_get (v := .int (nI (n))) Z (xn_low hlow hw.2 (List.mem_of_getElem? (i := 0) rfl)) rfl tb_iSiz 0 (by decide) mk_Tal_15 rfl rfl md_Tal_init_13 ?_
  refine xi_mul Z md_Tal_init_16 ?_
  refine xn_newa (atype := .int) (ty := .int) Z hw rfl (Or.inl rfl) mr_int 0 rfl (13 * n) rfl (by omega) 1 65 (Nat.le_of_ble_eq_true rfl) (by omega) (Nat.le_of_ble_eq_true rfl) (Nat.le_of_ble_eq_true rfl) (a + 1) rfl md_Tal_init_17 (fun H hw => ?_)
  have hw : xn_H D tb_cl a [.inr (6, [.ref (siz), .null, .int 0]), .inl (cI, 13 * n, .inl (fun _ => 0))] st.heap _ _ := hw
  refine xn_put Z hin hw 0 rfl rfl tb_iTal tb_tTal tb_yTal tb_nTal 1 (by decide) mk_Tal_21 rfl rfl rfl rfl (Nat.le_of_ble_eq_true rfl) rfl md_Tal_init_19 (fun H locs hw => ?_)
  have hw : xn_H D tb_cl a [.inr (6, [.ref (siz), .ref (a + 1), .int 0]), .inl (cI, 13 * n, .inl (fun _ => 0))] st.heap _ _ := hw
  exact xn_ret Z hr hlk hw (Nat.le_of_ble_eq_true rfl) (Nat.le_of_ble_eq_true rfl) md_Tal_init_22
def xe_Cor (cI cZ : ClassId) (n siz mail i a : Nat) : List va_E := [.inr (5, [.int (nI i), .ref siz, .ref mail, .int 0, .int 0, .int 0, .ref (a + 1), .ref (a + 2), .ref (a + 3), .int 0]), .inl (cZ, n, .inl (fun _ => 0)), .inl (cI, n, .inl (fun _ => 0)), .inl (cI, n, .inl (fun _ => 0))]
set_option maxHeartbeats 4000000 in
theorem n_Cor (l : Launch) (D : va_G) (cI cZ cS cA : ClassId) (a : Nat) (mail i : Nat) (siz : Nat) {n q f : Nat} (hn : n ≤ 5) : xn_C l D cI cZ cS cA my_Cor_init mb_Cor_init 4 1 3 15 12 a (.inr (5, [.int 0, .null, .null, .int 0, .int 0, .int 0, .null, .null, .null, .int 0])) [(siz, .inr (1, [.int (nI (n)), .int (nI (q)), .int (nI (f))]))] [.int (nI (i)), .ref (siz), .ref (mail)] (xe_Cor cI cZ n siz mail i a) := by
  refine xn_start (.inr (5, [.int 0, .null, .null, .int 0, .int 0, .int 0, .null, .null, .null, .int 0])) [.int (nI (i)), .ref (siz), .ref (mail)] (by decide) rfl (Nat.le_of_ble_eq_true rfl) ?_
  intro p e st m below meth cd0 ls Z hml hr hlk hin hN hAO hl hlow hw
  have hl : lv_has ls 4 [(0, .ref (a)), (1, .int (nI (i))), (2, .ref (siz)), (3, .ref (mail))] := hl
  refine lv_aload_n Z.1 Z.2.1 md_Cor_init_0 rfl (lv_at hl 0 rfl) ?_
  refine xn_obj Z (hl.1.trans hml.symm) mo_Cor mo_i mo_c md_Cor_init_1 (Nat.le_of_ble_eq_true rfl) (Nat.le_of_ble_eq_true rfl) ?_
  refine lv_aload_n Z.1 Z.2.1 md_Cor_init_4 rfl (lv_at hl 0 rfl) ?_
  refine lv_iload_n Z.1 Z.2.1 md_Cor_init_5 rfl (lv_at hl 1 rfl) ?_
  refine xn_put Z hin hw 0 rfl rfl tb_iCor tb_tCor tb_yCor tb_nCor 0 (by decide) mk_Cor_9 rfl rfl rfl rfl (Nat.le_of_ble_eq_true rfl) rfl md_Cor_init_6 (fun H locs hw => ?_)
  have hw : xn_H D tb_cl a [.inr (5, [.int (nI (i)), .null, .null, .int 0, .int 0, .int 0, .null, .null, .null, .int 0])] st.heap _ _ := hw
  refine lv_aload_n Z.1 Z.2.1 md_Cor_init_9 rfl (lv_at hl 0 rfl) ?_
  refine lv_aload_n Z.1 Z.2.1 md_Cor_init_10 rfl (lv_at hl 2 rfl) ?_
  refine xn_put Z hin hw 0 rfl rfl tb_iCor tb_tCor tb_yCor tb_nCor 1 (by decide) mk_Cor_15 rfl rfl rfl rfl (Nat.le_of_ble_eq_true rfl) rfl md_Cor_init_11 (fun H locs hw => ?_)
  have hw : xn_H D tb_cl a [.inr (5, [.int (nI (i)), .ref (siz), .null, .int 0, .int 0, .int 0, .null, .null, .null, .int 0])] st.heap _ _ := hw
  refine lv_aload_n Z.1 Z.2.1 md_Cor_init_14 rfl (lv_at hl 0 rfl) ?_
  refine lv_aload_n Z.1 Z.2.1 md_Cor_init_15 rfl (lv_at hl 3 rfl) ?_
  refine xn_put Z hin hw 0 rfl rfl tb_iCor tb_tCor tb_yCor tb_nCor 2 (by decide) mk_Cor_19 rfl rfl rfl rfl (Nat.le_of_ble_eq_true rfl) rfl md_Cor_init_16 (fun H locs hw => ?_)
  have hw : xn_H D tb_cl a [.inr (5, [.int (nI (i)), .ref (siz), .ref (mail), .int 0, .int 0, .int 0, .null, .null, .null, .int 0])] st.heap _ _ := hw
  refine lv_aload_n Z.1 Z.2.1 md_Cor_init_19 rfl (lv_at hl 0 rfl) ?_
  refine lv_aload_n Z.1 Z.2.1 md_Cor_init_20 rfl (lv_at hl 2 rfl) ?_
  refine xn_get (v := .int (nI (n))) Z (xn_low hlow hw.2 (List.mem_of_getElem? (i := 0) rfl)) rfl tb_iSiz 0 (by decide) mk_Cor_23 rfl rfl md_Cor_init_21 ?_
  refine xn_newa (atype := .boolean) (ty := .boolean) Z hw rfl (Or.inr rfl) mr_boolean 1 rfl (n) rfl (by omega) 1 5 (Nat.le_of_ble_eq_true rfl) (by omega) (Nat.le_of_ble_eq_true rfl) (Nat.le_of_ble_eq_true rfl) (a + 1) rfl md_Cor_init_24 (fun H hw => ?_)
  have hw : xn_H D tb_cl a [.inr (5, [.int (nI (i)), .ref (siz), .ref (mail), .int 0, .int 0, .int 0, .null, .null, .null, .int 0]), .inl (cZ, n, .inl (fun _ => 0))] st.heap _ _ := hw
  refine xn_put Z hin hw 0 rfl rfl tb_iCor tb_tCor tb_yCor tb_nCor 6 (by decide) mk_Cor_28 rfl rfl rfl rfl (Nat.le_of_ble_eq_true rfl) rfl md_Cor_init_26 (fun H locs hw => ?_)
  have hw : xn_H D tb_cl a [.inr (5, [.int (nI (i)), .ref (siz), .ref (mail), .int 0, .int 0, .int 0, .ref (a + 1), .null, .null, .int 0]), .inl (cZ, n, .inl (fun _ => 0))] st.heap _ _ := hw
  refine lv_aload_n Z.1 Z.2.1 md_Cor_init_29 rfl (lv_at hl 0 rfl) ?_
  refine lv_aload_n Z.1 Z.2.1 md_Cor_init_30 rfl (lv_at hl 2 rfl) ?_
  refine xn_get (v := .int (nI (n))) Z (xn_low hlow hw.2 (List.mem_of_getElem? (i := 0) rfl)) rfl tb_iSiz 0 (by decide) mk_Cor_23 rfl rfl md_Cor_init_31 ?_
  refine xn_newa (atype := .int) (ty := .int) Z hw rfl (Or.inl rfl) mr_int 0 rfl (n) rfl (by omega) 2 10 (Nat.le_of_ble_eq_true rfl) (by omega) (Nat.le_of_ble_eq_true rfl) (Nat.le_of_ble_eq_true rfl) (a + 2) rfl md_Cor_init_34 (fun H hw => ?_)
  have hw : xn_H D tb_cl a [.inr (5, [.int (nI (i)), .ref (siz), .ref (mail), .int 0, .int 0, .int 0, .ref (a + 1), .null, .null, .int 0]), .inl (cZ, n, .inl (fun _ => 0)), .inl (cI, n, .inl (fun _ => 0))] st.heap _ _ := hw
  refine xn_put Z hin hw 0 rfl rfl tb_iCor tb_tCor tb_yCor tb_nCor 7 (by decide) mk_Cor_32 rfl rfl rfl rfl (Nat.le_of_ble_eq_true rfl) rfl md_Cor_init_36 (fun H locs hw => ?_)
  have hw : xn_H D tb_cl a [.inr (5, [.int (nI (i)), .ref (siz), .ref (mail), .int 0, .int 0, .int 0, .ref (a + 1), .ref (a + 2), .null, .int 0]), .inl (cZ, n, .inl (fun _ => 0)), .inl (cI, n, .inl (fun _ => 0))] st.heap _ _ := hw
  refine lv_aload_n Z.1 Z.2.1 md_Cor_init_39 rfl (lv_at hl 0 rfl) ?_
  refine lv_aload_n Z.1 Z.2.1 md_Cor_init_40 rfl (lv_at hl 2 rfl) ?_
  refine xn_get (v := .int (nI (n))) Z (xn_low hlow hw.2 (List.mem_of_getElem? (i := 0) rfl)) rfl tb_iSiz 0 (by decide) mk_Cor_23 rfl rfl md_Cor_init_41 ?_
  refine xn_newa (atype := .int) (ty := .int) Z hw rfl (Or.inl rfl) mr_int 0 rfl (n) rfl (by omega) 3 15 (Nat.le_of_ble_eq_true rfl) (by omega) (Nat.le_of_ble_eq_true rfl) (Nat.le_of_ble_eq_true rfl) (a + 3) rfl md_Cor_init_44 (fun H hw => ?_)
  have hw : xn_H D tb_cl a [.inr (5, [.int (nI (i)), .ref (siz), .ref (mail), .int 0, .int 0, .int 0, .ref (a + 1), .ref (a + 2), .null, .int 0]), .inl (cZ, n, .inl (fun _ => 0)), .inl (cI, n, .inl (fun _ => 0)), .inl (cI, n, .inl (fun _ => 0))] st.heap _ _ := hw
  refine xn_put Z hin hw 0 rfl rfl tb_iCor tb_tCor tb_yCor tb_nCor 8 (by decide) mk_Cor_36 rfl rfl rfl rfl (Nat.le_of_ble_eq_true rfl) rfl md_Cor_init_46 (fun H locs hw => ?_)
  have hw : xn_H D tb_cl a [.inr (5, [.int (nI (i)), .ref (siz), .ref (mail), .int 0, .int 0, .int 0, .ref (a + 1), .ref (a + 2), .ref (a + 3), .int 0]), .inl (cZ, n, .inl (fun _ => 0)), .inl (cI, n, .inl (fun _ => 0)), .inl (cI, n, .inl (fun _ => 0))] st.heap _ _ := hw
  exact xn_ret Z hr hlk hw (Nat.le_of_ble_eq_true rfl) (Nat.le_of_ble_eq_true rfl) md_Cor_init_49
def xe_Acc (mail cast j i : Nat) : va_E := .inr (7, [.int (nI j), .int (nI i), .ref mail, .ref cast, .int 0, .int 0, .int 0, .int 0, .int 0])
set_option maxHeartbeats 4000000 in
theorem n_Acc (l : Launch) (D : va_G) (cI cZ cS cA : ClassId) (a : Nat) (mail cast j i : Nat) : xn_C l D cI cZ cS cA my_Acc_init mb_Acc_init 5 1 0 0 12 a (.inr (7, [.int 0, .int 0, .null, .null, .int 0, .int 0, .int 0, .int 0, .int 0])) [] [.int (nI (j)), .int (nI (i)), .ref (mail), .ref (cast)] [xe_Acc mail cast j i] := by
  refine xn_start (.inr (7, [.int 0, .int 0, .null, .null, .int 0, .int 0, .int 0, .int 0, .int 0])) [.int (nI (j)), .int (nI (i)), .ref (mail), .ref (cast)] (by decide) rfl (Nat.le_of_ble_eq_true rfl) ?_
  intro p e st m below meth cd0 ls Z hml hr hlk hin hN hAO hl hlow hw
  have hl : lv_has ls 5 [(0, .ref (a)), (1, .int (nI (j))), (2, .int (nI (i))), (3, .ref (mail)), (4, .ref (cast))] := hl
  refine lv_aload_n Z.1 Z.2.1 md_Acc_init_0 rfl (lv_at hl 0 rfl) ?_
  refine xn_obj Z (hl.1.trans hml.symm) mo_Acc mo_i mo_c md_Acc_init_1 (Nat.le_of_ble_eq_true rfl) (Nat.le_of_ble_eq_true rfl) ?_
  refine lv_aload_n Z.1 Z.2.1 md_Acc_init_4 rfl (lv_at hl 0 rfl) ?_
  refine lv_iload_n Z.1 Z.2.1 md_Acc_init_5 rfl (lv_at hl 1 rfl) ?_
  refine xn_put Z hin hw 0 rfl rfl tb_iAcc tb_tAcc tb_yAcc tb_nAcc 0 (by decide) mk_Acc_9 rfl rfl rfl rfl (Nat.le_of_ble_eq_true rfl) rfl md_Acc_init_6 (fun H locs hw => ?_)
  have hw : xn_H D tb_cl a [.inr (7, [.int (nI (j)), .int 0, .null, .null, .int 0, .int 0, .int 0, .int 0, .int 0])] st.heap _ _ := hw
  refine lv_aload_n Z.1 Z.2.1 md_Acc_init_9 rfl (lv_at hl 0 rfl) ?_
  refine lv_iload_n Z.1 Z.2.1 md_Acc_init_10 rfl (lv_at hl 2 rfl) ?_
  refine xn_put Z hin hw 0 rfl rfl tb_iAcc tb_tAcc tb_yAcc tb_nAcc 1 (by decide) mk_Acc_15 rfl rfl rfl rfl (Nat.le_of_ble_eq_true rfl) rfl md_Acc_init_11 (fun H locs hw => ?_)
  have hw : xn_H D tb_cl a [.inr (7, [.int (nI (j)), .int (nI (i)), .null, .null, .int 0, .int 0, .int 0, .int 0, .int 0])] st.heap _ _ := hw
  refine lv_aload_n Z.1 Z.2.1 md_Acc_init_14 rfl (lv_at hl 0 rfl) ?_
  refine lv_aload_n Z.1 Z.2.1 md_Acc_init_15 rfl (lv_at hl 3 rfl) ?_
  refine xn_put Z hin hw 0 rfl rfl tb_iAcc tb_tAcc tb_yAcc tb_nAcc 2 (by decide) mk_Acc_18 rfl rfl rfl rfl (Nat.le_of_ble_eq_true rfl) rfl md_Acc_init_16 (fun H locs hw => ?_)
  have hw : xn_H D tb_cl a [.inr (7, [.int (nI (j)), .int (nI (i)), .ref (mail), .null, .int 0, .int 0, .int 0, .int 0, .int 0])] st.heap _ _ := hw
  refine lv_aload_n Z.1 Z.2.1 md_Acc_init_19 rfl (lv_at hl 0 rfl) ?_
  refine lv_aload Z.1 Z.2.1 md_Acc_init_20 (lv_at hl 4 rfl) ?_
  refine xn_put Z hin hw 0 rfl rfl tb_iAcc tb_tAcc tb_yAcc tb_nAcc 3 (by decide) mk_Acc_22 rfl rfl rfl rfl (Nat.le_of_ble_eq_true rfl) rfl md_Acc_init_22 (fun H locs hw => ?_)
  have hw : xn_H D tb_cl a [.inr (7, [.int (nI (j)), .int (nI (i)), .ref (mail), .ref (cast), .int 0, .int 0, .int 0, .int 0, .int 0])] st.heap _ _ := hw
  exact xn_ret Z hr hlk hw (Nat.le_of_ble_eq_true rfl) (Nat.le_of_ble_eq_true rfl) md_Acc_init_25
