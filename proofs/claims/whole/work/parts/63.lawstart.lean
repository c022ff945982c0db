/-! The law: its helper; what is known at its entry. -/
theorem md_Law_cell_0 : decode mb_Law_cell 0 = .ok (.iload_n 1, 1) := by decide +kernel
theorem md_Law_cell_1 : decode mb_Law_cell 1 = .ok (.aload_n 0, 1) := by decide +kernel
theorem md_Law_cell_2 : decode mb_Law_cell 2 = .ok (.arraylength, 1) := by decide +kernel
theorem md_Law_cell_3 : decode mb_Law_cell 3 = .ok (.if_icmp .ge 9, 3) := by decide +kernel
theorem md_Law_cell_6 : decode mb_Law_cell 6 = .ok (.aload_n 0, 1) := by decide +kernel
theorem md_Law_cell_7 : decode mb_Law_cell 7 = .ok (.iload_n 1, 1) := by decide +kernel
theorem md_Law_cell_8 : decode mb_Law_cell 8 = .ok (.iaload, 1) := by decide +kernel
theorem md_Law_cell_9 : decode mb_Law_cell 9 = .ok (.goto 4, 3) := by decide +kernel
theorem md_Law_cell_12 : decode mb_Law_cell 12 = .ok (.iconst 0, 1) := by decide +kernel
theorem md_Law_cell_13 : decode mb_Law_cell 13 = .ok (.ireturn, 1) := by decide +kernel
theorem ce_blind {D : va_G} {tys : List (ClassId × FieldType)} {b L : Nat} {xs : Nat → Int32} {av : List Value} : FrameBlind (xo_Pc D tys (fun U => va_X b L xs U U.heap) av) := fun a U g mk q => ⟨q.1, va_K.moved (u := U) (U := U.calling g mk a) (Vm.Alike.refl U.vm) q.2.1, va_X.moved (u := U) (U := U.calling g mk a) (Vm.Alike.refl U.vm) q.2.2⟩
def ce_v (L : Nat) (xs : Nat → Int32) (k : Nat) : Int32 := if k < L then xs k else 0
set_option maxHeartbeats 1000000 in
theorem ce_C (l : Launch) (D : va_G) (tys : List (ClassId × FieldType)) {b L k : Nat} {xs : Nat → Int32} (hL : L ≤ 2051) (hk : k < 3) : xo_C l D tys (fun U => va_X b L xs U U.heap) my_Law_cell mb_Law_cell 2 (some .int) 0 0 [.ref b, .int (nI k)] (ce_v L xs k) := by
  refine xo_start [.ref b, .int (nI k)] (by decide) (Nat.le_of_ble_eq_true rfl) ?_
  intro p e st m below meth cd0 ls Z hml hr hlk hB hl
  have hl : lv_has ls 2 [(0, .ref b), (1, .int (nI k))] := hl
  have hbl : b < st.heap.size := by obtain ⟨scr, h1, -⟩ := hB; exact (Array.getElem?_eq_some_iff.mp h1).1
  have hS : va_S (fun _ => False) st.heap st.heap [] := va_S.rf
  refine lv_iload_n Z.1 Z.2.1 md_Law_cell_0 rfl (lv_at hl 1 rfl) ?_
  refine lv_aload_n Z.1 Z.2.1 md_Law_cell_1 rfl (lv_at hl 0 rfl) ?_
  refine va_slen Z.1 Z.2.1 hB hbl (fun h => h) hS md_Law_cell_2 ?_
  refine xi_re (show Int32.ofNat L = nI L from rfl) ?_
  refine xi_icmp_ge (tgt := 12) Z md_Law_cell_3 (by decide) (by omega) (by omega) (fun h => ?_) (fun h => ?_)
  · refine lv_iconst (v := 0) Z.1 Z.2.1 md_Law_cell_12 (by decide) ?_
    exact xo_iret Z hr hlk md_Law_cell_13 (by unfold ce_v; rw [if_neg (by omega)])
  · refine lv_aload_n Z.1 Z.2.1 md_Law_cell_6 rfl (lv_at hl 0 rfl) ?_
    refine lv_iload_n Z.1 Z.2.1 md_Law_cell_7 rfl (lv_at hl 1 rfl) ?_
    refine va_sld Z.1 Z.2.1 hB hbl (fun h => h) hS (vp_in_nI (by omega) (by omega)) md_Law_cell_8 ?_
    refine lv_goto (tgt := 13) Z.1 Z.2.1 md_Law_cell_9 (by decide) ?_
    exact xo_iret Z hr hlk md_Law_cell_13 (by rw [nI_clamp (by omega)]; unfold ce_v; rw [if_pos (by omega)])
theorem lk_p {s : State} {args : Array Value} {ty : FieldType} (h : (Cond.arrayClass ty).before args s = true) (hty : ty = .int ∨ ty = .boolean) : ∃ cA, ArrOfT s cA ty ∧ va_RA s cA ty := by
  obtain ⟨c, k, comp, h1, h2, h3⟩ := Cond.arrayClass_spec h
  refine ⟨c, fun n z => ⟨fun k h => (by cases h), k, h2, comp, h3⟩, ?_⟩
  rcases hty with rfl | rfl <;> exact h1
theorem lk_o {s : State} {C : String} (h : va_AO C s) : ∃ cA, ArrOfT s cA (.object C) ∧ va_RA s cA (.object C) := by
  obtain ⟨comp, c, k, h1, h2, h3, h4, h5⟩ := Cond.arrayOver_spec h
  exact ⟨c, fun n z => ⟨fun k h => (by cases h), k, h3, comp, h4⟩, k, comp, h3, h4, h1, h5⟩
theorem lk_AO {s : State} {args : Array Value} (hts : ∀ w ∈ lw_tbl, w.before args s = true) : xn_AO s := ⟨va_AO.of (hts (Cond.arrayOver (.object "FastBallots$Slot")) (List.mem_append_right _ (List.mem_append_left _ (List.mem_of_getElem? (i := 118) rfl)))), va_AO.of (hts (Cond.arrayOver (.object "FastBallots$Acceptor")) (List.mem_append_right _ (List.mem_append_left _ (List.mem_of_getElem? (i := 182) rfl))))⟩
theorem lk_n0 : Cond.methodLinkNest "FastBallots" 20 my_Mail_init "FastBallots" ∈ lw_tbl := (List.mem_append_right _ (List.mem_append_left _ (List.mem_of_getElem? (i := 55) rfl)))
theorem lk_n1 : Cond.methodLinkNest "FastBallots$Mail" 15 my_Msg_init "FastBallots" ∈ lw_tbl := (List.mem_append_right _ (List.mem_append_left _ (List.mem_of_getElem? (i := 61) rfl)))
theorem lk_n2 : Cond.methodLinkNest "FastBallots$Sizes" 34 my_FB_isFast "FastBallots" ∈ lw_tbl := (List.mem_append_right _ (List.mem_append_right _ (List.mem_append_left _ (List.mem_of_getElem? (i := 83) rfl))))
theorem lk_n3 : Cond.methodLinkNest "FastBallots$Coordinator" 103 my_FB_isFast "FastBallots" ∈ lw_tbl := (List.mem_append_right _ (List.mem_append_right _ (List.mem_append_left _ (List.mem_of_getElem? (i := 118) rfl))))
theorem lk_n4 : Cond.methodLinkNest "FastBallots$Acceptor" 67 my_FB_coordinatorOf "FastBallots" ∈ lw_tbl := (List.mem_append_right _ (List.mem_append_right _ (List.mem_append_left _ (List.mem_of_getElem? (i := 168) rfl))))
theorem lk_N {s : State} {args : Array Value} (hts : ∀ w ∈ lw_tbl, w.before args s = true) : xw_N tb_nl s := (List.forall_mem_cons.mpr ⟨va_Nw.of rfl (hts _ lk_n0), (List.forall_mem_cons.mpr ⟨va_Nw.of rfl (hts _ lk_n1), (List.forall_mem_cons.mpr ⟨va_Nw.of rfl (hts _ lk_n2), (List.forall_mem_cons.mpr ⟨va_Nw.of rfl (hts _ lk_n3), (List.forall_mem_cons.mpr ⟨va_Nw.of rfl (hts _ lk_n4), (fun _ h => absurd h List.not_mem_nil)⟩)⟩)⟩)⟩)⟩)
theorem lk_K {s : State} {args : Array Value} (hts : ∀ w ∈ lw_tbl, w.before args s = true) : ∃ (D : va_G) (cI cZ cS cA : ClassId), va_K D tb_cl (fb_ty cI cZ cS cA) s := by
  have T : ∀ w ∈ tb_W, w.before args s = true := fun w h => hts w (List.mem_filter.mp h).1
  obtain ⟨c0, i0, h0⟩ := u_known T tb_iFB (T _ mn_FB)
  obtain ⟨c1, i1, h1⟩ := u_known T tb_iSiz (T _ mn_Siz)
  obtain ⟨c2, i2, h2⟩ := u_known T tb_iMail (T _ mn_Mail)
  obtain ⟨c3, i3, h3⟩ := u_known T tb_iMsg (T _ mn_Msg)
  obtain ⟨c4, i4, h4⟩ := u_known T tb_iSlt (T _ mn_Slt)
  obtain ⟨c5, i5, h5⟩ := u_known T tb_iCor (T _ mn_Cor)
  obtain ⟨c6, i6, h6⟩ := u_known T tb_iTal (T _ mn_Tal)
  obtain ⟨c7, i7, h7⟩ := u_known T tb_iAcc (T _ mn_Acc)
  obtain ⟨c8, i8, h8⟩ := u_known T tb_iMod (T _ mn_Mod)
  obtain ⟨cI, a1, a2⟩ := lk_p (T _ mr_int) (Or.inl rfl)
  obtain ⟨cZ, b1, b2⟩ := lk_p (T _ mr_boolean) (Or.inr rfl)
  obtain ⟨cS, e1, e2⟩ := lk_o (lk_AO hts).1
  obtain ⟨cA, f1, f2⟩ := lk_o (lk_AO hts).2
  refine ⟨(fun c => match c with | 0 => c0 | 1 => c1 | 2 => c2 | 3 => c3 | 4 => c4 | 5 => c5 | 6 => c6 | 7 => c7 | _ => c8, fun c => match c with | 0 => i0 | 1 => i1 | 2 => i2 | 3 => i3 | 4 => i4 | 5 => i5 | 6 => i6 | 7 => i7 | _ => i8), cI, cZ, cS, cA, fun c q hq => ?_, fun k q hk => ?_⟩
  · have hc : c < 9 := (List.getElem?_eq_some_iff.mp hq).1
    rcases (show c = 0 ∨ c = 1 ∨ c = 2 ∨ c = 3 ∨ c = 4 ∨ c = 5 ∨ c = 6 ∨ c = 7 ∨ c = 8 by omega) with rfl | rfl | rfl | rfl | rfl | rfl | rfl | rfl | rfl
    · cases hq; exact h0
    · cases hq; exact h1
    · cases hq; exact h2
    · cases hq; exact h3
    · cases hq; exact h4
    · cases hq; exact h5
    · cases hq; exact h6
    · cases hq; exact h7
    · cases hq; exact h8
  · have hc : k < 4 := (List.getElem?_eq_some_iff.mp hk).1
    rcases (show k = 0 ∨ k = 1 ∨ k = 2 ∨ k = 3 by omega) with rfl | rfl | rfl | rfl
    · cases hk; exact ⟨a1, a2⟩
    · cases hk; exact ⟨b1, b2⟩
    · cases hk; exact ⟨e1, e2⟩
    · cases hk; exact ⟨f1, f2⟩
theorem lk_ge {L i : Nat} (hL : L ≤ 2051) (hi : i ≤ 3000) (h : ¬ (Int32.ofNat L - nI 4) < nI i) : i + 4 ≤ L := by
  have h2 : ¬ (Int32.ofNat L - nI 4).toInt < (nI i).toInt := fun z => h (Int32.lt_iff_toInt_lt.mpr z)
  have e : (Int32.ofNat L - nI 4).toInt = (L : Int) - 4 := by
    rw [Int32.toInt_sub, show (Int32.ofNat L).toInt = (L : Int) from nI_toInt (by omega), show (nI 4).toInt = ((4 : Nat) : Int) from nI_toInt (by omega)]
    rw [Int.bmod_eq_of_le] <;> omega
  rw [e, nI_toInt (by omega)] at h2
  omega
theorem lk_conv {D : va_G} {cl : List vw_C} {a : Nat} {E : List va_E} {H : Heap} {ids : List (Nat × Nat)} {off : Nat × Nat → Nat} {cf : Nat × Nat → va_E} (h : ∀ k ∈ ids, st_ok E off cf k) (hP : ∀ (j : Nat) (e : va_E), E[j]? = some e → va_at D cl (a + j, e) H) : va_P D cl (xw_ws ids (fun k => a + off k) cf) H := fun q0 x hx => by
  obtain ⟨k, hk, rfl⟩ := xw_of hx
  obtain ⟨e, h1, h2⟩ := h k (List.mem_of_getElem? hk)
  exact h2 _ _ _ _ (hP _ _ h1)
