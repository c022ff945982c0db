/-! THE CLAIM OUT OF ONE WALK OF THE LAW'S BODY. Your part is whole_start (and what it stands on); all else here is the same for every law, but numbers. -/
def R_law : String := "FastBallotsLaw"
def lw_P (b : Addr) (xs : List Int32) (args : Array Value) (s : State) : Prop := args = #[.ref b] ∧ s.IntsAt b xs ∧ xs.length ≤ 2051 ∧ (Jvm.Cond.and given_1 narrow_1).before args s = true
def lw_Q (_ : Array Value) (s : State) (o : Outcome) (t : State) : Prop := o = .returned (some (.int 1)) ∧ Framed s o t [] 600000 7302249
def lw_Z (below : List Frame) (a : Array Value) (s : State) : State → Prop := fun t => ∃ o, t.status = .running ∧ Ended t below o ∧ lw_Q a s o t
/-- the law's own end, with 1 on the stack, nothing written that was there before, its room as the claim has it -/
theorem lw_ret {p : Program} {l : Launch} {e : Env} {s : State} {m : MethodId} {below : List Frame} {meth : Method} {c : Code} {b : Nat} (hx : p.tables.exec = Jvm.exec) (hb : c.code = code) (hr : meth.sig.returnType = ret) (hlocks : meth.locks = false) {pc : Nat} {H : Heap} {ls : Array Slot} (hdg : decode code pc = .ok (.ireturn, 1)) : W p l e room_1 s m #[Value.ref b] below meth c H [] 600000 7302249 (lw_Z below #[Value.ref b] s) (F0 m pc ls [.int 1]) := by
  intro T hT X
  obtain ⟨fs, hret, hrun, hended, hW, hframe⟩ := X.leave (v := some (.int 1)) (hlocks := hlocks) (fun h => by rw [hr] at h; cases h)
  have hmeth' : T.vm.method? m = some meth := X.method'
  refine ⟨T.setFrames fs, ?_, .returned (some (.int 1)), hrun, hended, rfl, ⟨_, rfl⟩, hW, hframe⟩
  jvm_step X.here [X.here.top, hx, hb, hdg, hmeth', hr, ret, narrow_b1]
  (try refine ⟨rfl, ?_⟩); (try refine ⟨rfl, ?_⟩)
  first | (intro acts; rw [hret _ acts rfl rfl rfl]) | rw [hret _ _ rfl rfl rfl]
  exact Steps.refl _
/-- what holds at the law's entry: the machine, the code, the tables' words (any of lw_tbl by 'hts w (by decide +kernel)'), the script of L ints xs at the cell b, what the Statement gives of the start (any of its parts by flat_of_before) -/
def lw_At (p : Program) (s : State) (m : MethodId) (meth : Method) (c : Code) (b L : Nat) (xs : Nat → Int32) : Prop :=
  p.tables.exec = Jvm.exec ∧ c.code = code ∧ meth.sig.returnType = ret ∧ c.maxLocals = 4 ∧ s.vm.findClass R_law = some m.cls ∧ (∀ w ∈ lw_tbl, w.before #[Value.ref b] s = true) ∧ va_X b L xs s s.heap ∧ b < s.heap.size ∧ meth.locks = false ∧ (Jvm.Cond.and given_1 narrow_1).before #[Value.ref b] s = true

set_option maxHeartbeats 4000000 in
theorem lx_loop {p : Program} {l : Launch} {e : Env} {s : State} {m : MethodId} {below : List Frame} {meth : Method} {c : Code} {cells slots : Nat} {D : va_G} {b L n q f : Nat} {xs : Nat → Int32} {ad1 ad2 : Nat × Nat → Nat} {cI cZ cS cA : ClassId} {cd : Cond} (X : lx_X p c s m b L xs D n ad1 ad2 cI cZ cS cA cd) (Q : pz_Q n q f) (hcs : cells ≤ 600000 ∧ slots ≤ 7302249) (hr : meth.sig.returnType = ret) (hlk : meth.locks = false) :
    ∀ (d i : Nat) (S : pz_T) (M1 M2 : fr_M) (H : Heap) (locs : List Loc) (ls : Array Slot), L ≤ i + 4 * d → i ≤ 2100 → fr_I n q f S M1 → gm_I n q f S M2 → lx_W s D n ad1 ad2 cI cZ cS cA M1 M2 H locs → lv_has ls 4 [(3, .int (nI i)), (0, .ref b), (1, .ref (ad1 (0, 0))), (2, .ref (ad2 (0, 0)))] →
      W p l e room_1 s m #[Value.ref b] below meth c H locs cells slots (lw_Z below #[Value.ref b] s) (F0 m 48 ls []) := by
  obtain ⟨Z, hml, hN, hX, hbl, hL, -⟩ := id X
  have out : ∀ (H : Heap) (locs : List Loc) (ls : Array Slot), va_S (fun q => s.heap.size ≤ q) s.heap H locs → W p l e room_1 s m #[Value.ref b] below meth c H locs cells slots (lw_Z below #[Value.ref b] s) (F0 m 664 ls []) := by
    intro H locs ls hS
    refine lv_iconst (v := 1) Z.1 Z.2.1 md_law_664 (by decide) ?_
    refine va_forget (fun q hq => hS.2.2 q hq) ?_
    refine W.widen (k := 600000) (n := 7302249) hcs.1 hcs.2 ?_
    exact lw_ret Z.1 Z.2.1 hr hlk md_law_665
  intro d
  induction d with
  | zero =>
    intro i S M1 M2 H locs ls hd hi h1 h2 hw hl
    refine lv_iload_n Z.1 Z.2.1 md_law_48 rfl (lv_at hl 0 rfl) ?_
    refine lv_aload_n Z.1 Z.2.1 md_law_49 rfl (lv_at hl 1 rfl) ?_
    refine va_slen Z.1 Z.2.1 hX hbl (Nat.not_le.mpr hbl) hw.2.2 md_law_50 ?_
    refine lv_iconst (v := nI 4) Z.1 Z.2.1 md_law_51 (by decide) ?_
    refine lv_isub Z.1 Z.2.1 md_law_52 ?_
    refine lv_icmp_gt (tgt := 664) Z.1 Z.2.1 md_law_53 (by decide) (fun _ => out H locs ls hw.2.2) (fun h => ?_)
    exact absurd (lk_ge hL (by omega) h) (by omega)
  | succ d ih =>
    intro i S M1 M2 H locs ls hd hi h1 h2 hw hl
    refine lv_iload_n Z.1 Z.2.1 md_law_48 rfl (lv_at hl 0 rfl) ?_
    refine lv_aload_n Z.1 Z.2.1 md_law_49 rfl (lv_at hl 1 rfl) ?_
    refine va_slen Z.1 Z.2.1 hX hbl (Nat.not_le.mpr hbl) hw.2.2 md_law_50 ?_
    refine lv_iconst (v := nI 4) Z.1 Z.2.1 md_law_51 (by decide) ?_
    refine lv_isub Z.1 Z.2.1 md_law_52 ?_
    refine lv_icmp_gt (tgt := 664) Z.1 Z.2.1 md_law_53 (by decide) (fun _ => out H locs ls hw.2.2) (fun h => ?_)
    have hiL := lk_ge hL (by omega) h
    have kk : ∀ (S1 : pz_T) (M1 M2 : fr_M) (H : Heap) (locs : List Loc), fr_I n q f S1 M1 → gm_I n q f S1 M2 → lx_W s D n ad1 ad2 cI cZ cS cA M1 M2 H locs → W p l e room_1 s m #[Value.ref b] below meth c H locs cells slots (lw_Z below #[Value.ref b] s) (F0 m 658 ls []) := by
      intro S1 M1 M2 H locs h1 h2 hw
      refine lv_iinc Z.1 Z.2.1 md_law_658 hl (k := 0) rfl (show _ = nI (i + 4) from nI_add i 4) (by decide) rfl (fun ls hl => ?_)
      refine lv_goto (tgt := 48) Z.1 Z.2.1 md_law_661 (by decide) ?_
      exact ih (i + 4) S1 M1 M2 H locs ls (by omega) (by omega) h1 h2 hw hl
    refine lv_aload_n Z.1 Z.2.1 md_law_56 rfl (lv_at hl 1 rfl) ?_
    refine lv_iload_n Z.1 Z.2.1 md_law_57 rfl (lv_at hl 0 rfl) ?_
    refine lx_sld X hw.2.2 i rfl (by omega) md_law_58 ?_
    refine lv_bipush (v := nI 31) Z.1 Z.2.1 md_law_59 (by decide) ?_
    refine lv_iand Z.1 Z.2.1 md_law_61 ?_
    obtain ⟨t, ht, et⟩ := pk_andE (xs i) (m := nI 31) 5 (by decide)
    refine xi_re et ?_
    by_cases h17 : 17 < t
    · refine lv_tableOut (tgt := 658) Z.1 Z.2.1 md_law_62 (Or.inr ?_) (by decide) ?_
      · rw [nI_toInt (by omega)]; omega
      · exact kk S M1 M2 H locs h1 h2 hw
    rcases (show t = 0 ∨ t = 1 ∨ t = 2 ∨ t = 3 ∨ t = 4 ∨ t = 5 ∨ t = 6 ∨ t = 7 ∨ t = 8 ∨ t = 9 ∨ t = 10 ∨ t = 11 ∨ t = 12 ∨ t = 13 ∨ t = 14 ∨ t = 15 ∨ t = 16 ∨ t = 17 by omega) with rfl | rfl | rfl | rfl | rfl | rfl | rfl | rfl | rfl | rfl | rfl | rfl | rfl | rfl | rfl | rfl | rfl | rfl
    · refine lv_tableIn (tgt := 148) Z.1 Z.2.1 md_law_62 (by decide) (by decide) rfl (by decide) ?_
      exact lc_propose X Q h1 h2 hw hl hiL hcs kk
    · refine lv_tableIn (tgt := 181) Z.1 Z.2.1 md_law_62 (by decide) (by decide) rfl (by decide) ?_
      exact lc_begin X Q h1 h2 hw hl hiL hcs kk
    · refine lv_tableIn (tgt := 214) Z.1 Z.2.1 md_law_62 (by decide) (by decide) rfl (by decide) ?_
      exact lc_deliver X Q h1 h2 hw hl hiL hcs kk
    · refine lv_tableIn (tgt := 237) Z.1 Z.2.1 md_law_62 (by decide) (by decide) rfl (by decide) ?_
      exact lc_drop X Q h1 h2 hw hl hiL hcs kk
    · refine lv_tableIn (tgt := 260) Z.1 Z.2.1 md_law_62 (by decide) (by decide) rfl (by decide) ?_
      exact lc_halt X Q h1 h2 hw hl hiL hcs kk
    · refine lv_tableIn (tgt := 309) Z.1 Z.2.1 md_law_62 (by decide) (by decide) rfl (by decide) ?_
      exact lc_waiting X Q h1 h2 hw hl hiL hcs kk
    · refine lv_tableIn (tgt := 322) Z.1 Z.2.1 md_law_62 (by decide) (by decide) rfl (by decide) ?_
      exact lc_lost X Q h1 h2 hw hl hiL hcs kk
    · refine lv_tableIn (tgt := 335) Z.1 Z.2.1 md_law_62 (by decide) (by decide) rfl (by decide) ?_
      exact lc_message X Q h1 h2 hw hl hiL hcs kk
    · refine lv_tableIn (tgt := 358) Z.1 Z.2.1 md_law_62 (by decide) (by decide) rfl (by decide) ?_
      exact lc_value X Q h1 h2 hw hl hiL hcs kk
    · refine lv_tableIn (tgt := 381) Z.1 Z.2.1 md_law_62 (by decide) (by decide) rfl (by decide) ?_
      exact lc_round X Q h1 h2 hw hl hiL hcs kk
    · refine lv_tableIn (tgt := 414) Z.1 Z.2.1 md_law_62 (by decide) (by decide) rfl (by decide) ?_
      exact lc_vote X Q h1 h2 hw hl hiL hcs kk
    · refine lv_tableIn (tgt := 447) Z.1 Z.2.1 md_law_62 (by decide) (by decide) rfl (by decide) ?_
      exact lc_voteRound X Q h1 h2 hw hl hiL hcs kk
    · refine lv_tableIn (tgt := 480) Z.1 Z.2.1 md_law_62 (by decide) (by decide) rfl (by decide) ?_
      exact lc_leads X Q h1 h2 hw hl hiL hcs kk
    · refine lv_tableIn (tgt := 513) Z.1 Z.2.1 md_law_62 (by decide) (by decide) rfl (by decide) ?_
      exact lc_phase X Q h1 h2 hw hl hiL hcs kk
    · refine lv_tableIn (tgt := 546) Z.1 Z.2.1 md_law_62 (by decide) (by decide) rfl (by decide) ?_
      exact lc_learned X Q h1 h2 hw hl hiL hcs kk
    · refine lv_tableIn (tgt := 569) Z.1 Z.2.1 md_law_62 (by decide) (by decide) rfl (by decide) ?_
      exact lc_chosen X Q h1 h2 hw hl hiL hcs kk
    · refine lv_tableIn (tgt := 592) Z.1 Z.2.1 md_law_62 (by decide) (by decide) rfl (by decide) ?_
      exact lc_votes X Q h1 h2 hw hl hiL hcs kk
    · refine lv_tableIn (tgt := 635) Z.1 Z.2.1 md_law_62 (by decide) (by decide) rfl (by decide) ?_
      exact lc_size X Q h1 h2 hw hl hiL hcs kk
set_option maxHeartbeats 4000000 in
theorem whole_start {p : Program} {e : Env} {s : State} {m : MethodId} {below : List Frame} {meth : Method} {c : Code} (l : Launch) {b L : Nat} {xs : Nat → Int32} (hL : L ≤ 2051) (C0 : lw_At p s m meth c b L xs) : W p l e room_1 s m #[Value.ref b] below meth c s.heap [] 0 0 (lw_Z below #[Value.ref b] s) (entryFrame m ([Value.ref b] : List Value).toArray 4) := by
  obtain ⟨hx, hb, hr, hml, hown, hts, hX, hbl, hlk, hgv⟩ := C0
  have T : ∀ w ∈ tb_W, w.before #[Value.ref b] s = true := fun w h => hts w (List.mem_filter.mp h).1
  obtain ⟨D, cI, cZ, cS, cA, hK⟩ := lk_K hts
  have hN := lk_N hts
  have hAO := lk_AO hts
  have Z : xw_Z p c code s #[Value.ref b] m "FastBallotsLaw" (Cond.initialized "FastBallots" :: tb_W) D tb_cl (fb_ty cI cZ cS cA) := ⟨hx, hb, List.forall_mem_cons.mpr ⟨T _ mz_FB, T⟩, hown, hK⟩
  obtain ⟨n, hxn⟩ := zx_of (ce_v L xs 0)
  obtain ⟨q, f, hqf, Q⟩ := zq_of ⟨hxn.1, hxn.2.1⟩ (ce_v L xs 1) (ce_v L xs 2)
  have hl := lv_entry [Value.ref b] (n := 4) (Nat.le_of_ble_eq_true rfl)
  rw [lg_entry_eq]
  generalize (lg_sl [Value.ref b] ++ List.replicate (4 - (lg_sl [Value.ref b]).length) Slot.unset).toArray = ls at hl ⊢
  have hl : lv_has ls 4 [(0, .ref b)] := hl
  have hw : xn_H D tb_cl s.heap.size [] s.heap s.heap [] := ⟨⟨rfl, fun j e h => by simp at h⟩, va_S.rf⟩
  obtain ⟨z, hz⟩ : ∃ z, z = s.heap.size := ⟨_, rfl⟩
  rw [← hz] at hw
  have hbz : b < z := by rw [hz]; exact hbl
  refine xn_new Z hw (ci := 0) rfl tb_iFB tb_tFB tb_yFB mk_Law_7 mn_FB mz_FB [.null, .null, .null, .null] mf_FB 1 4 (Nat.le_of_ble_eq_true rfl) (Nat.le_of_ble_eq_true rfl) (Nat.le_of_ble_eq_true rfl) (Nat.le_of_ble_eq_true rfl) z rfl md_law_0 (fun H hw => ?_)
  refine lv_dup Z.1 Z.2.1 md_law_3 rfl ?_
  refine lv_aload_n Z.1 Z.2.1 md_law_4 rfl (lv_at hl 0 rfl) ?_
  refine lv_iconst (v := nI 0) Z.1 Z.2.1 md_law_5 (by decide) ?_
  refine xo_cS (n := 2) (rest := [.ref (z), .ref (z)]) Z hK hml hl.1 (ce_C l D _ (b := b) (xs := xs) (k := 0) hL (by decide)) ce_blind (fun U hU hW => by rw [hU]; exact va_X.moved hW.alike (hX.kept (hw.2.2.1 b hbl (Nat.not_le.mpr hbz)))) mc_Law_cell mk_Law_9 mt_Law_cell mz_Law ⟨by decide, by decide, by decide +kernel⟩ ⟨(Nat.le_of_ble_eq_true rfl), (Nat.le_of_ble_eq_true rfl)⟩ rfl rfl (Nat.le_of_ble_eq_true rfl) ⟨(Nat.le_of_ble_eq_true rfl), (Nat.le_of_ble_eq_true rfl)⟩ md_law_6 ?_
  refine lv_aload_n Z.1 Z.2.1 md_law_9 rfl (lv_at hl 0 rfl) ?_
  refine lv_iconst (v := nI 1) Z.1 Z.2.1 md_law_10 (by decide) ?_
  refine xo_cS (n := 2) (rest := [.int (ce_v L xs 0), .ref (z), .ref (z)]) Z hK hml hl.1 (ce_C l D _ (b := b) (xs := xs) (k := 1) hL (by decide)) ce_blind (fun U hU hW => by rw [hU]; exact va_X.moved hW.alike (hX.kept (hw.2.2.1 b hbl (Nat.not_le.mpr hbz)))) mc_Law_cell mk_Law_9 mt_Law_cell mz_Law ⟨by decide, by decide, by decide +kernel⟩ ⟨(Nat.le_of_ble_eq_true rfl), (Nat.le_of_ble_eq_true rfl)⟩ rfl rfl (Nat.le_of_ble_eq_true rfl) ⟨(Nat.le_of_ble_eq_true rfl), (Nat.le_of_ble_eq_true rfl)⟩ md_law_11 ?_
  refine lv_aload_n Z.1 Z.2.1 md_law_14 rfl (lv_at hl 0 rfl) ?_
  refine lv_iconst (v := nI 2) Z.1 Z.2.1 md_law_15 (by decide) ?_
  refine xo_cS (n := 2) (rest := [.int (ce_v L xs 1), .int (ce_v L xs 0), .ref (z), .ref (z)]) Z hK hml hl.1 (ce_C l D _ (b := b) (xs := xs) (k := 2) hL (by decide)) ce_blind (fun U hU hW => by rw [hU]; exact va_X.moved hW.alike (hX.kept (hw.2.2.1 b hbl (Nat.not_le.mpr hbz)))) mc_Law_cell mk_Law_9 mt_Law_cell mz_Law ⟨by decide, by decide, by decide +kernel⟩ ⟨(Nat.le_of_ble_eq_true rfl), (Nat.le_of_ble_eq_true rfl)⟩ rfl rfl (Nat.le_of_ble_eq_true rfl) ⟨(Nat.le_of_ble_eq_true rfl), (Nat.le_of_ble_eq_true rfl)⟩ md_law_16 ?_
  refine xn_cI (n := 3) (rest := [.ref z]) (E1 := []) Z hml hl.1 hN hAO hw rfl (n_FB l D cI cZ cS cA z hxn hqf) (fun q h => by cases h) tb_g mc_FB_init mk_Law_15 mi_FB_init mz_FB (by decide) ⟨by decide, by decide, by decide +kernel⟩ ⟨(Nat.le_of_ble_eq_true rfl), (Nat.le_of_ble_eq_true rfl)⟩ rfl rfl (Nat.le_of_ble_eq_true rfl) ⟨(Nat.le_of_ble_eq_true rfl), (Nat.le_of_ble_eq_true rfl)⟩ md_law_19 (fun H locs hw => ?_)
  refine lv_astore_n Z.1 Z.2.1 md_law_22 rfl hl (by decide) rfl (fun ls hl => ?_)
  have hl : lv_has ls 4 [(1, .ref z), (0, .ref b)] := hl
  have hw : xn_H D tb_cl z (xe_FB cI cZ cS cA n q f z) s.heap H locs := hw
  obtain ⟨z2, hz2⟩ : ∃ z2, z + (7 + 3 * (14 + n)) = z2 := ⟨_, rfl⟩
  refine xn_new Z hw (ci := 8) rfl tb_iMod tb_tMod tb_yMod mk_Law_18 mn_Mod mz_Mod [.int 0, .int 0, .int 0, .null, .int 0, .int 0, .null, .null, .null, .null, .null, .null, .null, .null, .null, .null, .null, .null, .null, .null, .null, .null, .null, .null, .null, .null, .null] mf_Mod 65 1202 (Nat.le_of_ble_eq_true rfl) (Nat.le_of_ble_eq_true rfl) (Nat.le_of_ble_eq_true rfl) (Nat.le_of_ble_eq_true rfl) z2 (by rw [st_len]; exact hz2) md_law_23 (fun H hw => ?_)
  refine lv_dup Z.1 Z.2.1 md_law_26 rfl ?_
  refine lv_aload_n Z.1 Z.2.1 md_law_27 rfl (lv_at hl 1 rfl) ?_
  refine lv_iconst (v := nI 0) Z.1 Z.2.1 md_law_28 (by decide) ?_
  refine xo_cS (n := 2) (rest := [.ref (z2), .ref (z2)]) Z hK hml hl.1 (ce_C l D _ (b := b) (xs := xs) (k := 0) hL (by decide)) ce_blind (fun U hU hW => by rw [hU]; exact va_X.moved hW.alike (hX.kept (hw.2.2.1 b hbl (Nat.not_le.mpr hbz)))) mc_Law_cell mk_Law_9 mt_Law_cell mz_Law ⟨by decide, by decide, by decide +kernel⟩ ⟨(Nat.le_of_ble_eq_true rfl), (Nat.le_of_ble_eq_true rfl)⟩ rfl rfl (Nat.le_of_ble_eq_true rfl) ⟨(Nat.le_of_ble_eq_true rfl), (Nat.le_of_ble_eq_true rfl)⟩ md_law_29 ?_
  refine lv_aload_n Z.1 Z.2.1 md_law_32 rfl (lv_at hl 1 rfl) ?_
  refine lv_iconst (v := nI 1) Z.1 Z.2.1 md_law_33 (by decide) ?_
  refine xo_cS (n := 2) (rest := [.int (ce_v L xs 0), .ref (z2), .ref (z2)]) Z hK hml hl.1 (ce_C l D _ (b := b) (xs := xs) (k := 1) hL (by decide)) ce_blind (fun U hU hW => by rw [hU]; exact va_X.moved hW.alike (hX.kept (hw.2.2.1 b hbl (Nat.not_le.mpr hbz)))) mc_Law_cell mk_Law_9 mt_Law_cell mz_Law ⟨by decide, by decide, by decide +kernel⟩ ⟨(Nat.le_of_ble_eq_true rfl), (Nat.le_of_ble_eq_true rfl)⟩ rfl rfl (Nat.le_of_ble_eq_true rfl) ⟨(Nat.le_of_ble_eq_true rfl), (Nat.le_of_ble_eq_true rfl)⟩ md_law_34 ?_
  refine lv_aload_n Z.1 Z.2.1 md_law_37 rfl (lv_at hl 1 rfl) ?_
  refine lv_iconst (v := nI 2) Z.1 Z.2.1 md_law_38 (by decide) ?_
  refine xo_cS (n := 2) (rest := [.int (ce_v L xs 1), .int (ce_v L xs 0), .ref (z2), .ref (z2)]) Z hK hml hl.1 (ce_C l D _ (b := b) (xs := xs) (k := 2) hL (by decide)) ce_blind (fun U hU hW => by rw [hU]; exact va_X.moved hW.alike (hX.kept (hw.2.2.1 b hbl (Nat.not_le.mpr hbz)))) mc_Law_cell mk_Law_9 mt_Law_cell mz_Law ⟨by decide, by decide, by decide +kernel⟩ ⟨(Nat.le_of_ble_eq_true rfl), (Nat.le_of_ble_eq_true rfl)⟩ rfl rfl (Nat.le_of_ble_eq_true rfl) ⟨(Nat.le_of_ble_eq_true rfl), (Nat.le_of_ble_eq_true rfl)⟩ md_law_39 ?_
  refine xn_cI (n := 3) (rest := [.ref z2]) Z hml hl.1 hN hAO hw (by rw [st_len]; exact hz2) (n_Mod l D cI cZ cS cA z2 hxn hqf) (fun q h => by cases h) tb_g mc_Mod_init mk_Law_20 mi_Mod_init mz_Mod (by decide) ⟨by decide, by decide, by decide +kernel⟩ ⟨(Nat.le_of_ble_eq_true rfl), (Nat.le_of_ble_eq_true rfl)⟩ rfl rfl (Nat.le_of_ble_eq_true rfl) ⟨(Nat.le_of_ble_eq_true rfl), (Nat.le_of_ble_eq_true rfl)⟩ md_law_42 (fun H locs hw => ?_)
  refine lv_astore_n Z.1 Z.2.1 md_law_45 rfl hl (by decide) rfl (fun ls hl => ?_)
  have hl : lv_has ls 4 [(2, .ref z2), (1, .ref z), (0, .ref b)] := hl
  refine lv_iconst (v := nI 3) Z.1 Z.2.1 md_law_46 (by decide) ?_
  refine lv_istore_n Z.1 Z.2.1 md_law_47 rfl hl (by decide) rfl (fun ls hl => ?_)
  have hl : lv_has ls 4 [(3, .int (nI 3)), (2, .ref z2), (1, .ref z), (0, .ref b)] := hl
  have hn : 3 ≤ n ∧ n ≤ 5 := ⟨hxn.1, hxn.2.1⟩
  have P1 : va_P D tb_cl (xw_ws (fb_ids n) (st_ad n z) (xw_M (fb_k n (st_ad n z) cI cZ cS cA) (st_M n q f))) H := lk_conv (st_c hn cI cZ cS cA q f z) (fun j e h => hw.1.2 j e (by rw [List.getElem?_append_left (List.getElem?_eq_some_iff.mp h).1]; exact h))
  have P2 : va_P D tb_cl (xw_ws gm_ids (st_ad2 z2) (xw_M (gm_k (st_ad2 z2) cI cZ) (st_N n q f))) H := lk_conv (st_c2 cI cZ n q f z2) (fun j e h => by
    have := hw.1.2 ((xe_FB cI cZ cS cA n q f z).length + j) e (by rw [List.getElem?_append_right (by omega), Nat.add_sub_cancel_left]; exact h)
    rw [st_len, ← Nat.add_assoc, hz2] at this
    exact this)
  have X : lx_X p c s m b L xs D n (st_ad n z) (st_ad2 z2) cI cZ cS cA (Cond.initialized "FastBallots") := by
    refine ⟨Z, hml, hN, hX, by omega, hL, fun cf => st_dis (st_nd hn), fun cf => st_dis st_nd2, fun k hk k2 hk2 h => ?_, fun k hk => ?_, fun k hk => ?_⟩
    · have h1 := st_lt hn k hk
      dsimp only [st_ad, st_ad2] at h
      omega
    · show s.heap.size ≤ z + _
      omega
    · show s.heap.size ≤ z2 + _
      omega
  refine lx_loop X Q ⟨by decide, by decide⟩ hr hlk L 3 st_S (st_M n q f) (st_N n q f) H locs ls (by omega) (by decide) (st_fr Q) (st_gm Q) ⟨P1, P2, ?_⟩ (lv_sub hl [0, 3, 2, 1] rfl)
  rw [← hz]
  exact hw.2
set_option maxHeartbeats 4000000 in
theorem lw_walk (l : Launch) (b : Addr) (xs : List Int32) : MetFree l x (headSpec (Jvm.Cond.code x code maxLocals ret :: tables_1) room_1) (lw_P b xs) (fun _ _ _ _ _ => True) lw_Q := by
  refine MetFree.of_bodyS (code := code) (maxLocals := maxLocals) (ret := ret) (by decide) ?_ ?_
  · intro args s m h hn
    obtain ⟨meth, c, h1, h2, h3, h4, h5, h6, -, -⟩ := Cond.code_spec hn (atoms_spec (ws := Jvm.Cond.code x code maxLocals ret :: tables_1) h _ List.mem_cons_self)
    exact ⟨meth, c, h1, h2, h3, h4, h5, h6⟩
  · intro p e s m args below meth c s₁ B hml0 hP _
    obtain ⟨rfl, hx, hbd, hgv⟩ := hP
    obtain ⟨scr, harrAt, hlist, hof, hsmall⟩ := hx
    obtain ⟨hcb, hkn, -, -⟩ := State.arrayAt?_spec harrAt
    have hown : s.vm.findClass R_law = some m.cls := findClass_of_methodNamed B.named
    have hts0 : ∀ c ∈ (Jvm.Cond.code x code maxLocals ret :: tables_1), c.before #[Value.ref b] s = true := atoms_spec (ws := Jvm.Cond.code x code maxLocals ret :: tables_1) B.pre
    have hts : ∀ w ∈ lw_tbl, w.before #[Value.ref b] s = true := k2_hts_sels lw_privs (fun w hw => hts0 w (List.mem_cons_of_mem _ hw)) lw_privs_ok
    have hml : c.maxLocals = 4 := B.maxLocals_eq (hts0 _ List.mem_cons_self)
    have X₀ : Stand p l e room_1 s m #[Value.ref b] below meth c s₁ [] 0 0 := Stand.of_body B
    have hh0 : s₁.heap = s.heap := by rw [B.state]; rfl
    have hsz : scr.slots.size = xs.length := by rw [← Array.length_toList, hlist, List.length_map]
    have hval : ∀ j : Nat, j < xs.length → scr.slots[j]? = some (.int (xs.getD j 0)) := fun j hj => by
      rw [← Array.getElem?_toList, hlist]
      simp [hj]
    have hbl : b < s.heap.size := (Array.getElem?_eq_some_iff.mp hcb).1
    have hX : va_X b xs.length (fun j => xs.getD j 0) s s.heap := ⟨scr, hcb, hof, hkn, hsz, hval⟩
    have K : W p l e room_1 s m #[Value.ref b] below meth c s₁.heap [] 0 0 (lw_Z below #[Value.ref b] s) (entryFrame m ([Value.ref b] : List Value).toArray 4) := by
      rw [hh0]
      exact whole_start l hbd ⟨B.exec, B.bytes, B.returns, hml, hown, hts, hX, hbl, B.notSynchronized, hgv⟩
    obtain ⟨t, a1, o, b1, b2, b3⟩ := K s₁ rfl X₀
    exact ⟨t, o, a1, b1, b2, b3⟩
theorem lw_pre_spec {args : Array Value} {s : State} (h : (Jvm.Cond.and given_1 narrow_1).before args s = true) (hr : rest_1_c.before args s = true) : ∃ (b : Addr) (xs : List Int32), lw_P b xs args s := by
  have hs := flat_of_before _ h
  have hq := flat_of_before _ hr
  have hc : (Cond.count 1).before args s = true := hs _ (by decide +kernel)
  have harr : (Cond.arrayOf (.arg 0) .int).before args s = true := hs _ (by decide +kernel)
  have hle : (Cond.le (.length (.arg 0)) (.int 2051)).before args s = true := hs _ (by decide +kernel)
  have hlen : (Cond.isInt (.length (.arg 0))).before args s = true := hq _ (by decide +kernel)
  have hall : (Cond.all (.arg 0) (.isInt (.elem (.arg 0) (.index 0)))).before args s = true := hq _ (by decide +kernel)
  obtain ⟨b, xs, hb, hx⟩ := State.ints_of_pre rfl harr hlen hall
  have hsm : xs.length < 2 ^ 31 := hx.choose_spec.2.2.2
  have hev : (Term.length (.arg 0)).eval args s none [] s = some (.int xs.length.toInt32) := hx.length_eval hb
  have hv := Cond.le_ints hev (show (Term.int 2051).eval args s none [] s = some (.int 2051) from rfl)
  have hd : xs.length.toInt32 ≤ 2051 := by
    simpa [Cond.before, Cond.holds, hv] using hle
  have hN : xs.length ≤ 2051 := (Int32.ofNat_le_ofNat hsm (by decide)).mp (show Int32.ofNat xs.length ≤ Int32.ofNat 2051 from hd)
  exact ⟨b, xs, Cond.one_arg hc (show args[0]? = some (.ref b) from hb), hx, hN, h⟩
theorem lw_comes (l : Launch) : Comes l x (Jvm.Cond.code x code maxLocals ret :: tables_1) room_1 (fun tb e args s => Calls_1 tb e args s ∧ rest_1 tb e args s ∧ Pre_1 tb e args s)
    (fun _ _ args s o t => lw_Q args s o t) := by
  intro p e ha hc hk s m args below hf hfit hheap happ hpre
  obtain ⟨b, xs, hP⟩ := lw_pre_spec hpre.2.2 hpre.2.1
  obtain ⟨k, o, h1, h2, h3, hQ⟩ := lw_walk l b xs p e ha hc hk s m args below hf ((Spec.applies_iff_loose hf).mp happ).1 hP trivial
  exact ⟨k, o, h1, h2, h3, hQ⟩
theorem lw_frame {s t : State} {o : Outcome} {args : Array Value} (h : Framed s o t [] 600000 7302249) :
    Framed s o t (fieldLocs frame_1_writes args s ++ arrayLocs frame_1_arrays args s ++ staticLocs frame_1_statics s) 600000 7302249 := h
theorem lw_limb (L : Cond) (hL : ∀ (args : Array Value) (s t : State), L.after args s (.returned (some (.int 1))) t = true) :
    ArmFor flags0 classFile x code maxLocals ret World_1 tables_1 room_1 Calls_1 rest_1 Pre_1
      (fun tb e a s o t => postC L tb e a s o t ∧ Framed s o t (fieldLocs frame_1_writes a s ++ arrayLocs frame_1_arrays a s ++ staticLocs frame_1_statics s) 600000 7302249) := by
  intro l _ _ _ p e ha hc hk s m args below hf hfit hheap happ hpre
  obtain ⟨k, o, h1, h2, h3, rfl, hF⟩ := lw_comes l p e ha hc hk s m args below hf hfit hheap happ hpre
  exact ⟨k, _, h1, h2, h3, hL args s _, lw_frame hF⟩
theorem i_vc : Claimed_1_1 ∧ Claimed_1_2 := ⟨lw_limb limb_1_1 (fun args s t => by simp [limb_1_1, Cond.after, Cond.holds, Cond.value]), lw_limb limb_1_2 (fun args s t => Cond.after_iff.mpr (by
  first | (rw [show limb_1_2 = Cond.eq .result (.int 1) from rfl, Cond.eq_ints (x := 1) (y := 1) rfl rfl]; simp; done) | (simp [limb_1_2, Cond.value, Term.eval]; done)))⟩

