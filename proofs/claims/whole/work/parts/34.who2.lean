/-! The reference: acceptors and coordinators. -/
set_option maxHeartbeats 4000000 in
theorem r_pick (l : Launch) (D : va_G) (ad : Nat × Nat → Nat) (cI cZ : ClassId) {M : fr_M} {n q f : Nat} {S : pz_T} {s c : Nat} (hn : n ≤ 5) (h : gm_R n q f S M) (hs : s < 3) (hc : c < 2) (T : fr_TB n (S.2 s) c) (t1 : ∀ a, S.2 s 11 c a ≤ 1) (hfn : f ≤ n) (H : pz_kk n (S.2 s) c ≠ 0 → ∀ a, a < n → S.2 s 11 c a ≠ 0 → S.2 s 13 c a = pz_kk n (S.2 s) c → S.2 s 12 c a ≠ 0 ∧ S.2 s 12 c a ≤ 1000) : gm_C l D ad cI cZ my_Mod_pick mb_Mod_pick 8 (some .int) 2 49 M [.ref (ad (0, 0)), .int (nI (3 * c + s))] (some (.int (nI (pz_pk n f (S.2 s) c)))) (fun M' => M' = M) := by
  refine xw_start [.ref (ad (0, 0)), .int (nI (3 * c + s))] (by decide) (Nat.le_of_ble_eq_true rfl) ?_
  intro p e st m below meth cd0 ls Z hml hr hlk hN hl hw
  have hl : lv_has ls 8 [(0, .ref (ad (0, 0))), (1, .int (nI (3 * c + s)))] := hl
  refine lv_iconst (v := nI 0) Z.1 Z.2.1 md_Mod_pick_0 (by decide) ?_
  refine lv_istore_n Z.1 Z.2.1 md_Mod_pick_1 rfl hl (by decide) rfl (fun ls hl => ?_)
  have hl : lv_has ls 8 [(2, .int (nI (0))), (0, .ref (ad (0, 0))), (1, .int (nI (3 * c + s)))] := hl
  refine lv_iconst (v := nI 0) Z.1 Z.2.1 md_Mod_pick_2 (by decide) ?_
  refine lv_istore_n Z.1 Z.2.1 md_Mod_pick_3 rfl hl (by decide) rfl (fun ls hl => ?_)
  have hl : lv_has ls 8 [(3, .int (nI (0))), (2, .int (nI (0))), (0, .ref (ad (0, 0))), (1, .int (nI (3 * c + s)))] := hl
  have loop4 : ∀ (d i : Nat) (Hi : Heap) (Li : List Loc) (ls : Array Slot), i + d = n → xw_H D tb_cl (xw_A gm_ids ad) st.heap gm_ids ad (xw_M (gm_k ad cI cZ) M) Hi Li → lv_has ls 8 [(3, .int (nI (i))), (2, .int (nI (pz_mx i (fun a => if S.2 s 11 c a ≠ 0 then S.2 s 13 c a else 0)))), (0, .ref (ad (0, 0))), (1, .int (nI (3 * c + s)))] → W p l e { frames := 2, cells := 0, slots := 0, locals := 49 } st m [.ref (ad (0, 0)), .int (nI (3 * c + s))].toArray below meth cd0 Hi Li 0 0 (MQ below (xw_Qc D tb_cl gm_ids ad (gm_k ad cI cZ) (some (.int (nI (pz_pk n f (S.2 s) c)))) (fun M' => M' = M)) [.ref (ad (0, 0)), .int (nI (3 * c + s))].toArray st 0 0 (xw_A gm_ids ad)) (F0 m 4 ls []) := by
    intro d
    induction d with
    | zero =>
      intro i Hi Li ls hi hw hl
      refine lv_iload_n Z.1 Z.2.1 md_Mod_pick_4 rfl (lv_at hl 0 rfl) ?_
      refine lv_aload_n Z.1 Z.2.1 md_Mod_pick_5 rfl (lv_at hl 2 rfl) ?_
      refine xb_get (v := .int (M (0, 0) 0)) Z hw (by decide) (gm_e0 ad cI cZ) rfl tb_iMod 0 (by decide) mk_Mod_77 rfl rfl md_Mod_pick_6 ?_
      refine xi_re (show M (0, 0) 0 = nI (n) from h.1.1) ?_
      refine xi_icmp_ge (tgt := 60) Z md_Mod_pick_9 (by decide) (by omega) (by omega) (fun h9 => ?_) (fun h9 => by exfalso; omega)
      have hl : lv_has ls 8 [(2, .int (nI (pz_kk n (S.2 s) c))), (0, .ref (ad (0, 0))), (1, .int (nI (3 * c + s)))] := by have z := lv_sub hl [1, 2, 3] rfl; rw [show i = n by omega] at z; exact z
      have lk : pz_kk n (S.2 s) c < 2 ^ 31 := fr_kk_lt T (Nat.le_refl n)
      have lt := pz_te_le (n := n) (fun a (_ : a < n) => t1 a)
      refine lv_iload_n Z.1 Z.2.1 md_Mod_pick_60 rfl (lv_at hl 0 rfl) ?_
      refine xi_if_ne (tgt := 66) Z md_Mod_pick_61 (by decide) (by omega) (fun h61 => ?_) (fun h61 => ?_)
      · refine lv_aload_n Z.1 Z.2.1 md_Mod_pick_66 rfl (lv_at hl 1 rfl) ?_
        refine lv_iload_n Z.1 Z.2.1 md_Mod_pick_67 rfl (lv_at hl 2 rfl) ?_
        refine xw_cV (n := 1) (rest := []) Z hml hl.1 hN hw (r_tellers l D ad cI cZ hn h hs hc t1) tb_g mc_Mod_tellers mk_Mod_149 mi_Mod_tellers ms_Mod_tellers mz_Mod ⟨by decide, by decide, by decide +kernel⟩ ⟨Nat.le_of_ble_eq_true rfl, Nat.le_of_ble_eq_true rfl⟩ (by decide) (gm_e0 ad cI cZ _) rfl rfl rfl rfl (Nat.le_of_ble_eq_true rfl) ⟨Nat.le_refl _, Nat.le_refl _⟩ md_Mod_pick_68 (fun M1 H1 locs1 e1 hw => ?_)
        have ey1 := e1.symm
        subst ey1
        refine W.eq (g2 := F0 m 71 ls [.int (nI (pz_te n (S.2 s) c))]) rfl ?_
        refine lv_istore_n Z.1 Z.2.1 md_Mod_pick_71 rfl hl (by decide) rfl (fun ls hl => ?_)
        have hl : lv_has ls 8 [(3, .int (nI (pz_te n (S.2 s) c))), (2, .int (nI (pz_kk n (S.2 s) c))), (0, .ref (ad (0, 0))), (1, .int (nI (3 * c + s)))] := hl
        refine lv_iconst (v := nI 0) Z.1 Z.2.1 md_Mod_pick_72 (by decide) ?_
        refine lv_istore Z.1 Z.2.1 md_Mod_pick_73 hl (by decide) rfl (fun ls hl => ?_)
        have hl : lv_has ls 8 [(4, .int (nI (0))), (3, .int (nI (pz_te n (S.2 s) c))), (2, .int (nI (pz_kk n (S.2 s) c))), (0, .ref (ad (0, 0))), (1, .int (nI (3 * c + s)))] := hl
        refine lv_iconst (v := nI 0) Z.1 Z.2.1 md_Mod_pick_75 (by decide) ?_
        refine lv_istore Z.1 Z.2.1 md_Mod_pick_76 hl (by decide) rfl (fun ls hl => ?_)
        have hl : lv_has ls 8 [(5, .int (nI (0))), (4, .int (nI (0))), (3, .int (nI (pz_te n (S.2 s) c))), (2, .int (nI (pz_kk n (S.2 s) c))), (0, .ref (ad (0, 0))), (1, .int (nI (3 * c + s)))] := hl
        have loop78 : ∀ (d i : Nat) (Hi : Heap) (Li : List Loc) (ls : Array Slot), i + d = n → xw_H D tb_cl (xw_A gm_ids ad) st.heap gm_ids ad (xw_M (gm_k ad cI cZ) M) Hi Li → lv_has ls 8 [(5, .int (nI (i))), (4, .int (nI (pz_hl n f (S.2 s) c (pz_kk n (S.2 s) c) i))), (0, .ref (ad (0, 0))), (1, .int (nI (3 * c + s))), (2, .int (nI (pz_kk n (S.2 s) c))), (3, .int (nI (pz_te n (S.2 s) c)))] → W p l e { frames := 2, cells := 0, slots := 0, locals := 49 } st m [.ref (ad (0, 0)), .int (nI (3 * c + s))].toArray below meth cd0 Hi Li 0 0 (MQ below (xw_Qc D tb_cl gm_ids ad (gm_k ad cI cZ) (some (.int (nI (pz_pk n f (S.2 s) c)))) (fun M' => M' = M)) [.ref (ad (0, 0)), .int (nI (3 * c + s))].toArray st 0 0 (xw_A gm_ids ad)) (F0 m 78 ls []) := by
          intro d
          induction d with
          | zero =>
            intro i Hi Li ls hi hw hl
            refine lv_iload Z.1 Z.2.1 md_Mod_pick_78 (lv_at hl 0 rfl) ?_
            refine lv_aload_n Z.1 Z.2.1 md_Mod_pick_80 rfl (lv_at hl 2 rfl) ?_
            refine xb_get (v := .int (M (0, 0) 0)) Z hw (by decide) (gm_e0 ad cI cZ) rfl tb_iMod 0 (by decide) mk_Mod_77 rfl rfl md_Mod_pick_81 ?_
            refine xi_re (show M (0, 0) 0 = nI (n) from h.1.1) ?_
            refine xi_icmp_ge (tgt := 180) Z md_Mod_pick_84 (by decide) (by omega) (by omega) (fun h84 => ?_) (fun h84 => by exfalso; omega)
            have hl : lv_has ls 8 [(4, .int (nI (pz_hl n f (S.2 s) c (pz_kk n (S.2 s) c) n))), (2, .int (nI (pz_kk n (S.2 s) c))), (0, .ref (ad (0, 0))), (1, .int (nI (3 * c + s)))] := by have z := lv_sub hl [1, 4, 2, 3] rfl; rw [show i = n by omega] at z; exact z
            have lhl : pz_hl n f (S.2 s) c (pz_kk n (S.2 s) c) n < 2 ^ 31 := by
              rcases pz_hl_ex n f (S.2 s) c (pz_kk n (S.2 s) c) n with z | ⟨b, b1, b2, b3, b4, b5⟩
              · omega
              · rw [← b5]; exact ((T b b1).2 b2).1
            refine lv_iload Z.1 Z.2.1 md_Mod_pick_180 (lv_at hl 0 rfl) ?_
            refine xi_if_le (tgt := 190) Z md_Mod_pick_182 (by decide) (by omega) (fun h182 => ?_) (fun h182 => ?_)
            · refine lv_aload_n Z.1 Z.2.1 md_Mod_pick_190 rfl (lv_at hl 2 rfl) ?_
              refine lv_iload_n Z.1 Z.2.1 md_Mod_pick_191 rfl (lv_at hl 3 rfl) ?_
              refine lv_iload_n Z.1 Z.2.1 md_Mod_pick_192 rfl (lv_at hl 1 rfl) ?_
              refine xw_cV (n := 2) (rest := []) Z hml hl.1 hN hw (r_leastTold (r := pz_kk n (S.2 s) c) l D ad cI cZ hn h hs hc T lk) tb_g mc_Mod_leastTold mk_Mod_152 mi_Mod_leastTold ms_Mod_leastTold mz_Mod ⟨by decide, by decide, by decide +kernel⟩ ⟨Nat.le_of_ble_eq_true rfl, Nat.le_of_ble_eq_true rfl⟩ (by decide) (gm_e0 ad cI cZ _) rfl rfl rfl rfl (Nat.le_of_ble_eq_true rfl) ⟨Nat.le_refl _, Nat.le_refl _⟩ md_Mod_pick_193 (fun M2 H2 locs2 e2 hw => ?_)
              have ey2 := e2.symm
              subst ey2
              refine W.eq (g2 := F0 m 196 ls [.int (nI (pz_sc n (S.2 s) c (pz_kk n (S.2 s) c) 1000))]) rfl ?_
              exact xw_iret Z hr hlk hw md_Mod_pick_196 (by unfold pz_pk; rw [if_neg h61, if_neg (by omega), pz_sc_ls (H h61)]) rfl
            · refine lv_iload Z.1 Z.2.1 md_Mod_pick_185 (lv_at hl 0 rfl) ?_
              refine lv_goto (tgt := 196) Z.1 Z.2.1 md_Mod_pick_187 (by decide) ?_
              exact xw_iret Z hr hlk hw md_Mod_pick_196 (by unfold pz_pk; rw [if_neg h61, if_pos (by omega)]) rfl
          | succ d ih =>
            intro i Hi Li ls hi hw hl
            refine lv_iload Z.1 Z.2.1 md_Mod_pick_78 (lv_at hl 0 rfl) ?_
            refine lv_aload_n Z.1 Z.2.1 md_Mod_pick_80 rfl (lv_at hl 2 rfl) ?_
            refine xb_get (v := .int (M (0, 0) 0)) Z hw (by decide) (gm_e0 ad cI cZ) rfl tb_iMod 0 (by decide) mk_Mod_77 rfl rfl md_Mod_pick_81 ?_
            refine xi_re (show M (0, 0) 0 = nI (n) from h.1.1) ?_
            refine xi_icmp_ge (tgt := 180) Z md_Mod_pick_84 (by decide) (by omega) (by omega) (fun h84 => by exfalso; omega) (fun h84 => ?_)
            refine lv_aload_n Z.1 Z.2.1 md_Mod_pick_87 rfl (lv_at hl 2 rfl) ?_
            refine xb_get (v := .ref (ad (24, 0))) Z hw (by decide) (gm_e0 ad cI cZ) rfl tb_iMod 24 (by decide) mk_Mod_68 rfl rfl md_Mod_pick_88 ?_
            refine lv_iconst (v := nI 5) Z.1 Z.2.1 md_Mod_pick_91 (by decide) ?_
            refine lv_iload_n Z.1 Z.2.1 md_Mod_pick_92 rfl (lv_at hl 3 rfl) ?_
            refine xi_mul Z md_Mod_pick_93 ?_
            refine lv_iload Z.1 Z.2.1 md_Mod_pick_94 (lv_at hl 0 rfl) ?_
            refine xi_add Z md_Mod_pick_96 ?_
            refine xw_zald Z hw (by decide) (gm_e24 ad cI cZ) 1 rfl (5 * (3 * c + s) + i) rfl (by omega) (by omega) md_Mod_pick_97 ?_
            refine xi_re (show M (24, 0) (5 * (3 * c + s) + i) = nI (S.2 s 11 c i) from gm_g11 h hs hc (by omega)) ?_
            have t := t1 i
            refine xi_if_eq (tgt := 120) Z md_Mod_pick_98 (by decide) (by omega) (fun h98 => ?_) (fun h98 => ?_)
            · refine lv_iconst (v := nI 0) Z.1 Z.2.1 md_Mod_pick_120 (by decide) ?_
              refine lv_istore Z.1 Z.2.1 md_Mod_pick_121 hl (by decide) rfl (fun ls hl => ?_)
              have hl : lv_has ls 8 [(6, .int (nI (0))), (5, .int (nI (i))), (4, .int (nI (pz_hl n f (S.2 s) c (pz_kk n (S.2 s) c) i))), (0, .ref (ad (0, 0))), (1, .int (nI (3 * c + s))), (2, .int (nI (pz_kk n (S.2 s) c))), (3, .int (nI (pz_te n (S.2 s) c)))] := hl
              refine lv_aload_n Z.1 Z.2.1 md_Mod_pick_123 rfl (lv_at hl 3 rfl) ?_
              refine xb_get (v := .ref (ad (25, 0))) Z hw (by decide) (gm_e0 ad cI cZ) rfl tb_iMod 25 (by decide) mk_Mod_71 rfl rfl md_Mod_pick_124 ?_
              refine lv_iconst (v := nI 5) Z.1 Z.2.1 md_Mod_pick_127 (by decide) ?_
              refine lv_iload_n Z.1 Z.2.1 md_Mod_pick_128 rfl (lv_at hl 4 rfl) ?_
              refine xi_mul Z md_Mod_pick_129 ?_
              refine lv_iload Z.1 Z.2.1 md_Mod_pick_130 (lv_at hl 1 rfl) ?_
              refine xi_add Z md_Mod_pick_132 ?_
              refine xw_iald Z hw (by decide) (gm_e25 ad cI cZ) 0 rfl (5 * (3 * c + s) + i) rfl (by omega) (by omega) md_Mod_pick_133 ?_
              refine xi_re (show M (25, 0) (5 * (3 * c + s) + i) = nI (S.2 s 12 c i) from gm_g12 h hs hc (by omega)) ?_
              refine lv_istore Z.1 Z.2.1 md_Mod_pick_134 hl (by decide) rfl (fun ls hl => ?_)
              have hl : lv_has ls 8 [(7, .int (nI (S.2 s 12 c i))), (6, .int (nI (0))), (5, .int (nI (i))), (4, .int (nI (pz_hl n f (S.2 s) c (pz_kk n (S.2 s) c) i))), (0, .ref (ad (0, 0))), (1, .int (nI (3 * c + s))), (2, .int (nI (pz_kk n (S.2 s) c))), (3, .int (nI (pz_te n (S.2 s) c)))] := hl
              refine lv_iload Z.1 Z.2.1 md_Mod_pick_136 (lv_at hl 1 rfl) ?_
              refine xi_if_eq (tgt := 174) Z md_Mod_pick_138 (by decide) (by omega) (fun h138 => ?_) (fun h138 => by exfalso; omega)
              refine lv_iinc Z.1 Z.2.1 md_Mod_pick_174 hl (k := 2) rfl (xi_inc1 (i)) (by decide) rfl (fun ls hl => ?_)
              have hl : lv_has ls 8 [(5, .int (nI (i + 1))), (7, .int (nI (S.2 s 12 c i))), (6, .int (nI (0))), (4, .int (nI (pz_hl n f (S.2 s) c (pz_kk n (S.2 s) c) i))), (0, .ref (ad (0, 0))), (1, .int (nI (3 * c + s))), (2, .int (nI (pz_kk n (S.2 s) c))), (3, .int (nI (pz_te n (S.2 s) c)))] := hl
              refine lv_goto (tgt := 78) Z.1 Z.2.1 md_Mod_pick_177 (by decide) ?_
              refine ih (i + 1) _ _ ls (by omega) hw ?_
              first | (rw [show pz_hl n f (S.2 s) c (pz_kk n (S.2 s) c) (i + 1) = S.2 s 12 c i from by simp only [pz_hl]; rw [if_pos (by omega)]]; exact lv_sub hl [0, 3, 4, 5, 6, 7] rfl) | (rw [show pz_hl n f (S.2 s) c (pz_kk n (S.2 s) c) (i + 1) = pz_hl n f (S.2 s) c (pz_kk n (S.2 s) c) i from by simp only [pz_hl]; rw [if_neg (by omega)]]; exact lv_sub hl [0, 3, 4, 5, 6, 7] rfl)
            · have t2 := (T i (by omega)).2 h98
              refine lv_aload_n Z.1 Z.2.1 md_Mod_pick_101 rfl (lv_at hl 2 rfl) ?_
              refine xb_get (v := .ref (ad (26, 0))) Z hw (by decide) (gm_e0 ad cI cZ) rfl tb_iMod 26 (by decide) mk_Mod_74 rfl rfl md_Mod_pick_102 ?_
              refine lv_iconst (v := nI 5) Z.1 Z.2.1 md_Mod_pick_105 (by decide) ?_
              refine lv_iload_n Z.1 Z.2.1 md_Mod_pick_106 rfl (lv_at hl 3 rfl) ?_
              refine xi_mul Z md_Mod_pick_107 ?_
              refine lv_iload Z.1 Z.2.1 md_Mod_pick_108 (lv_at hl 0 rfl) ?_
              refine xi_add Z md_Mod_pick_110 ?_
              refine xw_iald Z hw (by decide) (gm_e26 ad cI cZ) 0 rfl (5 * (3 * c + s) + i) rfl (by omega) (by omega) md_Mod_pick_111 ?_
              refine xi_re (show M (26, 0) (5 * (3 * c + s) + i) = nI (S.2 s 13 c i) from gm_g13 h hs hc (by omega)) ?_
              refine lv_iload_n Z.1 Z.2.1 md_Mod_pick_112 rfl (lv_at hl 4 rfl) ?_
              refine xi_icmp_ne (tgt := 120) Z md_Mod_pick_113 (by decide) (by omega) (by omega) (fun h113 => ?_) (fun h113 => ?_)
              · refine lv_iconst (v := nI 0) Z.1 Z.2.1 md_Mod_pick_120 (by decide) ?_
                refine lv_istore Z.1 Z.2.1 md_Mod_pick_121 hl (by decide) rfl (fun ls hl => ?_)
                have hl : lv_has ls 8 [(6, .int (nI (0))), (5, .int (nI (i))), (4, .int (nI (pz_hl n f (S.2 s) c (pz_kk n (S.2 s) c) i))), (0, .ref (ad (0, 0))), (1, .int (nI (3 * c + s))), (2, .int (nI (pz_kk n (S.2 s) c))), (3, .int (nI (pz_te n (S.2 s) c)))] := hl
                refine lv_aload_n Z.1 Z.2.1 md_Mod_pick_123 rfl (lv_at hl 3 rfl) ?_
                refine xb_get (v := .ref (ad (25, 0))) Z hw (by decide) (gm_e0 ad cI cZ) rfl tb_iMod 25 (by decide) mk_Mod_71 rfl rfl md_Mod_pick_124 ?_
                refine lv_iconst (v := nI 5) Z.1 Z.2.1 md_Mod_pick_127 (by decide) ?_
                refine lv_iload_n Z.1 Z.2.1 md_Mod_pick_128 rfl (lv_at hl 4 rfl) ?_
                refine xi_mul Z md_Mod_pick_129 ?_
                refine lv_iload Z.1 Z.2.1 md_Mod_pick_130 (lv_at hl 1 rfl) ?_
                refine xi_add Z md_Mod_pick_132 ?_
                refine xw_iald Z hw (by decide) (gm_e25 ad cI cZ) 0 rfl (5 * (3 * c + s) + i) rfl (by omega) (by omega) md_Mod_pick_133 ?_
                refine xi_re (show M (25, 0) (5 * (3 * c + s) + i) = nI (S.2 s 12 c i) from gm_g12 h hs hc (by omega)) ?_
                refine lv_istore Z.1 Z.2.1 md_Mod_pick_134 hl (by decide) rfl (fun ls hl => ?_)
                have hl : lv_has ls 8 [(7, .int (nI (S.2 s 12 c i))), (6, .int (nI (0))), (5, .int (nI (i))), (4, .int (nI (pz_hl n f (S.2 s) c (pz_kk n (S.2 s) c) i))), (0, .ref (ad (0, 0))), (1, .int (nI (3 * c + s))), (2, .int (nI (pz_kk n (S.2 s) c))), (3, .int (nI (pz_te n (S.2 s) c)))] := hl
                refine lv_iload Z.1 Z.2.1 md_Mod_pick_136 (lv_at hl 1 rfl) ?_
                refine xi_if_eq (tgt := 174) Z md_Mod_pick_138 (by decide) (by omega) (fun h138 => ?_) (fun h138 => by exfalso; omega)
                refine lv_iinc Z.1 Z.2.1 md_Mod_pick_174 hl (k := 2) rfl (xi_inc1 (i)) (by decide) rfl (fun ls hl => ?_)
                have hl : lv_has ls 8 [(5, .int (nI (i + 1))), (7, .int (nI (S.2 s 12 c i))), (6, .int (nI (0))), (4, .int (nI (pz_hl n f (S.2 s) c (pz_kk n (S.2 s) c) i))), (0, .ref (ad (0, 0))), (1, .int (nI (3 * c + s))), (2, .int (nI (pz_kk n (S.2 s) c))), (3, .int (nI (pz_te n (S.2 s) c)))] := hl
                refine lv_goto (tgt := 78) Z.1 Z.2.1 md_Mod_pick_177 (by decide) ?_
                refine ih (i + 1) _ _ ls (by omega) hw ?_
                first | (rw [show pz_hl n f (S.2 s) c (pz_kk n (S.2 s) c) (i + 1) = S.2 s 12 c i from by simp only [pz_hl]; rw [if_pos (by omega)]]; exact lv_sub hl [0, 3, 4, 5, 6, 7] rfl) | (rw [show pz_hl n f (S.2 s) c (pz_kk n (S.2 s) c) (i + 1) = pz_hl n f (S.2 s) c (pz_kk n (S.2 s) c) i from by simp only [pz_hl]; rw [if_neg (by omega)]]; exact lv_sub hl [0, 3, 4, 5, 6, 7] rfl)
              · refine lv_iconst (v := nI 1) Z.1 Z.2.1 md_Mod_pick_116 (by decide) ?_
                refine lv_goto (tgt := 121) Z.1 Z.2.1 md_Mod_pick_117 (by decide) ?_
                refine lv_istore Z.1 Z.2.1 md_Mod_pick_121 hl (by decide) rfl (fun ls hl => ?_)
                have hl : lv_has ls 8 [(6, .int (nI (1))), (5, .int (nI (i))), (4, .int (nI (pz_hl n f (S.2 s) c (pz_kk n (S.2 s) c) i))), (0, .ref (ad (0, 0))), (1, .int (nI (3 * c + s))), (2, .int (nI (pz_kk n (S.2 s) c))), (3, .int (nI (pz_te n (S.2 s) c)))] := hl
                refine lv_aload_n Z.1 Z.2.1 md_Mod_pick_123 rfl (lv_at hl 3 rfl) ?_
                refine xb_get (v := .ref (ad (25, 0))) Z hw (by decide) (gm_e0 ad cI cZ) rfl tb_iMod 25 (by decide) mk_Mod_71 rfl rfl md_Mod_pick_124 ?_
                refine lv_iconst (v := nI 5) Z.1 Z.2.1 md_Mod_pick_127 (by decide) ?_
                refine lv_iload_n Z.1 Z.2.1 md_Mod_pick_128 rfl (lv_at hl 4 rfl) ?_
                refine xi_mul Z md_Mod_pick_129 ?_
                refine lv_iload Z.1 Z.2.1 md_Mod_pick_130 (lv_at hl 1 rfl) ?_
                refine xi_add Z md_Mod_pick_132 ?_
                refine xw_iald Z hw (by decide) (gm_e25 ad cI cZ) 0 rfl (5 * (3 * c + s) + i) rfl (by omega) (by omega) md_Mod_pick_133 ?_
                refine xi_re (show M (25, 0) (5 * (3 * c + s) + i) = nI (S.2 s 12 c i) from gm_g12 h hs hc (by omega)) ?_
                refine lv_istore Z.1 Z.2.1 md_Mod_pick_134 hl (by decide) rfl (fun ls hl => ?_)
                have hl : lv_has ls 8 [(7, .int (nI (S.2 s 12 c i))), (6, .int (nI (1))), (5, .int (nI (i))), (4, .int (nI (pz_hl n f (S.2 s) c (pz_kk n (S.2 s) c) i))), (0, .ref (ad (0, 0))), (1, .int (nI (3 * c + s))), (2, .int (nI (pz_kk n (S.2 s) c))), (3, .int (nI (pz_te n (S.2 s) c)))] := hl
                refine lv_iload Z.1 Z.2.1 md_Mod_pick_136 (lv_at hl 1 rfl) ?_
                refine xi_if_eq (tgt := 174) Z md_Mod_pick_138 (by decide) (by omega) (fun h138 => by exfalso; omega) (fun h138 => ?_)
                refine lv_iload_n Z.1 Z.2.1 md_Mod_pick_141 rfl (lv_at hl 6 rfl) ?_
                refine xw_cS (n := 1) (rest := []) Z hml hl.1 hN hw (r_isFast l D ad cI cZ (M := M) lk) tb_g mc_Mod_isFast mk_Mod_87 mt_Mod_isFast mz_Mod ⟨by decide, by decide, by decide +kernel⟩ ⟨Nat.le_of_ble_eq_true rfl, Nat.le_of_ble_eq_true rfl⟩ rfl rfl (Nat.le_of_ble_eq_true rfl) ⟨Nat.le_refl _, Nat.le_refl _⟩ md_Mod_pick_142 (fun M3 H3 locs3 e3 hw => ?_)
                have ey3 := e3.symm
                subst ey3
                refine W.eq (g2 := F0 m 145 ls [.int (nI (pz_kk n (S.2 s) c % 2))]) rfl ?_
                refine xi_if_eq (tgt := 170) Z md_Mod_pick_145 (by decide) (by omega) (fun h145 => ?_) (fun h145 => ?_)
                · refine lv_iload Z.1 Z.2.1 md_Mod_pick_170 (lv_at hl 0 rfl) ?_
                  refine lv_istore Z.1 Z.2.1 md_Mod_pick_172 hl (by decide) rfl (fun ls hl => ?_)
                  have hl : lv_has ls 8 [(4, .int (nI (S.2 s 12 c i))), (7, .int (nI (S.2 s 12 c i))), (6, .int (nI (1))), (5, .int (nI (i))), (0, .ref (ad (0, 0))), (1, .int (nI (3 * c + s))), (2, .int (nI (pz_kk n (S.2 s) c))), (3, .int (nI (pz_te n (S.2 s) c)))] := hl
                  refine lv_iinc Z.1 Z.2.1 md_Mod_pick_174 hl (k := 3) rfl (xi_inc1 (i)) (by decide) rfl (fun ls hl => ?_)
                  have hl : lv_has ls 8 [(5, .int (nI (i + 1))), (4, .int (nI (S.2 s 12 c i))), (7, .int (nI (S.2 s 12 c i))), (6, .int (nI (1))), (0, .ref (ad (0, 0))), (1, .int (nI (3 * c + s))), (2, .int (nI (pz_kk n (S.2 s) c))), (3, .int (nI (pz_te n (S.2 s) c)))] := hl
                  refine lv_goto (tgt := 78) Z.1 Z.2.1 md_Mod_pick_177 (by decide) ?_
                  refine ih (i + 1) _ _ ls (by omega) hw ?_
                  first | (rw [show pz_hl n f (S.2 s) c (pz_kk n (S.2 s) c) (i + 1) = S.2 s 12 c i from by simp only [pz_hl]; rw [if_pos (by omega)]]; exact lv_sub hl [0, 1, 4, 5, 6, 7] rfl) | (rw [show pz_hl n f (S.2 s) c (pz_kk n (S.2 s) c) (i + 1) = pz_hl n f (S.2 s) c (pz_kk n (S.2 s) c) i from by simp only [pz_hl]; rw [if_neg (by omega)]]; exact lv_sub hl [0, 1, 4, 5, 6, 7] rfl)
                · refine lv_iload_n Z.1 Z.2.1 md_Mod_pick_148 rfl (lv_at hl 7 rfl) ?_
                  refine lv_aload_n Z.1 Z.2.1 md_Mod_pick_149 rfl (lv_at hl 4 rfl) ?_
                  refine lv_iload_n Z.1 Z.2.1 md_Mod_pick_150 rfl (lv_at hl 5 rfl) ?_
                  refine lv_iload_n Z.1 Z.2.1 md_Mod_pick_151 rfl (lv_at hl 6 rfl) ?_
                  refine lv_iload Z.1 Z.2.1 md_Mod_pick_152 (lv_at hl 0 rfl) ?_
                  refine xw_cV (n := 3) (rest := [.int (nI (pz_te n (S.2 s) c))]) Z hml hl.1 hN hw (r_toldFor (r := pz_kk n (S.2 s) c) (v := S.2 s 12 c i) l D ad cI cZ hn h hs hc T lk t2.1) tb_g mc_Mod_toldFor mk_Mod_145 mi_Mod_toldFor ms_Mod_toldFor mz_Mod ⟨by decide, by decide, by decide +kernel⟩ ⟨Nat.le_of_ble_eq_true rfl, Nat.le_of_ble_eq_true rfl⟩ (by decide) (gm_e0 ad cI cZ _) rfl rfl rfl rfl (Nat.le_of_ble_eq_true rfl) ⟨Nat.le_refl _, Nat.le_refl _⟩ md_Mod_pick_154 (fun M4 H4 locs4 e4 hw => ?_)
                  have ey4 := e4.symm
                  subst ey4
                  refine W.eq (g2 := F0 m 157 ls [.int (nI (pz_tf n (S.2 s) c (pz_kk n (S.2 s) c) (S.2 s 12 c i))), .int (nI (pz_te n (S.2 s) c))]) rfl ?_
                  refine xi_sub Z md_Mod_pick_157 (pz_tf_te t1) ?_
                  refine lv_aload_n Z.1 Z.2.1 md_Mod_pick_158 rfl (lv_at hl 4 rfl) ?_
                  refine xb_get (v := .int (M (0, 0) 0)) Z hw (by decide) (gm_e0 ad cI cZ) rfl tb_iMod 0 (by decide) mk_Mod_77 rfl rfl md_Mod_pick_159 ?_
                  refine xi_re (show M (0, 0) 0 = nI (n) from h.1.1) ?_
                  refine lv_aload_n Z.1 Z.2.1 md_Mod_pick_162 rfl (lv_at hl 4 rfl) ?_
                  refine xb_get (v := .int (M (0, 0) 2)) Z hw (by decide) (gm_e0 ad cI cZ) rfl tb_iMod 2 (by decide) mk_Mod_84 rfl rfl md_Mod_pick_163 ?_
                  refine xi_re (show M (0, 0) 2 = nI (f) from h.1.2.2) ?_
                  refine xi_sub Z md_Mod_pick_166 (by omega) ?_
                  refine xi_icmp_gt (tgt := 174) Z md_Mod_pick_167 (by decide) (by omega) (by omega) (fun h167 => ?_) (fun h167 => ?_)
                  · refine lv_iinc Z.1 Z.2.1 md_Mod_pick_174 hl (k := 2) rfl (xi_inc1 (i)) (by decide) rfl (fun ls hl => ?_)
                    have hl : lv_has ls 8 [(5, .int (nI (i + 1))), (7, .int (nI (S.2 s 12 c i))), (6, .int (nI (1))), (4, .int (nI (pz_hl n f (S.2 s) c (pz_kk n (S.2 s) c) i))), (0, .ref (ad (0, 0))), (1, .int (nI (3 * c + s))), (2, .int (nI (pz_kk n (S.2 s) c))), (3, .int (nI (pz_te n (S.2 s) c)))] := hl
                    refine lv_goto (tgt := 78) Z.1 Z.2.1 md_Mod_pick_177 (by decide) ?_
                    refine ih (i + 1) _ _ ls (by omega) hw ?_
                    first | (rw [show pz_hl n f (S.2 s) c (pz_kk n (S.2 s) c) (i + 1) = S.2 s 12 c i from by simp only [pz_hl]; rw [if_pos (by omega)]]; exact lv_sub hl [0, 3, 4, 5, 6, 7] rfl) | (rw [show pz_hl n f (S.2 s) c (pz_kk n (S.2 s) c) (i + 1) = pz_hl n f (S.2 s) c (pz_kk n (S.2 s) c) i from by simp only [pz_hl]; rw [if_neg (by omega)]]; exact lv_sub hl [0, 3, 4, 5, 6, 7] rfl)
                  · refine lv_iload Z.1 Z.2.1 md_Mod_pick_170 (lv_at hl 0 rfl) ?_
                    refine lv_istore Z.1 Z.2.1 md_Mod_pick_172 hl (by decide) rfl (fun ls hl => ?_)
                    have hl : lv_has ls 8 [(4, .int (nI (S.2 s 12 c i))), (7, .int (nI (S.2 s 12 c i))), (6, .int (nI (1))), (5, .int (nI (i))), (0, .ref (ad (0, 0))), (1, .int (nI (3 * c + s))), (2, .int (nI (pz_kk n (S.2 s) c))), (3, .int (nI (pz_te n (S.2 s) c)))] := hl
                    refine lv_iinc Z.1 Z.2.1 md_Mod_pick_174 hl (k := 3) rfl (xi_inc1 (i)) (by decide) rfl (fun ls hl => ?_)
                    have hl : lv_has ls 8 [(5, .int (nI (i + 1))), (4, .int (nI (S.2 s 12 c i))), (7, .int (nI (S.2 s 12 c i))), (6, .int (nI (1))), (0, .ref (ad (0, 0))), (1, .int (nI (3 * c + s))), (2, .int (nI (pz_kk n (S.2 s) c))), (3, .int (nI (pz_te n (S.2 s) c)))] := hl
                    refine lv_goto (tgt := 78) Z.1 Z.2.1 md_Mod_pick_177 (by decide) ?_
                    refine ih (i + 1) _ _ ls (by omega) hw ?_
                    first | (rw [show pz_hl n f (S.2 s) c (pz_kk n (S.2 s) c) (i + 1) = S.2 s 12 c i from by simp only [pz_hl]; rw [if_pos (by omega)]]; exact lv_sub hl [0, 1, 4, 5, 6, 7] rfl) | (rw [show pz_hl n f (S.2 s) c (pz_kk n (S.2 s) c) (i + 1) = pz_hl n f (S.2 s) c (pz_kk n (S.2 s) c) i from by simp only [pz_hl]; rw [if_neg (by omega)]]; exact lv_sub hl [0, 1, 4, 5, 6, 7] rfl)
        exact loop78 n (0) _ _ ls (by omega) hw (lv_sub hl [0, 1, 4, 5, 3, 2] rfl)
      · refine lv_iconst (v := nI 0) Z.1 Z.2.1 md_Mod_pick_64 (by decide) ?_
        exact xw_iret Z hr hlk hw md_Mod_pick_65 (by unfold pz_pk; rw [if_pos h61]) rfl
    | succ d ih =>
      intro i Hi Li ls hi hw hl
      refine lv_iload_n Z.1 Z.2.1 md_Mod_pick_4 rfl (lv_at hl 0 rfl) ?_
      refine lv_aload_n Z.1 Z.2.1 md_Mod_pick_5 rfl (lv_at hl 2 rfl) ?_
      refine xb_get (v := .int (M (0, 0) 0)) Z hw (by decide) (gm_e0 ad cI cZ) rfl tb_iMod 0 (by decide) mk_Mod_77 rfl rfl md_Mod_pick_6 ?_
      refine xi_re (show M (0, 0) 0 = nI (n) from h.1.1) ?_
      refine xi_icmp_ge (tgt := 60) Z md_Mod_pick_9 (by decide) (by omega) (by omega) (fun h9 => by exfalso; omega) (fun h9 => ?_)
      refine lv_aload_n Z.1 Z.2.1 md_Mod_pick_12 rfl (lv_at hl 2 rfl) ?_
      refine xb_get (v := .ref (ad (24, 0))) Z hw (by decide) (gm_e0 ad cI cZ) rfl tb_iMod 24 (by decide) mk_Mod_68 rfl rfl md_Mod_pick_13 ?_
      refine lv_iconst (v := nI 5) Z.1 Z.2.1 md_Mod_pick_16 (by decide) ?_
      refine lv_iload_n Z.1 Z.2.1 md_Mod_pick_17 rfl (lv_at hl 3 rfl) ?_
      refine xi_mul Z md_Mod_pick_18 ?_
      refine lv_iload_n Z.1 Z.2.1 md_Mod_pick_19 rfl (lv_at hl 0 rfl) ?_
      refine xi_add Z md_Mod_pick_20 ?_
      refine xw_zald Z hw (by decide) (gm_e24 ad cI cZ) 1 rfl (5 * (3 * c + s) + i) rfl (by omega) (by omega) md_Mod_pick_21 ?_
      refine xi_re (show M (24, 0) (5 * (3 * c + s) + i) = nI (S.2 s 11 c i) from gm_g11 h hs hc (by omega)) ?_
      have t := t1 i
      have lk := fr_kk_lt T (show i ≤ n by omega)
      refine xi_if_eq (tgt := 52) Z md_Mod_pick_22 (by decide) (by omega) (fun h22 => ?_) (fun h22 => ?_)
      · refine lv_iload_n Z.1 Z.2.1 md_Mod_pick_52 rfl (lv_at hl 1 rfl) ?_
        refine lv_istore_n Z.1 Z.2.1 md_Mod_pick_53 rfl hl (by decide) rfl (fun ls hl => ?_)
        have hl : lv_has ls 8 [(2, .int (nI (pz_mx i (fun a => if S.2 s 11 c a ≠ 0 then S.2 s 13 c a else 0)))), (3, .int (nI (i))), (0, .ref (ad (0, 0))), (1, .int (nI (3 * c + s)))] := hl
        refine lv_iinc Z.1 Z.2.1 md_Mod_pick_54 hl (k := 1) rfl (xi_inc1 (i)) (by decide) rfl (fun ls hl => ?_)
        have hl : lv_has ls 8 [(3, .int (nI (i + 1))), (2, .int (nI (pz_mx i (fun a => if S.2 s 11 c a ≠ 0 then S.2 s 13 c a else 0)))), (0, .ref (ad (0, 0))), (1, .int (nI (3 * c + s)))] := hl
        refine lv_goto (tgt := 4) Z.1 Z.2.1 md_Mod_pick_57 (by decide) ?_
        refine ih (i + 1) _ _ ls (by omega) hw ?_
        first | (rw [show pz_mx (i + 1) (fun a => if S.2 s 11 c a ≠ 0 then S.2 s 13 c a else 0) = S.2 s 13 c i from by simp only [pz_mx]; rw [if_pos (c := S.2 s 11 c i ≠ 0) (by omega), if_pos (by omega)]]; exact lv_sub hl [0, 1, 2, 3] rfl) | (rw [show pz_mx (i + 1) (fun a => if S.2 s 11 c a ≠ 0 then S.2 s 13 c a else 0) = pz_mx i (fun a => if S.2 s 11 c a ≠ 0 then S.2 s 13 c a else 0) from by simp only [pz_mx]; rw [if_pos (c := S.2 s 11 c i ≠ 0) (by omega), if_neg (by omega)]]; exact lv_sub hl [0, 1, 2, 3] rfl) | (rw [show pz_mx (i + 1) (fun a => if S.2 s 11 c a ≠ 0 then S.2 s 13 c a else 0) = pz_mx i (fun a => if S.2 s 11 c a ≠ 0 then S.2 s 13 c a else 0) from by simp only [pz_mx]; rw [if_neg (c := S.2 s 11 c i ≠ 0) (by omega), if_neg (Nat.not_lt_zero _)]]; exact lv_sub hl [0, 1, 2, 3] rfl)
      · have t2 := (T i (by omega)).2 h22
        refine lv_aload_n Z.1 Z.2.1 md_Mod_pick_25 rfl (lv_at hl 2 rfl) ?_
        refine xb_get (v := .ref (ad (26, 0))) Z hw (by decide) (gm_e0 ad cI cZ) rfl tb_iMod 26 (by decide) mk_Mod_74 rfl rfl md_Mod_pick_26 ?_
        refine lv_iconst (v := nI 5) Z.1 Z.2.1 md_Mod_pick_29 (by decide) ?_
        refine lv_iload_n Z.1 Z.2.1 md_Mod_pick_30 rfl (lv_at hl 3 rfl) ?_
        refine xi_mul Z md_Mod_pick_31 ?_
        refine lv_iload_n Z.1 Z.2.1 md_Mod_pick_32 rfl (lv_at hl 0 rfl) ?_
        refine xi_add Z md_Mod_pick_33 ?_
        refine xw_iald Z hw (by decide) (gm_e26 ad cI cZ) 0 rfl (5 * (3 * c + s) + i) rfl (by omega) (by omega) md_Mod_pick_34 ?_
        refine xi_re (show M (26, 0) (5 * (3 * c + s) + i) = nI (S.2 s 13 c i) from gm_g13 h hs hc (by omega)) ?_
        refine lv_iload_n Z.1 Z.2.1 md_Mod_pick_35 rfl (lv_at hl 1 rfl) ?_
        refine xi_icmp_le (tgt := 52) Z md_Mod_pick_36 (by decide) (by omega) (by omega) (fun h36 => ?_) (fun h36 => ?_)
        · refine lv_iload_n Z.1 Z.2.1 md_Mod_pick_52 rfl (lv_at hl 1 rfl) ?_
          refine lv_istore_n Z.1 Z.2.1 md_Mod_pick_53 rfl hl (by decide) rfl (fun ls hl => ?_)
          have hl : lv_has ls 8 [(2, .int (nI (pz_mx i (fun a => if S.2 s 11 c a ≠ 0 then S.2 s 13 c a else 0)))), (3, .int (nI (i))), (0, .ref (ad (0, 0))), (1, .int (nI (3 * c + s)))] := hl
          refine lv_iinc Z.1 Z.2.1 md_Mod_pick_54 hl (k := 1) rfl (xi_inc1 (i)) (by decide) rfl (fun ls hl => ?_)
          have hl : lv_has ls 8 [(3, .int (nI (i + 1))), (2, .int (nI (pz_mx i (fun a => if S.2 s 11 c a ≠ 0 then S.2 s 13 c a else 0)))), (0, .ref (ad (0, 0))), (1, .int (nI (3 * c + s)))] := hl
          refine lv_goto (tgt := 4) Z.1 Z.2.1 md_Mod_pick_57 (by decide) ?_
          refine ih (i + 1) _ _ ls (by omega) hw ?_
          first | (rw [show pz_mx (i + 1) (fun a => if S.2 s 11 c a ≠ 0 then S.2 s 13 c a else 0) = S.2 s 13 c i from by simp only [pz_mx]; rw [if_pos (c := S.2 s 11 c i ≠ 0) (by omega), if_pos (by omega)]]; exact lv_sub hl [0, 1, 2, 3] rfl) | (rw [show pz_mx (i + 1) (fun a => if S.2 s 11 c a ≠ 0 then S.2 s 13 c a else 0) = pz_mx i (fun a => if S.2 s 11 c a ≠ 0 then S.2 s 13 c a else 0) from by simp only [pz_mx]; rw [if_pos (c := S.2 s 11 c i ≠ 0) (by omega), if_neg (by omega)]]; exact lv_sub hl [0, 1, 2, 3] rfl) | (rw [show pz_mx (i + 1) (fun a => if S.2 s 11 c a ≠ 0 then S.2 s 13 c a else 0) = pz_mx i (fun a => if S.2 s 11 c a ≠ 0 then S.2 s 13 c a else 0) from by simp only [pz_mx]; rw [if_neg (c := S.2 s 11 c i ≠ 0) (by omega), if_neg (Nat.not_lt_zero _)]]; exact lv_sub hl [0, 1, 2, 3] rfl)
        · refine lv_aload_n Z.1 Z.2.1 md_Mod_pick_39 rfl (lv_at hl 2 rfl) ?_
          refine xb_get (v := .ref (ad (26, 0))) Z hw (by decide) (gm_e0 ad cI cZ) rfl tb_iMod 26 (by decide) mk_Mod_74 rfl rfl md_Mod_pick_40 ?_
          refine lv_iconst (v := nI 5) Z.1 Z.2.1 md_Mod_pick_43 (by decide) ?_
          refine lv_iload_n Z.1 Z.2.1 md_Mod_pick_44 rfl (lv_at hl 3 rfl) ?_
          refine xi_mul Z md_Mod_pick_45 ?_
          refine lv_iload_n Z.1 Z.2.1 md_Mod_pick_46 rfl (lv_at hl 0 rfl) ?_
          refine xi_add Z md_Mod_pick_47 ?_
          refine xw_iald Z hw (by decide) (gm_e26 ad cI cZ) 0 rfl (5 * (3 * c + s) + i) rfl (by omega) (by omega) md_Mod_pick_48 ?_
          refine xi_re (show M (26, 0) (5 * (3 * c + s) + i) = nI (S.2 s 13 c i) from gm_g13 h hs hc (by omega)) ?_
          refine lv_goto (tgt := 53) Z.1 Z.2.1 md_Mod_pick_49 (by decide) ?_
          refine lv_istore_n Z.1 Z.2.1 md_Mod_pick_53 rfl hl (by decide) rfl (fun ls hl => ?_)
          have hl : lv_has ls 8 [(2, .int (nI (S.2 s 13 c i))), (3, .int (nI (i))), (0, .ref (ad (0, 0))), (1, .int (nI (3 * c + s)))] := hl
          refine lv_iinc Z.1 Z.2.1 md_Mod_pick_54 hl (k := 1) rfl (xi_inc1 (i)) (by decide) rfl (fun ls hl => ?_)
          have hl : lv_has ls 8 [(3, .int (nI (i + 1))), (2, .int (nI (S.2 s 13 c i))), (0, .ref (ad (0, 0))), (1, .int (nI (3 * c + s)))] := hl
          refine lv_goto (tgt := 4) Z.1 Z.2.1 md_Mod_pick_57 (by decide) ?_
          refine ih (i + 1) _ _ ls (by omega) hw ?_
          first | (rw [show pz_mx (i + 1) (fun a => if S.2 s 11 c a ≠ 0 then S.2 s 13 c a else 0) = S.2 s 13 c i from by simp only [pz_mx]; rw [if_pos (c := S.2 s 11 c i ≠ 0) (by omega), if_pos (by omega)]]; exact lv_sub hl [0, 1, 2, 3] rfl) | (rw [show pz_mx (i + 1) (fun a => if S.2 s 11 c a ≠ 0 then S.2 s 13 c a else 0) = pz_mx i (fun a => if S.2 s 11 c a ≠ 0 then S.2 s 13 c a else 0) from by simp only [pz_mx]; rw [if_pos (c := S.2 s 11 c i ≠ 0) (by omega), if_neg (by omega)]]; exact lv_sub hl [0, 1, 2, 3] rfl) | (rw [show pz_mx (i + 1) (fun a => if S.2 s 11 c a ≠ 0 then S.2 s 13 c a else 0) = pz_mx i (fun a => if S.2 s 11 c a ≠ 0 then S.2 s 13 c a else 0) from by simp only [pz_mx]; rw [if_neg (c := S.2 s 11 c i ≠ 0) (by omega), if_neg (Nat.not_lt_zero _)]]; exact lv_sub hl [0, 1, 2, 3] rfl)
  exact loop4 n (0) _ _ ls (by omega) hw (lv_sub hl [0, 1, 2, 3] rfl)
set_option maxHeartbeats 4000000 in
theorem r_go (l : Launch) (D : va_G) (ad : Nat × Nat → Nat) (cI cZ : ClassId) {M : fr_M} {n q f : Nat} {S : pz_T} {s c : Nat} (hn : n ≤ 5) (h : gm_R n q f S M) (hs : s < 3) (hc : c < 2) (T : fr_TB n (S.2 s) c) (t1 : ∀ a, S.2 s 11 c a ≤ 1) (hfn : f ≤ n) (H : pz_kk n (S.2 s) c ≠ 0 → ∀ a, a < n → S.2 s 11 c a ≠ 0 → S.2 s 13 c a = pz_kk n (S.2 s) c → S.2 s 12 c a ≠ 0 ∧ S.2 s 12 c a ≤ 1000) (hL : S.1.length ≤ 60) (hpk : pz_pk n f (S.2 s) c < 2 ^ 31) (h8 : S.2 s 8 c 0 < 2 ^ 31) (h10 : S.2 s 10 c 0 < 2 ^ 31) : gm_C l D ad cI cZ my_Mod_go mb_Mod_go 5 none 3 76 M [.ref (ad (0, 0)), .int (nI (3 * c + s)), .int (nI (s))] (none) (gm_R n q f (pz_go n f S s c)) := by
  refine xw_start [.ref (ad (0, 0)), .int (nI (3 * c + s)), .int (nI (s))] (by decide) (Nat.le_of_ble_eq_true rfl) ?_
  intro p e st m below meth cd0 ls Z hml hr hlk hN hl hw
  have hl : lv_has ls 5 [(0, .ref (ad (0, 0))), (1, .int (nI (3 * c + s))), (2, .int (nI (s)))] := hl
  refine lv_aload_n Z.1 Z.2.1 md_Mod_go_0 rfl (lv_at hl 0 rfl) ?_
  refine lv_iload_n Z.1 Z.2.1 md_Mod_go_1 rfl (lv_at hl 1 rfl) ?_
  refine xw_cV (n := 1) (rest := []) Z hml hl.1 hN hw (r_pick l D ad cI cZ hn h hs hc T t1 hfn H) tb_g mc_Mod_pick mk_Mod_169 mi_Mod_pick ms_Mod_pick mz_Mod ⟨by decide, by decide, by decide +kernel⟩ ⟨Nat.le_of_ble_eq_true rfl, Nat.le_of_ble_eq_true rfl⟩ (by decide) (gm_e0 ad cI cZ _) rfl rfl rfl rfl (Nat.le_of_ble_eq_true rfl) ⟨Nat.le_refl _, Nat.le_refl _⟩ md_Mod_go_2 (fun M1 H1 locs1 e1 hw => ?_)
  have ey1 := e1.symm
  subst ey1
  refine W.eq (g2 := F0 m 5 ls [.int (nI (pz_pk n f (S.2 s) c))]) rfl ?_
  refine lv_istore_n Z.1 Z.2.1 md_Mod_go_5 rfl hl (by decide) rfl (fun ls hl => ?_)
  have hl : lv_has ls 5 [(3, .int (nI (pz_pk n f (S.2 s) c))), (0, .ref (ad (0, 0))), (1, .int (nI (3 * c + s))), (2, .int (nI (s)))] := hl
  refine lv_aload_n Z.1 Z.2.1 md_Mod_go_6 rfl (lv_at hl 1 rfl) ?_
  refine xb_get (v := .ref (ad (21, 0))) Z hw (by decide) (gm_e0 ad cI cZ) rfl tb_iMod 21 (by decide) mk_Mod_59 rfl rfl md_Mod_go_7 ?_
  refine lv_iload_n Z.1 Z.2.1 md_Mod_go_10 rfl (lv_at hl 2 rfl) ?_
  refine xw_iald Z hw (by decide) (gm_e21 ad cI cZ) 0 rfl (3 * c + s) rfl (by omega) (by omega) md_Mod_go_11 ?_
  refine xi_re (show M (21, 0) (3 * c + s) = nI (S.2 s 8 c 0) from gm_g8 h hs hc) ?_
  refine lv_istore Z.1 Z.2.1 md_Mod_go_12 hl (by decide) rfl (fun ls hl => ?_)
  have hl : lv_has ls 5 [(4, .int (nI (S.2 s 8 c 0))), (3, .int (nI (pz_pk n f (S.2 s) c))), (0, .ref (ad (0, 0))), (1, .int (nI (3 * c + s))), (2, .int (nI (s)))] := hl
  refine lv_aload_n Z.1 Z.2.1 md_Mod_go_14 rfl (lv_at hl 2 rfl) ?_
  refine lv_iload_n Z.1 Z.2.1 md_Mod_go_15 rfl (lv_at hl 3 rfl) ?_
  refine lv_iload Z.1 Z.2.1 md_Mod_go_16 (lv_at hl 0 rfl) ?_
  refine lv_iconst (v := nI 2) Z.1 Z.2.1 md_Mod_go_18 (by decide) ?_
  refine xw_cV (n := 3) (rest := []) Z hml hl.1 hN hw (r_lead (r := S.2 s 8 c 0) (w := 2) l D ad cI cZ hn h hs hc) tb_g mc_Mod_lead mk_Mod_118 mi_Mod_lead ms_Mod_lead mz_Mod ⟨by decide, by decide, by decide +kernel⟩ ⟨Nat.le_of_ble_eq_true rfl, Nat.le_of_ble_eq_true rfl⟩ (by decide) (gm_e0 ad cI cZ _) rfl rfl rfl rfl (Nat.le_of_ble_eq_true rfl) ⟨Nat.le_refl _, Nat.le_refl _⟩ md_Mod_go_19 (fun M2 H2 locs2 h1 hw => ?_)
  refine W.eq (g2 := F0 m 22 ls []) rfl ?_
  refine lv_iload_n Z.1 Z.2.1 md_Mod_go_22 rfl (lv_at hl 1 rfl) ?_
  refine xi_if_le (tgt := 36) Z md_Mod_go_23 (by decide) (by omega) (fun h23 => ?_) (fun h23 => ?_)
  · refine lv_iload Z.1 Z.2.1 md_Mod_go_36 (lv_at hl 0 rfl) ?_
    refine xw_cS (n := 1) (rest := []) Z hml hl.1 hN hw (r_isFast l D ad cI cZ (M := M2) h8) tb_g mc_Mod_isFast mk_Mod_87 mt_Mod_isFast mz_Mod ⟨by decide, by decide, by decide +kernel⟩ ⟨Nat.le_of_ble_eq_true rfl, Nat.le_of_ble_eq_true rfl⟩ rfl rfl (Nat.le_of_ble_eq_true rfl) ⟨Nat.le_refl _, Nat.le_refl _⟩ md_Mod_go_38 (fun M3 H3 locs3 e3 hw => ?_)
    have ey3 := e3.symm
    subst ey3
    refine W.eq (g2 := F0 m 41 ls [.int (nI (S.2 s 8 c 0 % 2))]) rfl ?_
    refine xi_if_eq (tgt := 54) Z md_Mod_go_41 (by decide) (by omega) (fun h41 => ?_) (fun h41 => ?_)
    · refine lv_aload_n Z.1 Z.2.1 md_Mod_go_54 rfl (lv_at hl 2 rfl) ?_
      refine xb_get (v := .ref (ad (23, 0))) Z hw (by decide) (gm_e0 ad cI cZ) rfl tb_iMod 23 (by decide) mk_Mod_65 rfl rfl md_Mod_go_55 ?_
      refine lv_iload_n Z.1 Z.2.1 md_Mod_go_58 rfl (lv_at hl 3 rfl) ?_
      refine xw_iald Z hw (by decide) (gm_e23 ad cI cZ) 0 rfl (3 * c + s) rfl (by omega) (by omega) md_Mod_go_59 ?_
      refine xi_re (show M2 (23, 0) (3 * c + s) = nI (S.2 s 10 c 0) from (by have z := gm_g10 h1 hs hc; rw [pz_pw_s, pz_ld_0 (by omega)] at z; exact z)) ?_
      refine xi_if_le (tgt := 75) Z md_Mod_go_60 (by decide) (by omega) (fun h60 => ?_) (fun h60 => ?_)
      · refine xw_vret Z hr hlk hw md_Mod_go_75 ?_
        unfold pz_go
        rw [if_neg (by omega), if_neg (by omega), if_neg (by omega)]
        exact h1
      · refine lv_aload_n Z.1 Z.2.1 md_Mod_go_63 rfl (lv_at hl 2 rfl) ?_
        refine lv_iload_n Z.1 Z.2.1 md_Mod_go_64 rfl (lv_at hl 3 rfl) ?_
        refine lv_iload_n Z.1 Z.2.1 md_Mod_go_65 rfl (lv_at hl 4 rfl) ?_
        refine lv_aload_n Z.1 Z.2.1 md_Mod_go_66 rfl (lv_at hl 2 rfl) ?_
        refine xb_get (v := .ref (ad (23, 0))) Z hw (by decide) (gm_e0 ad cI cZ) rfl tb_iMod 23 (by decide) mk_Mod_65 rfl rfl md_Mod_go_67 ?_
        refine lv_iload_n Z.1 Z.2.1 md_Mod_go_70 rfl (lv_at hl 3 rfl) ?_
        refine xw_iald Z hw (by decide) (gm_e23 ad cI cZ) 0 rfl (3 * c + s) rfl (by omega) (by omega) md_Mod_go_71 ?_
        refine xi_re (show M2 (23, 0) (3 * c + s) = nI (S.2 s 10 c 0) from (by have z := gm_g10 h1 hs hc; rw [pz_pw_s, pz_ld_0 (by omega)] at z; exact z)) ?_
        refine xw_cV (n := 3) (rest := []) Z hml hl.1 hN hw (r_voteFor (S := pz_pw S s (pz_ld (S.2 s) c (S.2 s 8 c 0) 2)) (v := S.2 s 10 c 0) l D ad cI cZ hn h1 hs hc hL) tb_g mc_Mod_voteFor mk_Mod_156 mi_Mod_voteFor ms_Mod_voteFor mz_Mod ⟨by decide, by decide, by decide +kernel⟩ ⟨Nat.le_of_ble_eq_true rfl, Nat.le_of_ble_eq_true rfl⟩ (by decide) (gm_e0 ad cI cZ _) rfl rfl rfl rfl (Nat.le_of_ble_eq_true rfl) ⟨Nat.le_refl _, Nat.le_refl _⟩ md_Mod_go_72 (fun M4 H4 locs4 h2 hw => ?_)
        refine W.eq (g2 := F0 m 75 ls []) rfl ?_
        refine xw_vret Z hr hlk hw md_Mod_go_75 ?_
        unfold pz_go
        first | (rw [if_pos (by omega)]; exact h2) | (rw [if_neg (by omega), if_pos (by omega)]; exact h2) | (rw [if_neg (by omega), if_neg (by omega), if_pos (by omega)]; exact h2)
    · refine lv_aload_n Z.1 Z.2.1 md_Mod_go_44 rfl (lv_at hl 2 rfl) ?_
      refine lv_iload_n Z.1 Z.2.1 md_Mod_go_45 rfl (lv_at hl 3 rfl) ?_
      refine lv_iload_n Z.1 Z.2.1 md_Mod_go_46 rfl (lv_at hl 4 rfl) ?_
      refine lv_iconst (v := nI 0) Z.1 Z.2.1 md_Mod_go_47 (by decide) ?_
      refine xw_cV (n := 3) (rest := []) Z hml hl.1 hN hw (r_voteFor (S := pz_pw S s (pz_ld (S.2 s) c (S.2 s 8 c 0) 2)) (v := 0) l D ad cI cZ hn h1 hs hc hL) tb_g mc_Mod_voteFor mk_Mod_156 mi_Mod_voteFor ms_Mod_voteFor mz_Mod ⟨by decide, by decide, by decide +kernel⟩ ⟨Nat.le_of_ble_eq_true rfl, Nat.le_of_ble_eq_true rfl⟩ (by decide) (gm_e0 ad cI cZ _) rfl rfl rfl rfl (Nat.le_of_ble_eq_true rfl) ⟨Nat.le_refl _, Nat.le_refl _⟩ md_Mod_go_48 (fun M5 H5 locs5 h2 hw => ?_)
      refine W.eq (g2 := F0 m 51 ls []) rfl ?_
      refine lv_goto (tgt := 75) Z.1 Z.2.1 md_Mod_go_51 (by decide) ?_
      refine xw_vret Z hr hlk hw md_Mod_go_75 ?_
      unfold pz_go
      first | (rw [if_pos (by omega)]; exact h2) | (rw [if_neg (by omega), if_pos (by omega)]; exact h2) | (rw [if_neg (by omega), if_neg (by omega), if_pos (by omega)]; exact h2)
  · refine lv_aload_n Z.1 Z.2.1 md_Mod_go_26 rfl (lv_at hl 2 rfl) ?_
    refine lv_iload_n Z.1 Z.2.1 md_Mod_go_27 rfl (lv_at hl 3 rfl) ?_
    refine lv_iload_n Z.1 Z.2.1 md_Mod_go_28 rfl (lv_at hl 4 rfl) ?_
    refine lv_iload_n Z.1 Z.2.1 md_Mod_go_29 rfl (lv_at hl 1 rfl) ?_
    refine xw_cV (n := 3) (rest := []) Z hml hl.1 hN hw (r_voteFor (S := pz_pw S s (pz_ld (S.2 s) c (S.2 s 8 c 0) 2)) (v := pz_pk n f (S.2 s) c) l D ad cI cZ hn h1 hs hc hL) tb_g mc_Mod_voteFor mk_Mod_156 mi_Mod_voteFor ms_Mod_voteFor mz_Mod ⟨by decide, by decide, by decide +kernel⟩ ⟨Nat.le_of_ble_eq_true rfl, Nat.le_of_ble_eq_true rfl⟩ (by decide) (gm_e0 ad cI cZ _) rfl rfl rfl rfl (Nat.le_of_ble_eq_true rfl) ⟨Nat.le_refl _, Nat.le_refl _⟩ md_Mod_go_30 (fun M6 H6 locs6 h2 hw => ?_)
    refine W.eq (g2 := F0 m 33 ls []) rfl ?_
    refine lv_goto (tgt := 75) Z.1 Z.2.1 md_Mod_go_33 (by decide) ?_
    refine xw_vret Z hr hlk hw md_Mod_go_75 ?_
    unfold pz_go
    first | (rw [if_pos (by omega)]; exact h2) | (rw [if_neg (by omega), if_pos (by omega)]; exact h2) | (rw [if_neg (by omega), if_neg (by omega), if_pos (by omega)]; exact h2)
set_option maxHeartbeats 4000000 in
theorem r_recover (l : Launch) (D : va_G) (ad : Nat × Nat → Nat) (cI cZ : ClassId) {M : fr_M} {n q f : Nat} {S : pz_T} {s c : Nat} (hn : n ≤ 5) (h : gm_R n q f S M) (hs : s < 3) (hc : c < 2) (T : fr_TB n (S.2 s) c) (t1 : ∀ a, S.2 s 11 c a ≤ 1) {r : Nat} (hq5 : q ≤ 5) (hf5 : f ≤ 5) (hr2 : r < 2 ^ 31) (h60 : S.1.length ≤ 60) (H : ∀ a, a < n → S.2 s 11 c a ≠ 0 → S.2 s 13 c a = r → S.2 s 12 c a ≠ 0 ∧ S.2 s 12 c a ≤ 1000) : gm_C l D ad cI cZ my_Mod_recover mb_Mod_recover 8 none 3 75 M [.ref (ad (0, 0)), .int (nI (3 * c + s)), .int (nI (s)), .int (nI (r))] (none) (gm_R n q f (pz_rec n q f S s c r)) := by
  refine xw_start [.ref (ad (0, 0)), .int (nI (3 * c + s)), .int (nI (s)), .int (nI (r))] (by decide) (Nat.le_of_ble_eq_true rfl) ?_
  intro p e st m below meth cd0 ls Z hml hr hlk hN hl hw
  have hl : lv_has ls 8 [(0, .ref (ad (0, 0))), (1, .int (nI (3 * c + s))), (2, .int (nI (s))), (3, .int (nI (r)))] := hl
  refine lv_aload_n Z.1 Z.2.1 md_Mod_recover_0 rfl (lv_at hl 0 rfl) ?_
  refine lv_iload_n Z.1 Z.2.1 md_Mod_recover_1 rfl (lv_at hl 1 rfl) ?_
  refine xw_cV (n := 1) (rest := []) Z hml hl.1 hN hw (r_tellers l D ad cI cZ hn h hs hc t1) tb_g mc_Mod_tellers mk_Mod_149 mi_Mod_tellers ms_Mod_tellers mz_Mod ⟨by decide, by decide, by decide +kernel⟩ ⟨Nat.le_of_ble_eq_true rfl, Nat.le_of_ble_eq_true rfl⟩ (by decide) (gm_e0 ad cI cZ _) rfl rfl rfl rfl (Nat.le_of_ble_eq_true rfl) ⟨Nat.le_refl _, Nat.le_refl _⟩ md_Mod_recover_2 (fun M1 H1 locs1 e1 hw => ?_)
  have ey1 := e1.symm
  subst ey1
  refine W.eq (g2 := F0 m 5 ls [.int (nI (pz_te n (S.2 s) c))]) rfl ?_
  refine lv_istore Z.1 Z.2.1 md_Mod_recover_5 hl (by decide) rfl (fun ls hl => ?_)
  have hl : lv_has ls 8 [(4, .int (nI (pz_te n (S.2 s) c))), (0, .ref (ad (0, 0))), (1, .int (nI (3 * c + s))), (2, .int (nI (s))), (3, .int (nI (r)))] := hl
  refine lv_iconst (v := nI 0) Z.1 Z.2.1 md_Mod_recover_7 (by decide) ?_
  refine lv_istore Z.1 Z.2.1 md_Mod_recover_8 hl (by decide) rfl (fun ls hl => ?_)
  have hl : lv_has ls 8 [(5, .int (nI (0))), (4, .int (nI (pz_te n (S.2 s) c))), (0, .ref (ad (0, 0))), (1, .int (nI (3 * c + s))), (2, .int (nI (s))), (3, .int (nI (r)))] := hl
  refine lv_iconst (v := nI 0) Z.1 Z.2.1 md_Mod_recover_10 (by decide) ?_
  refine lv_istore Z.1 Z.2.1 md_Mod_recover_11 hl (by decide) rfl (fun ls hl => ?_)
  have hl : lv_has ls 8 [(6, .int (nI (0))), (5, .int (nI (0))), (4, .int (nI (pz_te n (S.2 s) c))), (0, .ref (ad (0, 0))), (1, .int (nI (3 * c + s))), (2, .int (nI (s))), (3, .int (nI (r)))] := hl
  have loop13 : ∀ (d i : Nat) (Hi : Heap) (Li : List Loc) (ls : Array Slot), i + d = n → xw_H D tb_cl (xw_A gm_ids ad) st.heap gm_ids ad (xw_M (gm_k ad cI cZ) M) Hi Li → lv_has ls 8 [(6, .int (nI (i))), (5, .int (nI (pz_mx i (fun a => if S.2 s 11 c a ≠ 0 then pz_tf n (S.2 s) c r (S.2 s 12 c a) else 0)))), (4, .int (nI (pz_te n (S.2 s) c))), (0, .ref (ad (0, 0))), (1, .int (nI (3 * c + s))), (2, .int (nI (s))), (3, .int (nI (r)))] → W p l e { frames := 3, cells := 0, slots := 0, locals := 75 } st m [.ref (ad (0, 0)), .int (nI (3 * c + s)), .int (nI (s)), .int (nI (r))].toArray below meth cd0 Hi Li 0 0 (MQ below (xw_Qc D tb_cl gm_ids ad (gm_k ad cI cZ) (none) (gm_R n q f (pz_rec n q f S s c r))) [.ref (ad (0, 0)), .int (nI (3 * c + s)), .int (nI (s)), .int (nI (r))].toArray st 0 0 (xw_A gm_ids ad)) (F0 m 13 ls []) := by
    intro d
    induction d with
    | zero =>
      intro i Hi Li ls hi hw hl
      refine lv_iload Z.1 Z.2.1 md_Mod_recover_13 (lv_at hl 0 rfl) ?_
      refine lv_aload_n Z.1 Z.2.1 md_Mod_recover_15 rfl (lv_at hl 3 rfl) ?_
      refine xb_get (v := .int (M (0, 0) 0)) Z hw (by decide) (gm_e0 ad cI cZ) rfl tb_iMod 0 (by decide) mk_Mod_77 rfl rfl md_Mod_recover_16 ?_
      refine xi_re (show M (0, 0) 0 = nI (n) from h.1.1) ?_
      refine xi_icmp_ge (tgt := 81) Z md_Mod_recover_19 (by decide) (by omega) (by omega) (fun h19 => ?_) (fun h19 => by exfalso; omega)
      have hl : lv_has ls 8 [(5, .int (nI (pz_be n (S.2 s) c r))), (4, .int (nI (pz_te n (S.2 s) c))), (0, .ref (ad (0, 0))), (1, .int (nI (3 * c + s))), (2, .int (nI (s))), (3, .int (nI (r)))] := by have z := lv_sub hl [1, 2, 3, 4, 5, 6] rfl; rw [show i = n by omega] at z; exact z
      have lt := pz_te_le (n := n) (fun a (_ : a < n) => t1 a)
      have lbe : pz_be n (S.2 s) c r ≤ n := pz_mx_le n (fun a _ => by split <;> first | exact pz_tf_le | omega)
      refine lv_iload Z.1 Z.2.1 md_Mod_recover_81 (lv_at hl 1 rfl) ?_
      refine lv_aload_n Z.1 Z.2.1 md_Mod_recover_83 rfl (lv_at hl 2 rfl) ?_
      refine xb_get (v := .int (M (0, 0) 1)) Z hw (by decide) (gm_e0 ad cI cZ) rfl tb_iMod 1 (by decide) mk_Mod_81 rfl rfl md_Mod_recover_84 ?_
      refine xi_re (show M (0, 0) 1 = nI (q) from h.1.2.1) ?_
      refine xi_icmp_lt (tgt := 107) Z md_Mod_recover_87 (by decide) (by omega) (by omega) (fun h87 => ?_) (fun h87 => ?_)
      · exact xw_vret Z hr hlk hw md_Mod_recover_107 (by unfold pz_rec; rw [if_pos (by omega)]; exact h)
      · refine lv_iload Z.1 Z.2.1 md_Mod_recover_90 (lv_at hl 0 rfl) ?_
        refine lv_aload_n Z.1 Z.2.1 md_Mod_recover_92 rfl (lv_at hl 2 rfl) ?_
        refine xb_get (v := .int (M (0, 0) 0)) Z hw (by decide) (gm_e0 ad cI cZ) rfl tb_iMod 0 (by decide) mk_Mod_77 rfl rfl md_Mod_recover_93 ?_
        refine xi_re (show M (0, 0) 0 = nI (n) from h.1.1) ?_
        refine xi_add Z md_Mod_recover_96 ?_
        refine lv_iload Z.1 Z.2.1 md_Mod_recover_97 (lv_at hl 1 rfl) ?_
        refine xi_sub Z md_Mod_recover_99 (by omega) ?_
        refine lv_aload_n Z.1 Z.2.1 md_Mod_recover_100 rfl (lv_at hl 2 rfl) ?_
        refine xb_get (v := .int (M (0, 0) 2)) Z hw (by decide) (gm_e0 ad cI cZ) rfl tb_iMod 2 (by decide) mk_Mod_84 rfl rfl md_Mod_recover_101 ?_
        refine xi_re (show M (0, 0) 2 = nI (f) from h.1.2.2) ?_
        refine xi_icmp_lt (tgt := 108) Z md_Mod_recover_104 (by decide) (by omega) (by omega) (fun h104 => ?_) (fun h104 => ?_)
        · refine lv_aload_n Z.1 Z.2.1 md_Mod_recover_108 rfl (lv_at hl 2 rfl) ?_
          refine lv_iload_n Z.1 Z.2.1 md_Mod_recover_109 rfl (lv_at hl 3 rfl) ?_
          refine lv_iload_n Z.1 Z.2.1 md_Mod_recover_110 rfl (lv_at hl 5 rfl) ?_
          refine xw_cV (n := 2) (rest := []) Z hml hl.1 hN hw (r_leastTold (r := r) l D ad cI cZ hn h hs hc T hr2) tb_g mc_Mod_leastTold mk_Mod_152 mi_Mod_leastTold ms_Mod_leastTold mz_Mod ⟨by decide, by decide, by decide +kernel⟩ ⟨Nat.le_of_ble_eq_true rfl, Nat.le_of_ble_eq_true rfl⟩ (by decide) (gm_e0 ad cI cZ _) rfl rfl rfl rfl (Nat.le_of_ble_eq_true rfl) ⟨Nat.le_refl _, Nat.le_refl _⟩ md_Mod_recover_111 (fun M2 H2 locs2 e2 hw => ?_)
          have ey2 := e2.symm
          subst ey2
          refine W.eq (g2 := F0 m 114 ls [.int (nI (pz_sc n (S.2 s) c r 1000))]) rfl ?_
          refine xi_re (show _ = nI (pz_ls (S.2 s) c r n) from (by rw [pz_sc_ls H])) ?_
          refine lv_istore Z.1 Z.2.1 md_Mod_recover_114 hl (by decide) rfl (fun ls hl => ?_)
          have hl : lv_has ls 8 [(6, .int (nI (pz_ls (S.2 s) c r n))), (5, .int (nI (pz_be n (S.2 s) c r))), (4, .int (nI (pz_te n (S.2 s) c))), (0, .ref (ad (0, 0))), (1, .int (nI (3 * c + s))), (2, .int (nI (s))), (3, .int (nI (r)))] := hl
          refine lv_aload_n Z.1 Z.2.1 md_Mod_recover_116 rfl (lv_at hl 3 rfl) ?_
          refine lv_iload_n Z.1 Z.2.1 md_Mod_recover_117 rfl (lv_at hl 4 rfl) ?_
          refine lv_iload_n Z.1 Z.2.1 md_Mod_recover_118 rfl (lv_at hl 6 rfl) ?_
          refine lv_iconst (v := nI 1) Z.1 Z.2.1 md_Mod_recover_119 (by decide) ?_
          refine xi_add Z md_Mod_recover_120 ?_
          refine lv_iconst (v := nI 3) Z.1 Z.2.1 md_Mod_recover_121 (by decide) ?_
          refine xw_cV (n := 3) (rest := []) Z hml hl.1 hN hw (r_lead (r := r + 1) (w := 3) l D ad cI cZ hn h hs hc) tb_g mc_Mod_lead mk_Mod_118 mi_Mod_lead ms_Mod_lead mz_Mod ⟨by decide, by decide, by decide +kernel⟩ ⟨Nat.le_of_ble_eq_true rfl, Nat.le_of_ble_eq_true rfl⟩ (by decide) (gm_e0 ad cI cZ _) rfl rfl rfl rfl (Nat.le_of_ble_eq_true rfl) ⟨Nat.le_refl _, Nat.le_refl _⟩ md_Mod_recover_122 (fun M3 H3 locs3 h1 hw => ?_)
          refine W.eq (g2 := F0 m 125 ls []) rfl ?_
          refine lv_aload_n Z.1 Z.2.1 md_Mod_recover_125 rfl (lv_at hl 3 rfl) ?_
          refine lv_iload_n Z.1 Z.2.1 md_Mod_recover_126 rfl (lv_at hl 4 rfl) ?_
          refine lv_iload_n Z.1 Z.2.1 md_Mod_recover_127 rfl (lv_at hl 5 rfl) ?_
          refine lv_iload Z.1 Z.2.1 md_Mod_recover_128 (lv_at hl 0 rfl) ?_
          refine xw_cV (n := 3) (rest := []) Z hml hl.1 hN hw (r_voteFor (S := pz_pw S s (pz_ld (S.2 s) c (r + 1) 3)) (v := pz_ls (S.2 s) c r n) l D ad cI cZ hn h1 hs hc h60) tb_g mc_Mod_voteFor mk_Mod_156 mi_Mod_voteFor ms_Mod_voteFor mz_Mod ⟨by decide, by decide, by decide +kernel⟩ ⟨Nat.le_of_ble_eq_true rfl, Nat.le_of_ble_eq_true rfl⟩ (by decide) (gm_e0 ad cI cZ _) rfl rfl rfl rfl (Nat.le_of_ble_eq_true rfl) ⟨Nat.le_refl _, Nat.le_refl _⟩ md_Mod_recover_130 (fun M4 H4 locs4 h2 hw => ?_)
          refine W.eq (g2 := F0 m 133 ls []) rfl ?_
          exact xw_vret Z hr hlk hw md_Mod_recover_133 (by unfold pz_rec; rw [if_neg (by omega)]; exact h2)
        · exact xw_vret Z hr hlk hw md_Mod_recover_107 (by unfold pz_rec; rw [if_pos (by omega)]; exact h)
    | succ d ih =>
      intro i Hi Li ls hi hw hl
      refine lv_iload Z.1 Z.2.1 md_Mod_recover_13 (lv_at hl 0 rfl) ?_
      refine lv_aload_n Z.1 Z.2.1 md_Mod_recover_15 rfl (lv_at hl 3 rfl) ?_
      refine xb_get (v := .int (M (0, 0) 0)) Z hw (by decide) (gm_e0 ad cI cZ) rfl tb_iMod 0 (by decide) mk_Mod_77 rfl rfl md_Mod_recover_16 ?_
      refine xi_re (show M (0, 0) 0 = nI (n) from h.1.1) ?_
      refine xi_icmp_ge (tgt := 81) Z md_Mod_recover_19 (by decide) (by omega) (by omega) (fun h19 => by exfalso; omega) (fun h19 => ?_)
      refine lv_aload_n Z.1 Z.2.1 md_Mod_recover_22 rfl (lv_at hl 3 rfl) ?_
      refine xb_get (v := .ref (ad (24, 0))) Z hw (by decide) (gm_e0 ad cI cZ) rfl tb_iMod 24 (by decide) mk_Mod_68 rfl rfl md_Mod_recover_23 ?_
      refine lv_iconst (v := nI 5) Z.1 Z.2.1 md_Mod_recover_26 (by decide) ?_
      refine lv_iload_n Z.1 Z.2.1 md_Mod_recover_27 rfl (lv_at hl 4 rfl) ?_
      refine xi_mul Z md_Mod_recover_28 ?_
      refine lv_iload Z.1 Z.2.1 md_Mod_recover_29 (lv_at hl 0 rfl) ?_
      refine xi_add Z md_Mod_recover_31 ?_
      refine xw_zald Z hw (by decide) (gm_e24 ad cI cZ) 1 rfl (5 * (3 * c + s) + i) rfl (by omega) (by omega) md_Mod_recover_32 ?_
      refine xi_re (show M (24, 0) (5 * (3 * c + s) + i) = nI (S.2 s 11 c i) from gm_g11 h hs hc (by omega)) ?_
      have t := t1 i
      refine xi_if_eq (tgt := 56) Z md_Mod_recover_33 (by decide) (by omega) (fun h33 => ?_) (fun h33 => ?_)
      · refine lv_iconst (v := nI 0) Z.1 Z.2.1 md_Mod_recover_56 (by decide) ?_
        refine lv_istore Z.1 Z.2.1 md_Mod_recover_57 hl (by decide) rfl (fun ls hl => ?_)
        have hl : lv_has ls 8 [(7, .int (nI (0))), (6, .int (nI (i))), (5, .int (nI (pz_mx i (fun a => if S.2 s 11 c a ≠ 0 then pz_tf n (S.2 s) c r (S.2 s 12 c a) else 0)))), (4, .int (nI (pz_te n (S.2 s) c))), (0, .ref (ad (0, 0))), (1, .int (nI (3 * c + s))), (2, .int (nI (s))), (3, .int (nI (r)))] := hl
        refine lv_iload Z.1 Z.2.1 md_Mod_recover_59 (lv_at hl 0 rfl) ?_
        refine lv_iload Z.1 Z.2.1 md_Mod_recover_61 (lv_at hl 2 rfl) ?_
        have lb : pz_mx i (fun a => if S.2 s 11 c a ≠ 0 then pz_tf n (S.2 s) c r (S.2 s 12 c a) else 0) ≤ n := pz_mx_le i (fun a _ => by split <;> first | exact pz_tf_le | omega)
        have ltf : pz_tf n (S.2 s) c r (S.2 s 12 c i) ≤ n := pz_tf_le
        refine xi_icmp_le (tgt := 71) Z md_Mod_recover_63 (by decide) (by omega) (by omega) (fun h63 => ?_) (fun h63 => ?_)
        · refine lv_iload Z.1 Z.2.1 md_Mod_recover_71 (lv_at hl 2 rfl) ?_
          refine lv_istore Z.1 Z.2.1 md_Mod_recover_73 hl (by decide) rfl (fun ls hl => ?_)
          have hl : lv_has ls 8 [(5, .int (nI (pz_mx i (fun a => if S.2 s 11 c a ≠ 0 then pz_tf n (S.2 s) c r (S.2 s 12 c a) else 0)))), (7, .int (nI (0))), (6, .int (nI (i))), (4, .int (nI (pz_te n (S.2 s) c))), (0, .ref (ad (0, 0))), (1, .int (nI (3 * c + s))), (2, .int (nI (s))), (3, .int (nI (r)))] := hl
          refine lv_iinc Z.1 Z.2.1 md_Mod_recover_75 hl (k := 2) rfl (xi_inc1 (i)) (by decide) rfl (fun ls hl => ?_)
          have hl : lv_has ls 8 [(6, .int (nI (i + 1))), (5, .int (nI (pz_mx i (fun a => if S.2 s 11 c a ≠ 0 then pz_tf n (S.2 s) c r (S.2 s 12 c a) else 0)))), (7, .int (nI (0))), (4, .int (nI (pz_te n (S.2 s) c))), (0, .ref (ad (0, 0))), (1, .int (nI (3 * c + s))), (2, .int (nI (s))), (3, .int (nI (r)))] := hl
          refine lv_goto (tgt := 13) Z.1 Z.2.1 md_Mod_recover_78 (by decide) ?_
          refine ih (i + 1) _ _ ls (by omega) hw ?_
          first | (rw [show pz_mx (i + 1) (fun a => if S.2 s 11 c a ≠ 0 then pz_tf n (S.2 s) c r (S.2 s 12 c a) else 0) = pz_tf n (S.2 s) c r (S.2 s 12 c i) from by simp only [pz_mx]; rw [if_pos (c := S.2 s 11 c i ≠ 0) (by omega), if_pos (by omega)]]; exact lv_sub hl [0, 1, 3, 4, 5, 6, 7] rfl) | (rw [show pz_mx (i + 1) (fun a => if S.2 s 11 c a ≠ 0 then pz_tf n (S.2 s) c r (S.2 s 12 c a) else 0) = pz_mx i (fun a => if S.2 s 11 c a ≠ 0 then pz_tf n (S.2 s) c r (S.2 s 12 c a) else 0) from by simp only [pz_mx]; rw [if_pos (c := S.2 s 11 c i ≠ 0) (by omega), if_neg (by omega)]]; exact lv_sub hl [0, 1, 3, 4, 5, 6, 7] rfl) | (rw [show pz_mx (i + 1) (fun a => if S.2 s 11 c a ≠ 0 then pz_tf n (S.2 s) c r (S.2 s 12 c a) else 0) = pz_mx i (fun a => if S.2 s 11 c a ≠ 0 then pz_tf n (S.2 s) c r (S.2 s 12 c a) else 0) from by simp only [pz_mx]; rw [if_neg (c := S.2 s 11 c i ≠ 0) (by omega), if_neg (Nat.not_lt_zero _)]]; exact lv_sub hl [0, 1, 3, 4, 5, 6, 7] rfl) | (exfalso; omega)
        · refine lv_iload Z.1 Z.2.1 md_Mod_recover_66 (lv_at hl 0 rfl) ?_
          refine lv_goto (tgt := 73) Z.1 Z.2.1 md_Mod_recover_68 (by decide) ?_
          refine lv_istore Z.1 Z.2.1 md_Mod_recover_73 hl (by decide) rfl (fun ls hl => ?_)
          have hl : lv_has ls 8 [(5, .int (nI (0))), (7, .int (nI (0))), (6, .int (nI (i))), (4, .int (nI (pz_te n (S.2 s) c))), (0, .ref (ad (0, 0))), (1, .int (nI (3 * c + s))), (2, .int (nI (s))), (3, .int (nI (r)))] := hl
          refine lv_iinc Z.1 Z.2.1 md_Mod_recover_75 hl (k := 2) rfl (xi_inc1 (i)) (by decide) rfl (fun ls hl => ?_)
          have hl : lv_has ls 8 [(6, .int (nI (i + 1))), (5, .int (nI (0))), (7, .int (nI (0))), (4, .int (nI (pz_te n (S.2 s) c))), (0, .ref (ad (0, 0))), (1, .int (nI (3 * c + s))), (2, .int (nI (s))), (3, .int (nI (r)))] := hl
          refine lv_goto (tgt := 13) Z.1 Z.2.1 md_Mod_recover_78 (by decide) ?_
          refine ih (i + 1) _ _ ls (by omega) hw ?_
          first | (rw [show pz_mx (i + 1) (fun a => if S.2 s 11 c a ≠ 0 then pz_tf n (S.2 s) c r (S.2 s 12 c a) else 0) = pz_tf n (S.2 s) c r (S.2 s 12 c i) from by simp only [pz_mx]; rw [if_pos (c := S.2 s 11 c i ≠ 0) (by omega), if_pos (by omega)]]; exact lv_sub hl [0, 1, 3, 4, 5, 6, 7] rfl) | (rw [show pz_mx (i + 1) (fun a => if S.2 s 11 c a ≠ 0 then pz_tf n (S.2 s) c r (S.2 s 12 c a) else 0) = pz_mx i (fun a => if S.2 s 11 c a ≠ 0 then pz_tf n (S.2 s) c r (S.2 s 12 c a) else 0) from by simp only [pz_mx]; rw [if_pos (c := S.2 s 11 c i ≠ 0) (by omega), if_neg (by omega)]]; exact lv_sub hl [0, 1, 3, 4, 5, 6, 7] rfl) | (rw [show pz_mx (i + 1) (fun a => if S.2 s 11 c a ≠ 0 then pz_tf n (S.2 s) c r (S.2 s 12 c a) else 0) = pz_mx i (fun a => if S.2 s 11 c a ≠ 0 then pz_tf n (S.2 s) c r (S.2 s 12 c a) else 0) from by simp only [pz_mx]; rw [if_neg (c := S.2 s 11 c i ≠ 0) (by omega), if_neg (Nat.not_lt_zero _)]]; exact lv_sub hl [0, 1, 3, 4, 5, 6, 7] rfl) | (exfalso; omega)
      · refine lv_aload_n Z.1 Z.2.1 md_Mod_recover_36 rfl (lv_at hl 3 rfl) ?_
        refine lv_iload_n Z.1 Z.2.1 md_Mod_recover_37 rfl (lv_at hl 4 rfl) ?_
        refine lv_iload_n Z.1 Z.2.1 md_Mod_recover_38 rfl (lv_at hl 6 rfl) ?_
        refine lv_aload_n Z.1 Z.2.1 md_Mod_recover_39 rfl (lv_at hl 3 rfl) ?_
        refine xb_get (v := .ref (ad (25, 0))) Z hw (by decide) (gm_e0 ad cI cZ) rfl tb_iMod 25 (by decide) mk_Mod_71 rfl rfl md_Mod_recover_40 ?_
        refine lv_iconst (v := nI 5) Z.1 Z.2.1 md_Mod_recover_43 (by decide) ?_
        refine lv_iload_n Z.1 Z.2.1 md_Mod_recover_44 rfl (lv_at hl 4 rfl) ?_
        refine xi_mul Z md_Mod_recover_45 ?_
        refine lv_iload Z.1 Z.2.1 md_Mod_recover_46 (lv_at hl 0 rfl) ?_
        refine xi_add Z md_Mod_recover_48 ?_
        refine xw_iald Z hw (by decide) (gm_e25 ad cI cZ) 0 rfl (5 * (3 * c + s) + i) rfl (by omega) (by omega) md_Mod_recover_49 ?_
        refine xi_re (show M (25, 0) (5 * (3 * c + s) + i) = nI (S.2 s 12 c i) from gm_g12 h hs hc (by omega)) ?_
        have t2 := (T i (by omega)).2 h33
        refine xw_cV (n := 3) (rest := []) Z hml hl.1 hN hw (r_toldFor (r := r) (v := S.2 s 12 c i) l D ad cI cZ hn h hs hc T hr2 t2.1) tb_g mc_Mod_toldFor mk_Mod_145 mi_Mod_toldFor ms_Mod_toldFor mz_Mod ⟨by decide, by decide, by decide +kernel⟩ ⟨Nat.le_of_ble_eq_true rfl, Nat.le_of_ble_eq_true rfl⟩ (by decide) (gm_e0 ad cI cZ _) rfl rfl rfl rfl (Nat.le_of_ble_eq_true rfl) ⟨Nat.le_refl _, Nat.le_refl _⟩ md_Mod_recover_50 (fun M5 H5 locs5 e5 hw => ?_)
        have ey5 := e5.symm
        subst ey5
        refine W.eq (g2 := F0 m 53 ls [.int (nI (pz_tf n (S.2 s) c r (S.2 s 12 c i)))]) rfl ?_
        refine lv_goto (tgt := 57) Z.1 Z.2.1 md_Mod_recover_53 (by decide) ?_
        refine lv_istore Z.1 Z.2.1 md_Mod_recover_57 hl (by decide) rfl (fun ls hl => ?_)
        have hl : lv_has ls 8 [(7, .int (nI (pz_tf n (S.2 s) c r (S.2 s 12 c i)))), (6, .int (nI (i))), (5, .int (nI (pz_mx i (fun a => if S.2 s 11 c a ≠ 0 then pz_tf n (S.2 s) c r (S.2 s 12 c a) else 0)))), (4, .int (nI (pz_te n (S.2 s) c))), (0, .ref (ad (0, 0))), (1, .int (nI (3 * c + s))), (2, .int (nI (s))), (3, .int (nI (r)))] := hl
        refine lv_iload Z.1 Z.2.1 md_Mod_recover_59 (lv_at hl 0 rfl) ?_
        refine lv_iload Z.1 Z.2.1 md_Mod_recover_61 (lv_at hl 2 rfl) ?_
        have lb : pz_mx i (fun a => if S.2 s 11 c a ≠ 0 then pz_tf n (S.2 s) c r (S.2 s 12 c a) else 0) ≤ n := pz_mx_le i (fun a _ => by split <;> first | exact pz_tf_le | omega)
        have ltf : pz_tf n (S.2 s) c r (S.2 s 12 c i) ≤ n := pz_tf_le
        refine xi_icmp_le (tgt := 71) Z md_Mod_recover_63 (by decide) (by omega) (by omega) (fun h63 => ?_) (fun h63 => ?_)
        · refine lv_iload Z.1 Z.2.1 md_Mod_recover_71 (lv_at hl 2 rfl) ?_
          refine lv_istore Z.1 Z.2.1 md_Mod_recover_73 hl (by decide) rfl (fun ls hl => ?_)
          have hl : lv_has ls 8 [(5, .int (nI (pz_mx i (fun a => if S.2 s 11 c a ≠ 0 then pz_tf n (S.2 s) c r (S.2 s 12 c a) else 0)))), (7, .int (nI (pz_tf n (S.2 s) c r (S.2 s 12 c i)))), (6, .int (nI (i))), (4, .int (nI (pz_te n (S.2 s) c))), (0, .ref (ad (0, 0))), (1, .int (nI (3 * c + s))), (2, .int (nI (s))), (3, .int (nI (r)))] := hl
          refine lv_iinc Z.1 Z.2.1 md_Mod_recover_75 hl (k := 2) rfl (xi_inc1 (i)) (by decide) rfl (fun ls hl => ?_)
          have hl : lv_has ls 8 [(6, .int (nI (i + 1))), (5, .int (nI (pz_mx i (fun a => if S.2 s 11 c a ≠ 0 then pz_tf n (S.2 s) c r (S.2 s 12 c a) else 0)))), (7, .int (nI (pz_tf n (S.2 s) c r (S.2 s 12 c i)))), (4, .int (nI (pz_te n (S.2 s) c))), (0, .ref (ad (0, 0))), (1, .int (nI (3 * c + s))), (2, .int (nI (s))), (3, .int (nI (r)))] := hl
          refine lv_goto (tgt := 13) Z.1 Z.2.1 md_Mod_recover_78 (by decide) ?_
          refine ih (i + 1) _ _ ls (by omega) hw ?_
          first | (rw [show pz_mx (i + 1) (fun a => if S.2 s 11 c a ≠ 0 then pz_tf n (S.2 s) c r (S.2 s 12 c a) else 0) = pz_tf n (S.2 s) c r (S.2 s 12 c i) from by simp only [pz_mx]; rw [if_pos (c := S.2 s 11 c i ≠ 0) (by omega), if_pos (by omega)]]; exact lv_sub hl [0, 1, 3, 4, 5, 6, 7] rfl) | (rw [show pz_mx (i + 1) (fun a => if S.2 s 11 c a ≠ 0 then pz_tf n (S.2 s) c r (S.2 s 12 c a) else 0) = pz_mx i (fun a => if S.2 s 11 c a ≠ 0 then pz_tf n (S.2 s) c r (S.2 s 12 c a) else 0) from by simp only [pz_mx]; rw [if_pos (c := S.2 s 11 c i ≠ 0) (by omega), if_neg (by omega)]]; exact lv_sub hl [0, 1, 3, 4, 5, 6, 7] rfl) | (rw [show pz_mx (i + 1) (fun a => if S.2 s 11 c a ≠ 0 then pz_tf n (S.2 s) c r (S.2 s 12 c a) else 0) = pz_mx i (fun a => if S.2 s 11 c a ≠ 0 then pz_tf n (S.2 s) c r (S.2 s 12 c a) else 0) from by simp only [pz_mx]; rw [if_neg (c := S.2 s 11 c i ≠ 0) (by omega), if_neg (Nat.not_lt_zero _)]]; exact lv_sub hl [0, 1, 3, 4, 5, 6, 7] rfl) | (exfalso; omega)
        · refine lv_iload Z.1 Z.2.1 md_Mod_recover_66 (lv_at hl 0 rfl) ?_
          refine lv_goto (tgt := 73) Z.1 Z.2.1 md_Mod_recover_68 (by decide) ?_
          refine lv_istore Z.1 Z.2.1 md_Mod_recover_73 hl (by decide) rfl (fun ls hl => ?_)
          have hl : lv_has ls 8 [(5, .int (nI (pz_tf n (S.2 s) c r (S.2 s 12 c i)))), (7, .int (nI (pz_tf n (S.2 s) c r (S.2 s 12 c i)))), (6, .int (nI (i))), (4, .int (nI (pz_te n (S.2 s) c))), (0, .ref (ad (0, 0))), (1, .int (nI (3 * c + s))), (2, .int (nI (s))), (3, .int (nI (r)))] := hl
          refine lv_iinc Z.1 Z.2.1 md_Mod_recover_75 hl (k := 2) rfl (xi_inc1 (i)) (by decide) rfl (fun ls hl => ?_)
          have hl : lv_has ls 8 [(6, .int (nI (i + 1))), (5, .int (nI (pz_tf n (S.2 s) c r (S.2 s 12 c i)))), (7, .int (nI (pz_tf n (S.2 s) c r (S.2 s 12 c i)))), (4, .int (nI (pz_te n (S.2 s) c))), (0, .ref (ad (0, 0))), (1, .int (nI (3 * c + s))), (2, .int (nI (s))), (3, .int (nI (r)))] := hl
          refine lv_goto (tgt := 13) Z.1 Z.2.1 md_Mod_recover_78 (by decide) ?_
          refine ih (i + 1) _ _ ls (by omega) hw ?_
          first | (rw [show pz_mx (i + 1) (fun a => if S.2 s 11 c a ≠ 0 then pz_tf n (S.2 s) c r (S.2 s 12 c a) else 0) = pz_tf n (S.2 s) c r (S.2 s 12 c i) from by simp only [pz_mx]; rw [if_pos (c := S.2 s 11 c i ≠ 0) (by omega), if_pos (by omega)]]; exact lv_sub hl [0, 1, 3, 4, 5, 6, 7] rfl) | (rw [show pz_mx (i + 1) (fun a => if S.2 s 11 c a ≠ 0 then pz_tf n (S.2 s) c r (S.2 s 12 c a) else 0) = pz_mx i (fun a => if S.2 s 11 c a ≠ 0 then pz_tf n (S.2 s) c r (S.2 s 12 c a) else 0) from by simp only [pz_mx]; rw [if_pos (c := S.2 s 11 c i ≠ 0) (by omega), if_neg (by omega)]]; exact lv_sub hl [0, 1, 3, 4, 5, 6, 7] rfl) | (rw [show pz_mx (i + 1) (fun a => if S.2 s 11 c a ≠ 0 then pz_tf n (S.2 s) c r (S.2 s 12 c a) else 0) = pz_mx i (fun a => if S.2 s 11 c a ≠ 0 then pz_tf n (S.2 s) c r (S.2 s 12 c a) else 0) from by simp only [pz_mx]; rw [if_neg (c := S.2 s 11 c i ≠ 0) (by omega), if_neg (Nat.not_lt_zero _)]]; exact lv_sub hl [0, 1, 3, 4, 5, 6, 7] rfl) | (exfalso; omega)
  exact loop13 n (0) _ _ ls (by omega) hw (lv_sub hl [0, 1, 2, 3, 4, 5, 6] rfl)
set_option maxHeartbeats 4000000 in
theorem r_coord1 (l : Launch) (D : va_G) (ad : Nat × Nat → Nat) (cI cZ : ClassId) {M : fr_M} {n q f : Nat} {S : pz_T} {s c : Nat} (hn : n ≤ 5) (h : gm_R n q f S M) (hs : s < 3) (hc : c < 2) (Q : pz_Q n q f) (I : pz_IV n q f (S.2 s)) (hq5 : q ≤ 5) (hf5 : f ≤ 5) (hL : S.1.length ≤ 60) {r fr v ol : Nat} : gm_C l D ad cI cZ my_Mod_coordinate mb_Mod_coordinate 9 none 3 75 M [.ref (ad (0, 0)), .int (nI (8 + c)), .int (nI (1)), .int (nI (s)), .int (nI (r)), .int (nI (fr)), .int (nI (v)), .int (nI (ol))] (none) (gm_R n q f (pz_coord n q f S s c 1 r fr v ol)) := by
  have h0 : gm_R n q f (pz_pw S s (S.2 s)) M := by rw [pz_pw_id]; exact h
  obtain ⟨c1, c2, c3, c4, c5, c6, c7, c8⟩ := I.2.2.2.2.2.1 c hc
  refine xw_start [.ref (ad (0, 0)), .int (nI (8 + c)), .int (nI (1)), .int (nI (s)), .int (nI (r)), .int (nI (fr)), .int (nI (v)), .int (nI (ol))] (by decide) (Nat.le_of_ble_eq_true rfl) ?_
  intro p e st m below meth cd0 ls Z hml hr hlk hN hl hw
  have hl : lv_has ls 9 [(0, .ref (ad (0, 0))), (1, .int (nI (8 + c))), (2, .int (nI (1))), (3, .int (nI (s))), (4, .int (nI (r))), (5, .int (nI (fr))), (6, .int (nI (v))), (7, .int (nI (ol)))] := hl
  refine lv_iconst (v := nI 3) Z.1 Z.2.1 md_Mod_coordinate_0 (by decide) ?_
  refine lv_iload_n Z.1 Z.2.1 md_Mod_coordinate_1 rfl (lv_at hl 1 rfl) ?_
  refine lv_bipush (v := nI 8) Z.1 Z.2.1 md_Mod_coordinate_2 (by decide) ?_
  refine xi_sub Z md_Mod_coordinate_4 (by omega) ?_
  refine xi_re (show _ = nI (c) from congrArg nI (by omega)) ?_
  refine xi_mul Z md_Mod_coordinate_5 ?_
  refine lv_iload_n Z.1 Z.2.1 md_Mod_coordinate_6 rfl (lv_at hl 3 rfl) ?_
  refine xi_add Z md_Mod_coordinate_7 ?_
  refine lv_istore Z.1 Z.2.1 md_Mod_coordinate_8 hl (by decide) rfl (fun ls hl => ?_)
  have hl : lv_has ls 9 [(8, .int (nI ((3 * c) + s))), (0, .ref (ad (0, 0))), (1, .int (nI (8 + c))), (2, .int (nI (1))), (3, .int (nI (s))), (4, .int (nI (r))), (5, .int (nI (fr))), (6, .int (nI (v))), (7, .int (nI (ol)))] := hl
  refine lv_iload_n Z.1 Z.2.1 md_Mod_coordinate_10 rfl (lv_at hl 3 rfl) ?_
  refine lv_iconst (v := nI 1) Z.1 Z.2.1 md_Mod_coordinate_11 (by decide) ?_
  refine xi_icmp_ne (tgt := 72) Z md_Mod_coordinate_12 (by decide) (by omega) (by omega) (fun h12 => by exfalso; omega) (fun h12 => ?_)
  refine lv_aload_n Z.1 Z.2.1 md_Mod_coordinate_15 rfl (lv_at hl 1 rfl) ?_
  refine xb_get (v := .ref (ad (23, 0))) Z hw (by decide) (gm_e0 ad cI cZ) rfl tb_iMod 23 (by decide) mk_Mod_65 rfl rfl md_Mod_coordinate_16 ?_
  refine lv_iload Z.1 Z.2.1 md_Mod_coordinate_19 (lv_at hl 0 rfl) ?_
  refine lv_aload_n Z.1 Z.2.1 md_Mod_coordinate_21 rfl (lv_at hl 1 rfl) ?_
  refine xb_get (v := .ref (ad (23, 0))) Z hw (by decide) (gm_e0 ad cI cZ) rfl tb_iMod 23 (by decide) mk_Mod_65 rfl rfl md_Mod_coordinate_22 ?_
  refine lv_iload Z.1 Z.2.1 md_Mod_coordinate_25 (lv_at hl 0 rfl) ?_
  refine xw_iald Z hw (by decide) (gm_e23 ad cI cZ) 0 rfl (3 * c + s) rfl (by omega) (by omega) md_Mod_coordinate_27 ?_
  refine xi_re (show M (23, 0) (3 * c + s) = nI (S.2 s 10 c 0) from gm_g10 h hs hc) ?_
  refine xi_if_ne (tgt := 36) Z md_Mod_coordinate_28 (by decide) (by omega) (fun h28 => ?_) (fun h28 => ?_)
  · refine lv_aload_n Z.1 Z.2.1 md_Mod_coordinate_36 rfl (lv_at hl 1 rfl) ?_
    refine xb_get (v := .ref (ad (23, 0))) Z hw (by decide) (gm_e0 ad cI cZ) rfl tb_iMod 23 (by decide) mk_Mod_65 rfl rfl md_Mod_coordinate_37 ?_
    refine lv_iload Z.1 Z.2.1 md_Mod_coordinate_40 (lv_at hl 0 rfl) ?_
    refine xw_iald Z hw (by decide) (gm_e23 ad cI cZ) 0 rfl (3 * c + s) rfl (by omega) (by omega) md_Mod_coordinate_42 ?_
    refine xi_re (show M (23, 0) (3 * c + s) = nI (S.2 s 10 c 0) from gm_g10 h hs hc) ?_
    refine xb_iast Z hw (by decide) (gm_e23 ad cI cZ) 0 rfl (3 * c + s) rfl (by omega) (by omega) md_Mod_coordinate_43 (fun M1 H1 locs1 e1 hw => ?_)
    have h1 := gm_w10 h0 hs hc e1
    refine lv_aload_n Z.1 Z.2.1 md_Mod_coordinate_44 rfl (lv_at hl 1 rfl) ?_
    refine xb_get (v := .ref (ad (22, 0))) Z hw (by decide) (gm_e0 ad cI cZ) rfl tb_iMod 22 (by decide) mk_Mod_62 rfl rfl md_Mod_coordinate_45 ?_
    refine lv_iload Z.1 Z.2.1 md_Mod_coordinate_48 (lv_at hl 0 rfl) ?_
    refine xw_iald Z hw (by decide) (gm_e22 ad cI cZ) 0 rfl (3 * c + s) rfl (by omega) (by omega) md_Mod_coordinate_50 ?_
    refine xi_re (show M1 (22, 0) (3 * c + s) = nI (S.2 s 9 c 0) from (by have z := gm_g9 h1 hs hc; rw [pz_pw_s, pz_u_k (by decide)] at z; exact z)) ?_
    refine lv_iconst (v := nI 2) Z.1 Z.2.1 md_Mod_coordinate_51 (by decide) ?_
    refine xi_icmp_ne (tgt := 192) Z md_Mod_coordinate_52 (by decide) (by omega) (by omega) (fun h52 => ?_) (fun h52 => by exfalso; exact h28 (c7 h52).1)
    refine xw_vret Z hr hlk hw md_Mod_coordinate_192 ?_
    unfold pz_coord
    rw [if_pos rfl, if_neg h28]
    rw [pz_u_id, pz_pw_id] at h1
    exact h1
  · refine lv_iload Z.1 Z.2.1 md_Mod_coordinate_31 (lv_at hl 7 rfl) ?_
    refine lv_goto (tgt := 43) Z.1 Z.2.1 md_Mod_coordinate_33 (by decide) ?_
    refine xb_iast Z hw (by decide) (gm_e23 ad cI cZ) 0 rfl (3 * c + s) rfl (by omega) (by omega) md_Mod_coordinate_43 (fun M2 H2 locs2 e2 hw => ?_)
    have h1 := gm_w10 h0 hs hc e2
    refine lv_aload_n Z.1 Z.2.1 md_Mod_coordinate_44 rfl (lv_at hl 1 rfl) ?_
    refine xb_get (v := .ref (ad (22, 0))) Z hw (by decide) (gm_e0 ad cI cZ) rfl tb_iMod 22 (by decide) mk_Mod_62 rfl rfl md_Mod_coordinate_45 ?_
    refine lv_iload Z.1 Z.2.1 md_Mod_coordinate_48 (lv_at hl 0 rfl) ?_
    refine xw_iald Z hw (by decide) (gm_e22 ad cI cZ) 0 rfl (3 * c + s) rfl (by omega) (by omega) md_Mod_coordinate_50 ?_
    refine xi_re (show M2 (22, 0) (3 * c + s) = nI (S.2 s 9 c 0) from (by have z := gm_g9 h1 hs hc; rw [pz_pw_s, pz_u_k (by decide)] at z; exact z)) ?_
    refine lv_iconst (v := nI 2) Z.1 Z.2.1 md_Mod_coordinate_51 (by decide) ?_
    refine xi_icmp_ne (tgt := 192) Z md_Mod_coordinate_52 (by decide) (by omega) (by omega) (fun h52 => ?_) (fun h52 => ?_)
    · refine xw_vret Z hr hlk hw md_Mod_coordinate_192 ?_
      unfold pz_coord
      rw [if_pos rfl, if_pos h28, if_neg h52]
      exact h1
    · refine lv_aload_n Z.1 Z.2.1 md_Mod_coordinate_55 rfl (lv_at hl 1 rfl) ?_
      refine lv_iload Z.1 Z.2.1 md_Mod_coordinate_56 (lv_at hl 0 rfl) ?_
      refine lv_iload_n Z.1 Z.2.1 md_Mod_coordinate_58 rfl (lv_at hl 4 rfl) ?_
      refine lv_aload_n Z.1 Z.2.1 md_Mod_coordinate_59 rfl (lv_at hl 1 rfl) ?_
      refine xb_get (v := .ref (ad (23, 0))) Z hw (by decide) (gm_e0 ad cI cZ) rfl tb_iMod 23 (by decide) mk_Mod_65 rfl rfl md_Mod_coordinate_60 ?_
      refine lv_iload Z.1 Z.2.1 md_Mod_coordinate_63 (lv_at hl 0 rfl) ?_
      refine xw_iald Z hw (by decide) (gm_e23 ad cI cZ) 0 rfl (3 * c + s) rfl (by omega) (by omega) md_Mod_coordinate_65 ?_
      refine xi_re (show M2 (23, 0) (3 * c + s) = nI (v) from (by have z := gm_g10 h1 hs hc; rw [pz_pw_s, pz_u_s] at z; exact z)) ?_
      refine xw_cV (n := 3) (rest := []) Z hml hl.1 hN hw (r_voteFor (S := pz_pw S s (pz_u (S.2 s) 10 c 0 v)) (v := v) l D ad cI cZ hn h1 hs hc hL) tb_g mc_Mod_voteFor mk_Mod_156 mi_Mod_voteFor ms_Mod_voteFor mz_Mod ⟨by decide, by decide, by decide +kernel⟩ ⟨Nat.le_of_ble_eq_true rfl, Nat.le_of_ble_eq_true rfl⟩ (by decide) (gm_e0 ad cI cZ _) rfl rfl rfl rfl (Nat.le_of_ble_eq_true rfl) ⟨Nat.le_refl _, Nat.le_refl _⟩ md_Mod_coordinate_66 (fun M3 H3 locs3 h2 hw => ?_)
      refine W.eq (g2 := F0 m 69 ls []) rfl ?_
      refine lv_goto (tgt := 192) Z.1 Z.2.1 md_Mod_coordinate_69 (by decide) ?_
      refine xw_vret Z hr hlk hw md_Mod_coordinate_192 ?_
      unfold pz_coord
      rw [if_pos rfl, if_pos h28, if_pos h52]
      exact h2
set_option maxHeartbeats 4000000 in
theorem r_coord3 (l : Launch) (D : va_G) (ad : Nat × Nat → Nat) (cI cZ : ClassId) {M : fr_M} {n q f : Nat} {S : pz_T} {s c : Nat} (hn : n ≤ 5) (h : gm_R n q f S M) (hs : s < 3) (hc : c < 2) (Q : pz_Q n q f) (I : pz_IV n q f (S.2 s)) (hq5 : q ≤ 5) (hf5 : f ≤ 5) (hL : S.1.length ≤ 60) {r fr v ol : Nat} (hfr : fr < n) (hr2 : r < 2 ^ 31) (hpf : pz_PF (S.2 s) r fr v ol) : gm_C l D ad cI cZ my_Mod_coordinate mb_Mod_coordinate 9 none 4 100 M [.ref (ad (0, 0)), .int (nI (8 + c)), .int (nI (3)), .int (nI (s)), .int (nI (r)), .int (nI (fr)), .int (nI (v)), .int (nI (ol))] (none) (gm_R n q f (pz_coord n q f S s c 3 r fr v ol)) := by
  have h0 : gm_R n q f (pz_pw S s (S.2 s)) M := by rw [pz_pw_id]; exact h
  obtain ⟨c1, c2, c3, c4, c5, c6, c7, c8⟩ := I.2.2.2.2.2.1 c hc
  have h11 : ∀ a, (pz_tll (S.2 s) c fr v ol) 11 c a ≤ 1 := pz_tll_le c5
  refine xw_start [.ref (ad (0, 0)), .int (nI (8 + c)), .int (nI (3)), .int (nI (s)), .int (nI (r)), .int (nI (fr)), .int (nI (v)), .int (nI (ol))] (by decide) (Nat.le_of_ble_eq_true rfl) ?_
  intro p e st m below meth cd0 ls Z hml hr hlk hN hl hw
  have hl : lv_has ls 9 [(0, .ref (ad (0, 0))), (1, .int (nI (8 + c))), (2, .int (nI (3))), (3, .int (nI (s))), (4, .int (nI (r))), (5, .int (nI (fr))), (6, .int (nI (v))), (7, .int (nI (ol)))] := hl
  refine lv_iconst (v := nI 3) Z.1 Z.2.1 md_Mod_coordinate_0 (by decide) ?_
  refine lv_iload_n Z.1 Z.2.1 md_Mod_coordinate_1 rfl (lv_at hl 1 rfl) ?_
  refine lv_bipush (v := nI 8) Z.1 Z.2.1 md_Mod_coordinate_2 (by decide) ?_
  refine xi_sub Z md_Mod_coordinate_4 (by omega) ?_
  refine xi_re (show _ = nI (c) from congrArg nI (by omega)) ?_
  refine xi_mul Z md_Mod_coordinate_5 ?_
  refine lv_iload_n Z.1 Z.2.1 md_Mod_coordinate_6 rfl (lv_at hl 3 rfl) ?_
  refine xi_add Z md_Mod_coordinate_7 ?_
  refine lv_istore Z.1 Z.2.1 md_Mod_coordinate_8 hl (by decide) rfl (fun ls hl => ?_)
  have hl : lv_has ls 9 [(8, .int (nI ((3 * c) + s))), (0, .ref (ad (0, 0))), (1, .int (nI (8 + c))), (2, .int (nI (3))), (3, .int (nI (s))), (4, .int (nI (r))), (5, .int (nI (fr))), (6, .int (nI (v))), (7, .int (nI (ol)))] := hl
  refine lv_iload_n Z.1 Z.2.1 md_Mod_coordinate_10 rfl (lv_at hl 3 rfl) ?_
  refine lv_iconst (v := nI 1) Z.1 Z.2.1 md_Mod_coordinate_11 (by decide) ?_
  refine xi_icmp_ne (tgt := 72) Z md_Mod_coordinate_12 (by decide) (by omega) (by omega) (fun h12 => ?_) (fun h12 => by exfalso; omega)
  refine lv_iload_n Z.1 Z.2.1 md_Mod_coordinate_72 rfl (lv_at hl 3 rfl) ?_
  refine lv_iconst (v := nI 3) Z.1 Z.2.1 md_Mod_coordinate_73 (by decide) ?_
  refine xi_icmp_ne (tgt := 135) Z md_Mod_coordinate_74 (by decide) (by omega) (by omega) (fun h74 => by exfalso; omega) (fun h74 => ?_)
  refine lv_aload_n Z.1 Z.2.1 md_Mod_coordinate_77 rfl (lv_at hl 1 rfl) ?_
  refine xb_get (v := .ref (ad (21, 0))) Z hw (by decide) (gm_e0 ad cI cZ) rfl tb_iMod 21 (by decide) mk_Mod_59 rfl rfl md_Mod_coordinate_78 ?_
  refine lv_iload Z.1 Z.2.1 md_Mod_coordinate_81 (lv_at hl 0 rfl) ?_
  refine xw_iald Z hw (by decide) (gm_e21 ad cI cZ) 0 rfl (3 * c + s) rfl (by omega) (by omega) md_Mod_coordinate_83 ?_
  refine xi_re (show M (21, 0) (3 * c + s) = nI (S.2 s 8 c 0) from gm_g8 h hs hc) ?_
  refine lv_iload Z.1 Z.2.1 md_Mod_coordinate_84 (lv_at hl 5 rfl) ?_
  refine xi_icmp_ne (tgt := 135) Z md_Mod_coordinate_86 (by decide) (by omega) (by omega) (fun h86 => ?_) (fun h86 => ?_)
  · refine lv_iload_n Z.1 Z.2.1 md_Mod_coordinate_135 rfl (lv_at hl 3 rfl) ?_
    refine lv_iconst (v := nI 5) Z.1 Z.2.1 md_Mod_coordinate_136 (by decide) ?_
    refine xi_icmp_ne (tgt := 192) Z md_Mod_coordinate_137 (by decide) (by omega) (by omega) (fun h137 => ?_) (fun h137 => by exfalso; omega)
    refine xw_vret Z hr hlk hw md_Mod_coordinate_192 ?_
    unfold pz_coord
    rw [if_neg (by decide), if_pos rfl, if_neg (by omega)]
    exact h
  · refine lv_aload_n Z.1 Z.2.1 md_Mod_coordinate_89 rfl (lv_at hl 1 rfl) ?_
    refine xb_get (v := .ref (ad (22, 0))) Z hw (by decide) (gm_e0 ad cI cZ) rfl tb_iMod 22 (by decide) mk_Mod_62 rfl rfl md_Mod_coordinate_90 ?_
    refine lv_iload Z.1 Z.2.1 md_Mod_coordinate_93 (lv_at hl 0 rfl) ?_
    refine xw_iald Z hw (by decide) (gm_e22 ad cI cZ) 0 rfl (3 * c + s) rfl (by omega) (by omega) md_Mod_coordinate_95 ?_
    refine xi_re (show M (22, 0) (3 * c + s) = nI (S.2 s 9 c 0) from gm_g9 h hs hc) ?_
    refine lv_iconst (v := nI 1) Z.1 Z.2.1 md_Mod_coordinate_96 (by decide) ?_
    refine xi_icmp_ne (tgt := 135) Z md_Mod_coordinate_97 (by decide) (by omega) (by omega) (fun h97 => ?_) (fun h97 => ?_)
    · refine lv_iload_n Z.1 Z.2.1 md_Mod_coordinate_135 rfl (lv_at hl 3 rfl) ?_
      refine lv_iconst (v := nI 5) Z.1 Z.2.1 md_Mod_coordinate_136 (by decide) ?_
      refine xi_icmp_ne (tgt := 192) Z md_Mod_coordinate_137 (by decide) (by omega) (by omega) (fun h137 => ?_) (fun h137 => by exfalso; omega)
      refine xw_vret Z hr hlk hw md_Mod_coordinate_192 ?_
      unfold pz_coord
      rw [if_neg (by decide), if_pos rfl, if_neg (by omega)]
      exact h
    · obtain ⟨d1, d2⟩ := c6 h97
      have hF : ∀ a, a < n → (pz_tll (S.2 s) c fr v ol) 11 c a ≠ 0 → pz_PF (S.2 s) (S.2 s 8 c 0) a ((pz_tll (S.2 s) c fr v ol) 12 c a) ((pz_tll (S.2 s) c fr v ol) 13 c a) := fun a ha t => by
        by_cases e : a = fr
        · rw [e, pz_tll_12, pz_tll_13, h86]; exact hpf
        · rw [pz_tll_y e] at t
          rw [pz_tll_y e, pz_tll_y e]; exact d2 a ha t
      have hval : ∀ a, a < n → (pz_tll (S.2 s) c fr v ol) 11 c a ≠ 0 → (pz_tll (S.2 s) c fr v ol) 13 c a ≠ 0 → (pz_tll (S.2 s) c fr v ol) 12 c a ≠ 0 ∧ (pz_tll (S.2 s) c fr v ol) 12 c a ≤ 1000 := fun a ha t z => by
        obtain ⟨f1, f2, f3, f4⟩ := hF a ha t
        rcases f4 with ⟨z1, z2⟩ | ⟨z1, z2, z3⟩
        · omega
        · exact ⟨z3, by have := ((I.1 a ha).2.2.1 _ (by rw [z2]; exact z3)).2.2; omega⟩
      have T1 : fr_TB n ((pz_pw S s (pz_tll (S.2 s) c fr v ol)).2 s) c := fun a ha => by
        rw [pz_pw_s]
        refine ⟨h11 a, fun t => ?_⟩
        obtain ⟨f1, f2, f3, f4⟩ := hF a ha t
        rcases f4 with ⟨z1, z2⟩ | ⟨z1, z2, z3⟩
        · omega
        · have := ((I.1 a ha).2.2.1 _ (by rw [z2]; exact z3)).2.2
          omega
      have lt : pz_te n (pz_tll (S.2 s) c fr v ol) c ≤ n := pz_te_le (fun a _ => h11 a)
      refine lv_aload_n Z.1 Z.2.1 md_Mod_coordinate_100 rfl (lv_at hl 1 rfl) ?_
      refine lv_iload Z.1 Z.2.1 md_Mod_coordinate_101 (lv_at hl 0 rfl) ?_
      refine lv_iload Z.1 Z.2.1 md_Mod_coordinate_103 (lv_at hl 6 rfl) ?_
      refine lv_iload Z.1 Z.2.1 md_Mod_coordinate_105 (lv_at hl 7 rfl) ?_
      refine lv_iload Z.1 Z.2.1 md_Mod_coordinate_107 (lv_at hl 8 rfl) ?_
      refine xw_cV (n := 4) (rest := []) Z hml hl.1 hN hw (r_tell (a := fr) (v := v) (r := ol) l D ad cI cZ hn h hs hc (by omega)) tb_g mc_Mod_tell mk_Mod_159 mi_Mod_tell ms_Mod_tell mz_Mod ⟨by decide, by decide, by decide +kernel⟩ ⟨Nat.le_of_ble_eq_true rfl, Nat.le_of_ble_eq_true rfl⟩ (by decide) (gm_e0 ad cI cZ _) rfl rfl rfl rfl (Nat.le_of_ble_eq_true rfl) ⟨Nat.le_refl _, Nat.le_refl _⟩ md_Mod_coordinate_109 (fun M1 H1 locs1 h1 hw => ?_)
      refine W.eq (g2 := F0 m 112 ls []) rfl ?_
      refine lv_aload_n Z.1 Z.2.1 md_Mod_coordinate_112 rfl (lv_at hl 1 rfl) ?_
      refine lv_iload Z.1 Z.2.1 md_Mod_coordinate_113 (lv_at hl 0 rfl) ?_
      refine xw_cV (n := 1) (rest := []) Z hml hl.1 hN hw (r_tellers (S := (pz_pw S s (pz_tll (S.2 s) c fr v ol))) l D ad cI cZ hn h1 hs hc (fun a => by rw [pz_pw_s]; exact h11 a)) tb_g mc_Mod_tellers mk_Mod_149 mi_Mod_tellers ms_Mod_tellers mz_Mod ⟨by decide, by decide, by decide +kernel⟩ ⟨Nat.le_of_ble_eq_true rfl, Nat.le_of_ble_eq_true rfl⟩ (by decide) (gm_e0 ad cI cZ _) rfl rfl rfl rfl (Nat.le_of_ble_eq_true rfl) ⟨Nat.le_refl _, Nat.le_refl _⟩ md_Mod_coordinate_115 (fun M2 H2 locs2 e2 hw => ?_)
      have ey2 := e2.symm
      subst ey2
      refine W.eq (g2 := F0 m 118 ls [.int (nI (pz_te n ((pz_pw S s (pz_tll (S.2 s) c fr v ol)).2 s) c))]) rfl ?_
      refine xi_re (show _ = nI (pz_te n (pz_tll (S.2 s) c fr v ol) c) from (by rw [pz_pw_s])) ?_
      refine lv_aload_n Z.1 Z.2.1 md_Mod_coordinate_118 rfl (lv_at hl 1 rfl) ?_
      refine xb_get (v := .int (M1 (0, 0) 1)) Z hw (by decide) (gm_e0 ad cI cZ) rfl tb_iMod 1 (by decide) mk_Mod_81 rfl rfl md_Mod_coordinate_119 ?_
      refine xi_re (show M1 (0, 0) 1 = nI (q) from h1.1.2.1) ?_
      refine xi_icmp_ne (tgt := 192) Z md_Mod_coordinate_122 (by decide) (by omega) (by omega) (fun h122 => ?_) (fun h122 => ?_)
      · refine xw_vret Z hr hlk hw md_Mod_coordinate_192 ?_
        unfold pz_coord
        rw [if_neg (by decide), if_pos rfl, if_pos ⟨h86, h97⟩, if_neg h122]
        exact h1
      · refine lv_aload_n Z.1 Z.2.1 md_Mod_coordinate_125 rfl (lv_at hl 1 rfl) ?_
        refine lv_iload Z.1 Z.2.1 md_Mod_coordinate_126 (lv_at hl 0 rfl) ?_
        refine lv_iload_n Z.1 Z.2.1 md_Mod_coordinate_128 rfl (lv_at hl 4 rfl) ?_
        have lpk := pz_pk_le (f := f) I hF
        have q6 := Q.2.2.2.2.2.1
        refine xw_cV (n := 2) (rest := []) Z hml hl.1 hN hw (r_go (S := (pz_pw S s (pz_tll (S.2 s) c fr v ol))) l D ad cI cZ hn h1 hs hc T1 (fun a => by rw [pz_pw_s]; exact h11 a) q6 (fun k0 a ha t z => by rw [pz_pw_s] at k0 t z ⊢; exact hval a ha t (by rw [z]; exact k0)) hL (by rw [pz_pw_s]; omega) (by rw [pz_pw_s, pz_tll_k (by omega)]; omega) (by rw [pz_pw_s, pz_tll_k (by omega)]; omega)) tb_g mc_Mod_go mk_Mod_162 mi_Mod_go ms_Mod_go mz_Mod ⟨by decide, by decide, by decide +kernel⟩ ⟨Nat.le_of_ble_eq_true rfl, Nat.le_of_ble_eq_true rfl⟩ (by decide) (gm_e0 ad cI cZ _) rfl rfl rfl rfl (Nat.le_of_ble_eq_true rfl) ⟨Nat.le_refl _, Nat.le_refl _⟩ md_Mod_coordinate_129 (fun M3 H3 locs3 h2 hw => ?_)
        refine W.eq (g2 := F0 m 132 ls []) rfl ?_
        refine lv_goto (tgt := 192) Z.1 Z.2.1 md_Mod_coordinate_132 (by decide) ?_
        refine xw_vret Z hr hlk hw md_Mod_coordinate_192 ?_
        unfold pz_coord
        rw [if_neg (by decide), if_pos rfl, if_pos ⟨h86, h97⟩, if_pos h122]
        exact h2
set_option maxHeartbeats 4000000 in
theorem r_coord5 (l : Launch) (D : va_G) (ad : Nat × Nat → Nat) (cI cZ : ClassId) {M : fr_M} {n q f : Nat} {S : pz_T} {s c : Nat} (hn : n ≤ 5) (h : gm_R n q f S M) (hs : s < 3) (hc : c < 2) (Q : pz_Q n q f) (I : pz_IV n q f (S.2 s)) (hq5 : q ≤ 5) (hf5 : f ≤ 5) (hL : S.1.length ≤ 60) {r fr v ol : Nat} (hfr : fr < n) (hr2 : r < 2 ^ 31) (hv0 : v ≠ 0) (hv : v ≤ 1000) : gm_C l D ad cI cZ my_Mod_coordinate mb_Mod_coordinate 9 none 4 102 M [.ref (ad (0, 0)), .int (nI (8 + c)), .int (nI (5)), .int (nI (s)), .int (nI (r)), .int (nI (fr)), .int (nI (v)), .int (nI (ol))] (none) (gm_R n q f (pz_coord n q f S s c 5 r fr v ol)) := by
  have h0 : gm_R n q f (pz_pw S s (S.2 s)) M := by rw [pz_pw_id]; exact h
  obtain ⟨c1, c2, c3, c4, c5, c6, c7, c8⟩ := I.2.2.2.2.2.1 c hc
  have h11 : ∀ a, (pz_tll (S.2 s) c fr v r) 11 c a ≤ 1 := pz_tll_le c5
  refine xw_start [.ref (ad (0, 0)), .int (nI (8 + c)), .int (nI (5)), .int (nI (s)), .int (nI (r)), .int (nI (fr)), .int (nI (v)), .int (nI (ol))] (by decide) (Nat.le_of_ble_eq_true rfl) ?_
  intro p e st m below meth cd0 ls Z hml hr hlk hN hl hw
  have hl : lv_has ls 9 [(0, .ref (ad (0, 0))), (1, .int (nI (8 + c))), (2, .int (nI (5))), (3, .int (nI (s))), (4, .int (nI (r))), (5, .int (nI (fr))), (6, .int (nI (v))), (7, .int (nI (ol)))] := hl
  refine lv_iconst (v := nI 3) Z.1 Z.2.1 md_Mod_coordinate_0 (by decide) ?_
  refine lv_iload_n Z.1 Z.2.1 md_Mod_coordinate_1 rfl (lv_at hl 1 rfl) ?_
  refine lv_bipush (v := nI 8) Z.1 Z.2.1 md_Mod_coordinate_2 (by decide) ?_
  refine xi_sub Z md_Mod_coordinate_4 (by omega) ?_
  refine xi_re (show _ = nI (c) from congrArg nI (by omega)) ?_
  refine xi_mul Z md_Mod_coordinate_5 ?_
  refine lv_iload_n Z.1 Z.2.1 md_Mod_coordinate_6 rfl (lv_at hl 3 rfl) ?_
  refine xi_add Z md_Mod_coordinate_7 ?_
  refine lv_istore Z.1 Z.2.1 md_Mod_coordinate_8 hl (by decide) rfl (fun ls hl => ?_)
  have hl : lv_has ls 9 [(8, .int (nI ((3 * c) + s))), (0, .ref (ad (0, 0))), (1, .int (nI (8 + c))), (2, .int (nI (5))), (3, .int (nI (s))), (4, .int (nI (r))), (5, .int (nI (fr))), (6, .int (nI (v))), (7, .int (nI (ol)))] := hl
  refine lv_iload_n Z.1 Z.2.1 md_Mod_coordinate_10 rfl (lv_at hl 3 rfl) ?_
  refine lv_iconst (v := nI 1) Z.1 Z.2.1 md_Mod_coordinate_11 (by decide) ?_
  refine xi_icmp_ne (tgt := 72) Z md_Mod_coordinate_12 (by decide) (by omega) (by omega) (fun h12 => ?_) (fun h12 => by exfalso; omega)
  refine lv_iload_n Z.1 Z.2.1 md_Mod_coordinate_72 rfl (lv_at hl 3 rfl) ?_
  refine lv_iconst (v := nI 3) Z.1 Z.2.1 md_Mod_coordinate_73 (by decide) ?_
  refine xi_icmp_ne (tgt := 135) Z md_Mod_coordinate_74 (by decide) (by omega) (by omega) (fun h74 => ?_) (fun h74 => by exfalso; omega)
  refine lv_iload_n Z.1 Z.2.1 md_Mod_coordinate_135 rfl (lv_at hl 3 rfl) ?_
  refine lv_iconst (v := nI 5) Z.1 Z.2.1 md_Mod_coordinate_136 (by decide) ?_
  refine xi_icmp_ne (tgt := 192) Z md_Mod_coordinate_137 (by decide) (by omega) (by omega) (fun h137 => by exfalso; omega) (fun h137 => ?_)
  refine lv_aload_n Z.1 Z.2.1 md_Mod_coordinate_140 rfl (lv_at hl 1 rfl) ?_
  refine xb_get (v := .ref (ad (21, 0))) Z hw (by decide) (gm_e0 ad cI cZ) rfl tb_iMod 21 (by decide) mk_Mod_59 rfl rfl md_Mod_coordinate_141 ?_
  refine lv_iload Z.1 Z.2.1 md_Mod_coordinate_144 (lv_at hl 0 rfl) ?_
  refine xw_iald Z hw (by decide) (gm_e21 ad cI cZ) 0 rfl (3 * c + s) rfl (by omega) (by omega) md_Mod_coordinate_146 ?_
  refine xi_re (show M (21, 0) (3 * c + s) = nI (S.2 s 8 c 0) from gm_g8 h hs hc) ?_
  refine lv_iload Z.1 Z.2.1 md_Mod_coordinate_147 (lv_at hl 5 rfl) ?_
  refine xi_icmp_ne (tgt := 192) Z md_Mod_coordinate_149 (by decide) (by omega) (by omega) (fun h149 => ?_) (fun h149 => ?_)
  · refine xw_vret Z hr hlk hw md_Mod_coordinate_192 ?_
    unfold pz_coord
    rw [if_neg (by decide), if_neg (by decide), if_neg (by omega)]
    exact h
  · refine lv_iload Z.1 Z.2.1 md_Mod_coordinate_152 (lv_at hl 5 rfl) ?_
    refine xw_cS (n := 1) (rest := []) Z hml hl.1 hN hw (r_isFast l D ad cI cZ (M := M) hr2) tb_g mc_Mod_isFast mk_Mod_87 mt_Mod_isFast mz_Mod ⟨by decide, by decide, by decide +kernel⟩ ⟨Nat.le_of_ble_eq_true rfl, Nat.le_of_ble_eq_true rfl⟩ rfl rfl (Nat.le_of_ble_eq_true rfl) ⟨Nat.le_refl _, Nat.le_refl _⟩ md_Mod_coordinate_154 (fun M1 H1 locs1 e1 hw => ?_)
    have ey1 := e1.symm
    subst ey1
    refine W.eq (g2 := F0 m 157 ls [.int (nI (r % 2))]) rfl ?_
    refine xi_if_eq (tgt := 192) Z md_Mod_coordinate_157 (by decide) (by omega) (fun h157 => ?_) (fun h157 => ?_)
    · refine xw_vret Z hr hlk hw md_Mod_coordinate_192 ?_
      unfold pz_coord
      rw [if_neg (by decide), if_neg (by decide), if_neg (by omega)]
      exact h
    · refine lv_aload_n Z.1 Z.2.1 md_Mod_coordinate_160 rfl (lv_at hl 1 rfl) ?_
      refine xb_get (v := .ref (ad (22, 0))) Z hw (by decide) (gm_e0 ad cI cZ) rfl tb_iMod 22 (by decide) mk_Mod_62 rfl rfl md_Mod_coordinate_161 ?_
      refine lv_iload Z.1 Z.2.1 md_Mod_coordinate_164 (lv_at hl 0 rfl) ?_
      refine xw_iald Z hw (by decide) (gm_e22 ad cI cZ) 0 rfl (3 * c + s) rfl (by omega) (by omega) md_Mod_coordinate_166 ?_
      refine xi_re (show M (22, 0) (3 * c + s) = nI (S.2 s 9 c 0) from gm_g9 h hs hc) ?_
      refine lv_iconst (v := nI 3) Z.1 Z.2.1 md_Mod_coordinate_167 (by decide) ?_
      refine xi_icmp_ne (tgt := 192) Z md_Mod_coordinate_168 (by decide) (by omega) (by omega) (fun h168 => ?_) (fun h168 => ?_)
      · refine xw_vret Z hr hlk hw md_Mod_coordinate_192 ?_
        unfold pz_coord
        rw [if_neg (by decide), if_neg (by decide), if_neg (by omega)]
        exact h
      · obtain ⟨d1, d2⟩ := c8 h168
        have hF : ∀ a, a < n → (pz_tll (S.2 s) c fr v r) 11 c a ≠ 0 → (pz_tll (S.2 s) c fr v r) 12 c a ≠ 0 ∧ (pz_tll (S.2 s) c fr v r) 12 c a ≤ 1000 ∧ (pz_tll (S.2 s) c fr v r) 13 c a = r := fun a ha t => by
          by_cases e : a = fr
          · rw [e, pz_tll_12, pz_tll_13]; exact ⟨hv0, hv, rfl⟩
          · rw [pz_tll_y e] at t
            rw [pz_tll_y e, pz_tll_y e]
            obtain ⟨y1, y2, y3⟩ := d2 a ha t
            exact ⟨y3, by have := ((I.1 a ha).2.2.1 _ (by rw [y2]; exact y3)).2.2; omega, y1.trans h149⟩
        have T1 : fr_TB n ((pz_pw S s (pz_tll (S.2 s) c fr v r)).2 s) c := fun a ha => by
          rw [pz_pw_s]
          refine ⟨h11 a, fun t => ?_⟩
          obtain ⟨f1, f2, f3⟩ := hF a ha t
          omega
        refine lv_aload_n Z.1 Z.2.1 md_Mod_coordinate_171 rfl (lv_at hl 1 rfl) ?_
        refine lv_iload Z.1 Z.2.1 md_Mod_coordinate_172 (lv_at hl 0 rfl) ?_
        refine lv_iload Z.1 Z.2.1 md_Mod_coordinate_174 (lv_at hl 6 rfl) ?_
        refine lv_iload Z.1 Z.2.1 md_Mod_coordinate_176 (lv_at hl 7 rfl) ?_
        refine lv_iload Z.1 Z.2.1 md_Mod_coordinate_178 (lv_at hl 5 rfl) ?_
        refine xw_cV (n := 4) (rest := []) Z hml hl.1 hN hw (r_tell (a := fr) (v := v) (r := r) l D ad cI cZ hn h hs hc (by omega)) tb_g mc_Mod_tell mk_Mod_159 mi_Mod_tell ms_Mod_tell mz_Mod ⟨by decide, by decide, by decide +kernel⟩ ⟨Nat.le_of_ble_eq_true rfl, Nat.le_of_ble_eq_true rfl⟩ (by decide) (gm_e0 ad cI cZ _) rfl rfl rfl rfl (Nat.le_of_ble_eq_true rfl) ⟨Nat.le_refl _, Nat.le_refl _⟩ md_Mod_coordinate_180 (fun M2 H2 locs2 h1 hw => ?_)
        refine W.eq (g2 := F0 m 183 ls []) rfl ?_
        refine lv_aload_n Z.1 Z.2.1 md_Mod_coordinate_183 rfl (lv_at hl 1 rfl) ?_
        refine lv_iload Z.1 Z.2.1 md_Mod_coordinate_184 (lv_at hl 0 rfl) ?_
        refine lv_iload_n Z.1 Z.2.1 md_Mod_coordinate_186 rfl (lv_at hl 4 rfl) ?_
        refine lv_iload Z.1 Z.2.1 md_Mod_coordinate_187 (lv_at hl 5 rfl) ?_
        refine xw_cV (n := 3) (rest := []) Z hml hl.1 hN hw (r_recover (S := (pz_pw S s (pz_tll (S.2 s) c fr v r))) (r := r) l D ad cI cZ hn h1 hs hc T1 (fun a => by rw [pz_pw_s]; exact h11 a) hq5 hf5 hr2 hL (fun a ha t z => by rw [pz_pw_s] at t z ⊢; exact ⟨(hF a ha t).1, (hF a ha t).2.1⟩)) tb_g mc_Mod_recover mk_Mod_166 mi_Mod_recover ms_Mod_recover mz_Mod ⟨by decide, by decide, by decide +kernel⟩ ⟨Nat.le_of_ble_eq_true rfl, Nat.le_of_ble_eq_true rfl⟩ (by decide) (gm_e0 ad cI cZ _) rfl rfl rfl rfl (Nat.le_of_ble_eq_true rfl) ⟨Nat.le_refl _, Nat.le_refl _⟩ md_Mod_coordinate_189 (fun M3 H3 locs3 h2 hw => ?_)
        refine W.eq (g2 := F0 m 192 ls []) rfl ?_
        refine xw_vret Z hr hlk hw md_Mod_coordinate_192 ?_
        unfold pz_coord
        rw [if_neg (by decide), if_neg (by decide), if_pos ⟨rfl, h149, by omega, h168⟩]
        exact h2
set_option maxHeartbeats 4000000 in
theorem r_accept2 (l : Launch) (D : va_G) (ad : Nat × Nat → Nat) (cI cZ : ClassId) {M : fr_M} {n q f : Nat} {S : pz_T} {s a r v : Nat} (hn : n ≤ 5) (h : gm_R n q f S M) (hs : s < 3) (han : a < n) (I : pz_IV n q f (S.2 s)) (hL : S.1.length ≤ 60) (hr12 : r ≤ 12) : gm_C l D ad cI cZ my_Mod_accept mb_Mod_accept 8 none 1 27 M [.ref (ad (0, 0)), .int (nI (a)), .int (nI (2)), .int (nI (s)), .int (nI (r)), .int (nI (v))] (none) (gm_R n q f (pz_accept n q f S s a 2 r v)) := by
  have h0 : gm_R n q f (pz_pw S s (S.2 s)) M := by rw [pz_pw_id]; exact h
  have ha : a < 5 := by omega
  obtain ⟨iA1, iA2, -, iA4⟩ := I.1 a han
  obtain ⟨iO1, iO2, iO3⟩ := I.2.1 a han
  refine xw_start [.ref (ad (0, 0)), .int (nI (a)), .int (nI (2)), .int (nI (s)), .int (nI (r)), .int (nI (v))] (by decide) (Nat.le_of_ble_eq_true rfl) ?_
  intro p e st m below meth cd0 ls Z hml hr hlk hN hl hw
  have hl : lv_has ls 8 [(0, .ref (ad (0, 0))), (1, .int (nI (a))), (2, .int (nI (2))), (3, .int (nI (s))), (4, .int (nI (r))), (5, .int (nI (v)))] := hl
  refine lv_iconst (v := nI 5) Z.1 Z.2.1 md_Mod_accept_0 (by decide) ?_
  refine lv_iload_n Z.1 Z.2.1 md_Mod_accept_1 rfl (lv_at hl 3 rfl) ?_
  refine xi_mul Z md_Mod_accept_2 ?_
  refine lv_iload_n Z.1 Z.2.1 md_Mod_accept_3 rfl (lv_at hl 1 rfl) ?_
  refine xi_add Z md_Mod_accept_4 ?_
  refine lv_istore Z.1 Z.2.1 md_Mod_accept_5 hl (by decide) rfl (fun ls hl => ?_)
  have hl : lv_has ls 8 [(6, .int (nI ((5 * s) + a))), (0, .ref (ad (0, 0))), (1, .int (nI (a))), (2, .int (nI (2))), (3, .int (nI (s))), (4, .int (nI (r))), (5, .int (nI (v)))] := hl
  refine lv_iload_n Z.1 Z.2.1 md_Mod_accept_7 rfl (lv_at hl 3 rfl) ?_
  refine lv_iconst (v := nI 2) Z.1 Z.2.1 md_Mod_accept_8 (by decide) ?_
  refine xi_icmp_ne (tgt := 64) Z md_Mod_accept_9 (by decide) (by omega) (by omega) (fun h9 => by exfalso; omega) (fun h9 => ?_)
  refine lv_iload Z.1 Z.2.1 md_Mod_accept_12 (lv_at hl 5 rfl) ?_
  refine lv_aload_n Z.1 Z.2.1 md_Mod_accept_14 rfl (lv_at hl 1 rfl) ?_
  refine xb_get (v := .ref (ad (13, 0))) Z hw (by decide) (gm_e0 ad cI cZ) rfl tb_iMod 13 (by decide) mk_Mod_35 rfl rfl md_Mod_accept_15 ?_
  refine lv_iload Z.1 Z.2.1 md_Mod_accept_18 (lv_at hl 0 rfl) ?_
  refine xw_iald Z hw (by decide) (gm_e13 ad cI cZ) 0 rfl (5 * s + a) rfl (by omega) (by omega) md_Mod_accept_20 ?_
  refine xi_re (show M (13, 0) (5 * s + a) = nI (S.2 s 0 a 0) from gm_g0 h hs ha) ?_
  refine xi_icmp_le (tgt := 64) Z md_Mod_accept_21 (by decide) (by omega) (by omega) (fun h21 => ?_) (fun h21 => ?_)
  · refine lv_iload_n Z.1 Z.2.1 md_Mod_accept_64 rfl (lv_at hl 3 rfl) ?_
    refine lv_iconst (v := nI 4) Z.1 Z.2.1 md_Mod_accept_65 (by decide) ?_
    refine xi_icmp_ne (tgt := 163) Z md_Mod_accept_66 (by decide) (by omega) (by omega) (fun h66 => ?_) (fun h66 => by exfalso; omega)
    refine lv_iload_n Z.1 Z.2.1 md_Mod_accept_163 rfl (lv_at hl 3 rfl) ?_
    refine lv_iconst (v := nI 1) Z.1 Z.2.1 md_Mod_accept_164 (by decide) ?_
    refine xi_icmp_ne (tgt := 245) Z md_Mod_accept_165 (by decide) (by omega) (by omega) (fun h165 => ?_) (fun h165 => by exfalso; omega)
    refine xw_vret Z hr hlk hw md_Mod_accept_245 ?_
    unfold pz_accept
    rw [if_pos rfl, if_neg (by omega)]
    exact h
  · refine lv_aload_n Z.1 Z.2.1 md_Mod_accept_24 rfl (lv_at hl 1 rfl) ?_
    refine xb_get (v := .ref (ad (13, 0))) Z hw (by decide) (gm_e0 ad cI cZ) rfl tb_iMod 13 (by decide) mk_Mod_35 rfl rfl md_Mod_accept_25 ?_
    refine lv_iload Z.1 Z.2.1 md_Mod_accept_28 (lv_at hl 0 rfl) ?_
    refine lv_iload Z.1 Z.2.1 md_Mod_accept_30 (lv_at hl 5 rfl) ?_
    refine xb_iast Z hw (by decide) (gm_e13 ad cI cZ) 0 rfl (5 * s + a) rfl (by omega) (by omega) md_Mod_accept_32 (fun M1 H1 locs1 e1 hw => ?_)
    have h1 := gm_w0 h0 hs ha e1
    refine lv_aload_n Z.1 Z.2.1 md_Mod_accept_33 rfl (lv_at hl 1 rfl) ?_
    refine lv_iconst (v := nI 3) Z.1 Z.2.1 md_Mod_accept_34 (by decide) ?_
    refine lv_iload_n Z.1 Z.2.1 md_Mod_accept_35 rfl (lv_at hl 4 rfl) ?_
    refine lv_iload Z.1 Z.2.1 md_Mod_accept_36 (lv_at hl 5 rfl) ?_
    refine lv_iload_n Z.1 Z.2.1 md_Mod_accept_38 rfl (lv_at hl 2 rfl) ?_
    refine lv_iload Z.1 Z.2.1 md_Mod_accept_39 (lv_at hl 5 rfl) ?_
    refine xw_cS (n := 1) (rest := [.int (nI (a)), .int (nI (r)), .int (nI (s)), .int (nI (3)), .ref (ad (0, 0))]) Z hml hl.1 hN hw (r_coordinatorOf l D ad cI cZ (M := M1) (by omega)) tb_g mc_Mod_coordinatorOf mk_Mod_114 mt_Mod_coordinatorOf mz_Mod ⟨by decide, by decide, by decide +kernel⟩ ⟨Nat.le_of_ble_eq_true rfl, Nat.le_of_ble_eq_true rfl⟩ rfl rfl (Nat.le_of_ble_eq_true rfl) ⟨Nat.le_refl _, Nat.le_refl _⟩ md_Mod_accept_41 (fun M2 H2 locs2 e2 hw => ?_)
    have ey2 := e2.symm
    subst ey2
    refine W.eq (g2 := F0 m 44 ls [.int (nI (8 + pz_ci r)), .int (nI (a)), .int (nI (r)), .int (nI (s)), .int (nI (3)), .ref (ad (0, 0))]) rfl ?_
    refine lv_aload_n Z.1 Z.2.1 md_Mod_accept_44 rfl (lv_at hl 1 rfl) ?_
    refine xb_get (v := .ref (ad (14, 0))) Z hw (by decide) (gm_e0 ad cI cZ) rfl tb_iMod 14 (by decide) mk_Mod_38 rfl rfl md_Mod_accept_45 ?_
    refine lv_iload Z.1 Z.2.1 md_Mod_accept_48 (lv_at hl 0 rfl) ?_
    refine xw_iald Z hw (by decide) (gm_e14 ad cI cZ) 0 rfl (5 * s + a) rfl (by omega) (by omega) md_Mod_accept_50 ?_
    refine xi_re (show M1 (14, 0) (5 * s + a) = nI (S.2 s 1 a 0) from (by have z := gm_g1 h1 hs ha; rw [pz_pw_s, pz_u_k (by decide)] at z; exact z)) ?_
    refine lv_aload_n Z.1 Z.2.1 md_Mod_accept_51 rfl (lv_at hl 1 rfl) ?_
    refine xb_get (v := .ref (ad (15, 0))) Z hw (by decide) (gm_e0 ad cI cZ) rfl tb_iMod 15 (by decide) mk_Mod_41 rfl rfl md_Mod_accept_52 ?_
    refine lv_iload Z.1 Z.2.1 md_Mod_accept_55 (lv_at hl 0 rfl) ?_
    refine xw_iald Z hw (by decide) (gm_e15 ad cI cZ) 0 rfl (5 * s + a) rfl (by omega) (by omega) md_Mod_accept_57 ?_
    refine xi_re (show M1 (15, 0) (5 * s + a) = nI (S.2 s 2 a 0) from (by have z := gm_g2 h1 hs ha; rw [pz_pw_s, pz_u_k (by decide)] at z; exact z)) ?_
    refine xw_cV (n := 7) (rest := []) Z hml hl.1 hN hw (r_send (g := pz_mg 3 s r a (8 + pz_ci r) (S.2 s 1 a 0) (S.2 s 2 a 0)) l D ad cI cZ h1 hL) tb_g mc_Mod_send mk_Mod_97 mi_Mod_send ms_Mod_send mz_Mod ⟨by decide, by decide, by decide +kernel⟩ ⟨Nat.le_of_ble_eq_true rfl, Nat.le_of_ble_eq_true rfl⟩ (by decide) (gm_e0 ad cI cZ _) rfl rfl rfl rfl (Nat.le_of_ble_eq_true rfl) ⟨Nat.le_refl _, Nat.le_refl _⟩ md_Mod_accept_58 (fun M3 H3 locs3 h2 hw => ?_)
    refine W.eq (g2 := F0 m 61 ls []) rfl ?_
    refine lv_goto (tgt := 245) Z.1 Z.2.1 md_Mod_accept_61 (by decide) ?_
    refine xw_vret Z hr hlk hw md_Mod_accept_245 ?_
    unfold pz_accept
    rw [if_pos rfl, if_pos h21]
    exact h2
set_option maxHeartbeats 4000000 in
theorem r_accept4v (l : Launch) (D : va_G) (ad : Nat × Nat → Nat) (cI cZ : ClassId) {M : fr_M} {n q f : Nat} {S : pz_T} {s a r v : Nat} (hn : n ≤ 5) (h : gm_R n q f S M) (hs : s < 3) (han : a < n) (I : pz_IV n q f (S.2 s)) (hL : S.1.length ≤ 60) (hr12 : r ≤ 12) (hv : v ≤ 1000) (hv0 : v ≠ 0) : gm_C l D ad cI cZ my_Mod_accept mb_Mod_accept 8 none 2 52 M [.ref (ad (0, 0)), .int (nI (a)), .int (nI (4)), .int (nI (s)), .int (nI (r)), .int (nI (v))] (none) (gm_R n q f (pz_accept n q f S s a 4 r v)) := by
  have h0 : gm_R n q f (pz_pw S s (S.2 s)) M := by rw [pz_pw_id]; exact h
  have ha : a < 5 := by omega
  obtain ⟨iA1, iA2, -, iA4⟩ := I.1 a han
  obtain ⟨iO1, iO2, iO3⟩ := I.2.1 a han
  refine xw_start [.ref (ad (0, 0)), .int (nI (a)), .int (nI (4)), .int (nI (s)), .int (nI (r)), .int (nI (v))] (by decide) (Nat.le_of_ble_eq_true rfl) ?_
  intro p e st m below meth cd0 ls Z hml hr hlk hN hl hw
  have hl : lv_has ls 8 [(0, .ref (ad (0, 0))), (1, .int (nI (a))), (2, .int (nI (4))), (3, .int (nI (s))), (4, .int (nI (r))), (5, .int (nI (v)))] := hl
  refine lv_iconst (v := nI 5) Z.1 Z.2.1 md_Mod_accept_0 (by decide) ?_
  refine lv_iload_n Z.1 Z.2.1 md_Mod_accept_1 rfl (lv_at hl 3 rfl) ?_
  refine xi_mul Z md_Mod_accept_2 ?_
  refine lv_iload_n Z.1 Z.2.1 md_Mod_accept_3 rfl (lv_at hl 1 rfl) ?_
  refine xi_add Z md_Mod_accept_4 ?_
  refine lv_istore Z.1 Z.2.1 md_Mod_accept_5 hl (by decide) rfl (fun ls hl => ?_)
  have hl : lv_has ls 8 [(6, .int (nI ((5 * s) + a))), (0, .ref (ad (0, 0))), (1, .int (nI (a))), (2, .int (nI (4))), (3, .int (nI (s))), (4, .int (nI (r))), (5, .int (nI (v)))] := hl
  refine lv_iload_n Z.1 Z.2.1 md_Mod_accept_7 rfl (lv_at hl 3 rfl) ?_
  refine lv_iconst (v := nI 2) Z.1 Z.2.1 md_Mod_accept_8 (by decide) ?_
  refine xi_icmp_ne (tgt := 64) Z md_Mod_accept_9 (by decide) (by omega) (by omega) (fun h9 => ?_) (fun h9 => by exfalso; omega)
  refine lv_iload_n Z.1 Z.2.1 md_Mod_accept_64 rfl (lv_at hl 3 rfl) ?_
  refine lv_iconst (v := nI 4) Z.1 Z.2.1 md_Mod_accept_65 (by decide) ?_
  refine xi_icmp_ne (tgt := 163) Z md_Mod_accept_66 (by decide) (by omega) (by omega) (fun h66 => by exfalso; omega) (fun h66 => ?_)
  refine lv_iload Z.1 Z.2.1 md_Mod_accept_69 (lv_at hl 5 rfl) ?_
  refine lv_aload_n Z.1 Z.2.1 md_Mod_accept_71 rfl (lv_at hl 1 rfl) ?_
  refine xb_get (v := .ref (ad (13, 0))) Z hw (by decide) (gm_e0 ad cI cZ) rfl tb_iMod 13 (by decide) mk_Mod_35 rfl rfl md_Mod_accept_72 ?_
  refine lv_iload Z.1 Z.2.1 md_Mod_accept_75 (lv_at hl 0 rfl) ?_
  refine xw_iald Z hw (by decide) (gm_e13 ad cI cZ) 0 rfl (5 * s + a) rfl (by omega) (by omega) md_Mod_accept_77 ?_
  refine xi_re (show M (13, 0) (5 * s + a) = nI (S.2 s 0 a 0) from gm_g0 h hs ha) ?_
  refine xi_icmp_lt (tgt := 163) Z md_Mod_accept_78 (by decide) (by omega) (by omega) (fun h78 => ?_) (fun h78 => ?_)
  · refine lv_iload_n Z.1 Z.2.1 md_Mod_accept_163 rfl (lv_at hl 3 rfl) ?_
    refine lv_iconst (v := nI 1) Z.1 Z.2.1 md_Mod_accept_164 (by decide) ?_
    refine xi_icmp_ne (tgt := 245) Z md_Mod_accept_165 (by decide) (by omega) (by omega) (fun h165 => ?_) (fun h165 => by exfalso; omega)
    refine xw_vret Z hr hlk hw md_Mod_accept_245 ?_
    unfold pz_accept
    rw [if_neg (by decide), if_pos rfl, if_neg (by omega)]
    exact h
  · refine lv_iload Z.1 Z.2.1 md_Mod_accept_81 (lv_at hl 5 rfl) ?_
    refine lv_aload_n Z.1 Z.2.1 md_Mod_accept_83 rfl (lv_at hl 1 rfl) ?_
    refine xb_get (v := .ref (ad (15, 0))) Z hw (by decide) (gm_e0 ad cI cZ) rfl tb_iMod 15 (by decide) mk_Mod_41 rfl rfl md_Mod_accept_84 ?_
    refine lv_iload Z.1 Z.2.1 md_Mod_accept_87 (lv_at hl 0 rfl) ?_
    refine xw_iald Z hw (by decide) (gm_e15 ad cI cZ) 0 rfl (5 * s + a) rfl (by omega) (by omega) md_Mod_accept_89 ?_
    refine xi_re (show M (15, 0) (5 * s + a) = nI (S.2 s 2 a 0) from gm_g2 h hs ha) ?_
    refine xi_icmp_le (tgt := 163) Z md_Mod_accept_90 (by decide) (by omega) (by omega) (fun h90 => ?_) (fun h90 => ?_)
    · refine lv_iload_n Z.1 Z.2.1 md_Mod_accept_163 rfl (lv_at hl 3 rfl) ?_
      refine lv_iconst (v := nI 1) Z.1 Z.2.1 md_Mod_accept_164 (by decide) ?_
      refine xi_icmp_ne (tgt := 245) Z md_Mod_accept_165 (by decide) (by omega) (by omega) (fun h165 => ?_) (fun h165 => by exfalso; omega)
      refine xw_vret Z hr hlk hw md_Mod_accept_245 ?_
      unfold pz_accept
      rw [if_neg (by decide), if_pos rfl, if_neg (by omega)]
      exact h
    · refine lv_aload_n Z.1 Z.2.1 md_Mod_accept_93 rfl (lv_at hl 1 rfl) ?_
      refine xb_get (v := .ref (ad (13, 0))) Z hw (by decide) (gm_e0 ad cI cZ) rfl tb_iMod 13 (by decide) mk_Mod_35 rfl rfl md_Mod_accept_94 ?_
      refine lv_iload Z.1 Z.2.1 md_Mod_accept_97 (lv_at hl 0 rfl) ?_
      refine lv_iload Z.1 Z.2.1 md_Mod_accept_99 (lv_at hl 5 rfl) ?_
      refine xb_iast Z hw (by decide) (gm_e13 ad cI cZ) 0 rfl (5 * s + a) rfl (by omega) (by omega) md_Mod_accept_101 (fun M1 H1 locs1 e1 hw => ?_)
      have h1 := gm_w0 h0 hs ha e1
      refine lv_aload_n Z.1 Z.2.1 md_Mod_accept_102 rfl (lv_at hl 1 rfl) ?_
      refine xb_get (v := .ref (ad (17, 0))) Z hw (by decide) (gm_e0 ad cI cZ) rfl tb_iMod 17 (by decide) mk_Mod_47 rfl rfl md_Mod_accept_103 ?_
      refine lv_iload Z.1 Z.2.1 md_Mod_accept_106 (lv_at hl 0 rfl) ?_
      refine lv_iload Z.1 Z.2.1 md_Mod_accept_108 (lv_at hl 6 rfl) ?_
      refine xi_if_ne (tgt := 118) Z md_Mod_accept_110 (by decide) (by omega) (fun h110 => ?_) (fun h110 => by exfalso; omega)
      refine lv_aload_n Z.1 Z.2.1 md_Mod_accept_118 rfl (lv_at hl 1 rfl) ?_
      refine xb_get (v := .ref (ad (17, 0))) Z hw (by decide) (gm_e0 ad cI cZ) rfl tb_iMod 17 (by decide) mk_Mod_47 rfl rfl md_Mod_accept_119 ?_
      refine lv_iload Z.1 Z.2.1 md_Mod_accept_122 (lv_at hl 0 rfl) ?_
      refine xw_iald Z hw (by decide) (gm_e17 ad cI cZ) 0 rfl (5 * s + a) rfl (by omega) (by omega) md_Mod_accept_124 ?_
      refine xi_re (show M1 (17, 0) (5 * s + a) = nI (S.2 s 4 a 0) from (by have z := gm_g4 h1 hs ha; rw [pz_pw_s, pz_u_k (by decide)] at z; exact z)) ?_
      refine xb_iast Z hw (by decide) (gm_e17 ad cI cZ) 0 rfl (5 * s + a) rfl (by omega) (by omega) md_Mod_accept_125 (fun M2 H2 locs2 e2 hw => ?_)
      have h2 := gm_w4 h1 hs ha e2
      have h2 : gm_R n q f (pz_pw S s (pz_u (S.2 s) 0 a 0 r)) M2 := by
        have z := h2
        rw [show S.2 s 4 a 0 = (pz_u (S.2 s) 0 a 0 r) 4 a 0 from (pz_u_k (by decide)).symm, pz_u_id] at z
        exact z
      refine lv_iload Z.1 Z.2.1 md_Mod_accept_126 (lv_at hl 6 rfl) ?_
      refine xi_if_ne (tgt := 141) Z md_Mod_accept_128 (by decide) (by omega) (fun h128 => ?_) (fun h128 => by exfalso; omega)
      refine lv_iload Z.1 Z.2.1 md_Mod_accept_141 (lv_at hl 6 rfl) ?_
      refine lv_istore Z.1 Z.2.1 md_Mod_accept_143 hl (by decide) rfl (fun ls hl => ?_)
      have hl : lv_has ls 8 [(7, .int (nI (v))), (6, .int (nI ((5 * s) + a))), (0, .ref (ad (0, 0))), (1, .int (nI (a))), (2, .int (nI (4))), (3, .int (nI (s))), (4, .int (nI (r))), (5, .int (nI (v)))] := hl
      refine lv_iload Z.1 Z.2.1 md_Mod_accept_145 (lv_at hl 0 rfl) ?_
      refine xi_if_le (tgt := 160) Z md_Mod_accept_147 (by decide) (by omega) (fun h147 => by exfalso; omega) (fun h147 => ?_)
      refine lv_aload_n Z.1 Z.2.1 md_Mod_accept_150 rfl (lv_at hl 2 rfl) ?_
      refine lv_iload_n Z.1 Z.2.1 md_Mod_accept_151 rfl (lv_at hl 3 rfl) ?_
      refine lv_iload_n Z.1 Z.2.1 md_Mod_accept_152 rfl (lv_at hl 5 rfl) ?_
      refine lv_iload Z.1 Z.2.1 md_Mod_accept_153 (lv_at hl 6 rfl) ?_
      refine lv_iload Z.1 Z.2.1 md_Mod_accept_155 (lv_at hl 0 rfl) ?_
      refine xw_cV (n := 4) (rest := []) Z hml hl.1 hN hw (r_casts (S := pz_pw S s (pz_u (S.2 s) 0 a 0 r)) (v := v) l D ad cI cZ hn h2 hL hs hr12 ha) tb_g mc_Mod_casts mk_Mod_142 mi_Mod_casts ms_Mod_casts mz_Mod ⟨by decide, by decide, by decide +kernel⟩ ⟨Nat.le_of_ble_eq_true rfl, Nat.le_of_ble_eq_true rfl⟩ (by decide) (gm_e0 ad cI cZ _) rfl rfl rfl rfl (Nat.le_of_ble_eq_true rfl) ⟨Nat.le_refl _, Nat.le_refl _⟩ md_Mod_accept_157 (fun M3 H3 locs3 h3 hw => ?_)
      refine W.eq (g2 := F0 m 160 ls []) rfl ?_
      refine lv_goto (tgt := 245) Z.1 Z.2.1 md_Mod_accept_160 (by decide) ?_
      refine xw_vret Z hr hlk hw md_Mod_accept_245 ?_
      unfold pz_accept
      rw [if_neg (by decide), if_pos rfl, if_pos ⟨by omega, by omega⟩, if_pos hv0]
      exact h3
set_option maxHeartbeats 4000000 in
theorem r_accept4a (l : Launch) (D : va_G) (ad : Nat × Nat → Nat) (cI cZ : ClassId) {M : fr_M} {n q f : Nat} {S : pz_T} {s a r v : Nat} (hn : n ≤ 5) (h : gm_R n q f S M) (hs : s < 3) (han : a < n) (I : pz_IV n q f (S.2 s)) (hL : S.1.length ≤ 60) (hr12 : r ≤ 12) (hv : v ≤ 1000) (hv0 : v = 0) : gm_C l D ad cI cZ my_Mod_accept mb_Mod_accept 8 none 2 52 M [.ref (ad (0, 0)), .int (nI (a)), .int (nI (4)), .int (nI (s)), .int (nI (r)), .int (nI (v))] (none) (gm_R n q f (pz_accept n q f S s a 4 r v)) := by
  have h0 : gm_R n q f (pz_pw S s (S.2 s)) M := by rw [pz_pw_id]; exact h
  have ha : a < 5 := by omega
  obtain ⟨iA1, iA2, -, iA4⟩ := I.1 a han
  obtain ⟨iO1, iO2, iO3⟩ := I.2.1 a han
  refine xw_start [.ref (ad (0, 0)), .int (nI (a)), .int (nI (4)), .int (nI (s)), .int (nI (r)), .int (nI (v))] (by decide) (Nat.le_of_ble_eq_true rfl) ?_
  intro p e st m below meth cd0 ls Z hml hr hlk hN hl hw
  have hl : lv_has ls 8 [(0, .ref (ad (0, 0))), (1, .int (nI (a))), (2, .int (nI (4))), (3, .int (nI (s))), (4, .int (nI (r))), (5, .int (nI (v)))] := hl
  refine lv_iconst (v := nI 5) Z.1 Z.2.1 md_Mod_accept_0 (by decide) ?_
  refine lv_iload_n Z.1 Z.2.1 md_Mod_accept_1 rfl (lv_at hl 3 rfl) ?_
  refine xi_mul Z md_Mod_accept_2 ?_
  refine lv_iload_n Z.1 Z.2.1 md_Mod_accept_3 rfl (lv_at hl 1 rfl) ?_
  refine xi_add Z md_Mod_accept_4 ?_
  refine lv_istore Z.1 Z.2.1 md_Mod_accept_5 hl (by decide) rfl (fun ls hl => ?_)
  have hl : lv_has ls 8 [(6, .int (nI ((5 * s) + a))), (0, .ref (ad (0, 0))), (1, .int (nI (a))), (2, .int (nI (4))), (3, .int (nI (s))), (4, .int (nI (r))), (5, .int (nI (v)))] := hl
  refine lv_iload_n Z.1 Z.2.1 md_Mod_accept_7 rfl (lv_at hl 3 rfl) ?_
  refine lv_iconst (v := nI 2) Z.1 Z.2.1 md_Mod_accept_8 (by decide) ?_
  refine xi_icmp_ne (tgt := 64) Z md_Mod_accept_9 (by decide) (by omega) (by omega) (fun h9 => ?_) (fun h9 => by exfalso; omega)
  refine lv_iload_n Z.1 Z.2.1 md_Mod_accept_64 rfl (lv_at hl 3 rfl) ?_
  refine lv_iconst (v := nI 4) Z.1 Z.2.1 md_Mod_accept_65 (by decide) ?_
  refine xi_icmp_ne (tgt := 163) Z md_Mod_accept_66 (by decide) (by omega) (by omega) (fun h66 => by exfalso; omega) (fun h66 => ?_)
  refine lv_iload Z.1 Z.2.1 md_Mod_accept_69 (lv_at hl 5 rfl) ?_
  refine lv_aload_n Z.1 Z.2.1 md_Mod_accept_71 rfl (lv_at hl 1 rfl) ?_
  refine xb_get (v := .ref (ad (13, 0))) Z hw (by decide) (gm_e0 ad cI cZ) rfl tb_iMod 13 (by decide) mk_Mod_35 rfl rfl md_Mod_accept_72 ?_
  refine lv_iload Z.1 Z.2.1 md_Mod_accept_75 (lv_at hl 0 rfl) ?_
  refine xw_iald Z hw (by decide) (gm_e13 ad cI cZ) 0 rfl (5 * s + a) rfl (by omega) (by omega) md_Mod_accept_77 ?_
  refine xi_re (show M (13, 0) (5 * s + a) = nI (S.2 s 0 a 0) from gm_g0 h hs ha) ?_
  refine xi_icmp_lt (tgt := 163) Z md_Mod_accept_78 (by decide) (by omega) (by omega) (fun h78 => ?_) (fun h78 => ?_)
  · refine lv_iload_n Z.1 Z.2.1 md_Mod_accept_163 rfl (lv_at hl 3 rfl) ?_
    refine lv_iconst (v := nI 1) Z.1 Z.2.1 md_Mod_accept_164 (by decide) ?_
    refine xi_icmp_ne (tgt := 245) Z md_Mod_accept_165 (by decide) (by omega) (by omega) (fun h165 => ?_) (fun h165 => by exfalso; omega)
    refine xw_vret Z hr hlk hw md_Mod_accept_245 ?_
    unfold pz_accept
    rw [if_neg (by decide), if_pos rfl, if_neg (by omega)]
    exact h
  · refine lv_iload Z.1 Z.2.1 md_Mod_accept_81 (lv_at hl 5 rfl) ?_
    refine lv_aload_n Z.1 Z.2.1 md_Mod_accept_83 rfl (lv_at hl 1 rfl) ?_
    refine xb_get (v := .ref (ad (15, 0))) Z hw (by decide) (gm_e0 ad cI cZ) rfl tb_iMod 15 (by decide) mk_Mod_41 rfl rfl md_Mod_accept_84 ?_
    refine lv_iload Z.1 Z.2.1 md_Mod_accept_87 (lv_at hl 0 rfl) ?_
    refine xw_iald Z hw (by decide) (gm_e15 ad cI cZ) 0 rfl (5 * s + a) rfl (by omega) (by omega) md_Mod_accept_89 ?_
    refine xi_re (show M (15, 0) (5 * s + a) = nI (S.2 s 2 a 0) from gm_g2 h hs ha) ?_
    refine xi_icmp_le (tgt := 163) Z md_Mod_accept_90 (by decide) (by omega) (by omega) (fun h90 => ?_) (fun h90 => ?_)
    · refine lv_iload_n Z.1 Z.2.1 md_Mod_accept_163 rfl (lv_at hl 3 rfl) ?_
      refine lv_iconst (v := nI 1) Z.1 Z.2.1 md_Mod_accept_164 (by decide) ?_
      refine xi_icmp_ne (tgt := 245) Z md_Mod_accept_165 (by decide) (by omega) (by omega) (fun h165 => ?_) (fun h165 => by exfalso; omega)
      refine xw_vret Z hr hlk hw md_Mod_accept_245 ?_
      unfold pz_accept
      rw [if_neg (by decide), if_pos rfl, if_neg (by omega)]
      exact h
    · refine lv_aload_n Z.1 Z.2.1 md_Mod_accept_93 rfl (lv_at hl 1 rfl) ?_
      refine xb_get (v := .ref (ad (13, 0))) Z hw (by decide) (gm_e0 ad cI cZ) rfl tb_iMod 13 (by decide) mk_Mod_35 rfl rfl md_Mod_accept_94 ?_
      refine lv_iload Z.1 Z.2.1 md_Mod_accept_97 (lv_at hl 0 rfl) ?_
      refine lv_iload Z.1 Z.2.1 md_Mod_accept_99 (lv_at hl 5 rfl) ?_
      refine xb_iast Z hw (by decide) (gm_e13 ad cI cZ) 0 rfl (5 * s + a) rfl (by omega) (by omega) md_Mod_accept_101 (fun M1 H1 locs1 e1 hw => ?_)
      have h1 := gm_w0 h0 hs ha e1
      refine lv_aload_n Z.1 Z.2.1 md_Mod_accept_102 rfl (lv_at hl 1 rfl) ?_
      refine xb_get (v := .ref (ad (17, 0))) Z hw (by decide) (gm_e0 ad cI cZ) rfl tb_iMod 17 (by decide) mk_Mod_47 rfl rfl md_Mod_accept_103 ?_
      refine lv_iload Z.1 Z.2.1 md_Mod_accept_106 (lv_at hl 0 rfl) ?_
      refine lv_iload Z.1 Z.2.1 md_Mod_accept_108 (lv_at hl 6 rfl) ?_
      refine xi_if_ne (tgt := 118) Z md_Mod_accept_110 (by decide) (by omega) (fun h110 => by exfalso; omega) (fun h110 => ?_)
      refine lv_iload Z.1 Z.2.1 md_Mod_accept_113 (lv_at hl 5 rfl) ?_
      refine lv_goto (tgt := 125) Z.1 Z.2.1 md_Mod_accept_115 (by decide) ?_
      refine xb_iast Z hw (by decide) (gm_e17 ad cI cZ) 0 rfl (5 * s + a) rfl (by omega) (by omega) md_Mod_accept_125 (fun M2 H2 locs2 e2 hw => ?_)
      have h2 := gm_w4 h1 hs ha e2
      refine lv_iload Z.1 Z.2.1 md_Mod_accept_126 (lv_at hl 6 rfl) ?_
      refine xi_if_ne (tgt := 141) Z md_Mod_accept_128 (by decide) (by omega) (fun h128 => by exfalso; omega) (fun h128 => ?_)
      refine lv_aload_n Z.1 Z.2.1 md_Mod_accept_131 rfl (lv_at hl 1 rfl) ?_
      refine xb_get (v := .ref (ad (16, 0))) Z hw (by decide) (gm_e0 ad cI cZ) rfl tb_iMod 16 (by decide) mk_Mod_44 rfl rfl md_Mod_accept_132 ?_
      refine lv_iload Z.1 Z.2.1 md_Mod_accept_135 (lv_at hl 0 rfl) ?_
      refine xw_iald Z hw (by decide) (gm_e16 ad cI cZ) 0 rfl (5 * s + a) rfl (by omega) (by omega) md_Mod_accept_137 ?_
      refine xi_re (show M2 (16, 0) (5 * s + a) = nI (S.2 s 3 a 0) from (by have z := gm_g3 h2 hs ha; rw [pz_pw_s, pz_u_k (by decide), pz_u_k (by decide)] at z; exact z)) ?_
      refine lv_goto (tgt := 143) Z.1 Z.2.1 md_Mod_accept_138 (by decide) ?_
      refine lv_istore Z.1 Z.2.1 md_Mod_accept_143 hl (by decide) rfl (fun ls hl => ?_)
      have hl : lv_has ls 8 [(7, .int (nI (S.2 s 3 a 0))), (6, .int (nI ((5 * s) + a))), (0, .ref (ad (0, 0))), (1, .int (nI (a))), (2, .int (nI (4))), (3, .int (nI (s))), (4, .int (nI (r))), (5, .int (nI (v)))] := hl
      refine lv_iload Z.1 Z.2.1 md_Mod_accept_145 (lv_at hl 0 rfl) ?_
      refine xi_if_le (tgt := 160) Z md_Mod_accept_147 (by decide) (by omega) (fun h147 => ?_) (fun h147 => ?_)
      · refine lv_goto (tgt := 245) Z.1 Z.2.1 md_Mod_accept_160 (by decide) ?_
        refine xw_vret Z hr hlk hw md_Mod_accept_245 ?_
        unfold pz_accept
        rw [if_neg (by decide), if_pos rfl, if_pos ⟨by omega, by omega⟩, if_neg (fun y => y hv0), if_neg (by omega)]
        exact h2
      · refine lv_aload_n Z.1 Z.2.1 md_Mod_accept_150 rfl (lv_at hl 2 rfl) ?_
        refine lv_iload_n Z.1 Z.2.1 md_Mod_accept_151 rfl (lv_at hl 3 rfl) ?_
        refine lv_iload_n Z.1 Z.2.1 md_Mod_accept_152 rfl (lv_at hl 5 rfl) ?_
        refine lv_iload Z.1 Z.2.1 md_Mod_accept_153 (lv_at hl 6 rfl) ?_
        refine lv_iload Z.1 Z.2.1 md_Mod_accept_155 (lv_at hl 0 rfl) ?_
        refine xw_cV (n := 4) (rest := []) Z hml hl.1 hN hw (r_casts (S := pz_pw S s (pz_u (pz_u (S.2 s) 0 a 0 r) 4 a 0 r)) (v := S.2 s 3 a 0) l D ad cI cZ hn h2 hL hs hr12 ha) tb_g mc_Mod_casts mk_Mod_142 mi_Mod_casts ms_Mod_casts mz_Mod ⟨by decide, by decide, by decide +kernel⟩ ⟨Nat.le_of_ble_eq_true rfl, Nat.le_of_ble_eq_true rfl⟩ (by decide) (gm_e0 ad cI cZ _) rfl rfl rfl rfl (Nat.le_of_ble_eq_true rfl) ⟨Nat.le_refl _, Nat.le_refl _⟩ md_Mod_accept_157 (fun M3 H3 locs3 h3 hw => ?_)
        refine W.eq (g2 := F0 m 160 ls []) rfl ?_
        refine lv_goto (tgt := 245) Z.1 Z.2.1 md_Mod_accept_160 (by decide) ?_
        refine xw_vret Z hr hlk hw md_Mod_accept_245 ?_
        unfold pz_accept
        rw [if_neg (by decide), if_pos rfl, if_pos ⟨by omega, by omega⟩, if_neg (fun y => y hv0), if_pos h147]
        exact h3
set_option maxHeartbeats 4000000 in
theorem r_accept1 (l : Launch) (D : va_G) (ad : Nat × Nat → Nat) (cI cZ : ClassId) {M : fr_M} {n q f : Nat} {S : pz_T} {s a r v : Nat} (hn : n ≤ 5) (h : gm_R n q f S M) (hs : s < 3) (han : a < n) (I : pz_IV n q f (S.2 s)) (hL : S.1.length ≤ 60) (hv : v ≤ 1000) : gm_C l D ad cI cZ my_Mod_accept mb_Mod_accept 8 none 2 52 M [.ref (ad (0, 0)), .int (nI (a)), .int (nI (1)), .int (nI (s)), .int (nI (r)), .int (nI (v))] (none) (gm_R n q f (pz_accept n q f S s a 1 r v)) := by
  have h0 : gm_R n q f (pz_pw S s (S.2 s)) M := by rw [pz_pw_id]; exact h
  have ha : a < 5 := by omega
  obtain ⟨iA1, iA2, -, iA4⟩ := I.1 a han
  obtain ⟨iO1, iO2, iO3⟩ := I.2.1 a han
  refine xw_start [.ref (ad (0, 0)), .int (nI (a)), .int (nI (1)), .int (nI (s)), .int (nI (r)), .int (nI (v))] (by decide) (Nat.le_of_ble_eq_true rfl) ?_
  intro p e st m below meth cd0 ls Z hml hr hlk hN hl hw
  have hl : lv_has ls 8 [(0, .ref (ad (0, 0))), (1, .int (nI (a))), (2, .int (nI (1))), (3, .int (nI (s))), (4, .int (nI (r))), (5, .int (nI (v)))] := hl
  refine lv_iconst (v := nI 5) Z.1 Z.2.1 md_Mod_accept_0 (by decide) ?_
  refine lv_iload_n Z.1 Z.2.1 md_Mod_accept_1 rfl (lv_at hl 3 rfl) ?_
  refine xi_mul Z md_Mod_accept_2 ?_
  refine lv_iload_n Z.1 Z.2.1 md_Mod_accept_3 rfl (lv_at hl 1 rfl) ?_
  refine xi_add Z md_Mod_accept_4 ?_
  refine lv_istore Z.1 Z.2.1 md_Mod_accept_5 hl (by decide) rfl (fun ls hl => ?_)
  have hl : lv_has ls 8 [(6, .int (nI ((5 * s) + a))), (0, .ref (ad (0, 0))), (1, .int (nI (a))), (2, .int (nI (1))), (3, .int (nI (s))), (4, .int (nI (r))), (5, .int (nI (v)))] := hl
  refine lv_iload_n Z.1 Z.2.1 md_Mod_accept_7 rfl (lv_at hl 3 rfl) ?_
  refine lv_iconst (v := nI 2) Z.1 Z.2.1 md_Mod_accept_8 (by decide) ?_
  refine xi_icmp_ne (tgt := 64) Z md_Mod_accept_9 (by decide) (by omega) (by omega) (fun h9 => ?_) (fun h9 => by exfalso; omega)
  refine lv_iload_n Z.1 Z.2.1 md_Mod_accept_64 rfl (lv_at hl 3 rfl) ?_
  refine lv_iconst (v := nI 4) Z.1 Z.2.1 md_Mod_accept_65 (by decide) ?_
  refine xi_icmp_ne (tgt := 163) Z md_Mod_accept_66 (by decide) (by omega) (by omega) (fun h66 => ?_) (fun h66 => by exfalso; omega)
  refine lv_iload_n Z.1 Z.2.1 md_Mod_accept_163 rfl (lv_at hl 3 rfl) ?_
  refine lv_iconst (v := nI 1) Z.1 Z.2.1 md_Mod_accept_164 (by decide) ?_
  refine xi_icmp_ne (tgt := 245) Z md_Mod_accept_165 (by decide) (by omega) (by omega) (fun h165 => by exfalso; omega) (fun h165 => ?_)
  refine lv_aload_n Z.1 Z.2.1 md_Mod_accept_168 rfl (lv_at hl 1 rfl) ?_
  refine xb_get (v := .ref (ad (16, 0))) Z hw (by decide) (gm_e0 ad cI cZ) rfl tb_iMod 16 (by decide) mk_Mod_44 rfl rfl md_Mod_accept_169 ?_
  refine lv_iload Z.1 Z.2.1 md_Mod_accept_172 (lv_at hl 0 rfl) ?_
  refine lv_aload_n Z.1 Z.2.1 md_Mod_accept_174 rfl (lv_at hl 1 rfl) ?_
  refine xb_get (v := .ref (ad (16, 0))) Z hw (by decide) (gm_e0 ad cI cZ) rfl tb_iMod 16 (by decide) mk_Mod_44 rfl rfl md_Mod_accept_175 ?_
  refine lv_iload Z.1 Z.2.1 md_Mod_accept_178 (lv_at hl 0 rfl) ?_
  refine xw_iald Z hw (by decide) (gm_e16 ad cI cZ) 0 rfl (5 * s + a) rfl (by omega) (by omega) md_Mod_accept_180 ?_
  refine xi_re (show M (16, 0) (5 * s + a) = nI (S.2 s 3 a 0) from gm_g3 h hs ha) ?_
  refine xi_if_ne (tgt := 189) Z md_Mod_accept_181 (by decide) (by omega) (fun h181 => ?_) (fun h181 => ?_)
  · refine lv_aload_n Z.1 Z.2.1 md_Mod_accept_189 rfl (lv_at hl 1 rfl) ?_
    refine xb_get (v := .ref (ad (16, 0))) Z hw (by decide) (gm_e0 ad cI cZ) rfl tb_iMod 16 (by decide) mk_Mod_44 rfl rfl md_Mod_accept_190 ?_
    refine lv_iload Z.1 Z.2.1 md_Mod_accept_193 (lv_at hl 0 rfl) ?_
    refine xw_iald Z hw (by decide) (gm_e16 ad cI cZ) 0 rfl (5 * s + a) rfl (by omega) (by omega) md_Mod_accept_195 ?_
    refine xi_re (show M (16, 0) (5 * s + a) = nI (S.2 s 3 a 0) from gm_g3 h hs ha) ?_
    refine xb_iast Z hw (by decide) (gm_e16 ad cI cZ) 0 rfl (5 * s + a) rfl (by omega) (by omega) md_Mod_accept_196 (fun M1 H1 locs1 e1 hw => ?_)
    have h1 := gm_w3 h0 hs ha e1
    refine lv_aload_n Z.1 Z.2.1 md_Mod_accept_197 rfl (lv_at hl 1 rfl) ?_
    refine xb_get (v := .ref (ad (13, 0))) Z hw (by decide) (gm_e0 ad cI cZ) rfl tb_iMod 13 (by decide) mk_Mod_35 rfl rfl md_Mod_accept_198 ?_
    refine lv_iload Z.1 Z.2.1 md_Mod_accept_201 (lv_at hl 0 rfl) ?_
    refine xw_iald Z hw (by decide) (gm_e13 ad cI cZ) 0 rfl (5 * s + a) rfl (by omega) (by omega) md_Mod_accept_203 ?_
    refine xi_re (show M1 (13, 0) (5 * s + a) = nI (S.2 s 0 a 0) from (by have z := gm_g0 h1 hs ha; rw [pz_pw_s, pz_u_k (by decide)] at z; exact z)) ?_
    refine lv_istore Z.1 Z.2.1 md_Mod_accept_204 hl (by decide) rfl (fun ls hl => ?_)
    have hl : lv_has ls 8 [(7, .int (nI (S.2 s 0 a 0))), (6, .int (nI ((5 * s) + a))), (0, .ref (ad (0, 0))), (1, .int (nI (a))), (2, .int (nI (1))), (3, .int (nI (s))), (4, .int (nI (r))), (5, .int (nI (v)))] := hl
    refine lv_iload Z.1 Z.2.1 md_Mod_accept_206 (lv_at hl 0 rfl) ?_
    refine xi_if_le (tgt := 245) Z md_Mod_accept_208 (by decide) (by omega) (fun h208 => ?_) (fun h208 => ?_)
    · refine xw_vret Z hr hlk hw md_Mod_accept_245 ?_
      unfold pz_accept
      rw [if_neg (by decide), if_neg (by decide), if_pos rfl, if_neg h181]
      rw [pz_u_id, pz_pw_id] at h1
      exact h1
    · refine lv_aload_n Z.1 Z.2.1 md_Mod_accept_211 rfl (lv_at hl 2 rfl) ?_
      refine xb_get (v := .ref (ad (17, 0))) Z hw (by decide) (gm_e0 ad cI cZ) rfl tb_iMod 17 (by decide) mk_Mod_47 rfl rfl md_Mod_accept_212 ?_
      refine lv_iload Z.1 Z.2.1 md_Mod_accept_215 (lv_at hl 1 rfl) ?_
      refine xw_iald Z hw (by decide) (gm_e17 ad cI cZ) 0 rfl (5 * s + a) rfl (by omega) (by omega) md_Mod_accept_217 ?_
      refine xi_re (show M1 (17, 0) (5 * s + a) = nI (S.2 s 4 a 0) from (by have z := gm_g4 h1 hs ha; rw [pz_pw_s, pz_u_k (by decide)] at z; exact z)) ?_
      refine lv_iload Z.1 Z.2.1 md_Mod_accept_218 (lv_at hl 0 rfl) ?_
      refine xi_icmp_ne (tgt := 245) Z md_Mod_accept_220 (by decide) (by omega) (by omega) (fun h220 => ?_) (fun h220 => ?_)
      · refine xw_vret Z hr hlk hw md_Mod_accept_245 ?_
        unfold pz_accept
        rw [if_neg (by decide), if_neg (by decide), if_pos rfl, if_neg h181]
        rw [pz_u_id, pz_pw_id] at h1
        exact h1
      · refine lv_aload_n Z.1 Z.2.1 md_Mod_accept_223 rfl (lv_at hl 2 rfl) ?_
        refine xb_get (v := .ref (ad (15, 0))) Z hw (by decide) (gm_e0 ad cI cZ) rfl tb_iMod 15 (by decide) mk_Mod_41 rfl rfl md_Mod_accept_224 ?_
        refine lv_iload Z.1 Z.2.1 md_Mod_accept_227 (lv_at hl 1 rfl) ?_
        refine xw_iald Z hw (by decide) (gm_e15 ad cI cZ) 0 rfl (5 * s + a) rfl (by omega) (by omega) md_Mod_accept_229 ?_
        refine xi_re (show M1 (15, 0) (5 * s + a) = nI (S.2 s 2 a 0) from (by have z := gm_g2 h1 hs ha; rw [pz_pw_s, pz_u_k (by decide)] at z; exact z)) ?_
        refine lv_iload Z.1 Z.2.1 md_Mod_accept_230 (lv_at hl 0 rfl) ?_
        refine xi_icmp_ge (tgt := 245) Z md_Mod_accept_232 (by decide) (by omega) (by omega) (fun h232 => ?_) (fun h232 => by exfalso; have := (iO3 (by omega) (by omega)).2 h181; omega)
        refine xw_vret Z hr hlk hw md_Mod_accept_245 ?_
        unfold pz_accept
        rw [if_neg (by decide), if_neg (by decide), if_pos rfl, if_neg h181]
        rw [pz_u_id, pz_pw_id] at h1
        exact h1
  · refine lv_iload Z.1 Z.2.1 md_Mod_accept_184 (lv_at hl 6 rfl) ?_
    refine lv_goto (tgt := 196) Z.1 Z.2.1 md_Mod_accept_186 (by decide) ?_
    refine xb_iast Z hw (by decide) (gm_e16 ad cI cZ) 0 rfl (5 * s + a) rfl (by omega) (by omega) md_Mod_accept_196 (fun M2 H2 locs2 e2 hw => ?_)
    have h1 := gm_w3 h0 hs ha e2
    refine lv_aload_n Z.1 Z.2.1 md_Mod_accept_197 rfl (lv_at hl 1 rfl) ?_
    refine xb_get (v := .ref (ad (13, 0))) Z hw (by decide) (gm_e0 ad cI cZ) rfl tb_iMod 13 (by decide) mk_Mod_35 rfl rfl md_Mod_accept_198 ?_
    refine lv_iload Z.1 Z.2.1 md_Mod_accept_201 (lv_at hl 0 rfl) ?_
    refine xw_iald Z hw (by decide) (gm_e13 ad cI cZ) 0 rfl (5 * s + a) rfl (by omega) (by omega) md_Mod_accept_203 ?_
    refine xi_re (show M2 (13, 0) (5 * s + a) = nI (S.2 s 0 a 0) from (by have z := gm_g0 h1 hs ha; rw [pz_pw_s, pz_u_k (by decide)] at z; exact z)) ?_
    refine lv_istore Z.1 Z.2.1 md_Mod_accept_204 hl (by decide) rfl (fun ls hl => ?_)
    have hl : lv_has ls 8 [(7, .int (nI (S.2 s 0 a 0))), (6, .int (nI ((5 * s) + a))), (0, .ref (ad (0, 0))), (1, .int (nI (a))), (2, .int (nI (1))), (3, .int (nI (s))), (4, .int (nI (r))), (5, .int (nI (v)))] := hl
    refine lv_iload Z.1 Z.2.1 md_Mod_accept_206 (lv_at hl 0 rfl) ?_
    refine xi_if_le (tgt := 245) Z md_Mod_accept_208 (by decide) (by omega) (fun h208 => ?_) (fun h208 => ?_)
    · refine xw_vret Z hr hlk hw md_Mod_accept_245 ?_
      unfold pz_accept
      rw [if_neg (by decide), if_neg (by decide), if_pos rfl, if_pos h181, if_neg (by omega)]
      exact h1
    · refine lv_aload_n Z.1 Z.2.1 md_Mod_accept_211 rfl (lv_at hl 2 rfl) ?_
      refine xb_get (v := .ref (ad (17, 0))) Z hw (by decide) (gm_e0 ad cI cZ) rfl tb_iMod 17 (by decide) mk_Mod_47 rfl rfl md_Mod_accept_212 ?_
      refine lv_iload Z.1 Z.2.1 md_Mod_accept_215 (lv_at hl 1 rfl) ?_
      refine xw_iald Z hw (by decide) (gm_e17 ad cI cZ) 0 rfl (5 * s + a) rfl (by omega) (by omega) md_Mod_accept_217 ?_
      refine xi_re (show M2 (17, 0) (5 * s + a) = nI (S.2 s 4 a 0) from (by have z := gm_g4 h1 hs ha; rw [pz_pw_s, pz_u_k (by decide)] at z; exact z)) ?_
      refine lv_iload Z.1 Z.2.1 md_Mod_accept_218 (lv_at hl 0 rfl) ?_
      refine xi_icmp_ne (tgt := 245) Z md_Mod_accept_220 (by decide) (by omega) (by omega) (fun h220 => ?_) (fun h220 => ?_)
      · refine xw_vret Z hr hlk hw md_Mod_accept_245 ?_
        unfold pz_accept
        rw [if_neg (by decide), if_neg (by decide), if_pos rfl, if_pos h181, if_neg (by omega)]
        exact h1
      · refine lv_aload_n Z.1 Z.2.1 md_Mod_accept_223 rfl (lv_at hl 2 rfl) ?_
        refine xb_get (v := .ref (ad (15, 0))) Z hw (by decide) (gm_e0 ad cI cZ) rfl tb_iMod 15 (by decide) mk_Mod_41 rfl rfl md_Mod_accept_224 ?_
        refine lv_iload Z.1 Z.2.1 md_Mod_accept_227 (lv_at hl 1 rfl) ?_
        refine xw_iald Z hw (by decide) (gm_e15 ad cI cZ) 0 rfl (5 * s + a) rfl (by omega) (by omega) md_Mod_accept_229 ?_
        refine xi_re (show M2 (15, 0) (5 * s + a) = nI (S.2 s 2 a 0) from (by have z := gm_g2 h1 hs ha; rw [pz_pw_s, pz_u_k (by decide)] at z; exact z)) ?_
        refine lv_iload Z.1 Z.2.1 md_Mod_accept_230 (lv_at hl 0 rfl) ?_
        refine xi_icmp_ge (tgt := 245) Z md_Mod_accept_232 (by decide) (by omega) (by omega) (fun h232 => ?_) (fun h232 => ?_)
        · refine xw_vret Z hr hlk hw md_Mod_accept_245 ?_
          unfold pz_accept
          rw [if_neg (by decide), if_neg (by decide), if_pos rfl, if_pos h181, if_neg (by omega)]
          exact h1
        · refine lv_aload_n Z.1 Z.2.1 md_Mod_accept_235 rfl (lv_at hl 2 rfl) ?_
          refine lv_iload_n Z.1 Z.2.1 md_Mod_accept_236 rfl (lv_at hl 3 rfl) ?_
          refine lv_iload_n Z.1 Z.2.1 md_Mod_accept_237 rfl (lv_at hl 5 rfl) ?_
          refine lv_iload Z.1 Z.2.1 md_Mod_accept_238 (lv_at hl 0 rfl) ?_
          refine lv_iload Z.1 Z.2.1 md_Mod_accept_240 (lv_at hl 7 rfl) ?_
          refine xw_cV (n := 4) (rest := []) Z hml hl.1 hN hw (r_casts (S := pz_pw S s (pz_u (S.2 s) 3 a 0 v)) (r := S.2 s 0 a 0) (v := v) l D ad cI cZ hn h1 hL hs (by omega) ha) tb_g mc_Mod_casts mk_Mod_142 mi_Mod_casts ms_Mod_casts mz_Mod ⟨by decide, by decide, by decide +kernel⟩ ⟨Nat.le_of_ble_eq_true rfl, Nat.le_of_ble_eq_true rfl⟩ (by decide) (gm_e0 ad cI cZ _) rfl rfl rfl rfl (Nat.le_of_ble_eq_true rfl) ⟨Nat.le_refl _, Nat.le_refl _⟩ md_Mod_accept_242 (fun M3 H3 locs3 h3 hw => ?_)
          refine W.eq (g2 := F0 m 245 ls []) rfl ?_
          refine xw_vret Z hr hlk hw md_Mod_accept_245 ?_
          unfold pz_accept
          rw [if_neg (by decide), if_neg (by decide), if_pos rfl, if_pos h181, if_pos (by omega)]
          exact h3
