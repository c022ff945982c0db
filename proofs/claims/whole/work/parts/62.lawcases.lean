/-! The cases of the law's switch. -/
set_option maxHeartbeats 1000000 in
theorem lc_propose {p : Program} {l : Launch} {e : Env} {s : State} {m : MethodId} {below : List Frame} {meth : Method} {c : Code} {H : Heap} {locs : List Loc} {cells slots : Nat} {Qf : State → Prop} {ls : Array Slot} {D : va_G} {b L n q f i : Nat} {xs : Nat → Int32} {ad1 ad2 : Nat × Nat → Nat} {cI cZ cS cA : ClassId} {cd : Cond} {S : pz_T} {M1 M2 : fr_M} (X : lx_X p c s m b L xs D n ad1 ad2 cI cZ cS cA cd) (Q : pz_Q n q f) (h1 : fr_I n q f S M1) (h2 : gm_I n q f S M2) (hw : lx_W s D n ad1 ad2 cI cZ cS cA M1 M2 H locs) (hl : lv_has ls 4 [(3, .int (nI i)), (0, .ref b), (1, .ref (ad1 (0, 0))), (2, .ref (ad2 (0, 0)))]) (hi : i + 4 ≤ L) (hcs : cells ≤ 600000 ∧ slots ≤ 7302249) (kk : ∀ (S1 : pz_T) (M1 M2 : fr_M) (H : Heap) (locs : List Loc), fr_I n q f S1 M1 → gm_I n q f S1 M2 → lx_W s D n ad1 ad2 cI cZ cS cA M1 M2 H locs → W p l e room_1 s m #[Value.ref b] below meth c H locs cells slots Qf (F0 m 658 ls [])) : W p l e room_1 s m #[Value.ref b] below meth c H locs cells slots Qf (F0 m 148 ls []) := by
  have Z := X.1
  obtain ⟨r, S1, Pm1, Pm2, fr1, lo1, fr2, lo2, hb, c1, p1, c2, p2⟩ := lx_propose (l := l) (D := D) (ad1 := ad1) (ad2 := ad2) (cI := cI) (cZ := cZ) (cS := cS) (cA := cA) Q h1 h2 (x := xs (i + 1)) (y := xs (i + 2)) 
  refine lv_aload_n Z.1 Z.2.1 md_law_148 rfl (lv_at hl 2 rfl) ?_
  refine lv_aload_n Z.1 Z.2.1 md_law_149 rfl (lv_at hl 1 rfl) ?_
  refine lv_iload_n Z.1 Z.2.1 md_law_150 rfl (lv_at hl 0 rfl) ?_
  refine lv_iconst (v := nI 1) Z.1 Z.2.1 md_law_151 (by decide) ?_
  refine xi_add Z md_law_152 ?_
  refine lx_sld X hw.2.2 (i + 1) rfl (by omega) md_law_153 ?_
  refine lv_aload_n Z.1 Z.2.1 md_law_154 rfl (lv_at hl 1 rfl) ?_
  refine lv_iload_n Z.1 Z.2.1 md_law_155 rfl (lv_at hl 0 rfl) ?_
  refine lv_iconst (v := nI 2) Z.1 Z.2.1 md_law_156 (by decide) ?_
  refine xi_add Z md_law_157 ?_
  refine lx_sld X hw.2.2 (i + 2) rfl (by omega) md_law_158 ?_
  refine lx_1 (np := 2) (rest := []) X hl.1 hw c1 ⟨hb.1, hb.2.1⟩ (by decide) mc_FB_propose mk_Law_21 mi_FB_propose ms_FB_propose mz_FB rfl ⟨by decide, by decide, by decide +kernel⟩ rfl rfl (Nat.le_of_ble_eq_true rfl) hcs md_law_159 (fun M1 H locs hp1 hw => ?_)
  refine lv_aload_n Z.1 Z.2.1 md_law_162 rfl (lv_at hl 3 rfl) ?_
  refine lv_aload_n Z.1 Z.2.1 md_law_163 rfl (lv_at hl 1 rfl) ?_
  refine lv_iload_n Z.1 Z.2.1 md_law_164 rfl (lv_at hl 0 rfl) ?_
  refine lv_iconst (v := nI 1) Z.1 Z.2.1 md_law_165 (by decide) ?_
  refine xi_add Z md_law_166 ?_
  refine lx_sld X hw.2.2 (i + 1) rfl (by omega) md_law_167 ?_
  refine lv_aload_n Z.1 Z.2.1 md_law_168 rfl (lv_at hl 1 rfl) ?_
  refine lv_iload_n Z.1 Z.2.1 md_law_169 rfl (lv_at hl 0 rfl) ?_
  refine lv_iconst (v := nI 2) Z.1 Z.2.1 md_law_170 (by decide) ?_
  refine xi_add Z md_law_171 ?_
  refine lx_sld X hw.2.2 (i + 2) rfl (by omega) md_law_172 ?_
  refine lx_2 (np := 2) (rest := [.int r]) X hl.1 hw c2 ⟨hb.2.2.1, hb.2.2.2⟩ (by decide) mc_Mod_propose mk_Law_25 mi_Mod_propose ms_Mod_propose mz_Mod rfl ⟨by decide, by decide, by decide +kernel⟩ rfl rfl (Nat.le_of_ble_eq_true rfl) hcs md_law_173 (fun M2 H locs hp2 hw => ?_)
  refine lv_icmp_eq (tgt := 658) Z.1 Z.2.1 md_law_176 (by decide) (fun _ => ?_) (fun h => absurd rfl h)
  exact kk S1 M1 M2 H locs (p1 _ hp1) (p2 _ hp2) hw
set_option maxHeartbeats 1000000 in
theorem lc_begin {p : Program} {l : Launch} {e : Env} {s : State} {m : MethodId} {below : List Frame} {meth : Method} {c : Code} {H : Heap} {locs : List Loc} {cells slots : Nat} {Qf : State → Prop} {ls : Array Slot} {D : va_G} {b L n q f i : Nat} {xs : Nat → Int32} {ad1 ad2 : Nat × Nat → Nat} {cI cZ cS cA : ClassId} {cd : Cond} {S : pz_T} {M1 M2 : fr_M} (X : lx_X p c s m b L xs D n ad1 ad2 cI cZ cS cA cd) (Q : pz_Q n q f) (h1 : fr_I n q f S M1) (h2 : gm_I n q f S M2) (hw : lx_W s D n ad1 ad2 cI cZ cS cA M1 M2 H locs) (hl : lv_has ls 4 [(3, .int (nI i)), (0, .ref b), (1, .ref (ad1 (0, 0))), (2, .ref (ad2 (0, 0)))]) (hi : i + 4 ≤ L) (hcs : cells ≤ 600000 ∧ slots ≤ 7302249) (kk : ∀ (S1 : pz_T) (M1 M2 : fr_M) (H : Heap) (locs : List Loc), fr_I n q f S1 M1 → gm_I n q f S1 M2 → lx_W s D n ad1 ad2 cI cZ cS cA M1 M2 H locs → W p l e room_1 s m #[Value.ref b] below meth c H locs cells slots Qf (F0 m 658 ls [])) : W p l e room_1 s m #[Value.ref b] below meth c H locs cells slots Qf (F0 m 181 ls []) := by
  have Z := X.1
  obtain ⟨r, S1, Pm1, Pm2, fr1, lo1, fr2, lo2, hb, c1, p1, c2, p2⟩ := lx_begin (l := l) (D := D) (ad1 := ad1) (ad2 := ad2) (cI := cI) (cZ := cZ) (cS := cS) (cA := cA) Q h1 h2 (x := xs (i + 1)) (y := xs (i + 2)) 
  refine lv_aload_n Z.1 Z.2.1 md_law_181 rfl (lv_at hl 2 rfl) ?_
  refine lv_aload_n Z.1 Z.2.1 md_law_182 rfl (lv_at hl 1 rfl) ?_
  refine lv_iload_n Z.1 Z.2.1 md_law_183 rfl (lv_at hl 0 rfl) ?_
  refine lv_iconst (v := nI 1) Z.1 Z.2.1 md_law_184 (by decide) ?_
  refine xi_add Z md_law_185 ?_
  refine lx_sld X hw.2.2 (i + 1) rfl (by omega) md_law_186 ?_
  refine lv_aload_n Z.1 Z.2.1 md_law_187 rfl (lv_at hl 1 rfl) ?_
  refine lv_iload_n Z.1 Z.2.1 md_law_188 rfl (lv_at hl 0 rfl) ?_
  refine lv_iconst (v := nI 2) Z.1 Z.2.1 md_law_189 (by decide) ?_
  refine xi_add Z md_law_190 ?_
  refine lx_sld X hw.2.2 (i + 2) rfl (by omega) md_law_191 ?_
  refine lx_1 (np := 2) (rest := []) X hl.1 hw c1 ⟨hb.1, hb.2.1⟩ (by decide) mc_FB_begin mk_Law_26 mi_FB_begin ms_FB_begin mz_FB rfl ⟨by decide, by decide, by decide +kernel⟩ rfl rfl (Nat.le_of_ble_eq_true rfl) hcs md_law_192 (fun M1 H locs hp1 hw => ?_)
  refine lv_aload_n Z.1 Z.2.1 md_law_195 rfl (lv_at hl 3 rfl) ?_
  refine lv_aload_n Z.1 Z.2.1 md_law_196 rfl (lv_at hl 1 rfl) ?_
  refine lv_iload_n Z.1 Z.2.1 md_law_197 rfl (lv_at hl 0 rfl) ?_
  refine lv_iconst (v := nI 1) Z.1 Z.2.1 md_law_198 (by decide) ?_
  refine xi_add Z md_law_199 ?_
  refine lx_sld X hw.2.2 (i + 1) rfl (by omega) md_law_200 ?_
  refine lv_aload_n Z.1 Z.2.1 md_law_201 rfl (lv_at hl 1 rfl) ?_
  refine lv_iload_n Z.1 Z.2.1 md_law_202 rfl (lv_at hl 0 rfl) ?_
  refine lv_iconst (v := nI 2) Z.1 Z.2.1 md_law_203 (by decide) ?_
  refine xi_add Z md_law_204 ?_
  refine lx_sld X hw.2.2 (i + 2) rfl (by omega) md_law_205 ?_
  refine lx_2 (np := 2) (rest := [.int r]) X hl.1 hw c2 ⟨hb.2.2.1, hb.2.2.2⟩ (by decide) mc_Mod_begin mk_Law_29 mi_Mod_begin ms_Mod_begin mz_Mod rfl ⟨by decide, by decide, by decide +kernel⟩ rfl rfl (Nat.le_of_ble_eq_true rfl) hcs md_law_206 (fun M2 H locs hp2 hw => ?_)
  refine lv_icmp_eq (tgt := 658) Z.1 Z.2.1 md_law_209 (by decide) (fun _ => ?_) (fun h => absurd rfl h)
  exact kk S1 M1 M2 H locs (p1 _ hp1) (p2 _ hp2) hw
set_option maxHeartbeats 1000000 in
theorem lc_deliver {p : Program} {l : Launch} {e : Env} {s : State} {m : MethodId} {below : List Frame} {meth : Method} {c : Code} {H : Heap} {locs : List Loc} {cells slots : Nat} {Qf : State → Prop} {ls : Array Slot} {D : va_G} {b L n q f i : Nat} {xs : Nat → Int32} {ad1 ad2 : Nat × Nat → Nat} {cI cZ cS cA : ClassId} {cd : Cond} {S : pz_T} {M1 M2 : fr_M} (X : lx_X p c s m b L xs D n ad1 ad2 cI cZ cS cA cd) (Q : pz_Q n q f) (h1 : fr_I n q f S M1) (h2 : gm_I n q f S M2) (hw : lx_W s D n ad1 ad2 cI cZ cS cA M1 M2 H locs) (hl : lv_has ls 4 [(3, .int (nI i)), (0, .ref b), (1, .ref (ad1 (0, 0))), (2, .ref (ad2 (0, 0)))]) (hi : i + 4 ≤ L) (hcs : cells ≤ 600000 ∧ slots ≤ 7302249) (kk : ∀ (S1 : pz_T) (M1 M2 : fr_M) (H : Heap) (locs : List Loc), fr_I n q f S1 M1 → gm_I n q f S1 M2 → lx_W s D n ad1 ad2 cI cZ cS cA M1 M2 H locs → W p l e room_1 s m #[Value.ref b] below meth c H locs cells slots Qf (F0 m 658 ls [])) : W p l e room_1 s m #[Value.ref b] below meth c H locs cells slots Qf (F0 m 214 ls []) := by
  have Z := X.1
  obtain ⟨r, S1, Pm1, Pm2, fr1, lo1, fr2, lo2, hb, c1, p1, c2, p2⟩ := lx_deliver (l := l) (D := D) (ad1 := ad1) (ad2 := ad2) (cI := cI) (cZ := cZ) (cS := cS) (cA := cA) Q h1 h2 (x := xs (i + 1)) 
  refine lv_aload_n Z.1 Z.2.1 md_law_214 rfl (lv_at hl 2 rfl) ?_
  refine lv_aload_n Z.1 Z.2.1 md_law_215 rfl (lv_at hl 1 rfl) ?_
  refine lv_iload_n Z.1 Z.2.1 md_law_216 rfl (lv_at hl 0 rfl) ?_
  refine lv_iconst (v := nI 1) Z.1 Z.2.1 md_law_217 (by decide) ?_
  refine xi_add Z md_law_218 ?_
  refine lx_sld X hw.2.2 (i + 1) rfl (by omega) md_law_219 ?_
  refine lx_1 (np := 1) (rest := []) X hl.1 hw c1 ⟨hb.1, hb.2.1⟩ (by decide) mc_FB_deliver mk_Law_30 mi_FB_deliver ms_FB_deliver mz_FB rfl ⟨by decide, by decide, by decide +kernel⟩ rfl rfl (Nat.le_of_ble_eq_true rfl) hcs md_law_220 (fun M1 H locs hp1 hw => ?_)
  refine lv_aload_n Z.1 Z.2.1 md_law_223 rfl (lv_at hl 3 rfl) ?_
  refine lv_aload_n Z.1 Z.2.1 md_law_224 rfl (lv_at hl 1 rfl) ?_
  refine lv_iload_n Z.1 Z.2.1 md_law_225 rfl (lv_at hl 0 rfl) ?_
  refine lv_iconst (v := nI 1) Z.1 Z.2.1 md_law_226 (by decide) ?_
  refine xi_add Z md_law_227 ?_
  refine lx_sld X hw.2.2 (i + 1) rfl (by omega) md_law_228 ?_
  refine lx_2 (np := 1) (rest := [.int r]) X hl.1 hw c2 ⟨hb.2.2.1, hb.2.2.2⟩ (by decide) mc_Mod_deliver mk_Law_34 mi_Mod_deliver ms_Mod_deliver mz_Mod rfl ⟨by decide, by decide, by decide +kernel⟩ rfl rfl (Nat.le_of_ble_eq_true rfl) hcs md_law_229 (fun M2 H locs hp2 hw => ?_)
  refine lv_icmp_eq (tgt := 658) Z.1 Z.2.1 md_law_232 (by decide) (fun _ => ?_) (fun h => absurd rfl h)
  exact kk S1 M1 M2 H locs (p1 _ hp1) (p2 _ hp2) hw
set_option maxHeartbeats 1000000 in
theorem lc_drop {p : Program} {l : Launch} {e : Env} {s : State} {m : MethodId} {below : List Frame} {meth : Method} {c : Code} {H : Heap} {locs : List Loc} {cells slots : Nat} {Qf : State → Prop} {ls : Array Slot} {D : va_G} {b L n q f i : Nat} {xs : Nat → Int32} {ad1 ad2 : Nat × Nat → Nat} {cI cZ cS cA : ClassId} {cd : Cond} {S : pz_T} {M1 M2 : fr_M} (X : lx_X p c s m b L xs D n ad1 ad2 cI cZ cS cA cd) (Q : pz_Q n q f) (h1 : fr_I n q f S M1) (h2 : gm_I n q f S M2) (hw : lx_W s D n ad1 ad2 cI cZ cS cA M1 M2 H locs) (hl : lv_has ls 4 [(3, .int (nI i)), (0, .ref b), (1, .ref (ad1 (0, 0))), (2, .ref (ad2 (0, 0)))]) (hi : i + 4 ≤ L) (hcs : cells ≤ 600000 ∧ slots ≤ 7302249) (kk : ∀ (S1 : pz_T) (M1 M2 : fr_M) (H : Heap) (locs : List Loc), fr_I n q f S1 M1 → gm_I n q f S1 M2 → lx_W s D n ad1 ad2 cI cZ cS cA M1 M2 H locs → W p l e room_1 s m #[Value.ref b] below meth c H locs cells slots Qf (F0 m 658 ls [])) : W p l e room_1 s m #[Value.ref b] below meth c H locs cells slots Qf (F0 m 237 ls []) := by
  have Z := X.1
  obtain ⟨r, S1, Pm1, Pm2, fr1, lo1, fr2, lo2, hb, c1, p1, c2, p2⟩ := lx_drop (l := l) (D := D) (ad1 := ad1) (ad2 := ad2) (cI := cI) (cZ := cZ) (cS := cS) (cA := cA) Q h1 h2 (x := xs (i + 1)) 
  refine lv_aload_n Z.1 Z.2.1 md_law_237 rfl (lv_at hl 2 rfl) ?_
  refine lv_aload_n Z.1 Z.2.1 md_law_238 rfl (lv_at hl 1 rfl) ?_
  refine lv_iload_n Z.1 Z.2.1 md_law_239 rfl (lv_at hl 0 rfl) ?_
  refine lv_iconst (v := nI 1) Z.1 Z.2.1 md_law_240 (by decide) ?_
  refine xi_add Z md_law_241 ?_
  refine lx_sld X hw.2.2 (i + 1) rfl (by omega) md_law_242 ?_
  refine lx_1 (np := 1) (rest := []) X hl.1 hw c1 ⟨hb.1, hb.2.1⟩ (by decide) mc_FB_drop mk_Law_35 mi_FB_drop ms_FB_drop mz_FB rfl ⟨by decide, by decide, by decide +kernel⟩ rfl rfl (Nat.le_of_ble_eq_true rfl) hcs md_law_243 (fun M1 H locs hp1 hw => ?_)
  refine lv_aload_n Z.1 Z.2.1 md_law_246 rfl (lv_at hl 3 rfl) ?_
  refine lv_aload_n Z.1 Z.2.1 md_law_247 rfl (lv_at hl 1 rfl) ?_
  refine lv_iload_n Z.1 Z.2.1 md_law_248 rfl (lv_at hl 0 rfl) ?_
  refine lv_iconst (v := nI 1) Z.1 Z.2.1 md_law_249 (by decide) ?_
  refine xi_add Z md_law_250 ?_
  refine lx_sld X hw.2.2 (i + 1) rfl (by omega) md_law_251 ?_
  refine lx_2 (np := 1) (rest := [.int r]) X hl.1 hw c2 ⟨hb.2.2.1, hb.2.2.2⟩ (by decide) mc_Mod_drop mk_Law_39 mi_Mod_drop ms_Mod_drop mz_Mod rfl ⟨by decide, by decide, by decide +kernel⟩ rfl rfl (Nat.le_of_ble_eq_true rfl) hcs md_law_252 (fun M2 H locs hp2 hw => ?_)
  refine lv_icmp_eq (tgt := 658) Z.1 Z.2.1 md_law_255 (by decide) (fun _ => ?_) (fun h => absurd rfl h)
  exact kk S1 M1 M2 H locs (p1 _ hp1) (p2 _ hp2) hw
set_option maxHeartbeats 1000000 in
theorem lc_halt {p : Program} {l : Launch} {e : Env} {s : State} {m : MethodId} {below : List Frame} {meth : Method} {c : Code} {H : Heap} {locs : List Loc} {cells slots : Nat} {Qf : State → Prop} {ls : Array Slot} {D : va_G} {b L n q f i : Nat} {xs : Nat → Int32} {ad1 ad2 : Nat × Nat → Nat} {cI cZ cS cA : ClassId} {cd : Cond} {S : pz_T} {M1 M2 : fr_M} (X : lx_X p c s m b L xs D n ad1 ad2 cI cZ cS cA cd) (Q : pz_Q n q f) (h1 : fr_I n q f S M1) (h2 : gm_I n q f S M2) (hw : lx_W s D n ad1 ad2 cI cZ cS cA M1 M2 H locs) (hl : lv_has ls 4 [(3, .int (nI i)), (0, .ref b), (1, .ref (ad1 (0, 0))), (2, .ref (ad2 (0, 0)))]) (hi : i + 4 ≤ L) (hcs : cells ≤ 600000 ∧ slots ≤ 7302249) (kk : ∀ (S1 : pz_T) (M1 M2 : fr_M) (H : Heap) (locs : List Loc), fr_I n q f S1 M1 → gm_I n q f S1 M2 → lx_W s D n ad1 ad2 cI cZ cS cA M1 M2 H locs → W p l e room_1 s m #[Value.ref b] below meth c H locs cells slots Qf (F0 m 658 ls [])) : W p l e room_1 s m #[Value.ref b] below meth c H locs cells slots Qf (F0 m 260 ls []) := by
  have Z := X.1
  by_cases hz : xs (i + 2) = 0
  · obtain ⟨r, S1, Pm1, Pm2, fr1, lo1, fr2, lo2, hb, c1, p1, c2, p2⟩ := lx_halt (l := l) (D := D) (ad1 := ad1) (ad2 := ad2) (cI := cI) (cZ := cZ) (cS := cS) (cA := cA) Q h1 h2 (x := xs (i + 1)) (b := 0) (by decide)
    refine lv_aload_n Z.1 Z.2.1 md_law_260 rfl (lv_at hl 2 rfl) ?_
    refine lv_aload_n Z.1 Z.2.1 md_law_261 rfl (lv_at hl 1 rfl) ?_
    refine lv_iload_n Z.1 Z.2.1 md_law_262 rfl (lv_at hl 0 rfl) ?_
    refine lv_iconst (v := nI 1) Z.1 Z.2.1 md_law_263 (by decide) ?_
    refine xi_add Z md_law_264 ?_
    refine lx_sld X hw.2.2 (i + 1) rfl (by omega) md_law_265 ?_
    refine lv_aload_n Z.1 Z.2.1 md_law_266 rfl (lv_at hl 1 rfl) ?_
    refine lv_iload_n Z.1 Z.2.1 md_law_267 rfl (lv_at hl 0 rfl) ?_
    refine lv_iconst (v := nI 2) Z.1 Z.2.1 md_law_268 (by decide) ?_
    refine xi_add Z md_law_269 ?_
    refine lx_sld X hw.2.2 (i + 2) rfl (by omega) md_law_270 ?_
    refine lv_if_eq (tgt := 278) Z.1 Z.2.1 md_law_271 (by decide) (fun _ => ?_) (fun h => absurd hz h)
    refine lv_iconst (v := nI 0) Z.1 Z.2.1 md_law_278 (by decide) ?_
    refine lx_1 (np := 2) (rest := []) X hl.1 hw c1 ⟨hb.1, hb.2.1⟩ (by decide) mc_FB_halt mk_Law_40 mi_FB_halt ms_FB_halt mz_FB rfl ⟨by decide, by decide, by decide +kernel⟩ rfl rfl (Nat.le_of_ble_eq_true rfl) hcs md_law_279 (fun M1 H locs hp1 hw => ?_)
    refine lv_aload_n Z.1 Z.2.1 md_law_282 rfl (lv_at hl 3 rfl) ?_
    refine lv_aload_n Z.1 Z.2.1 md_law_283 rfl (lv_at hl 1 rfl) ?_
    refine lv_iload_n Z.1 Z.2.1 md_law_284 rfl (lv_at hl 0 rfl) ?_
    refine lv_iconst (v := nI 1) Z.1 Z.2.1 md_law_285 (by decide) ?_
    refine xi_add Z md_law_286 ?_
    refine lx_sld X hw.2.2 (i + 1) rfl (by omega) md_law_287 ?_
    refine lv_aload_n Z.1 Z.2.1 md_law_288 rfl (lv_at hl 1 rfl) ?_
    refine lv_iload_n Z.1 Z.2.1 md_law_289 rfl (lv_at hl 0 rfl) ?_
    refine lv_iconst (v := nI 2) Z.1 Z.2.1 md_law_290 (by decide) ?_
    refine xi_add Z md_law_291 ?_
    refine lx_sld X hw.2.2 (i + 2) rfl (by omega) md_law_292 ?_
    refine lv_if_eq (tgt := 300) Z.1 Z.2.1 md_law_293 (by decide) (fun _ => ?_) (fun h => absurd hz h)
    refine lv_iconst (v := nI 0) Z.1 Z.2.1 md_law_300 (by decide) ?_
    refine lx_2 (np := 2) (rest := [.int r]) X hl.1 hw c2 ⟨hb.2.2.1, hb.2.2.2⟩ (by decide) mc_Mod_halt mk_Law_44 mi_Mod_halt ms_Mod_halt mz_Mod rfl ⟨by decide, by decide, by decide +kernel⟩ rfl rfl (Nat.le_of_ble_eq_true rfl) hcs md_law_301 (fun M2 H locs hp2 hw => ?_)
    refine lv_icmp_eq (tgt := 658) Z.1 Z.2.1 md_law_304 (by decide) (fun _ => ?_) (fun h => absurd rfl h)
    exact kk S1 M1 M2 H locs (p1 _ hp1) (p2 _ hp2) hw
  · obtain ⟨r, S1, Pm1, Pm2, fr1, lo1, fr2, lo2, hb, c1, p1, c2, p2⟩ := lx_halt (l := l) (D := D) (ad1 := ad1) (ad2 := ad2) (cI := cI) (cZ := cZ) (cS := cS) (cA := cA) Q h1 h2 (x := xs (i + 1)) (b := 1) (by decide)
    refine lv_aload_n Z.1 Z.2.1 md_law_260 rfl (lv_at hl 2 rfl) ?_
    refine lv_aload_n Z.1 Z.2.1 md_law_261 rfl (lv_at hl 1 rfl) ?_
    refine lv_iload_n Z.1 Z.2.1 md_law_262 rfl (lv_at hl 0 rfl) ?_
    refine lv_iconst (v := nI 1) Z.1 Z.2.1 md_law_263 (by decide) ?_
    refine xi_add Z md_law_264 ?_
    refine lx_sld X hw.2.2 (i + 1) rfl (by omega) md_law_265 ?_
    refine lv_aload_n Z.1 Z.2.1 md_law_266 rfl (lv_at hl 1 rfl) ?_
    refine lv_iload_n Z.1 Z.2.1 md_law_267 rfl (lv_at hl 0 rfl) ?_
    refine lv_iconst (v := nI 2) Z.1 Z.2.1 md_law_268 (by decide) ?_
    refine xi_add Z md_law_269 ?_
    refine lx_sld X hw.2.2 (i + 2) rfl (by omega) md_law_270 ?_
    refine lv_if_eq (tgt := 278) Z.1 Z.2.1 md_law_271 (by decide) (fun h => absurd h hz) (fun _ => ?_)
    refine lv_iconst (v := nI 1) Z.1 Z.2.1 md_law_274 (by decide) ?_
    refine lv_goto (tgt := 279) Z.1 Z.2.1 md_law_275 (by decide) ?_
    refine lx_1 (np := 2) (rest := []) X hl.1 hw c1 ⟨hb.1, hb.2.1⟩ (by decide) mc_FB_halt mk_Law_40 mi_FB_halt ms_FB_halt mz_FB rfl ⟨by decide, by decide, by decide +kernel⟩ rfl rfl (Nat.le_of_ble_eq_true rfl) hcs md_law_279 (fun M1 H locs hp1 hw => ?_)
    refine lv_aload_n Z.1 Z.2.1 md_law_282 rfl (lv_at hl 3 rfl) ?_
    refine lv_aload_n Z.1 Z.2.1 md_law_283 rfl (lv_at hl 1 rfl) ?_
    refine lv_iload_n Z.1 Z.2.1 md_law_284 rfl (lv_at hl 0 rfl) ?_
    refine lv_iconst (v := nI 1) Z.1 Z.2.1 md_law_285 (by decide) ?_
    refine xi_add Z md_law_286 ?_
    refine lx_sld X hw.2.2 (i + 1) rfl (by omega) md_law_287 ?_
    refine lv_aload_n Z.1 Z.2.1 md_law_288 rfl (lv_at hl 1 rfl) ?_
    refine lv_iload_n Z.1 Z.2.1 md_law_289 rfl (lv_at hl 0 rfl) ?_
    refine lv_iconst (v := nI 2) Z.1 Z.2.1 md_law_290 (by decide) ?_
    refine xi_add Z md_law_291 ?_
    refine lx_sld X hw.2.2 (i + 2) rfl (by omega) md_law_292 ?_
    refine lv_if_eq (tgt := 300) Z.1 Z.2.1 md_law_293 (by decide) (fun h => absurd h hz) (fun _ => ?_)
    refine lv_iconst (v := nI 1) Z.1 Z.2.1 md_law_296 (by decide) ?_
    refine lv_goto (tgt := 301) Z.1 Z.2.1 md_law_297 (by decide) ?_
    refine lx_2 (np := 2) (rest := [.int r]) X hl.1 hw c2 ⟨hb.2.2.1, hb.2.2.2⟩ (by decide) mc_Mod_halt mk_Law_44 mi_Mod_halt ms_Mod_halt mz_Mod rfl ⟨by decide, by decide, by decide +kernel⟩ rfl rfl (Nat.le_of_ble_eq_true rfl) hcs md_law_301 (fun M2 H locs hp2 hw => ?_)
    refine lv_icmp_eq (tgt := 658) Z.1 Z.2.1 md_law_304 (by decide) (fun _ => ?_) (fun h => absurd rfl h)
    exact kk S1 M1 M2 H locs (p1 _ hp1) (p2 _ hp2) hw
set_option maxHeartbeats 1000000 in
theorem lc_waiting {p : Program} {l : Launch} {e : Env} {s : State} {m : MethodId} {below : List Frame} {meth : Method} {c : Code} {H : Heap} {locs : List Loc} {cells slots : Nat} {Qf : State → Prop} {ls : Array Slot} {D : va_G} {b L n q f i : Nat} {xs : Nat → Int32} {ad1 ad2 : Nat × Nat → Nat} {cI cZ cS cA : ClassId} {cd : Cond} {S : pz_T} {M1 M2 : fr_M} (X : lx_X p c s m b L xs D n ad1 ad2 cI cZ cS cA cd) (Q : pz_Q n q f) (h1 : fr_I n q f S M1) (h2 : gm_I n q f S M2) (hw : lx_W s D n ad1 ad2 cI cZ cS cA M1 M2 H locs) (hl : lv_has ls 4 [(3, .int (nI i)), (0, .ref b), (1, .ref (ad1 (0, 0))), (2, .ref (ad2 (0, 0)))]) (hi : i + 4 ≤ L) (hcs : cells ≤ 600000 ∧ slots ≤ 7302249) (kk : ∀ (S1 : pz_T) (M1 M2 : fr_M) (H : Heap) (locs : List Loc), fr_I n q f S1 M1 → gm_I n q f S1 M2 → lx_W s D n ad1 ad2 cI cZ cS cA M1 M2 H locs → W p l e room_1 s m #[Value.ref b] below meth c H locs cells slots Qf (F0 m 658 ls [])) : W p l e room_1 s m #[Value.ref b] below meth c H locs cells slots Qf (F0 m 309 ls []) := by
  have Z := X.1
  obtain ⟨r, S1, Pm1, Pm2, fr1, lo1, fr2, lo2, hb, c1, p1, c2, p2⟩ := lx_waiting (l := l) (D := D) (ad1 := ad1) (ad2 := ad2) (cI := cI) (cZ := cZ) (cS := cS) (cA := cA) Q h1 h2  
  refine lv_aload_n Z.1 Z.2.1 md_law_309 rfl (lv_at hl 2 rfl) ?_
  refine lx_1 (np := 0) (rest := []) X hl.1 hw c1 ⟨hb.1, hb.2.1⟩ (by decide) mc_FB_waiting mk_Law_45 mi_FB_waiting ms_FB_waiting mz_FB rfl ⟨by decide, by decide, by decide +kernel⟩ rfl rfl (Nat.le_of_ble_eq_true rfl) hcs md_law_310 (fun M1 H locs hp1 hw => ?_)
  refine lv_aload_n Z.1 Z.2.1 md_law_313 rfl (lv_at hl 3 rfl) ?_
  refine lx_2 (np := 0) (rest := [.int r]) X hl.1 hw c2 ⟨hb.2.2.1, hb.2.2.2⟩ (by decide) mc_Mod_waiting mk_Law_49 mi_Mod_waiting ms_Mod_waiting mz_Mod rfl ⟨by decide, by decide, by decide +kernel⟩ rfl rfl (Nat.le_of_ble_eq_true rfl) hcs md_law_314 (fun M2 H locs hp2 hw => ?_)
  refine lv_icmp_eq (tgt := 658) Z.1 Z.2.1 md_law_317 (by decide) (fun _ => ?_) (fun h => absurd rfl h)
  exact kk S1 M1 M2 H locs (p1 _ hp1) (p2 _ hp2) hw
set_option maxHeartbeats 1000000 in
theorem lc_lost {p : Program} {l : Launch} {e : Env} {s : State} {m : MethodId} {below : List Frame} {meth : Method} {c : Code} {H : Heap} {locs : List Loc} {cells slots : Nat} {Qf : State → Prop} {ls : Array Slot} {D : va_G} {b L n q f i : Nat} {xs : Nat → Int32} {ad1 ad2 : Nat × Nat → Nat} {cI cZ cS cA : ClassId} {cd : Cond} {S : pz_T} {M1 M2 : fr_M} (X : lx_X p c s m b L xs D n ad1 ad2 cI cZ cS cA cd) (Q : pz_Q n q f) (h1 : fr_I n q f S M1) (h2 : gm_I n q f S M2) (hw : lx_W s D n ad1 ad2 cI cZ cS cA M1 M2 H locs) (hl : lv_has ls 4 [(3, .int (nI i)), (0, .ref b), (1, .ref (ad1 (0, 0))), (2, .ref (ad2 (0, 0)))]) (hi : i + 4 ≤ L) (hcs : cells ≤ 600000 ∧ slots ≤ 7302249) (kk : ∀ (S1 : pz_T) (M1 M2 : fr_M) (H : Heap) (locs : List Loc), fr_I n q f S1 M1 → gm_I n q f S1 M2 → lx_W s D n ad1 ad2 cI cZ cS cA M1 M2 H locs → W p l e room_1 s m #[Value.ref b] below meth c H locs cells slots Qf (F0 m 658 ls [])) : W p l e room_1 s m #[Value.ref b] below meth c H locs cells slots Qf (F0 m 322 ls []) := by
  have Z := X.1
  obtain ⟨r, S1, Pm1, Pm2, fr1, lo1, fr2, lo2, hb, c1, p1, c2, p2⟩ := lx_lost (l := l) (D := D) (ad1 := ad1) (ad2 := ad2) (cI := cI) (cZ := cZ) (cS := cS) (cA := cA) Q h1 h2  
  refine lv_aload_n Z.1 Z.2.1 md_law_322 rfl (lv_at hl 2 rfl) ?_
  refine lx_1 (np := 0) (rest := []) X hl.1 hw c1 ⟨hb.1, hb.2.1⟩ (by decide) mc_FB_lost mk_Law_50 mi_FB_lost ms_FB_lost mz_FB rfl ⟨by decide, by decide, by decide +kernel⟩ rfl rfl (Nat.le_of_ble_eq_true rfl) hcs md_law_323 (fun M1 H locs hp1 hw => ?_)
  refine lv_aload_n Z.1 Z.2.1 md_law_326 rfl (lv_at hl 3 rfl) ?_
  refine lx_2 (np := 0) (rest := [.int r]) X hl.1 hw c2 ⟨hb.2.2.1, hb.2.2.2⟩ (by decide) mc_Mod_lost mk_Law_53 mi_Mod_lost ms_Mod_lost mz_Mod rfl ⟨by decide, by decide, by decide +kernel⟩ rfl rfl (Nat.le_of_ble_eq_true rfl) hcs md_law_327 (fun M2 H locs hp2 hw => ?_)
  refine lv_icmp_eq (tgt := 658) Z.1 Z.2.1 md_law_330 (by decide) (fun _ => ?_) (fun h => absurd rfl h)
  exact kk S1 M1 M2 H locs (p1 _ hp1) (p2 _ hp2) hw
set_option maxHeartbeats 1000000 in
theorem lc_message {p : Program} {l : Launch} {e : Env} {s : State} {m : MethodId} {below : List Frame} {meth : Method} {c : Code} {H : Heap} {locs : List Loc} {cells slots : Nat} {Qf : State → Prop} {ls : Array Slot} {D : va_G} {b L n q f i : Nat} {xs : Nat → Int32} {ad1 ad2 : Nat × Nat → Nat} {cI cZ cS cA : ClassId} {cd : Cond} {S : pz_T} {M1 M2 : fr_M} (X : lx_X p c s m b L xs D n ad1 ad2 cI cZ cS cA cd) (Q : pz_Q n q f) (h1 : fr_I n q f S M1) (h2 : gm_I n q f S M2) (hw : lx_W s D n ad1 ad2 cI cZ cS cA M1 M2 H locs) (hl : lv_has ls 4 [(3, .int (nI i)), (0, .ref b), (1, .ref (ad1 (0, 0))), (2, .ref (ad2 (0, 0)))]) (hi : i + 4 ≤ L) (hcs : cells ≤ 600000 ∧ slots ≤ 7302249) (kk : ∀ (S1 : pz_T) (M1 M2 : fr_M) (H : Heap) (locs : List Loc), fr_I n q f S1 M1 → gm_I n q f S1 M2 → lx_W s D n ad1 ad2 cI cZ cS cA M1 M2 H locs → W p l e room_1 s m #[Value.ref b] below meth c H locs cells slots Qf (F0 m 658 ls [])) : W p l e room_1 s m #[Value.ref b] below meth c H locs cells slots Qf (F0 m 335 ls []) := by
  have Z := X.1
  obtain ⟨r, S1, Pm1, Pm2, fr1, lo1, fr2, lo2, hb, c1, p1, c2, p2⟩ := lx_message (l := l) (D := D) (ad1 := ad1) (ad2 := ad2) (cI := cI) (cZ := cZ) (cS := cS) (cA := cA) Q h1 h2 (x := xs (i + 1)) 
  refine lv_aload_n Z.1 Z.2.1 md_law_335 rfl (lv_at hl 2 rfl) ?_
  refine lv_aload_n Z.1 Z.2.1 md_law_336 rfl (lv_at hl 1 rfl) ?_
  refine lv_iload_n Z.1 Z.2.1 md_law_337 rfl (lv_at hl 0 rfl) ?_
  refine lv_iconst (v := nI 1) Z.1 Z.2.1 md_law_338 (by decide) ?_
  refine xi_add Z md_law_339 ?_
  refine lx_sld X hw.2.2 (i + 1) rfl (by omega) md_law_340 ?_
  refine lx_1 (np := 1) (rest := []) X hl.1 hw c1 ⟨hb.1, hb.2.1⟩ (by decide) mc_FB_message mk_Law_54 mi_FB_message ms_FB_message mz_FB rfl ⟨by decide, by decide, by decide +kernel⟩ rfl rfl (Nat.le_of_ble_eq_true rfl) hcs md_law_341 (fun M1 H locs hp1 hw => ?_)
  refine lv_aload_n Z.1 Z.2.1 md_law_344 rfl (lv_at hl 3 rfl) ?_
  refine lv_aload_n Z.1 Z.2.1 md_law_345 rfl (lv_at hl 1 rfl) ?_
  refine lv_iload_n Z.1 Z.2.1 md_law_346 rfl (lv_at hl 0 rfl) ?_
  refine lv_iconst (v := nI 1) Z.1 Z.2.1 md_law_347 (by decide) ?_
  refine xi_add Z md_law_348 ?_
  refine lx_sld X hw.2.2 (i + 1) rfl (by omega) md_law_349 ?_
  refine lx_2 (np := 1) (rest := [.int r]) X hl.1 hw c2 ⟨hb.2.2.1, hb.2.2.2⟩ (by decide) mc_Mod_message mk_Law_57 mi_Mod_message ms_Mod_message mz_Mod rfl ⟨by decide, by decide, by decide +kernel⟩ rfl rfl (Nat.le_of_ble_eq_true rfl) hcs md_law_350 (fun M2 H locs hp2 hw => ?_)
  refine lv_icmp_eq (tgt := 658) Z.1 Z.2.1 md_law_353 (by decide) (fun _ => ?_) (fun h => absurd rfl h)
  exact kk S1 M1 M2 H locs (p1 _ hp1) (p2 _ hp2) hw
set_option maxHeartbeats 1000000 in
theorem lc_value {p : Program} {l : Launch} {e : Env} {s : State} {m : MethodId} {below : List Frame} {meth : Method} {c : Code} {H : Heap} {locs : List Loc} {cells slots : Nat} {Qf : State → Prop} {ls : Array Slot} {D : va_G} {b L n q f i : Nat} {xs : Nat → Int32} {ad1 ad2 : Nat × Nat → Nat} {cI cZ cS cA : ClassId} {cd : Cond} {S : pz_T} {M1 M2 : fr_M} (X : lx_X p c s m b L xs D n ad1 ad2 cI cZ cS cA cd) (Q : pz_Q n q f) (h1 : fr_I n q f S M1) (h2 : gm_I n q f S M2) (hw : lx_W s D n ad1 ad2 cI cZ cS cA M1 M2 H locs) (hl : lv_has ls 4 [(3, .int (nI i)), (0, .ref b), (1, .ref (ad1 (0, 0))), (2, .ref (ad2 (0, 0)))]) (hi : i + 4 ≤ L) (hcs : cells ≤ 600000 ∧ slots ≤ 7302249) (kk : ∀ (S1 : pz_T) (M1 M2 : fr_M) (H : Heap) (locs : List Loc), fr_I n q f S1 M1 → gm_I n q f S1 M2 → lx_W s D n ad1 ad2 cI cZ cS cA M1 M2 H locs → W p l e room_1 s m #[Value.ref b] below meth c H locs cells slots Qf (F0 m 658 ls [])) : W p l e room_1 s m #[Value.ref b] below meth c H locs cells slots Qf (F0 m 358 ls []) := by
  have Z := X.1
  obtain ⟨r, S1, Pm1, Pm2, fr1, lo1, fr2, lo2, hb, c1, p1, c2, p2⟩ := lx_value (l := l) (D := D) (ad1 := ad1) (ad2 := ad2) (cI := cI) (cZ := cZ) (cS := cS) (cA := cA) Q h1 h2 (x := xs (i + 1)) 
  refine lv_aload_n Z.1 Z.2.1 md_law_358 rfl (lv_at hl 2 rfl) ?_
  refine lv_aload_n Z.1 Z.2.1 md_law_359 rfl (lv_at hl 1 rfl) ?_
  refine lv_iload_n Z.1 Z.2.1 md_law_360 rfl (lv_at hl 0 rfl) ?_
  refine lv_iconst (v := nI 1) Z.1 Z.2.1 md_law_361 (by decide) ?_
  refine xi_add Z md_law_362 ?_
  refine lx_sld X hw.2.2 (i + 1) rfl (by omega) md_law_363 ?_
  refine lx_1 (np := 1) (rest := []) X hl.1 hw c1 ⟨hb.1, hb.2.1⟩ (by decide) mc_FB_value mk_Law_58 mi_FB_value ms_FB_value mz_FB rfl ⟨by decide, by decide, by decide +kernel⟩ rfl rfl (Nat.le_of_ble_eq_true rfl) hcs md_law_364 (fun M1 H locs hp1 hw => ?_)
  refine lv_aload_n Z.1 Z.2.1 md_law_367 rfl (lv_at hl 3 rfl) ?_
  refine lv_aload_n Z.1 Z.2.1 md_law_368 rfl (lv_at hl 1 rfl) ?_
  refine lv_iload_n Z.1 Z.2.1 md_law_369 rfl (lv_at hl 0 rfl) ?_
  refine lv_iconst (v := nI 1) Z.1 Z.2.1 md_law_370 (by decide) ?_
  refine xi_add Z md_law_371 ?_
  refine lx_sld X hw.2.2 (i + 1) rfl (by omega) md_law_372 ?_
  refine lx_2 (np := 1) (rest := [.int r]) X hl.1 hw c2 ⟨hb.2.2.1, hb.2.2.2⟩ (by decide) mc_Mod_value mk_Law_61 mi_Mod_value ms_Mod_value mz_Mod rfl ⟨by decide, by decide, by decide +kernel⟩ rfl rfl (Nat.le_of_ble_eq_true rfl) hcs md_law_373 (fun M2 H locs hp2 hw => ?_)
  refine lv_icmp_eq (tgt := 658) Z.1 Z.2.1 md_law_376 (by decide) (fun _ => ?_) (fun h => absurd rfl h)
  exact kk S1 M1 M2 H locs (p1 _ hp1) (p2 _ hp2) hw
set_option maxHeartbeats 1000000 in
theorem lc_round {p : Program} {l : Launch} {e : Env} {s : State} {m : MethodId} {below : List Frame} {meth : Method} {c : Code} {H : Heap} {locs : List Loc} {cells slots : Nat} {Qf : State → Prop} {ls : Array Slot} {D : va_G} {b L n q f i : Nat} {xs : Nat → Int32} {ad1 ad2 : Nat × Nat → Nat} {cI cZ cS cA : ClassId} {cd : Cond} {S : pz_T} {M1 M2 : fr_M} (X : lx_X p c s m b L xs D n ad1 ad2 cI cZ cS cA cd) (Q : pz_Q n q f) (h1 : fr_I n q f S M1) (h2 : gm_I n q f S M2) (hw : lx_W s D n ad1 ad2 cI cZ cS cA M1 M2 H locs) (hl : lv_has ls 4 [(3, .int (nI i)), (0, .ref b), (1, .ref (ad1 (0, 0))), (2, .ref (ad2 (0, 0)))]) (hi : i + 4 ≤ L) (hcs : cells ≤ 600000 ∧ slots ≤ 7302249) (kk : ∀ (S1 : pz_T) (M1 M2 : fr_M) (H : Heap) (locs : List Loc), fr_I n q f S1 M1 → gm_I n q f S1 M2 → lx_W s D n ad1 ad2 cI cZ cS cA M1 M2 H locs → W p l e room_1 s m #[Value.ref b] below meth c H locs cells slots Qf (F0 m 658 ls [])) : W p l e room_1 s m #[Value.ref b] below meth c H locs cells slots Qf (F0 m 381 ls []) := by
  have Z := X.1
  obtain ⟨r, S1, Pm1, Pm2, fr1, lo1, fr2, lo2, hb, c1, p1, c2, p2⟩ := lx_round (l := l) (D := D) (ad1 := ad1) (ad2 := ad2) (cI := cI) (cZ := cZ) (cS := cS) (cA := cA) Q h1 h2 (x := xs (i + 1)) (y := xs (i + 2)) 
  refine lv_aload_n Z.1 Z.2.1 md_law_381 rfl (lv_at hl 2 rfl) ?_
  refine lv_aload_n Z.1 Z.2.1 md_law_382 rfl (lv_at hl 1 rfl) ?_
  refine lv_iload_n Z.1 Z.2.1 md_law_383 rfl (lv_at hl 0 rfl) ?_
  refine lv_iconst (v := nI 1) Z.1 Z.2.1 md_law_384 (by decide) ?_
  refine xi_add Z md_law_385 ?_
  refine lx_sld X hw.2.2 (i + 1) rfl (by omega) md_law_386 ?_
  refine lv_aload_n Z.1 Z.2.1 md_law_387 rfl (lv_at hl 1 rfl) ?_
  refine lv_iload_n Z.1 Z.2.1 md_law_388 rfl (lv_at hl 0 rfl) ?_
  refine lv_iconst (v := nI 2) Z.1 Z.2.1 md_law_389 (by decide) ?_
  refine xi_add Z md_law_390 ?_
  refine lx_sld X hw.2.2 (i + 2) rfl (by omega) md_law_391 ?_
  refine lx_1 (np := 2) (rest := []) X hl.1 hw c1 ⟨hb.1, hb.2.1⟩ (by decide) mc_FB_round mk_Law_62 mi_FB_round ms_FB_round mz_FB rfl ⟨by decide, by decide, by decide +kernel⟩ rfl rfl (Nat.le_of_ble_eq_true rfl) hcs md_law_392 (fun M1 H locs hp1 hw => ?_)
  refine lv_aload_n Z.1 Z.2.1 md_law_395 rfl (lv_at hl 3 rfl) ?_
  refine lv_aload_n Z.1 Z.2.1 md_law_396 rfl (lv_at hl 1 rfl) ?_
  refine lv_iload_n Z.1 Z.2.1 md_law_397 rfl (lv_at hl 0 rfl) ?_
  refine lv_iconst (v := nI 1) Z.1 Z.2.1 md_law_398 (by decide) ?_
  refine xi_add Z md_law_399 ?_
  refine lx_sld X hw.2.2 (i + 1) rfl (by omega) md_law_400 ?_
  refine lv_aload_n Z.1 Z.2.1 md_law_401 rfl (lv_at hl 1 rfl) ?_
  refine lv_iload_n Z.1 Z.2.1 md_law_402 rfl (lv_at hl 0 rfl) ?_
  refine lv_iconst (v := nI 2) Z.1 Z.2.1 md_law_403 (by decide) ?_
  refine xi_add Z md_law_404 ?_
  refine lx_sld X hw.2.2 (i + 2) rfl (by omega) md_law_405 ?_
  refine lx_2 (np := 2) (rest := [.int r]) X hl.1 hw c2 ⟨hb.2.2.1, hb.2.2.2⟩ (by decide) mc_Mod_round mk_Law_65 mi_Mod_round ms_Mod_round mz_Mod rfl ⟨by decide, by decide, by decide +kernel⟩ rfl rfl (Nat.le_of_ble_eq_true rfl) hcs md_law_406 (fun M2 H locs hp2 hw => ?_)
  refine lv_icmp_eq (tgt := 658) Z.1 Z.2.1 md_law_409 (by decide) (fun _ => ?_) (fun h => absurd rfl h)
  exact kk S1 M1 M2 H locs (p1 _ hp1) (p2 _ hp2) hw
set_option maxHeartbeats 1000000 in
theorem lc_vote {p : Program} {l : Launch} {e : Env} {s : State} {m : MethodId} {below : List Frame} {meth : Method} {c : Code} {H : Heap} {locs : List Loc} {cells slots : Nat} {Qf : State → Prop} {ls : Array Slot} {D : va_G} {b L n q f i : Nat} {xs : Nat → Int32} {ad1 ad2 : Nat × Nat → Nat} {cI cZ cS cA : ClassId} {cd : Cond} {S : pz_T} {M1 M2 : fr_M} (X : lx_X p c s m b L xs D n ad1 ad2 cI cZ cS cA cd) (Q : pz_Q n q f) (h1 : fr_I n q f S M1) (h2 : gm_I n q f S M2) (hw : lx_W s D n ad1 ad2 cI cZ cS cA M1 M2 H locs) (hl : lv_has ls 4 [(3, .int (nI i)), (0, .ref b), (1, .ref (ad1 (0, 0))), (2, .ref (ad2 (0, 0)))]) (hi : i + 4 ≤ L) (hcs : cells ≤ 600000 ∧ slots ≤ 7302249) (kk : ∀ (S1 : pz_T) (M1 M2 : fr_M) (H : Heap) (locs : List Loc), fr_I n q f S1 M1 → gm_I n q f S1 M2 → lx_W s D n ad1 ad2 cI cZ cS cA M1 M2 H locs → W p l e room_1 s m #[Value.ref b] below meth c H locs cells slots Qf (F0 m 658 ls [])) : W p l e room_1 s m #[Value.ref b] below meth c H locs cells slots Qf (F0 m 414 ls []) := by
  have Z := X.1
  obtain ⟨r, S1, Pm1, Pm2, fr1, lo1, fr2, lo2, hb, c1, p1, c2, p2⟩ := lx_vote (l := l) (D := D) (ad1 := ad1) (ad2 := ad2) (cI := cI) (cZ := cZ) (cS := cS) (cA := cA) Q h1 h2 (x := xs (i + 1)) (y := xs (i + 2)) 
  refine lv_aload_n Z.1 Z.2.1 md_law_414 rfl (lv_at hl 2 rfl) ?_
  refine lv_aload_n Z.1 Z.2.1 md_law_415 rfl (lv_at hl 1 rfl) ?_
  refine lv_iload_n Z.1 Z.2.1 md_law_416 rfl (lv_at hl 0 rfl) ?_
  refine lv_iconst (v := nI 1) Z.1 Z.2.1 md_law_417 (by decide) ?_
  refine xi_add Z md_law_418 ?_
  refine lx_sld X hw.2.2 (i + 1) rfl (by omega) md_law_419 ?_
  refine lv_aload_n Z.1 Z.2.1 md_law_420 rfl (lv_at hl 1 rfl) ?_
  refine lv_iload_n Z.1 Z.2.1 md_law_421 rfl (lv_at hl 0 rfl) ?_
  refine lv_iconst (v := nI 2) Z.1 Z.2.1 md_law_422 (by decide) ?_
  refine xi_add Z md_law_423 ?_
  refine lx_sld X hw.2.2 (i + 2) rfl (by omega) md_law_424 ?_
  refine lx_1 (np := 2) (rest := []) X hl.1 hw c1 ⟨hb.1, hb.2.1⟩ (by decide) mc_FB_vote mk_Law_66 mi_FB_vote ms_FB_vote mz_FB rfl ⟨by decide, by decide, by decide +kernel⟩ rfl rfl (Nat.le_of_ble_eq_true rfl) hcs md_law_425 (fun M1 H locs hp1 hw => ?_)
  refine lv_aload_n Z.1 Z.2.1 md_law_428 rfl (lv_at hl 3 rfl) ?_
  refine lv_aload_n Z.1 Z.2.1 md_law_429 rfl (lv_at hl 1 rfl) ?_
  refine lv_iload_n Z.1 Z.2.1 md_law_430 rfl (lv_at hl 0 rfl) ?_
  refine lv_iconst (v := nI 1) Z.1 Z.2.1 md_law_431 (by decide) ?_
  refine xi_add Z md_law_432 ?_
  refine lx_sld X hw.2.2 (i + 1) rfl (by omega) md_law_433 ?_
  refine lv_aload_n Z.1 Z.2.1 md_law_434 rfl (lv_at hl 1 rfl) ?_
  refine lv_iload_n Z.1 Z.2.1 md_law_435 rfl (lv_at hl 0 rfl) ?_
  refine lv_iconst (v := nI 2) Z.1 Z.2.1 md_law_436 (by decide) ?_
  refine xi_add Z md_law_437 ?_
  refine lx_sld X hw.2.2 (i + 2) rfl (by omega) md_law_438 ?_
  refine lx_2 (np := 2) (rest := [.int r]) X hl.1 hw c2 ⟨hb.2.2.1, hb.2.2.2⟩ (by decide) mc_Mod_vote mk_Law_69 mi_Mod_vote ms_Mod_vote mz_Mod rfl ⟨by decide, by decide, by decide +kernel⟩ rfl rfl (Nat.le_of_ble_eq_true rfl) hcs md_law_439 (fun M2 H locs hp2 hw => ?_)
  refine lv_icmp_eq (tgt := 658) Z.1 Z.2.1 md_law_442 (by decide) (fun _ => ?_) (fun h => absurd rfl h)
  exact kk S1 M1 M2 H locs (p1 _ hp1) (p2 _ hp2) hw
set_option maxHeartbeats 1000000 in
theorem lc_voteRound {p : Program} {l : Launch} {e : Env} {s : State} {m : MethodId} {below : List Frame} {meth : Method} {c : Code} {H : Heap} {locs : List Loc} {cells slots : Nat} {Qf : State → Prop} {ls : Array Slot} {D : va_G} {b L n q f i : Nat} {xs : Nat → Int32} {ad1 ad2 : Nat × Nat → Nat} {cI cZ cS cA : ClassId} {cd : Cond} {S : pz_T} {M1 M2 : fr_M} (X : lx_X p c s m b L xs D n ad1 ad2 cI cZ cS cA cd) (Q : pz_Q n q f) (h1 : fr_I n q f S M1) (h2 : gm_I n q f S M2) (hw : lx_W s D n ad1 ad2 cI cZ cS cA M1 M2 H locs) (hl : lv_has ls 4 [(3, .int (nI i)), (0, .ref b), (1, .ref (ad1 (0, 0))), (2, .ref (ad2 (0, 0)))]) (hi : i + 4 ≤ L) (hcs : cells ≤ 600000 ∧ slots ≤ 7302249) (kk : ∀ (S1 : pz_T) (M1 M2 : fr_M) (H : Heap) (locs : List Loc), fr_I n q f S1 M1 → gm_I n q f S1 M2 → lx_W s D n ad1 ad2 cI cZ cS cA M1 M2 H locs → W p l e room_1 s m #[Value.ref b] below meth c H locs cells slots Qf (F0 m 658 ls [])) : W p l e room_1 s m #[Value.ref b] below meth c H locs cells slots Qf (F0 m 447 ls []) := by
  have Z := X.1
  obtain ⟨r, S1, Pm1, Pm2, fr1, lo1, fr2, lo2, hb, c1, p1, c2, p2⟩ := lx_voteRound (l := l) (D := D) (ad1 := ad1) (ad2 := ad2) (cI := cI) (cZ := cZ) (cS := cS) (cA := cA) Q h1 h2 (x := xs (i + 1)) (y := xs (i + 2)) 
  refine lv_aload_n Z.1 Z.2.1 md_law_447 rfl (lv_at hl 2 rfl) ?_
  refine lv_aload_n Z.1 Z.2.1 md_law_448 rfl (lv_at hl 1 rfl) ?_
  refine lv_iload_n Z.1 Z.2.1 md_law_449 rfl (lv_at hl 0 rfl) ?_
  refine lv_iconst (v := nI 1) Z.1 Z.2.1 md_law_450 (by decide) ?_
  refine xi_add Z md_law_451 ?_
  refine lx_sld X hw.2.2 (i + 1) rfl (by omega) md_law_452 ?_
  refine lv_aload_n Z.1 Z.2.1 md_law_453 rfl (lv_at hl 1 rfl) ?_
  refine lv_iload_n Z.1 Z.2.1 md_law_454 rfl (lv_at hl 0 rfl) ?_
  refine lv_iconst (v := nI 2) Z.1 Z.2.1 md_law_455 (by decide) ?_
  refine xi_add Z md_law_456 ?_
  refine lx_sld X hw.2.2 (i + 2) rfl (by omega) md_law_457 ?_
  refine lx_1 (np := 2) (rest := []) X hl.1 hw c1 ⟨hb.1, hb.2.1⟩ (by decide) mc_FB_voteRound mk_Law_70 mi_FB_voteRound ms_FB_voteRound mz_FB rfl ⟨by decide, by decide, by decide +kernel⟩ rfl rfl (Nat.le_of_ble_eq_true rfl) hcs md_law_458 (fun M1 H locs hp1 hw => ?_)
  refine lv_aload_n Z.1 Z.2.1 md_law_461 rfl (lv_at hl 3 rfl) ?_
  refine lv_aload_n Z.1 Z.2.1 md_law_462 rfl (lv_at hl 1 rfl) ?_
  refine lv_iload_n Z.1 Z.2.1 md_law_463 rfl (lv_at hl 0 rfl) ?_
  refine lv_iconst (v := nI 1) Z.1 Z.2.1 md_law_464 (by decide) ?_
  refine xi_add Z md_law_465 ?_
  refine lx_sld X hw.2.2 (i + 1) rfl (by omega) md_law_466 ?_
  refine lv_aload_n Z.1 Z.2.1 md_law_467 rfl (lv_at hl 1 rfl) ?_
  refine lv_iload_n Z.1 Z.2.1 md_law_468 rfl (lv_at hl 0 rfl) ?_
  refine lv_iconst (v := nI 2) Z.1 Z.2.1 md_law_469 (by decide) ?_
  refine xi_add Z md_law_470 ?_
  refine lx_sld X hw.2.2 (i + 2) rfl (by omega) md_law_471 ?_
  refine lx_2 (np := 2) (rest := [.int r]) X hl.1 hw c2 ⟨hb.2.2.1, hb.2.2.2⟩ (by decide) mc_Mod_voteRound mk_Law_73 mi_Mod_voteRound ms_Mod_voteRound mz_Mod rfl ⟨by decide, by decide, by decide +kernel⟩ rfl rfl (Nat.le_of_ble_eq_true rfl) hcs md_law_472 (fun M2 H locs hp2 hw => ?_)
  refine lv_icmp_eq (tgt := 658) Z.1 Z.2.1 md_law_475 (by decide) (fun _ => ?_) (fun h => absurd rfl h)
  exact kk S1 M1 M2 H locs (p1 _ hp1) (p2 _ hp2) hw
set_option maxHeartbeats 1000000 in
theorem lc_leads {p : Program} {l : Launch} {e : Env} {s : State} {m : MethodId} {below : List Frame} {meth : Method} {c : Code} {H : Heap} {locs : List Loc} {cells slots : Nat} {Qf : State → Prop} {ls : Array Slot} {D : va_G} {b L n q f i : Nat} {xs : Nat → Int32} {ad1 ad2 : Nat × Nat → Nat} {cI cZ cS cA : ClassId} {cd : Cond} {S : pz_T} {M1 M2 : fr_M} (X : lx_X p c s m b L xs D n ad1 ad2 cI cZ cS cA cd) (Q : pz_Q n q f) (h1 : fr_I n q f S M1) (h2 : gm_I n q f S M2) (hw : lx_W s D n ad1 ad2 cI cZ cS cA M1 M2 H locs) (hl : lv_has ls 4 [(3, .int (nI i)), (0, .ref b), (1, .ref (ad1 (0, 0))), (2, .ref (ad2 (0, 0)))]) (hi : i + 4 ≤ L) (hcs : cells ≤ 600000 ∧ slots ≤ 7302249) (kk : ∀ (S1 : pz_T) (M1 M2 : fr_M) (H : Heap) (locs : List Loc), fr_I n q f S1 M1 → gm_I n q f S1 M2 → lx_W s D n ad1 ad2 cI cZ cS cA M1 M2 H locs → W p l e room_1 s m #[Value.ref b] below meth c H locs cells slots Qf (F0 m 658 ls [])) : W p l e room_1 s m #[Value.ref b] below meth c H locs cells slots Qf (F0 m 480 ls []) := by
  have Z := X.1
  obtain ⟨r, S1, Pm1, Pm2, fr1, lo1, fr2, lo2, hb, c1, p1, c2, p2⟩ := lx_leads (l := l) (D := D) (ad1 := ad1) (ad2 := ad2) (cI := cI) (cZ := cZ) (cS := cS) (cA := cA) Q h1 h2 (x := xs (i + 1)) (y := xs (i + 2)) 
  refine lv_aload_n Z.1 Z.2.1 md_law_480 rfl (lv_at hl 2 rfl) ?_
  refine lv_aload_n Z.1 Z.2.1 md_law_481 rfl (lv_at hl 1 rfl) ?_
  refine lv_iload_n Z.1 Z.2.1 md_law_482 rfl (lv_at hl 0 rfl) ?_
  refine lv_iconst (v := nI 1) Z.1 Z.2.1 md_law_483 (by decide) ?_
  refine xi_add Z md_law_484 ?_
  refine lx_sld X hw.2.2 (i + 1) rfl (by omega) md_law_485 ?_
  refine lv_aload_n Z.1 Z.2.1 md_law_486 rfl (lv_at hl 1 rfl) ?_
  refine lv_iload_n Z.1 Z.2.1 md_law_487 rfl (lv_at hl 0 rfl) ?_
  refine lv_iconst (v := nI 2) Z.1 Z.2.1 md_law_488 (by decide) ?_
  refine xi_add Z md_law_489 ?_
  refine lx_sld X hw.2.2 (i + 2) rfl (by omega) md_law_490 ?_
  refine lx_1 (np := 2) (rest := []) X hl.1 hw c1 ⟨hb.1, hb.2.1⟩ (by decide) mc_FB_leads mk_Law_74 mi_FB_leads ms_FB_leads mz_FB rfl ⟨by decide, by decide, by decide +kernel⟩ rfl rfl (Nat.le_of_ble_eq_true rfl) hcs md_law_491 (fun M1 H locs hp1 hw => ?_)
  refine lv_aload_n Z.1 Z.2.1 md_law_494 rfl (lv_at hl 3 rfl) ?_
  refine lv_aload_n Z.1 Z.2.1 md_law_495 rfl (lv_at hl 1 rfl) ?_
  refine lv_iload_n Z.1 Z.2.1 md_law_496 rfl (lv_at hl 0 rfl) ?_
  refine lv_iconst (v := nI 1) Z.1 Z.2.1 md_law_497 (by decide) ?_
  refine xi_add Z md_law_498 ?_
  refine lx_sld X hw.2.2 (i + 1) rfl (by omega) md_law_499 ?_
  refine lv_aload_n Z.1 Z.2.1 md_law_500 rfl (lv_at hl 1 rfl) ?_
  refine lv_iload_n Z.1 Z.2.1 md_law_501 rfl (lv_at hl 0 rfl) ?_
  refine lv_iconst (v := nI 2) Z.1 Z.2.1 md_law_502 (by decide) ?_
  refine xi_add Z md_law_503 ?_
  refine lx_sld X hw.2.2 (i + 2) rfl (by omega) md_law_504 ?_
  refine lx_2 (np := 2) (rest := [.int r]) X hl.1 hw c2 ⟨hb.2.2.1, hb.2.2.2⟩ (by decide) mc_Mod_leads mk_Law_77 mi_Mod_leads ms_Mod_leads mz_Mod rfl ⟨by decide, by decide, by decide +kernel⟩ rfl rfl (Nat.le_of_ble_eq_true rfl) hcs md_law_505 (fun M2 H locs hp2 hw => ?_)
  refine lv_icmp_eq (tgt := 658) Z.1 Z.2.1 md_law_508 (by decide) (fun _ => ?_) (fun h => absurd rfl h)
  exact kk S1 M1 M2 H locs (p1 _ hp1) (p2 _ hp2) hw
set_option maxHeartbeats 1000000 in
theorem lc_phase {p : Program} {l : Launch} {e : Env} {s : State} {m : MethodId} {below : List Frame} {meth : Method} {c : Code} {H : Heap} {locs : List Loc} {cells slots : Nat} {Qf : State → Prop} {ls : Array Slot} {D : va_G} {b L n q f i : Nat} {xs : Nat → Int32} {ad1 ad2 : Nat × Nat → Nat} {cI cZ cS cA : ClassId} {cd : Cond} {S : pz_T} {M1 M2 : fr_M} (X : lx_X p c s m b L xs D n ad1 ad2 cI cZ cS cA cd) (Q : pz_Q n q f) (h1 : fr_I n q f S M1) (h2 : gm_I n q f S M2) (hw : lx_W s D n ad1 ad2 cI cZ cS cA M1 M2 H locs) (hl : lv_has ls 4 [(3, .int (nI i)), (0, .ref b), (1, .ref (ad1 (0, 0))), (2, .ref (ad2 (0, 0)))]) (hi : i + 4 ≤ L) (hcs : cells ≤ 600000 ∧ slots ≤ 7302249) (kk : ∀ (S1 : pz_T) (M1 M2 : fr_M) (H : Heap) (locs : List Loc), fr_I n q f S1 M1 → gm_I n q f S1 M2 → lx_W s D n ad1 ad2 cI cZ cS cA M1 M2 H locs → W p l e room_1 s m #[Value.ref b] below meth c H locs cells slots Qf (F0 m 658 ls [])) : W p l e room_1 s m #[Value.ref b] below meth c H locs cells slots Qf (F0 m 513 ls []) := by
  have Z := X.1
  obtain ⟨r, S1, Pm1, Pm2, fr1, lo1, fr2, lo2, hb, c1, p1, c2, p2⟩ := lx_phase (l := l) (D := D) (ad1 := ad1) (ad2 := ad2) (cI := cI) (cZ := cZ) (cS := cS) (cA := cA) Q h1 h2 (x := xs (i + 1)) (y := xs (i + 2)) 
  refine lv_aload_n Z.1 Z.2.1 md_law_513 rfl (lv_at hl 2 rfl) ?_
  refine lv_aload_n Z.1 Z.2.1 md_law_514 rfl (lv_at hl 1 rfl) ?_
  refine lv_iload_n Z.1 Z.2.1 md_law_515 rfl (lv_at hl 0 rfl) ?_
  refine lv_iconst (v := nI 1) Z.1 Z.2.1 md_law_516 (by decide) ?_
  refine xi_add Z md_law_517 ?_
  refine lx_sld X hw.2.2 (i + 1) rfl (by omega) md_law_518 ?_
  refine lv_aload_n Z.1 Z.2.1 md_law_519 rfl (lv_at hl 1 rfl) ?_
  refine lv_iload_n Z.1 Z.2.1 md_law_520 rfl (lv_at hl 0 rfl) ?_
  refine lv_iconst (v := nI 2) Z.1 Z.2.1 md_law_521 (by decide) ?_
  refine xi_add Z md_law_522 ?_
  refine lx_sld X hw.2.2 (i + 2) rfl (by omega) md_law_523 ?_
  refine lx_1 (np := 2) (rest := []) X hl.1 hw c1 ⟨hb.1, hb.2.1⟩ (by decide) mc_FB_phase mk_Law_78 mi_FB_phase ms_FB_phase mz_FB rfl ⟨by decide, by decide, by decide +kernel⟩ rfl rfl (Nat.le_of_ble_eq_true rfl) hcs md_law_524 (fun M1 H locs hp1 hw => ?_)
  refine lv_aload_n Z.1 Z.2.1 md_law_527 rfl (lv_at hl 3 rfl) ?_
  refine lv_aload_n Z.1 Z.2.1 md_law_528 rfl (lv_at hl 1 rfl) ?_
  refine lv_iload_n Z.1 Z.2.1 md_law_529 rfl (lv_at hl 0 rfl) ?_
  refine lv_iconst (v := nI 1) Z.1 Z.2.1 md_law_530 (by decide) ?_
  refine xi_add Z md_law_531 ?_
  refine lx_sld X hw.2.2 (i + 1) rfl (by omega) md_law_532 ?_
  refine lv_aload_n Z.1 Z.2.1 md_law_533 rfl (lv_at hl 1 rfl) ?_
  refine lv_iload_n Z.1 Z.2.1 md_law_534 rfl (lv_at hl 0 rfl) ?_
  refine lv_iconst (v := nI 2) Z.1 Z.2.1 md_law_535 (by decide) ?_
  refine xi_add Z md_law_536 ?_
  refine lx_sld X hw.2.2 (i + 2) rfl (by omega) md_law_537 ?_
  refine lx_2 (np := 2) (rest := [.int r]) X hl.1 hw c2 ⟨hb.2.2.1, hb.2.2.2⟩ (by decide) mc_Mod_phase mk_Law_81 mi_Mod_phase ms_Mod_phase mz_Mod rfl ⟨by decide, by decide, by decide +kernel⟩ rfl rfl (Nat.le_of_ble_eq_true rfl) hcs md_law_538 (fun M2 H locs hp2 hw => ?_)
  refine lv_icmp_eq (tgt := 658) Z.1 Z.2.1 md_law_541 (by decide) (fun _ => ?_) (fun h => absurd rfl h)
  exact kk S1 M1 M2 H locs (p1 _ hp1) (p2 _ hp2) hw
set_option maxHeartbeats 1000000 in
theorem lc_learned {p : Program} {l : Launch} {e : Env} {s : State} {m : MethodId} {below : List Frame} {meth : Method} {c : Code} {H : Heap} {locs : List Loc} {cells slots : Nat} {Qf : State → Prop} {ls : Array Slot} {D : va_G} {b L n q f i : Nat} {xs : Nat → Int32} {ad1 ad2 : Nat × Nat → Nat} {cI cZ cS cA : ClassId} {cd : Cond} {S : pz_T} {M1 M2 : fr_M} (X : lx_X p c s m b L xs D n ad1 ad2 cI cZ cS cA cd) (Q : pz_Q n q f) (h1 : fr_I n q f S M1) (h2 : gm_I n q f S M2) (hw : lx_W s D n ad1 ad2 cI cZ cS cA M1 M2 H locs) (hl : lv_has ls 4 [(3, .int (nI i)), (0, .ref b), (1, .ref (ad1 (0, 0))), (2, .ref (ad2 (0, 0)))]) (hi : i + 4 ≤ L) (hcs : cells ≤ 600000 ∧ slots ≤ 7302249) (kk : ∀ (S1 : pz_T) (M1 M2 : fr_M) (H : Heap) (locs : List Loc), fr_I n q f S1 M1 → gm_I n q f S1 M2 → lx_W s D n ad1 ad2 cI cZ cS cA M1 M2 H locs → W p l e room_1 s m #[Value.ref b] below meth c H locs cells slots Qf (F0 m 658 ls [])) : W p l e room_1 s m #[Value.ref b] below meth c H locs cells slots Qf (F0 m 546 ls []) := by
  have Z := X.1
  obtain ⟨r, S1, Pm1, Pm2, fr1, lo1, fr2, lo2, hb, c1, p1, c2, p2⟩ := lx_learned (l := l) (D := D) (ad1 := ad1) (ad2 := ad2) (cI := cI) (cZ := cZ) (cS := cS) (cA := cA) Q h1 h2 (x := xs (i + 1)) 
  refine lv_aload_n Z.1 Z.2.1 md_law_546 rfl (lv_at hl 2 rfl) ?_
  refine lv_aload_n Z.1 Z.2.1 md_law_547 rfl (lv_at hl 1 rfl) ?_
  refine lv_iload_n Z.1 Z.2.1 md_law_548 rfl (lv_at hl 0 rfl) ?_
  refine lv_iconst (v := nI 1) Z.1 Z.2.1 md_law_549 (by decide) ?_
  refine xi_add Z md_law_550 ?_
  refine lx_sld X hw.2.2 (i + 1) rfl (by omega) md_law_551 ?_
  refine lx_1 (np := 1) (rest := []) X hl.1 hw c1 ⟨hb.1, hb.2.1⟩ (by decide) mc_FB_learned mk_Law_82 mi_FB_learned ms_FB_learned mz_FB rfl ⟨by decide, by decide, by decide +kernel⟩ rfl rfl (Nat.le_of_ble_eq_true rfl) hcs md_law_552 (fun M1 H locs hp1 hw => ?_)
  refine lv_aload_n Z.1 Z.2.1 md_law_555 rfl (lv_at hl 3 rfl) ?_
  refine lv_aload_n Z.1 Z.2.1 md_law_556 rfl (lv_at hl 1 rfl) ?_
  refine lv_iload_n Z.1 Z.2.1 md_law_557 rfl (lv_at hl 0 rfl) ?_
  refine lv_iconst (v := nI 1) Z.1 Z.2.1 md_law_558 (by decide) ?_
  refine xi_add Z md_law_559 ?_
  refine lx_sld X hw.2.2 (i + 1) rfl (by omega) md_law_560 ?_
  refine lx_2 (np := 1) (rest := [.int r]) X hl.1 hw c2 ⟨hb.2.2.1, hb.2.2.2⟩ (by decide) mc_Mod_learned mk_Law_85 mi_Mod_learned ms_Mod_learned mz_Mod rfl ⟨by decide, by decide, by decide +kernel⟩ rfl rfl (Nat.le_of_ble_eq_true rfl) hcs md_law_561 (fun M2 H locs hp2 hw => ?_)
  refine lv_icmp_eq (tgt := 658) Z.1 Z.2.1 md_law_564 (by decide) (fun _ => ?_) (fun h => absurd rfl h)
  exact kk S1 M1 M2 H locs (p1 _ hp1) (p2 _ hp2) hw
set_option maxHeartbeats 1000000 in
theorem lc_chosen {p : Program} {l : Launch} {e : Env} {s : State} {m : MethodId} {below : List Frame} {meth : Method} {c : Code} {H : Heap} {locs : List Loc} {cells slots : Nat} {Qf : State → Prop} {ls : Array Slot} {D : va_G} {b L n q f i : Nat} {xs : Nat → Int32} {ad1 ad2 : Nat × Nat → Nat} {cI cZ cS cA : ClassId} {cd : Cond} {S : pz_T} {M1 M2 : fr_M} (X : lx_X p c s m b L xs D n ad1 ad2 cI cZ cS cA cd) (Q : pz_Q n q f) (h1 : fr_I n q f S M1) (h2 : gm_I n q f S M2) (hw : lx_W s D n ad1 ad2 cI cZ cS cA M1 M2 H locs) (hl : lv_has ls 4 [(3, .int (nI i)), (0, .ref b), (1, .ref (ad1 (0, 0))), (2, .ref (ad2 (0, 0)))]) (hi : i + 4 ≤ L) (hcs : cells ≤ 600000 ∧ slots ≤ 7302249) (kk : ∀ (S1 : pz_T) (M1 M2 : fr_M) (H : Heap) (locs : List Loc), fr_I n q f S1 M1 → gm_I n q f S1 M2 → lx_W s D n ad1 ad2 cI cZ cS cA M1 M2 H locs → W p l e room_1 s m #[Value.ref b] below meth c H locs cells slots Qf (F0 m 658 ls [])) : W p l e room_1 s m #[Value.ref b] below meth c H locs cells slots Qf (F0 m 569 ls []) := by
  have Z := X.1
  obtain ⟨r, S1, Pm1, Pm2, fr1, lo1, fr2, lo2, hb, c1, p1, c2, p2⟩ := lx_chosen (l := l) (D := D) (ad1 := ad1) (ad2 := ad2) (cI := cI) (cZ := cZ) (cS := cS) (cA := cA) Q h1 h2 (x := xs (i + 1)) 
  refine lv_aload_n Z.1 Z.2.1 md_law_569 rfl (lv_at hl 2 rfl) ?_
  refine lv_aload_n Z.1 Z.2.1 md_law_570 rfl (lv_at hl 1 rfl) ?_
  refine lv_iload_n Z.1 Z.2.1 md_law_571 rfl (lv_at hl 0 rfl) ?_
  refine lv_iconst (v := nI 1) Z.1 Z.2.1 md_law_572 (by decide) ?_
  refine xi_add Z md_law_573 ?_
  refine lx_sld X hw.2.2 (i + 1) rfl (by omega) md_law_574 ?_
  refine lx_1 (np := 1) (rest := []) X hl.1 hw c1 ⟨hb.1, hb.2.1⟩ (by decide) mc_FB_chosen mk_Law_86 mi_FB_chosen ms_FB_chosen mz_FB rfl ⟨by decide, by decide, by decide +kernel⟩ rfl rfl (Nat.le_of_ble_eq_true rfl) hcs md_law_575 (fun M1 H locs hp1 hw => ?_)
  refine lv_aload_n Z.1 Z.2.1 md_law_578 rfl (lv_at hl 3 rfl) ?_
  refine lv_aload_n Z.1 Z.2.1 md_law_579 rfl (lv_at hl 1 rfl) ?_
  refine lv_iload_n Z.1 Z.2.1 md_law_580 rfl (lv_at hl 0 rfl) ?_
  refine lv_iconst (v := nI 1) Z.1 Z.2.1 md_law_581 (by decide) ?_
  refine xi_add Z md_law_582 ?_
  refine lx_sld X hw.2.2 (i + 1) rfl (by omega) md_law_583 ?_
  refine lx_2 (np := 1) (rest := [.int r]) X hl.1 hw c2 ⟨hb.2.2.1, hb.2.2.2⟩ (by decide) mc_Mod_chosen mk_Law_89 mi_Mod_chosen ms_Mod_chosen mz_Mod rfl ⟨by decide, by decide, by decide +kernel⟩ rfl rfl (Nat.le_of_ble_eq_true rfl) hcs md_law_584 (fun M2 H locs hp2 hw => ?_)
  refine lv_icmp_eq (tgt := 658) Z.1 Z.2.1 md_law_587 (by decide) (fun _ => ?_) (fun h => absurd rfl h)
  exact kk S1 M1 M2 H locs (p1 _ hp1) (p2 _ hp2) hw
set_option maxHeartbeats 1000000 in
theorem lc_votes {p : Program} {l : Launch} {e : Env} {s : State} {m : MethodId} {below : List Frame} {meth : Method} {c : Code} {H : Heap} {locs : List Loc} {cells slots : Nat} {Qf : State → Prop} {ls : Array Slot} {D : va_G} {b L n q f i : Nat} {xs : Nat → Int32} {ad1 ad2 : Nat × Nat → Nat} {cI cZ cS cA : ClassId} {cd : Cond} {S : pz_T} {M1 M2 : fr_M} (X : lx_X p c s m b L xs D n ad1 ad2 cI cZ cS cA cd) (Q : pz_Q n q f) (h1 : fr_I n q f S M1) (h2 : gm_I n q f S M2) (hw : lx_W s D n ad1 ad2 cI cZ cS cA M1 M2 H locs) (hl : lv_has ls 4 [(3, .int (nI i)), (0, .ref b), (1, .ref (ad1 (0, 0))), (2, .ref (ad2 (0, 0)))]) (hi : i + 4 ≤ L) (hcs : cells ≤ 600000 ∧ slots ≤ 7302249) (kk : ∀ (S1 : pz_T) (M1 M2 : fr_M) (H : Heap) (locs : List Loc), fr_I n q f S1 M1 → gm_I n q f S1 M2 → lx_W s D n ad1 ad2 cI cZ cS cA M1 M2 H locs → W p l e room_1 s m #[Value.ref b] below meth c H locs cells slots Qf (F0 m 658 ls [])) : W p l e room_1 s m #[Value.ref b] below meth c H locs cells slots Qf (F0 m 592 ls []) := by
  have Z := X.1
  obtain ⟨r, S1, Pm1, Pm2, fr1, lo1, fr2, lo2, hb, c1, p1, c2, p2⟩ := lx_votes (l := l) (D := D) (ad1 := ad1) (ad2 := ad2) (cI := cI) (cZ := cZ) (cS := cS) (cA := cA) Q h1 h2 (x := xs (i + 1)) (y := xs (i + 2)) (z := xs (i + 3)) 
  refine lv_aload_n Z.1 Z.2.1 md_law_592 rfl (lv_at hl 2 rfl) ?_
  refine lv_aload_n Z.1 Z.2.1 md_law_593 rfl (lv_at hl 1 rfl) ?_
  refine lv_iload_n Z.1 Z.2.1 md_law_594 rfl (lv_at hl 0 rfl) ?_
  refine lv_iconst (v := nI 1) Z.1 Z.2.1 md_law_595 (by decide) ?_
  refine xi_add Z md_law_596 ?_
  refine lx_sld X hw.2.2 (i + 1) rfl (by omega) md_law_597 ?_
  refine lv_aload_n Z.1 Z.2.1 md_law_598 rfl (lv_at hl 1 rfl) ?_
  refine lv_iload_n Z.1 Z.2.1 md_law_599 rfl (lv_at hl 0 rfl) ?_
  refine lv_iconst (v := nI 2) Z.1 Z.2.1 md_law_600 (by decide) ?_
  refine xi_add Z md_law_601 ?_
  refine lx_sld X hw.2.2 (i + 2) rfl (by omega) md_law_602 ?_
  refine lv_aload_n Z.1 Z.2.1 md_law_603 rfl (lv_at hl 1 rfl) ?_
  refine lv_iload_n Z.1 Z.2.1 md_law_604 rfl (lv_at hl 0 rfl) ?_
  refine lv_iconst (v := nI 3) Z.1 Z.2.1 md_law_605 (by decide) ?_
  refine xi_add Z md_law_606 ?_
  refine lx_sld X hw.2.2 (i + 3) rfl (by omega) md_law_607 ?_
  refine lx_1 (np := 3) (rest := []) X hl.1 hw c1 ⟨hb.1, hb.2.1⟩ (by decide) mc_FB_votes mk_Law_90 mi_FB_votes ms_FB_votes mz_FB rfl ⟨by decide, by decide, by decide +kernel⟩ rfl rfl (Nat.le_of_ble_eq_true rfl) hcs md_law_608 (fun M1 H locs hp1 hw => ?_)
  refine lv_aload_n Z.1 Z.2.1 md_law_611 rfl (lv_at hl 3 rfl) ?_
  refine lv_aload_n Z.1 Z.2.1 md_law_612 rfl (lv_at hl 1 rfl) ?_
  refine lv_iload_n Z.1 Z.2.1 md_law_613 rfl (lv_at hl 0 rfl) ?_
  refine lv_iconst (v := nI 1) Z.1 Z.2.1 md_law_614 (by decide) ?_
  refine xi_add Z md_law_615 ?_
  refine lx_sld X hw.2.2 (i + 1) rfl (by omega) md_law_616 ?_
  refine lv_aload_n Z.1 Z.2.1 md_law_617 rfl (lv_at hl 1 rfl) ?_
  refine lv_iload_n Z.1 Z.2.1 md_law_618 rfl (lv_at hl 0 rfl) ?_
  refine lv_iconst (v := nI 2) Z.1 Z.2.1 md_law_619 (by decide) ?_
  refine xi_add Z md_law_620 ?_
  refine lx_sld X hw.2.2 (i + 2) rfl (by omega) md_law_621 ?_
  refine lv_aload_n Z.1 Z.2.1 md_law_622 rfl (lv_at hl 1 rfl) ?_
  refine lv_iload_n Z.1 Z.2.1 md_law_623 rfl (lv_at hl 0 rfl) ?_
  refine lv_iconst (v := nI 3) Z.1 Z.2.1 md_law_624 (by decide) ?_
  refine xi_add Z md_law_625 ?_
  refine lx_sld X hw.2.2 (i + 3) rfl (by omega) md_law_626 ?_
  refine lx_2 (np := 3) (rest := [.int r]) X hl.1 hw c2 ⟨hb.2.2.1, hb.2.2.2⟩ (by decide) mc_Mod_votes mk_Law_94 mi_Mod_votes ms_Mod_votes mz_Mod rfl ⟨by decide, by decide, by decide +kernel⟩ rfl rfl (Nat.le_of_ble_eq_true rfl) hcs md_law_627 (fun M2 H locs hp2 hw => ?_)
  refine lv_icmp_eq (tgt := 658) Z.1 Z.2.1 md_law_630 (by decide) (fun _ => ?_) (fun h => absurd rfl h)
  exact kk S1 M1 M2 H locs (p1 _ hp1) (p2 _ hp2) hw
set_option maxHeartbeats 1000000 in
theorem lc_size {p : Program} {l : Launch} {e : Env} {s : State} {m : MethodId} {below : List Frame} {meth : Method} {c : Code} {H : Heap} {locs : List Loc} {cells slots : Nat} {Qf : State → Prop} {ls : Array Slot} {D : va_G} {b L n q f i : Nat} {xs : Nat → Int32} {ad1 ad2 : Nat × Nat → Nat} {cI cZ cS cA : ClassId} {cd : Cond} {S : pz_T} {M1 M2 : fr_M} (X : lx_X p c s m b L xs D n ad1 ad2 cI cZ cS cA cd) (Q : pz_Q n q f) (h1 : fr_I n q f S M1) (h2 : gm_I n q f S M2) (hw : lx_W s D n ad1 ad2 cI cZ cS cA M1 M2 H locs) (hl : lv_has ls 4 [(3, .int (nI i)), (0, .ref b), (1, .ref (ad1 (0, 0))), (2, .ref (ad2 (0, 0)))]) (hi : i + 4 ≤ L) (hcs : cells ≤ 600000 ∧ slots ≤ 7302249) (kk : ∀ (S1 : pz_T) (M1 M2 : fr_M) (H : Heap) (locs : List Loc), fr_I n q f S1 M1 → gm_I n q f S1 M2 → lx_W s D n ad1 ad2 cI cZ cS cA M1 M2 H locs → W p l e room_1 s m #[Value.ref b] below meth c H locs cells slots Qf (F0 m 658 ls [])) : W p l e room_1 s m #[Value.ref b] below meth c H locs cells slots Qf (F0 m 635 ls []) := by
  have Z := X.1
  obtain ⟨r, S1, Pm1, Pm2, fr1, lo1, fr2, lo2, hb, c1, p1, c2, p2⟩ := lx_size (l := l) (D := D) (ad1 := ad1) (ad2 := ad2) (cI := cI) (cZ := cZ) (cS := cS) (cA := cA) Q h1 h2 (x := xs (i + 1)) 
  refine lv_aload_n Z.1 Z.2.1 md_law_635 rfl (lv_at hl 2 rfl) ?_
  refine lv_aload_n Z.1 Z.2.1 md_law_636 rfl (lv_at hl 1 rfl) ?_
  refine lv_iload_n Z.1 Z.2.1 md_law_637 rfl (lv_at hl 0 rfl) ?_
  refine lv_iconst (v := nI 1) Z.1 Z.2.1 md_law_638 (by decide) ?_
  refine xi_add Z md_law_639 ?_
  refine lx_sld X hw.2.2 (i + 1) rfl (by omega) md_law_640 ?_
  refine lx_1 (np := 1) (rest := []) X hl.1 hw c1 ⟨hb.1, hb.2.1⟩ (by decide) mc_FB_size mk_Law_95 mi_FB_size ms_FB_size mz_FB rfl ⟨by decide, by decide, by decide +kernel⟩ rfl rfl (Nat.le_of_ble_eq_true rfl) hcs md_law_641 (fun M1 H locs hp1 hw => ?_)
  refine lv_aload_n Z.1 Z.2.1 md_law_644 rfl (lv_at hl 3 rfl) ?_
  refine lv_aload_n Z.1 Z.2.1 md_law_645 rfl (lv_at hl 1 rfl) ?_
  refine lv_iload_n Z.1 Z.2.1 md_law_646 rfl (lv_at hl 0 rfl) ?_
  refine lv_iconst (v := nI 1) Z.1 Z.2.1 md_law_647 (by decide) ?_
  refine xi_add Z md_law_648 ?_
  refine lx_sld X hw.2.2 (i + 1) rfl (by omega) md_law_649 ?_
  refine lx_2 (np := 1) (rest := [.int r]) X hl.1 hw c2 ⟨hb.2.2.1, hb.2.2.2⟩ (by decide) mc_Mod_size mk_Law_98 mi_Mod_size ms_Mod_size mz_Mod rfl ⟨by decide, by decide, by decide +kernel⟩ rfl rfl (Nat.le_of_ble_eq_true rfl) hcs md_law_650 (fun M2 H locs hp2 hw => ?_)
  refine lv_icmp_eq (tgt := 658) Z.1 Z.2.1 md_law_653 (by decide) (fun _ => ?_) (fun h => absurd rfl h)
  exact kk S1 M1 M2 H locs (p1 _ hp1) (p2 _ hp2) hw
