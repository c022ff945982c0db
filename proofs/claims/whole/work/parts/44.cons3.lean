/-! The reference's constructor. -/
theorem md_Mod_init_0 : decode mb_Mod_init 0 = .ok (.aload_n 0, 1) := by decide +kernel
theorem md_Mod_init_1 : decode mb_Mod_init 1 = .ok (.invokespecial 1, 3) := by decide +kernel
theorem md_Mod_init_4 : decode mb_Mod_init 4 = .ok (.aload_n 0, 1) := by decide +kernel
theorem md_Mod_init_5 : decode mb_Mod_init 5 = .ok (.bipush 11, 2) := by decide +kernel
theorem md_Mod_init_7 : decode mb_Mod_init 7 = .ok (.newarray .boolean, 2) := by decide +kernel
theorem md_Mod_init_9 : decode mb_Mod_init 9 = .ok (.putfield 7, 3) := by decide +kernel
theorem md_Mod_init_12 : decode mb_Mod_init 12 = .ok (.aload_n 0, 1) := by decide +kernel
theorem md_Mod_init_13 : decode mb_Mod_init 13 = .ok (.bipush 60, 2) := by decide +kernel
theorem md_Mod_init_15 : decode mb_Mod_init 15 = .ok (.newarray .int, 2) := by decide +kernel
theorem md_Mod_init_17 : decode mb_Mod_init 17 = .ok (.putfield 13, 3) := by decide +kernel
theorem md_Mod_init_20 : decode mb_Mod_init 20 = .ok (.aload_n 0, 1) := by decide +kernel
theorem md_Mod_init_21 : decode mb_Mod_init 21 = .ok (.bipush 60, 2) := by decide +kernel
theorem md_Mod_init_23 : decode mb_Mod_init 23 = .ok (.newarray .int, 2) := by decide +kernel
theorem md_Mod_init_25 : decode mb_Mod_init 25 = .ok (.putfield 17, 3) := by decide +kernel
theorem md_Mod_init_28 : decode mb_Mod_init 28 = .ok (.aload_n 0, 1) := by decide +kernel
theorem md_Mod_init_29 : decode mb_Mod_init 29 = .ok (.bipush 60, 2) := by decide +kernel
theorem md_Mod_init_31 : decode mb_Mod_init 31 = .ok (.newarray .int, 2) := by decide +kernel
theorem md_Mod_init_33 : decode mb_Mod_init 33 = .ok (.putfield 20, 3) := by decide +kernel
theorem md_Mod_init_36 : decode mb_Mod_init 36 = .ok (.aload_n 0, 1) := by decide +kernel
theorem md_Mod_init_37 : decode mb_Mod_init 37 = .ok (.bipush 60, 2) := by decide +kernel
theorem md_Mod_init_39 : decode mb_Mod_init 39 = .ok (.newarray .int, 2) := by decide +kernel
theorem md_Mod_init_41 : decode mb_Mod_init 41 = .ok (.putfield 23, 3) := by decide +kernel
theorem md_Mod_init_44 : decode mb_Mod_init 44 = .ok (.aload_n 0, 1) := by decide +kernel
theorem md_Mod_init_45 : decode mb_Mod_init 45 = .ok (.bipush 60, 2) := by decide +kernel
theorem md_Mod_init_47 : decode mb_Mod_init 47 = .ok (.newarray .int, 2) := by decide +kernel
theorem md_Mod_init_49 : decode mb_Mod_init 49 = .ok (.putfield 26, 3) := by decide +kernel
theorem md_Mod_init_52 : decode mb_Mod_init 52 = .ok (.aload_n 0, 1) := by decide +kernel
theorem md_Mod_init_53 : decode mb_Mod_init 53 = .ok (.bipush 60, 2) := by decide +kernel
theorem md_Mod_init_55 : decode mb_Mod_init 55 = .ok (.newarray .int, 2) := by decide +kernel
theorem md_Mod_init_57 : decode mb_Mod_init 57 = .ok (.putfield 29, 3) := by decide +kernel
theorem md_Mod_init_60 : decode mb_Mod_init 60 = .ok (.aload_n 0, 1) := by decide +kernel
theorem md_Mod_init_61 : decode mb_Mod_init 61 = .ok (.bipush 60, 2) := by decide +kernel
theorem md_Mod_init_63 : decode mb_Mod_init 63 = .ok (.newarray .int, 2) := by decide +kernel
theorem md_Mod_init_65 : decode mb_Mod_init 65 = .ok (.putfield 32, 3) := by decide +kernel
theorem md_Mod_init_68 : decode mb_Mod_init 68 = .ok (.aload_n 0, 1) := by decide +kernel
theorem md_Mod_init_69 : decode mb_Mod_init 69 = .ok (.bipush 15, 2) := by decide +kernel
theorem md_Mod_init_71 : decode mb_Mod_init 71 = .ok (.newarray .int, 2) := by decide +kernel
theorem md_Mod_init_73 : decode mb_Mod_init 73 = .ok (.putfield 35, 3) := by decide +kernel
theorem md_Mod_init_76 : decode mb_Mod_init 76 = .ok (.aload_n 0, 1) := by decide +kernel
theorem md_Mod_init_77 : decode mb_Mod_init 77 = .ok (.bipush 15, 2) := by decide +kernel
theorem md_Mod_init_79 : decode mb_Mod_init 79 = .ok (.newarray .int, 2) := by decide +kernel
theorem md_Mod_init_81 : decode mb_Mod_init 81 = .ok (.putfield 38, 3) := by decide +kernel
theorem md_Mod_init_84 : decode mb_Mod_init 84 = .ok (.aload_n 0, 1) := by decide +kernel
theorem md_Mod_init_85 : decode mb_Mod_init 85 = .ok (.bipush 15, 2) := by decide +kernel
theorem md_Mod_init_87 : decode mb_Mod_init 87 = .ok (.newarray .int, 2) := by decide +kernel
theorem md_Mod_init_89 : decode mb_Mod_init 89 = .ok (.putfield 41, 3) := by decide +kernel
theorem md_Mod_init_92 : decode mb_Mod_init 92 = .ok (.aload_n 0, 1) := by decide +kernel
theorem md_Mod_init_93 : decode mb_Mod_init 93 = .ok (.bipush 15, 2) := by decide +kernel
theorem md_Mod_init_95 : decode mb_Mod_init 95 = .ok (.newarray .int, 2) := by decide +kernel
theorem md_Mod_init_97 : decode mb_Mod_init 97 = .ok (.putfield 44, 3) := by decide +kernel
theorem md_Mod_init_100 : decode mb_Mod_init 100 = .ok (.aload_n 0, 1) := by decide +kernel
theorem md_Mod_init_101 : decode mb_Mod_init 101 = .ok (.bipush 15, 2) := by decide +kernel
theorem md_Mod_init_103 : decode mb_Mod_init 103 = .ok (.newarray .int, 2) := by decide +kernel
theorem md_Mod_init_105 : decode mb_Mod_init 105 = .ok (.putfield 47, 3) := by decide +kernel
theorem md_Mod_init_108 : decode mb_Mod_init 108 = .ok (.aload_n 0, 1) := by decide +kernel
theorem md_Mod_init_109 : decode mb_Mod_init 109 = .ok (.sipush 195, 3) := by decide +kernel
theorem md_Mod_init_112 : decode mb_Mod_init 112 = .ok (.newarray .int, 2) := by decide +kernel
theorem md_Mod_init_114 : decode mb_Mod_init 114 = .ok (.putfield 50, 3) := by decide +kernel
theorem md_Mod_init_117 : decode mb_Mod_init 117 = .ok (.aload_n 0, 1) := by decide +kernel
theorem md_Mod_init_118 : decode mb_Mod_init 118 = .ok (.sipush 195, 3) := by decide +kernel
theorem md_Mod_init_121 : decode mb_Mod_init 121 = .ok (.newarray .int, 2) := by decide +kernel
theorem md_Mod_init_123 : decode mb_Mod_init 123 = .ok (.putfield 53, 3) := by decide +kernel
theorem md_Mod_init_126 : decode mb_Mod_init 126 = .ok (.aload_n 0, 1) := by decide +kernel
theorem md_Mod_init_127 : decode mb_Mod_init 127 = .ok (.iconst 3, 1) := by decide +kernel
theorem md_Mod_init_128 : decode mb_Mod_init 128 = .ok (.newarray .int, 2) := by decide +kernel
theorem md_Mod_init_130 : decode mb_Mod_init 130 = .ok (.putfield 56, 3) := by decide +kernel
theorem md_Mod_init_133 : decode mb_Mod_init 133 = .ok (.aload_n 0, 1) := by decide +kernel
theorem md_Mod_init_134 : decode mb_Mod_init 134 = .ok (.bipush 6, 2) := by decide +kernel
theorem md_Mod_init_136 : decode mb_Mod_init 136 = .ok (.newarray .int, 2) := by decide +kernel
theorem md_Mod_init_138 : decode mb_Mod_init 138 = .ok (.putfield 59, 3) := by decide +kernel
theorem md_Mod_init_141 : decode mb_Mod_init 141 = .ok (.aload_n 0, 1) := by decide +kernel
theorem md_Mod_init_142 : decode mb_Mod_init 142 = .ok (.bipush 6, 2) := by decide +kernel
theorem md_Mod_init_144 : decode mb_Mod_init 144 = .ok (.newarray .int, 2) := by decide +kernel
theorem md_Mod_init_146 : decode mb_Mod_init 146 = .ok (.putfield 62, 3) := by decide +kernel
theorem md_Mod_init_149 : decode mb_Mod_init 149 = .ok (.aload_n 0, 1) := by decide +kernel
theorem md_Mod_init_150 : decode mb_Mod_init 150 = .ok (.bipush 6, 2) := by decide +kernel
theorem md_Mod_init_152 : decode mb_Mod_init 152 = .ok (.newarray .int, 2) := by decide +kernel
theorem md_Mod_init_154 : decode mb_Mod_init 154 = .ok (.putfield 65, 3) := by decide +kernel
theorem md_Mod_init_157 : decode mb_Mod_init 157 = .ok (.aload_n 0, 1) := by decide +kernel
theorem md_Mod_init_158 : decode mb_Mod_init 158 = .ok (.bipush 30, 2) := by decide +kernel
theorem md_Mod_init_160 : decode mb_Mod_init 160 = .ok (.newarray .boolean, 2) := by decide +kernel
theorem md_Mod_init_162 : decode mb_Mod_init 162 = .ok (.putfield 68, 3) := by decide +kernel
theorem md_Mod_init_165 : decode mb_Mod_init 165 = .ok (.aload_n 0, 1) := by decide +kernel
theorem md_Mod_init_166 : decode mb_Mod_init 166 = .ok (.bipush 30, 2) := by decide +kernel
theorem md_Mod_init_168 : decode mb_Mod_init 168 = .ok (.newarray .int, 2) := by decide +kernel
theorem md_Mod_init_170 : decode mb_Mod_init 170 = .ok (.putfield 71, 3) := by decide +kernel
theorem md_Mod_init_173 : decode mb_Mod_init 173 = .ok (.aload_n 0, 1) := by decide +kernel
theorem md_Mod_init_174 : decode mb_Mod_init 174 = .ok (.bipush 30, 2) := by decide +kernel
theorem md_Mod_init_176 : decode mb_Mod_init 176 = .ok (.newarray .int, 2) := by decide +kernel
theorem md_Mod_init_178 : decode mb_Mod_init 178 = .ok (.putfield 74, 3) := by decide +kernel
theorem md_Mod_init_181 : decode mb_Mod_init 181 = .ok (.aload_n 0, 1) := by decide +kernel
theorem md_Mod_init_182 : decode mb_Mod_init 182 = .ok (.iload_n 1, 1) := by decide +kernel
theorem md_Mod_init_183 : decode mb_Mod_init 183 = .ok (.iconst 3, 1) := by decide +kernel
theorem md_Mod_init_184 : decode mb_Mod_init 184 = .ok (.if_icmp .ge 7, 3) := by decide +kernel
theorem md_Mod_init_187 : decode mb_Mod_init 187 = .ok (.iconst 3, 1) := by decide +kernel
theorem md_Mod_init_188 : decode mb_Mod_init 188 = .ok (.goto 13, 3) := by decide +kernel
theorem md_Mod_init_191 : decode mb_Mod_init 191 = .ok (.iload_n 1, 1) := by decide +kernel
theorem md_Mod_init_192 : decode mb_Mod_init 192 = .ok (.iconst 5, 1) := by decide +kernel
theorem md_Mod_init_193 : decode mb_Mod_init 193 = .ok (.if_icmp .le 7, 3) := by decide +kernel
theorem md_Mod_init_196 : decode mb_Mod_init 196 = .ok (.iconst 5, 1) := by decide +kernel
theorem md_Mod_init_197 : decode mb_Mod_init 197 = .ok (.goto 4, 3) := by decide +kernel
theorem md_Mod_init_200 : decode mb_Mod_init 200 = .ok (.iload_n 1, 1) := by decide +kernel
theorem md_Mod_init_201 : decode mb_Mod_init 201 = .ok (.putfield 77, 3) := by decide +kernel
theorem md_Mod_init_204 : decode mb_Mod_init 204 = .ok (.iload_n 2, 1) := by decide +kernel
theorem md_Mod_init_205 : decode mb_Mod_init 205 = .ok (.iconst 1, 1) := by decide +kernel
theorem md_Mod_init_206 : decode mb_Mod_init 206 = .ok (.if_icmp .lt 52, 3) := by decide +kernel
theorem md_Mod_init_209 : decode mb_Mod_init 209 = .ok (.iload_n 2, 1) := by decide +kernel
theorem md_Mod_init_210 : decode mb_Mod_init 210 = .ok (.aload_n 0, 1) := by decide +kernel
theorem md_Mod_init_211 : decode mb_Mod_init 211 = .ok (.getfield 77, 3) := by decide +kernel
theorem md_Mod_init_214 : decode mb_Mod_init 214 = .ok (.if_icmp .gt 44, 3) := by decide +kernel
theorem md_Mod_init_217 : decode mb_Mod_init 217 = .ok (.iload_n 3, 1) := by decide +kernel
theorem md_Mod_init_218 : decode mb_Mod_init 218 = .ok (.iconst 1, 1) := by decide +kernel
theorem md_Mod_init_219 : decode mb_Mod_init 219 = .ok (.if_icmp .lt 39, 3) := by decide +kernel
theorem md_Mod_init_222 : decode mb_Mod_init 222 = .ok (.iload_n 3, 1) := by decide +kernel
theorem md_Mod_init_223 : decode mb_Mod_init 223 = .ok (.aload_n 0, 1) := by decide +kernel
theorem md_Mod_init_224 : decode mb_Mod_init 224 = .ok (.getfield 77, 3) := by decide +kernel
theorem md_Mod_init_227 : decode mb_Mod_init 227 = .ok (.if_icmp .gt 31, 3) := by decide +kernel
theorem md_Mod_init_230 : decode mb_Mod_init 230 = .ok (.iconst 2, 1) := by decide +kernel
theorem md_Mod_init_231 : decode mb_Mod_init 231 = .ok (.iload_n 2, 1) := by decide +kernel
theorem md_Mod_init_232 : decode mb_Mod_init 232 = .ok (.imul, 1) := by decide +kernel
theorem md_Mod_init_233 : decode mb_Mod_init 233 = .ok (.aload_n 0, 1) := by decide +kernel
theorem md_Mod_init_234 : decode mb_Mod_init 234 = .ok (.getfield 77, 3) := by decide +kernel
theorem md_Mod_init_237 : decode mb_Mod_init 237 = .ok (.if_icmp .le 21, 3) := by decide +kernel
theorem md_Mod_init_240 : decode mb_Mod_init 240 = .ok (.iload_n 2, 1) := by decide +kernel
theorem md_Mod_init_241 : decode mb_Mod_init 241 = .ok (.iconst 2, 1) := by decide +kernel
theorem md_Mod_init_242 : decode mb_Mod_init 242 = .ok (.iload_n 3, 1) := by decide +kernel
theorem md_Mod_init_243 : decode mb_Mod_init 243 = .ok (.imul, 1) := by decide +kernel
theorem md_Mod_init_244 : decode mb_Mod_init 244 = .ok (.iadd, 1) := by decide +kernel
theorem md_Mod_init_245 : decode mb_Mod_init 245 = .ok (.iconst 2, 1) := by decide +kernel
theorem md_Mod_init_246 : decode mb_Mod_init 246 = .ok (.aload_n 0, 1) := by decide +kernel
theorem md_Mod_init_247 : decode mb_Mod_init 247 = .ok (.getfield 77, 3) := by decide +kernel
theorem md_Mod_init_250 : decode mb_Mod_init 250 = .ok (.imul, 1) := by decide +kernel
theorem md_Mod_init_251 : decode mb_Mod_init 251 = .ok (.if_icmp .le 7, 3) := by decide +kernel
theorem md_Mod_init_254 : decode mb_Mod_init 254 = .ok (.iconst 1, 1) := by decide +kernel
theorem md_Mod_init_255 : decode mb_Mod_init 255 = .ok (.goto 4, 3) := by decide +kernel
theorem md_Mod_init_258 : decode mb_Mod_init 258 = .ok (.iconst 0, 1) := by decide +kernel
theorem md_Mod_init_259 : decode mb_Mod_init 259 = .ok (.istore 4, 2) := by decide +kernel
theorem md_Mod_init_261 : decode mb_Mod_init 261 = .ok (.aload_n 0, 1) := by decide +kernel
theorem md_Mod_init_262 : decode mb_Mod_init 262 = .ok (.iload 4, 2) := by decide +kernel
theorem md_Mod_init_264 : decode mb_Mod_init 264 = .ok (.ifCond .eq 7, 3) := by decide +kernel
theorem md_Mod_init_267 : decode mb_Mod_init 267 = .ok (.iload_n 2, 1) := by decide +kernel
theorem md_Mod_init_268 : decode mb_Mod_init 268 = .ok (.goto 11, 3) := by decide +kernel
theorem md_Mod_init_271 : decode mb_Mod_init 271 = .ok (.aload_n 0, 1) := by decide +kernel
theorem md_Mod_init_272 : decode mb_Mod_init 272 = .ok (.getfield 77, 3) := by decide +kernel
theorem md_Mod_init_275 : decode mb_Mod_init 275 = .ok (.iconst 2, 1) := by decide +kernel
theorem md_Mod_init_276 : decode mb_Mod_init 276 = .ok (.idiv, 1) := by decide +kernel
theorem md_Mod_init_277 : decode mb_Mod_init 277 = .ok (.iconst 1, 1) := by decide +kernel
theorem md_Mod_init_278 : decode mb_Mod_init 278 = .ok (.iadd, 1) := by decide +kernel
theorem md_Mod_init_279 : decode mb_Mod_init 279 = .ok (.putfield 81, 3) := by decide +kernel
theorem md_Mod_init_282 : decode mb_Mod_init 282 = .ok (.aload_n 0, 1) := by decide +kernel
theorem md_Mod_init_283 : decode mb_Mod_init 283 = .ok (.iload 4, 2) := by decide +kernel
theorem md_Mod_init_285 : decode mb_Mod_init 285 = .ok (.ifCond .eq 7, 3) := by decide +kernel
theorem md_Mod_init_288 : decode mb_Mod_init 288 = .ok (.iload_n 3, 1) := by decide +kernel
theorem md_Mod_init_289 : decode mb_Mod_init 289 = .ok (.goto 13, 3) := by decide +kernel
theorem md_Mod_init_292 : decode mb_Mod_init 292 = .ok (.iconst 3, 1) := by decide +kernel
theorem md_Mod_init_293 : decode mb_Mod_init 293 = .ok (.aload_n 0, 1) := by decide +kernel
theorem md_Mod_init_294 : decode mb_Mod_init 294 = .ok (.getfield 77, 3) := by decide +kernel
theorem md_Mod_init_297 : decode mb_Mod_init 297 = .ok (.imul, 1) := by decide +kernel
theorem md_Mod_init_298 : decode mb_Mod_init 298 = .ok (.iconst 3, 1) := by decide +kernel
theorem md_Mod_init_299 : decode mb_Mod_init 299 = .ok (.iadd, 1) := by decide +kernel
theorem md_Mod_init_300 : decode mb_Mod_init 300 = .ok (.iconst 4, 1) := by decide +kernel
theorem md_Mod_init_301 : decode mb_Mod_init 301 = .ok (.idiv, 1) := by decide +kernel
theorem md_Mod_init_302 : decode mb_Mod_init 302 = .ok (.putfield 84, 3) := by decide +kernel
theorem md_Mod_init_305 : decode mb_Mod_init 305 = .ok (.return_, 1) := by decide +kernel
def xe_Mod (cI cZ : ClassId) (n q f a : Nat) : List va_E := [.inr (8, [.int (nI n), .int (nI q), .int (nI f), .ref (a + 1), .int 0, .int 0, .ref (a + 2), .ref (a + 3), .ref (a + 4), .ref (a + 5), .ref (a + 6), .ref (a + 7), .ref (a + 8), .ref (a + 9), .ref (a + 10), .ref (a + 11), .ref (a + 12), .ref (a + 13), .ref (a + 14), .ref (a + 15), .ref (a + 16), .ref (a + 17), .ref (a + 18), .ref (a + 19), .ref (a + 20), .ref (a + 21), .ref (a + 22)]), .inl (cZ, 11, .inl (fun _ => 0)), .inl (cI, 60, .inl (fun _ => 0)), .inl (cI, 60, .inl (fun _ => 0)), .inl (cI, 60, .inl (fun _ => 0)), .inl (cI, 60, .inl (fun _ => 0)), .inl (cI, 60, .inl (fun _ => 0)), .inl (cI, 60, .inl (fun _ => 0)), .inl (cI, 60, .inl (fun _ => 0)), .inl (cI, 15, .inl (fun _ => 0)), .inl (cI, 15, .inl (fun _ => 0)), .inl (cI, 15, .inl (fun _ => 0)), .inl (cI, 15, .inl (fun _ => 0)), .inl (cI, 15, .inl (fun _ => 0)), .inl (cI, 195, .inl (fun _ => 0)), .inl (cI, 195, .inl (fun _ => 0)), .inl (cI, 3, .inl (fun _ => 0)), .inl (cI, 6, .inl (fun _ => 0)), .inl (cI, 6, .inl (fun _ => 0)), .inl (cI, 6, .inl (fun _ => 0)), .inl (cZ, 30, .inl (fun _ => 0)), .inl (cI, 30, .inl (fun _ => 0)), .inl (cI, 30, .inl (fun _ => 0))]
theorem zx_lo {x : Int32} {n : Nat} (h : zx_at x n) (h1 : ¬ nI 3 ≤ x) : n = 3 := by
  obtain ⟨h1', h2', ⟨h3, rfl⟩ | ⟨h3, rfl⟩ | rfl⟩ := h
  · rfl
  · exact absurd (Int32.le_of_lt (Int32.lt_trans (by decide) h3)) h1
  · exact absurd (nI_le h1' (by omega)) h1
theorem zx_hi {x : Int32} {n : Nat} (h : zx_at x n) (h1 : ¬ x ≤ nI 5) : n = 5 := by
  obtain ⟨h1', h2', ⟨h3, rfl⟩ | ⟨h3, rfl⟩ | rfl⟩ := h
  · exact absurd (Int32.le_of_lt (Int32.lt_trans h3 (by decide))) h1
  · rfl
  · exact absurd (nI_le h2' (by omega)) h1
theorem zx_mid {x : Int32} {n : Nat} (h : zx_at x n) (h0 : nI 3 ≤ x) (h1 : x ≤ nI 5) : x = nI n := by
  obtain ⟨h1', h2', ⟨h3, rfl⟩ | ⟨h3, rfl⟩ | rfl⟩ := h
  · exact absurd h0 (Int32.not_le.mpr h3)
  · exact absurd h1 (Int32.not_le.mpr h3)
  · rfl
set_option maxHeartbeats 4000000 in
theorem n_Mod (l : Launch) (D : va_G) (cI cZ cS cA : ClassId) (a : Nat) {x y z : Int32} {n q f : Nat} (hx : zx_at x n) (hq : zq_at n y z q f) : xn_C l D cI cZ cS cA my_Mod_init mb_Mod_init 5 1 22 1007 12 a (.inr (8, [.int 0, .int 0, .int 0, .null, .int 0, .int 0, .null, .null, .null, .null, .null, .null, .null, .null, .null, .null, .null, .null, .null, .null, .null, .null, .null, .null, .null, .null, .null])) [] [.int (x), .int (y), .int (z)] (xe_Mod cI cZ n q f a) := by
  have hn1 := hx.1; have hn2 := hx.2.1
  refine xn_start (.inr (8, [.int 0, .int 0, .int 0, .null, .int 0, .int 0, .null, .null, .null, .null, .null, .null, .null, .null, .null, .null, .null, .null, .null, .null, .null, .null, .null, .null, .null, .null, .null])) [.int (x), .int (y), .int (z)] (by decide) rfl (Nat.le_of_ble_eq_true rfl) ?_
  intro p e st m below meth cd0 ls Z hml hr hlk hin hN hAO hl hlow hw
  have hl : lv_has ls 5 [(0, .ref (a)), (1, .int (x)), (2, .int (y)), (3, .int (z))] := hl
  refine lv_aload_n Z.1 Z.2.1 md_Mod_init_0 rfl (lv_at hl 0 rfl) ?_
  refine xn_obj Z (hl.1.trans hml.symm) mo_Mod mo_i mo_c md_Mod_init_1 (Nat.le_of_ble_eq_true rfl) (Nat.le_of_ble_eq_true rfl) ?_
  refine lv_aload_n Z.1 Z.2.1 md_Mod_init_4 rfl (lv_at hl 0 rfl) ?_
  refine lv_bipush (v := nI 11) Z.1 Z.2.1 md_Mod_init_5 (by decide) ?_
  refine xn_newa (atype := .boolean) (ty := .boolean) Z hw rfl (Or.inr rfl) mr_boolean 1 rfl (11) rfl (Nat.le_of_ble_eq_true rfl) 1 11 (Nat.le_of_ble_eq_true rfl) (Nat.le_of_ble_eq_true rfl) (Nat.le_of_ble_eq_true rfl) (Nat.le_of_ble_eq_true rfl) (a + 1) rfl md_Mod_init_7 (fun H hw => ?_)
  have hw : xn_H D tb_cl a [.inr (8, [.int 0, .int 0, .int 0, .null, .int 0, .int 0, .null, .null, .null, .null, .null, .null, .null, .null, .null, .null, .null, .null, .null, .null, .null, .null, .null, .null, .null, .null, .null]), .inl (cZ, 11, .inl (fun _ => 0))] st.heap _ _ := hw
  refine xn_put Z hin hw 0 rfl rfl tb_iMod tb_tMod tb_yMod tb_nMod 3 (by decide) mk_Mod_7 rfl rfl rfl rfl (Nat.le_of_ble_eq_true rfl) rfl md_Mod_init_9 (fun H locs hw => ?_)
  have hw : xn_H D tb_cl a [.inr (8, [.int 0, .int 0, .int 0, .ref (a + 1), .int 0, .int 0, .null, .null, .null, .null, .null, .null, .null, .null, .null, .null, .null, .null, .null, .null, .null, .null, .null, .null, .null, .null, .null]), .inl (cZ, 11, .inl (fun _ => 0))] st.heap _ _ := hw
  refine lv_aload_n Z.1 Z.2.1 md_Mod_init_12 rfl (lv_at hl 0 rfl) ?_
  refine lv_bipush (v := nI 60) Z.1 Z.2.1 md_Mod_init_13 (by decide) ?_
  refine xn_newa (atype := .int) (ty := .int) Z hw rfl (Or.inl rfl) mr_int 0 rfl (60) rfl (Nat.le_of_ble_eq_true rfl) 2 71 (Nat.le_of_ble_eq_true rfl) (Nat.le_of_ble_eq_true rfl) (Nat.le_of_ble_eq_true rfl) (Nat.le_of_ble_eq_true rfl) (a + 2) rfl md_Mod_init_15 (fun H hw => ?_)
  have hw : xn_H D tb_cl a [.inr (8, [.int 0, .int 0, .int 0, .ref (a + 1), .int 0, .int 0, .null, .null, .null, .null, .null, .null, .null, .null, .null, .null, .null, .null, .null, .null, .null, .null, .null, .null, .null, .null, .null]), .inl (cZ, 11, .inl (fun _ => 0)), .inl (cI, 60, .inl (fun _ => 0))] st.heap _ _ := hw
  refine xn_put Z hin hw 0 rfl rfl tb_iMod tb_tMod tb_yMod tb_nMod 6 (by decide) mk_Mod_13 rfl rfl rfl rfl (Nat.le_of_ble_eq_true rfl) rfl md_Mod_init_17 (fun H locs hw => ?_)
  have hw : xn_H D tb_cl a [.inr (8, [.int 0, .int 0, .int 0, .ref (a + 1), .int 0, .int 0, .ref (a + 2), .null, .null, .null, .null, .null, .null, .null, .null, .null, .null, .null, .null, .null, .null, .null, .null, .null, .null, .null, .null]), .inl (cZ, 11, .inl (fun _ => 0)), .inl (cI, 60, .inl (fun _ => 0))] st.heap _ _ := hw
  refine lv_aload_n Z.1 Z.2.1 md_Mod_init_20 rfl (lv_at hl 0 rfl) ?_
  refine lv_bipush (v := nI 60) Z.1 Z.2.1 md_Mod_init_21 (by decide) ?_
  refine xn_newa (atype := .int) (ty := .int) Z hw rfl (Or.inl rfl) mr_int 0 rfl (60) rfl (Nat.le_of_ble_eq_true rfl) 3 131 (Nat.le_of_ble_eq_true rfl) (Nat.le_of_ble_eq_true rfl) (Nat.le_of_ble_eq_true rfl) (Nat.le_of_ble_eq_true rfl) (a + 3) rfl md_Mod_init_23 (fun H hw => ?_)
  have hw : xn_H D tb_cl a [.inr (8, [.int 0, .int 0, .int 0, .ref (a + 1), .int 0, .int 0, .ref (a + 2), .null, .null, .null, .null, .null, .null, .null, .null, .null, .null, .null, .null, .null, .null, .null, .null, .null, .null, .null, .null]), .inl (cZ, 11, .inl (fun _ => 0)), .inl (cI, 60, .inl (fun _ => 0)), .inl (cI, 60, .inl (fun _ => 0))] st.heap _ _ := hw
  refine xn_put Z hin hw 0 rfl rfl tb_iMod tb_tMod tb_yMod tb_nMod 7 (by decide) mk_Mod_17 rfl rfl rfl rfl (Nat.le_of_ble_eq_true rfl) rfl md_Mod_init_25 (fun H locs hw => ?_)
  have hw : xn_H D tb_cl a [.inr (8, [.int 0, .int 0, .int 0, .ref (a + 1), .int 0, .int 0, .ref (a + 2), .ref (a + 3), .null, .null, .null, .null, .null, .null, .null, .null, .null, .null, .null, .null, .null, .null, .null, .null, .null, .null, .null]), .inl (cZ, 11, .inl (fun _ => 0)), .inl (cI, 60, .inl (fun _ => 0)), .inl (cI, 60, .inl (fun _ => 0))] st.heap _ _ := hw
  refine lv_aload_n Z.1 Z.2.1 md_Mod_init_28 rfl (lv_at hl 0 rfl) ?_
  refine lv_bipush (v := nI 60) Z.1 Z.2.1 md_Mod_init_29 (by decide) ?_
  refine xn_newa (atype := .int) (ty := .int) Z hw rfl (Or.inl rfl) mr_int 0 rfl (60) rfl (Nat.le_of_ble_eq_true rfl) 4 191 (Nat.le_of_ble_eq_true rfl) (Nat.le_of_ble_eq_true rfl) (Nat.le_of_ble_eq_true rfl) (Nat.le_of_ble_eq_true rfl) (a + 4) rfl md_Mod_init_31 (fun H hw => ?_)
  have hw : xn_H D tb_cl a [.inr (8, [.int 0, .int 0, .int 0, .ref (a + 1), .int 0, .int 0, .ref (a + 2), .ref (a + 3), .null, .null, .null, .null, .null, .null, .null, .null, .null, .null, .null, .null, .null, .null, .null, .null, .null, .null, .null]), .inl (cZ, 11, .inl (fun _ => 0)), .inl (cI, 60, .inl (fun _ => 0)), .inl (cI, 60, .inl (fun _ => 0)), .inl (cI, 60, .inl (fun _ => 0))] st.heap _ _ := hw
  refine xn_put Z hin hw 0 rfl rfl tb_iMod tb_tMod tb_yMod tb_nMod 8 (by decide) mk_Mod_20 rfl rfl rfl rfl (Nat.le_of_ble_eq_true rfl) rfl md_Mod_init_33 (fun H locs hw => ?_)
  have hw : xn_H D tb_cl a [.inr (8, [.int 0, .int 0, .int 0, .ref (a + 1), .int 0, .int 0, .ref (a + 2), .ref (a + 3), .ref (a + 4), .null, .null, .null, .null, .null, .null, .null, .null, .null, .null, .null, .null, .null, .null, .null, .null, .null, .null]), .inl (cZ, 11, .inl (fun _ => 0)), .inl (cI, 60, .inl (fun _ => 0)), .inl (cI, 60, .inl (fun _ => 0)), .inl (cI, 60, .inl (fun _ => 0))] st.heap _ _ := hw
  refine lv_aload_n Z.1 Z.2.1 md_Mod_init_36 rfl (lv_at hl 0 rfl) ?_
  refine lv_bipush (v := nI 60) Z.1 Z.2.1 md_Mod_init_37 (by decide) ?_
  refine xn_newa (atype := .int) (ty := .int) Z hw rfl (Or.inl rfl) mr_int 0 rfl (60) rfl (Nat.le_of_ble_eq_true rfl) 5 251 (Nat.le_of_ble_eq_true rfl) (Nat.le_of_ble_eq_true rfl) (Nat.le_of_ble_eq_true rfl) (Nat.le_of_ble_eq_true rfl) (a + 5) rfl md_Mod_init_39 (fun H hw => ?_)
  have hw : xn_H D tb_cl a [.inr (8, [.int 0, .int 0, .int 0, .ref (a + 1), .int 0, .int 0, .ref (a + 2), .ref (a + 3), .ref (a + 4), .null, .null, .null, .null, .null, .null, .null, .null, .null, .null, .null, .null, .null, .null, .null, .null, .null, .null]), .inl (cZ, 11, .inl (fun _ => 0)), .inl (cI, 60, .inl (fun _ => 0)), .inl (cI, 60, .inl (fun _ => 0)), .inl (cI, 60, .inl (fun _ => 0)), .inl (cI, 60, .inl (fun _ => 0))] st.heap _ _ := hw
  refine xn_put Z hin hw 0 rfl rfl tb_iMod tb_tMod tb_yMod tb_nMod 9 (by decide) mk_Mod_23 rfl rfl rfl rfl (Nat.le_of_ble_eq_true rfl) rfl md_Mod_init_41 (fun H locs hw => ?_)
  have hw : xn_H D tb_cl a [.inr (8, [.int 0, .int 0, .int 0, .ref (a + 1), .int 0, .int 0, .ref (a + 2), .ref (a + 3), .ref (a + 4), .ref (a + 5), .null, .null, .null, .null, .null, .null, .null, .null, .null, .null, .null, .null, .null, .null, .null, .null, .null]), .inl (cZ, 11, .inl (fun _ => 0)), .inl (cI, 60, .inl (fun _ => 0)), .inl (cI, 60, .inl (fun _ => 0)), .inl (cI, 60, .inl (fun _ => 0)), .inl (cI, 60, .inl (fun _ => 0))] st.heap _ _ := hw
  refine lv_aload_n Z.1 Z.2.1 md_Mod_init_44 rfl (lv_at hl 0 rfl) ?_
  refine lv_bipush (v := nI 60) Z.1 Z.2.1 md_Mod_init_45 (by decide) ?_
  refine xn_newa (atype := .int) (ty := .int) Z hw rfl (Or.inl rfl) mr_int 0 rfl (60) rfl (Nat.le_of_ble_eq_true rfl) 6 311 (Nat.le_of_ble_eq_true rfl) (Nat.le_of_ble_eq_true rfl) (Nat.le_of_ble_eq_true rfl) (Nat.le_of_ble_eq_true rfl) (a + 6) rfl md_Mod_init_47 (fun H hw => ?_)
  have hw : xn_H D tb_cl a [.inr (8, [.int 0, .int 0, .int 0, .ref (a + 1), .int 0, .int 0, .ref (a + 2), .ref (a + 3), .ref (a + 4), .ref (a + 5), .null, .null, .null, .null, .null, .null, .null, .null, .null, .null, .null, .null, .null, .null, .null, .null, .null]), .inl (cZ, 11, .inl (fun _ => 0)), .inl (cI, 60, .inl (fun _ => 0)), .inl (cI, 60, .inl (fun _ => 0)), .inl (cI, 60, .inl (fun _ => 0)), .inl (cI, 60, .inl (fun _ => 0)), .inl (cI, 60, .inl (fun _ => 0))] st.heap _ _ := hw
  refine xn_put Z hin hw 0 rfl rfl tb_iMod tb_tMod tb_yMod tb_nMod 10 (by decide) mk_Mod_26 rfl rfl rfl rfl (Nat.le_of_ble_eq_true rfl) rfl md_Mod_init_49 (fun H locs hw => ?_)
  have hw : xn_H D tb_cl a [.inr (8, [.int 0, .int 0, .int 0, .ref (a + 1), .int 0, .int 0, .ref (a + 2), .ref (a + 3), .ref (a + 4), .ref (a + 5), .ref (a + 6), .null, .null, .null, .null, .null, .null, .null, .null, .null, .null, .null, .null, .null, .null, .null, .null]), .inl (cZ, 11, .inl (fun _ => 0)), .inl (cI, 60, .inl (fun _ => 0)), .inl (cI, 60, .inl (fun _ => 0)), .inl (cI, 60, .inl (fun _ => 0)), .inl (cI, 60, .inl (fun _ => 0)), .inl (cI, 60, .inl (fun _ => 0))] st.heap _ _ := hw
  refine lv_aload_n Z.1 Z.2.1 md_Mod_init_52 rfl (lv_at hl 0 rfl) ?_
  refine lv_bipush (v := nI 60) Z.1 Z.2.1 md_Mod_init_53 (by decide) ?_
  refine xn_newa (atype := .int) (ty := .int) Z hw rfl (Or.inl rfl) mr_int 0 rfl (60) rfl (Nat.le_of_ble_eq_true rfl) 7 371 (Nat.le_of_ble_eq_true rfl) (Nat.le_of_ble_eq_true rfl) (Nat.le_of_ble_eq_true rfl) (Nat.le_of_ble_eq_true rfl) (a + 7) rfl md_Mod_init_55 (fun H hw => ?_)
  have hw : xn_H D tb_cl a [.inr (8, [.int 0, .int 0, .int 0, .ref (a + 1), .int 0, .int 0, .ref (a + 2), .ref (a + 3), .ref (a + 4), .ref (a + 5), .ref (a + 6), .null, .null, .null, .null, .null, .null, .null, .null, .null, .null, .null, .null, .null, .null, .null, .null]), .inl (cZ, 11, .inl (fun _ => 0)), .inl (cI, 60, .inl (fun _ => 0)), .inl (cI, 60, .inl (fun _ => 0)), .inl (cI, 60, .inl (fun _ => 0)), .inl (cI, 60, .inl (fun _ => 0)), .inl (cI, 60, .inl (fun _ => 0)), .inl (cI, 60, .inl (fun _ => 0))] st.heap _ _ := hw
  refine xn_put Z hin hw 0 rfl rfl tb_iMod tb_tMod tb_yMod tb_nMod 11 (by decide) mk_Mod_29 rfl rfl rfl rfl (Nat.le_of_ble_eq_true rfl) rfl md_Mod_init_57 (fun H locs hw => ?_)
  have hw : xn_H D tb_cl a [.inr (8, [.int 0, .int 0, .int 0, .ref (a + 1), .int 0, .int 0, .ref (a + 2), .ref (a + 3), .ref (a + 4), .ref (a + 5), .ref (a + 6), .ref (a + 7), .null, .null, .null, .null, .null, .null, .null, .null, .null, .null, .null, .null, .null, .null, .null]), .inl (cZ, 11, .inl (fun _ => 0)), .inl (cI, 60, .inl (fun _ => 0)), .inl (cI, 60, .inl (fun _ => 0)), .inl (cI, 60, .inl (fun _ => 0)), .inl (cI, 60, .inl (fun _ => 0)), .inl (cI, 60, .inl (fun _ => 0)), .inl (cI, 60, .inl (fun _ => 0))] st.heap _ _ := hw
  refine lv_aload_n Z.1 Z.2.1 md_Mod_init_60 rfl (lv_at hl 0 rfl) ?_
  refine lv_bipush (v := nI 60) Z.1 Z.2.1 md_Mod_init_61 (by decide) ?_
  refine xn_newa (atype := .int) (ty := .int) Z hw rfl (Or.inl rfl) mr_int 0 rfl (60) rfl (Nat.le_of_ble_eq_true rfl) 8 431 (Nat.le_of_ble_eq_true rfl) (Nat.le_of_ble_eq_true rfl) (Nat.le_of_ble_eq_true rfl) (Nat.le_of_ble_eq_true rfl) (a + 8) rfl md_Mod_init_63 (fun H hw => ?_)
  have hw : xn_H D tb_cl a [.inr (8, [.int 0, .int 0, .int 0, .ref (a + 1), .int 0, .int 0, .ref (a + 2), .ref (a + 3), .ref (a + 4), .ref (a + 5), .ref (a + 6), .ref (a + 7), .null, .null, .null, .null, .null, .null, .null, .null, .null, .null, .null, .null, .null, .null, .null]), .inl (cZ, 11, .inl (fun _ => 0)), .inl (cI, 60, .inl (fun _ => 0)), .inl (cI, 60, .inl (fun _ => 0)), .inl (cI, 60, .inl (fun _ => 0)), .inl (cI, 60, .inl (fun _ => 0)), .inl (cI, 60, .inl (fun _ => 0)), .inl (cI, 60, .inl (fun _ => 0)), .inl (cI, 60, .inl (fun _ => 0))] st.heap _ _ := hw
  refine xn_put Z hin hw 0 rfl rfl tb_iMod tb_tMod tb_yMod tb_nMod 12 (by decide) mk_Mod_32 rfl rfl rfl rfl (Nat.le_of_ble_eq_true rfl) rfl md_Mod_init_65 (fun H locs hw => ?_)
  have hw : xn_H D tb_cl a [.inr (8, [.int 0, .int 0, .int 0, .ref (a + 1), .int 0, .int 0, .ref (a + 2), .ref (a + 3), .ref (a + 4), .ref (a + 5), .ref (a + 6), .ref (a + 7), .ref (a + 8), .null, .null, .null, .null, .null, .null, .null, .null, .null, .null, .null, .null, .null, .null]), .inl (cZ, 11, .inl (fun _ => 0)), .inl (cI, 60, .inl (fun _ => 0)), .inl (cI, 60, .inl (fun _ => 0)), .inl (cI, 60, .inl (fun _ => 0)), .inl (cI, 60, .inl (fun _ => 0)), .inl (cI, 60, .inl (fun _ => 0)), .inl (cI, 60, .inl (fun _ => 0)), .inl (cI, 60, .inl (fun _ => 0))] st.heap _ _ := hw
  refine lv_aload_n Z.1 Z.2.1 md_Mod_init_68 rfl (lv_at hl 0 rfl) ?_
  refine lv_bipush (v := nI 15) Z.1 Z.2.1 md_Mod_init_69 (by decide) ?_
  refine xn_newa (atype := .int) (ty := .int) Z hw rfl (Or.inl rfl) mr_int 0 rfl (15) rfl (Nat.le_of_ble_eq_true rfl) 9 446 (Nat.le_of_ble_eq_true rfl) (Nat.le_of_ble_eq_true rfl) (Nat.le_of_ble_eq_true rfl) (Nat.le_of_ble_eq_true rfl) (a + 9) rfl md_Mod_init_71 (fun H hw => ?_)
  have hw : xn_H D tb_cl a [.inr (8, [.int 0, .int 0, .int 0, .ref (a + 1), .int 0, .int 0, .ref (a + 2), .ref (a + 3), .ref (a + 4), .ref (a + 5), .ref (a + 6), .ref (a + 7), .ref (a + 8), .null, .null, .null, .null, .null, .null, .null, .null, .null, .null, .null, .null, .null, .null]), .inl (cZ, 11, .inl (fun _ => 0)), .inl (cI, 60, .inl (fun _ => 0)), .inl (cI, 60, .inl (fun _ => 0)), .inl (cI, 60, .inl (fun _ => 0)), .inl (cI, 60, .inl (fun _ => 0)), .inl (cI, 60, .inl (fun _ => 0)), .inl (cI, 60, .inl (fun _ => 0)), .inl (cI, 60, .inl (fun _ => 0)), .inl (cI, 15, .inl (fun _ => 0))] st.heap _ _ := hw
  refine xn_put Z hin hw 0 rfl rfl tb_iMod tb_tMod tb_yMod tb_nMod 13 (by decide) mk_Mod_35 rfl rfl rfl rfl (Nat.le_of_ble_eq_true rfl) rfl md_Mod_init_73 (fun H locs hw => ?_)
  have hw : xn_H D tb_cl a [.inr (8, [.int 0, .int 0, .int 0, .ref (a + 1), .int 0, .int 0, .ref (a + 2), .ref (a + 3), .ref (a + 4), .ref (a + 5), .ref (a + 6), .ref (a + 7), .ref (a + 8), .ref (a + 9), .null, .null, .null, .null, .null, .null, .null, .null, .null, .null, .null, .null, .null]), .inl (cZ, 11, .inl (fun _ => 0)), .inl (cI, 60, .inl (fun _ => 0)), .inl (cI, 60, .inl (fun _ => 0)), .inl (cI, 60, .inl (fun _ => 0)), .inl (cI, 60, .inl (fun _ => 0)), .inl (cI, 60, .inl (fun _ => 0)), .inl (cI, 60, .inl (fun _ => 0)), .inl (cI, 60, .inl (fun _ => 0)), .inl (cI, 15, .inl (fun _ => 0))] st.heap _ _ := hw
  refine lv_aload_n Z.1 Z.2.1 md_Mod_init_76 rfl (lv_at hl 0 rfl) ?_
  refine lv_bipush (v := nI 15) Z.1 Z.2.1 md_Mod_init_77 (by decide) ?_
  refine xn_newa (atype := .int) (ty := .int) Z hw rfl (Or.inl rfl) mr_int 0 rfl (15) rfl (Nat.le_of_ble_eq_true rfl) 10 461 (Nat.le_of_ble_eq_true rfl) (Nat.le_of_ble_eq_true rfl) (Nat.le_of_ble_eq_true rfl) (Nat.le_of_ble_eq_true rfl) (a + 10) rfl md_Mod_init_79 (fun H hw => ?_)
  have hw : xn_H D tb_cl a [.inr (8, [.int 0, .int 0, .int 0, .ref (a + 1), .int 0, .int 0, .ref (a + 2), .ref (a + 3), .ref (a + 4), .ref (a + 5), .ref (a + 6), .ref (a + 7), .ref (a + 8), .ref (a + 9), .null, .null, .null, .null, .null, .null, .null, .null, .null, .null, .null, .null, .null]), .inl (cZ, 11, .inl (fun _ => 0)), .inl (cI, 60, .inl (fun _ => 0)), .inl (cI, 60, .inl (fun _ => 0)), .inl (cI, 60, .inl (fun _ => 0)), .inl (cI, 60, .inl (fun _ => 0)), .inl (cI, 60, .inl (fun _ => 0)), .inl (cI, 60, .inl (fun _ => 0)), .inl (cI, 60, .inl (fun _ => 0)), .inl (cI, 15, .inl (fun _ => 0)), .inl (cI, 15, .inl (fun _ => 0))] st.heap _ _ := hw
  refine xn_put Z hin hw 0 rfl rfl tb_iMod tb_tMod tb_yMod tb_nMod 14 (by decide) mk_Mod_38 rfl rfl rfl rfl (Nat.le_of_ble_eq_true rfl) rfl md_Mod_init_81 (fun H locs hw => ?_)
  have hw : xn_H D tb_cl a [.inr (8, [.int 0, .int 0, .int 0, .ref (a + 1), .int 0, .int 0, .ref (a + 2), .ref (a + 3), .ref (a + 4), .ref (a + 5), .ref (a + 6), .ref (a + 7), .ref (a + 8), .ref (a + 9), .ref (a + 10), .null, .null, .null, .null, .null, .null, .null, .null, .null, .null, .null, .null]), .inl (cZ, 11, .inl (fun _ => 0)), .inl (cI, 60, .inl (fun _ => 0)), .inl (cI, 60, .inl (fun _ => 0)), .inl (cI, 60, .inl (fun _ => 0)), .inl (cI, 60, .inl (fun _ => 0)), .inl (cI, 60, .inl (fun _ => 0)), .inl (cI, 60, .inl (fun _ => 0)), .inl (cI, 60, .inl (fun _ => 0)), .inl (cI, 15, .inl (fun _ => 0)), .inl (cI, 15, .inl (fun _ => 0))] st.heap _ _ := hw
  refine lv_aload_n Z.1 Z.2.1 md_Mod_init_84 rfl (lv_at hl 0 rfl) ?_
  refine lv_bipush (v := nI 15) Z.1 Z.2.1 md_Mod_init_85 (by decide) ?_
  refine xn_newa (atype := .int) (ty := .int) Z hw rfl (Or.inl rfl) mr_int 0 rfl (15) rfl (Nat.le_of_ble_eq_true rfl) 11 476 (Nat.le_of_ble_eq_true rfl) (Nat.le_of_ble_eq_true rfl) (Nat.le_of_ble_eq_true rfl) (Nat.le_of_ble_eq_true rfl) (a + 11) rfl md_Mod_init_87 (fun H hw => ?_)
  have hw : xn_H D tb_cl a [.inr (8, [.int 0, .int 0, .int 0, .ref (a + 1), .int 0, .int 0, .ref (a + 2), .ref (a + 3), .ref (a + 4), .ref (a + 5), .ref (a + 6), .ref (a + 7), .ref (a + 8), .ref (a + 9), .ref (a + 10), .null, .null, .null, .null, .null, .null, .null, .null, .null, .null, .null, .null]), .inl (cZ, 11, .inl (fun _ => 0)), .inl (cI, 60, .inl (fun _ => 0)), .inl (cI, 60, .inl (fun _ => 0)), .inl (cI, 60, .inl (fun _ => 0)), .inl (cI, 60, .inl (fun _ => 0)), .inl (cI, 60, .inl (fun _ => 0)), .inl (cI, 60, .inl (fun _ => 0)), .inl (cI, 60, .inl (fun _ => 0)), .inl (cI, 15, .inl (fun _ => 0)), .inl (cI, 15, .inl (fun _ => 0)), .inl (cI, 15, .inl (fun _ => 0))] st.heap _ _ := hw
  refine xn_put Z hin hw 0 rfl rfl tb_iMod tb_tMod tb_yMod tb_nMod 15 (by decide) mk_Mod_41 rfl rfl rfl rfl (Nat.le_of_ble_eq_true rfl) rfl md_Mod_init_89 (fun H locs hw => ?_)
  have hw : xn_H D tb_cl a [.inr (8, [.int 0, .int 0, .int 0, .ref (a + 1), .int 0, .int 0, .ref (a + 2), .ref (a + 3), .ref (a + 4), .ref (a + 5), .ref (a + 6), .ref (a + 7), .ref (a + 8), .ref (a + 9), .ref (a + 10), .ref (a + 11), .null, .null, .null, .null, .null, .null, .null, .null, .null, .null, .null]), .inl (cZ, 11, .inl (fun _ => 0)), .inl (cI, 60, .inl (fun _ => 0)), .inl (cI, 60, .inl (fun _ => 0)), .inl (cI, 60, .inl (fun _ => 0)), .inl (cI, 60, .inl (fun _ => 0)), .inl (cI, 60, .inl (fun _ => 0)), .inl (cI, 60, .inl (fun _ => 0)), .inl (cI, 60, .inl (fun _ => 0)), .inl (cI, 15, .inl (fun _ => 0)), .inl (cI, 15, .inl (fun _ => 0)), .inl (cI, 15, .inl (fun _ => 0))] st.heap _ _ := hw
  refine lv_aload_n Z.1 Z.2.1 md_Mod_init_92 rfl (lv_at hl 0 rfl) ?_
  refine lv_bipush (v := nI 15) Z.1 Z.2.1 md_Mod_init_93 (by decide) ?_
  refine xn_newa (atype := .int) (ty := .int) Z hw rfl (Or.inl rfl) mr_int 0 rfl (15) rfl (Nat.le_of_ble_eq_true rfl) 12 491 (Nat.le_of_ble_eq_true rfl) (Nat.le_of_ble_eq_true rfl) (Nat.le_of_ble_eq_true rfl) (Nat.le_of_ble_eq_true rfl) (a + 12) rfl md_Mod_init_95 (fun H hw => ?_)
  have hw : xn_H D tb_cl a [.inr (8, [.int 0, .int 0, .int 0, .ref (a + 1), .int 0, .int 0, .ref (a + 2), .ref (a + 3), .ref (a + 4), .ref (a + 5), .ref (a + 6), .ref (a + 7), .ref (a + 8), .ref (a + 9), .ref (a + 10), .ref (a + 11), .null, .null, .null, .null, .null, .null, .null, .null, .null, .null, .null]), .inl (cZ, 11, .inl (fun _ => 0)), .inl (cI, 60, .inl (fun _ => 0)), .inl (cI, 60, .inl (fun _ => 0)), .inl (cI, 60, .inl (fun _ => 0)), .inl (cI, 60, .inl (fun _ => 0)), .inl (cI, 60, .inl (fun _ => 0)), .inl (cI, 60, .inl (fun _ => 0)), .inl (cI, 60, .inl (fun _ => 0)), .inl (cI, 15, .inl (fun _ => 0)), .inl (cI, 15, .inl (fun _ => 0)), .inl (cI, 15, .inl (fun _ => 0)), .inl (cI, 15, .inl (fun _ => 0))] st.heap _ _ := hw
  refine xn_put Z hin hw 0 rfl rfl tb_iMod tb_tMod tb_yMod tb_nMod 16 (by decide) mk_Mod_44 rfl rfl rfl rfl (Nat.le_of_ble_eq_true rfl) rfl md_Mod_init_97 (fun H locs hw => ?_)
  have hw : xn_H D tb_cl a [.inr (8, [.int 0, .int 0, .int 0, .ref (a + 1), .int 0, .int 0, .ref (a + 2), .ref (a + 3), .ref (a + 4), .ref (a + 5), .ref (a + 6), .ref (a + 7), .ref (a + 8), .ref (a + 9), .ref (a + 10), .ref (a + 11), .ref (a + 12), .null, .null, .null, .null, .null, .null, .null, .null, .null, .null]), .inl (cZ, 11, .inl (fun _ => 0)), .inl (cI, 60, .inl (fun _ => 0)), .inl (cI, 60, .inl (fun _ => 0)), .inl (cI, 60, .inl (fun _ => 0)), .inl (cI, 60, .inl (fun _ => 0)), .inl (cI, 60, .inl (fun _ => 0)), .inl (cI, 60, .inl (fun _ => 0)), .inl (cI, 60, .inl (fun _ => 0)), .inl (cI, 15, .inl (fun _ => 0)), .inl (cI, 15, .inl (fun _ => 0)), .inl (cI, 15, .inl (fun _ => 0)), .inl (cI, 15, .inl (fun _ => 0))] st.heap _ _ := hw
  refine lv_aload_n Z.1 Z.2.1 md_Mod_init_100 rfl (lv_at hl 0 rfl) ?_
  refine lv_bipush (v := nI 15) Z.1 Z.2.1 md_Mod_init_101 (by decide) ?_
  refine xn_newa (atype := .int) (ty := .int) Z hw rfl (Or.inl rfl) mr_int 0 rfl (15) rfl (Nat.le_of_ble_eq_true rfl) 13 506 (Nat.le_of_ble_eq_true rfl) (Nat.le_of_ble_eq_true rfl) (Nat.le_of_ble_eq_true rfl) (Nat.le_of_ble_eq_true rfl) (a + 13) rfl md_Mod_init_103 (fun H hw => ?_)
  have hw : xn_H D tb_cl a [.inr (8, [.int 0, .int 0, .int 0, .ref (a + 1), .int 0, .int 0, .ref (a + 2), .ref (a + 3), .ref (a + 4), .ref (a + 5), .ref (a + 6), .ref (a + 7), .ref (a + 8), .ref (a + 9), .ref (a + 10), .ref (a + 11), .ref (a + 12), .null, .null, .null, .null, .null, .null, .null, .null, .null, .null]), .inl (cZ, 11, .inl (fun _ => 0)), .inl (cI, 60, .inl (fun _ => 0)), .inl (cI, 60, .inl (fun _ => 0)), .inl (cI, 60, .inl (fun _ => 0)), .inl (cI, 60, .inl (fun _ => 0)), .inl (cI, 60, .inl (fun _ => 0)), .inl (cI, 60, .inl (fun _ => 0)), .inl (cI, 60, .inl (fun _ => 0)), .inl (cI, 15, .inl (fun _ => 0)), .inl (cI, 15, .inl (fun _ => 0)), .inl (cI, 15, .inl (fun _ => 0)), .inl (cI, 15, .inl (fun _ => 0)), .inl (cI, 15, .inl (fun _ => 0))] st.heap _ _ := hw
  refine xn_put Z hin hw 0 rfl rfl tb_iMod tb_tMod tb_yMod tb_nMod 17 (by decide) mk_Mod_47 rfl rfl rfl rfl (Nat.le_of_ble_eq_true rfl) rfl md_Mod_init_105 (fun H locs hw => ?_)
  have hw : xn_H D tb_cl a [.inr (8, [.int 0, .int 0, .int 0, .ref (a + 1), .int 0, .int 0, .ref (a + 2), .ref (a + 3), .ref (a + 4), .ref (a + 5), .ref (a + 6), .ref (a + 7), .ref (a + 8), .ref (a + 9), .ref (a + 10), .ref (a + 11), .ref (a + 12), .ref (a + 13), .null, .null, .null, .null, .null, .null, .null, .null, .null]), .inl (cZ, 11, .inl (fun _ => 0)), .inl (cI, 60, .inl (fun _ => 0)), .inl (cI, 60, .inl (fun _ => 0)), .inl (cI, 60, .inl (fun _ => 0)), .inl (cI, 60, .inl (fun _ => 0)), .inl (cI, 60, .inl (fun _ => 0)), .inl (cI, 60, .inl (fun _ => 0)), .inl (cI, 60, .inl (fun _ => 0)), .inl (cI, 15, .inl (fun _ => 0)), .inl (cI, 15, .inl (fun _ => 0)), .inl (cI, 15, .inl (fun _ => 0)), .inl (cI, 15, .inl (fun _ => 0)), .inl (cI, 15, .inl (fun _ => 0))] st.heap _ _ := hw
  refine lv_aload_n Z.1 Z.2.1 md_Mod_init_108 rfl (lv_at hl 0 rfl) ?_
  refine lv_sipush (v := nI 195) Z.1 Z.2.1 md_Mod_init_109 (by decide) ?_
  refine xn_newa (atype := .int) (ty := .int) Z hw rfl (Or.inl rfl) mr_int 0 rfl (195) rfl (Nat.le_of_ble_eq_true rfl) 14 701 (Nat.le_of_ble_eq_true rfl) (Nat.le_of_ble_eq_true rfl) (Nat.le_of_ble_eq_true rfl) (Nat.le_of_ble_eq_true rfl) (a + 14) rfl md_Mod_init_112 (fun H hw => ?_)
  have hw : xn_H D tb_cl a [.inr (8, [.int 0, .int 0, .int 0, .ref (a + 1), .int 0, .int 0, .ref (a + 2), .ref (a + 3), .ref (a + 4), .ref (a + 5), .ref (a + 6), .ref (a + 7), .ref (a + 8), .ref (a + 9), .ref (a + 10), .ref (a + 11), .ref (a + 12), .ref (a + 13), .null, .null, .null, .null, .null, .null, .null, .null, .null]), .inl (cZ, 11, .inl (fun _ => 0)), .inl (cI, 60, .inl (fun _ => 0)), .inl (cI, 60, .inl (fun _ => 0)), .inl (cI, 60, .inl (fun _ => 0)), .inl (cI, 60, .inl (fun _ => 0)), .inl (cI, 60, .inl (fun _ => 0)), .inl (cI, 60, .inl (fun _ => 0)), .inl (cI, 60, .inl (fun _ => 0)), .inl (cI, 15, .inl (fun _ => 0)), .inl (cI, 15, .inl (fun _ => 0)), .inl (cI, 15, .inl (fun _ => 0)), .inl (cI, 15, .inl (fun _ => 0)), .inl (cI, 15, .inl (fun _ => 0)), .inl (cI, 195, .inl (fun _ => 0))] st.heap _ _ := hw
  refine xn_put Z hin hw 0 rfl rfl tb_iMod tb_tMod tb_yMod tb_nMod 18 (by decide) mk_Mod_50 rfl rfl rfl rfl (Nat.le_of_ble_eq_true rfl) rfl md_Mod_init_114 (fun H locs hw => ?_)
  have hw : xn_H D tb_cl a [.inr (8, [.int 0, .int 0, .int 0, .ref (a + 1), .int 0, .int 0, .ref (a + 2), .ref (a + 3), .ref (a + 4), .ref (a + 5), .ref (a + 6), .ref (a + 7), .ref (a + 8), .ref (a + 9), .ref (a + 10), .ref (a + 11), .ref (a + 12), .ref (a + 13), .ref (a + 14), .null, .null, .null, .null, .null, .null, .null, .null]), .inl (cZ, 11, .inl (fun _ => 0)), .inl (cI, 60, .inl (fun _ => 0)), .inl (cI, 60, .inl (fun _ => 0)), .inl (cI, 60, .inl (fun _ => 0)), .inl (cI, 60, .inl (fun _ => 0)), .inl (cI, 60, .inl (fun _ => 0)), .inl (cI, 60, .inl (fun _ => 0)), .inl (cI, 60, .inl (fun _ => 0)), .inl (cI, 15, .inl (fun _ => 0)), .inl (cI, 15, .inl (fun _ => 0)), .inl (cI, 15, .inl (fun _ => 0)), .inl (cI, 15, .inl (fun _ => 0)), .inl (cI, 15, .inl (fun _ => 0)), .inl (cI, 195, .inl (fun _ => 0))] st.heap _ _ := hw
  refine lv_aload_n Z.1 Z.2.1 md_Mod_init_117 rfl (lv_at hl 0 rfl) ?_
  refine lv_sipush (v := nI 195) Z.1 Z.2.1 md_Mod_init_118 (by decide) ?_
  refine xn_newa (atype := .int) (ty := .int) Z hw rfl (Or.inl rfl) mr_int 0 rfl (195) rfl (Nat.le_of_ble_eq_true rfl) 15 896 (Nat.le_of_ble_eq_true rfl) (Nat.le_of_ble_eq_true rfl) (Nat.le_of_ble_eq_true rfl) (Nat.le_of_ble_eq_true rfl) (a + 15) rfl md_Mod_init_121 (fun H hw => ?_)
  have hw : xn_H D tb_cl a [.inr (8, [.int 0, .int 0, .int 0, .ref (a + 1), .int 0, .int 0, .ref (a + 2), .ref (a + 3), .ref (a + 4), .ref (a + 5), .ref (a + 6), .ref (a + 7), .ref (a + 8), .ref (a + 9), .ref (a + 10), .ref (a + 11), .ref (a + 12), .ref (a + 13), .ref (a + 14), .null, .null, .null, .null, .null, .null, .null, .null]), .inl (cZ, 11, .inl (fun _ => 0)), .inl (cI, 60, .inl (fun _ => 0)), .inl (cI, 60, .inl (fun _ => 0)), .inl (cI, 60, .inl (fun _ => 0)), .inl (cI, 60, .inl (fun _ => 0)), .inl (cI, 60, .inl (fun _ => 0)), .inl (cI, 60, .inl (fun _ => 0)), .inl (cI, 60, .inl (fun _ => 0)), .inl (cI, 15, .inl (fun _ => 0)), .inl (cI, 15, .inl (fun _ => 0)), .inl (cI, 15, .inl (fun _ => 0)), .inl (cI, 15, .inl (fun _ => 0)), .inl (cI, 15, .inl (fun _ => 0)), .inl (cI, 195, .inl (fun _ => 0)), .inl (cI, 195, .inl (fun _ => 0))] st.heap _ _ := hw
  refine xn_put Z hin hw 0 rfl rfl tb_iMod tb_tMod tb_yMod tb_nMod 19 (by decide) mk_Mod_53 rfl rfl rfl rfl (Nat.le_of_ble_eq_true rfl) rfl md_Mod_init_123 (fun H locs hw => ?_)
  have hw : xn_H D tb_cl a [.inr (8, [.int 0, .int 0, .int 0, .ref (a + 1), .int 0, .int 0, .ref (a + 2), .ref (a + 3), .ref (a + 4), .ref (a + 5), .ref (a + 6), .ref (a + 7), .ref (a + 8), .ref (a + 9), .ref (a + 10), .ref (a + 11), .ref (a + 12), .ref (a + 13), .ref (a + 14), .ref (a + 15), .null, .null, .null, .null, .null, .null, .null]), .inl (cZ, 11, .inl (fun _ => 0)), .inl (cI, 60, .inl (fun _ => 0)), .inl (cI, 60, .inl (fun _ => 0)), .inl (cI, 60, .inl (fun _ => 0)), .inl (cI, 60, .inl (fun _ => 0)), .inl (cI, 60, .inl (fun _ => 0)), .inl (cI, 60, .inl (fun _ => 0)), .inl (cI, 60, .inl (fun _ => 0)), .inl (cI, 15, .inl (fun _ => 0)), .inl (cI, 15, .inl (fun _ => 0)), .inl (cI, 15, .inl (fun _ => 0)), .inl (cI, 15, .inl (fun _ => 0)), .inl (cI, 15, .inl (fun _ => 0)), .inl (cI, 195, .inl (fun _ => 0)), .inl (cI, 195, .inl (fun _ => 0))] st.heap _ _ := hw
  refine lv_aload_n Z.1 Z.2.1 md_Mod_init_126 rfl (lv_at hl 0 rfl) ?_
  refine lv_iconst (v := nI 3) Z.1 Z.2.1 md_Mod_init_127 (by decide) ?_
  refine xn_newa (atype := .int) (ty := .int) Z hw rfl (Or.inl rfl) mr_int 0 rfl (3) rfl (Nat.le_of_ble_eq_true rfl) 16 899 (Nat.le_of_ble_eq_true rfl) (Nat.le_of_ble_eq_true rfl) (Nat.le_of_ble_eq_true rfl) (Nat.le_of_ble_eq_true rfl) (a + 16) rfl md_Mod_init_128 (fun H hw => ?_)
  have hw : xn_H D tb_cl a [.inr (8, [.int 0, .int 0, .int 0, .ref (a + 1), .int 0, .int 0, .ref (a + 2), .ref (a + 3), .ref (a + 4), .ref (a + 5), .ref (a + 6), .ref (a + 7), .ref (a + 8), .ref (a + 9), .ref (a + 10), .ref (a + 11), .ref (a + 12), .ref (a + 13), .ref (a + 14), .ref (a + 15), .null, .null, .null, .null, .null, .null, .null]), .inl (cZ, 11, .inl (fun _ => 0)), .inl (cI, 60, .inl (fun _ => 0)), .inl (cI, 60, .inl (fun _ => 0)), .inl (cI, 60, .inl (fun _ => 0)), .inl (cI, 60, .inl (fun _ => 0)), .inl (cI, 60, .inl (fun _ => 0)), .inl (cI, 60, .inl (fun _ => 0)), .inl (cI, 60, .inl (fun _ => 0)), .inl (cI, 15, .inl (fun _ => 0)), .inl (cI, 15, .inl (fun _ => 0)), .inl (cI, 15, .inl (fun _ => 0)), .inl (cI, 15, .inl (fun _ => 0)), .inl (cI, 15, .inl (fun _ => 0)), .inl (cI, 195, .inl (fun _ => 0)), .inl (cI, 195, .inl (fun _ => 0)), .inl (cI, 3, .inl (fun _ => 0))] st.heap _ _ := hw
  refine xn_put Z hin hw 0 rfl rfl tb_iMod tb_tMod tb_yMod tb_nMod 20 (by decide) mk_Mod_56 rfl rfl rfl rfl (Nat.le_of_ble_eq_true rfl) rfl md_Mod_init_130 (fun H locs hw => ?_)
  have hw : xn_H D tb_cl a [.inr (8, [.int 0, .int 0, .int 0, .ref (a + 1), .int 0, .int 0, .ref (a + 2), .ref (a + 3), .ref (a + 4), .ref (a + 5), .ref (a + 6), .ref (a + 7), .ref (a + 8), .ref (a + 9), .ref (a + 10), .ref (a + 11), .ref (a + 12), .ref (a + 13), .ref (a + 14), .ref (a + 15), .ref (a + 16), .null, .null, .null, .null, .null, .null]), .inl (cZ, 11, .inl (fun _ => 0)), .inl (cI, 60, .inl (fun _ => 0)), .inl (cI, 60, .inl (fun _ => 0)), .inl (cI, 60, .inl (fun _ => 0)), .inl (cI, 60, .inl (fun _ => 0)), .inl (cI, 60, .inl (fun _ => 0)), .inl (cI, 60, .inl (fun _ => 0)), .inl (cI, 60, .inl (fun _ => 0)), .inl (cI, 15, .inl (fun _ => 0)), .inl (cI, 15, .inl (fun _ => 0)), .inl (cI, 15, .inl (fun _ => 0)), .inl (cI, 15, .inl (fun _ => 0)), .inl (cI, 15, .inl (fun _ => 0)), .inl (cI, 195, .inl (fun _ => 0)), .inl (cI, 195, .inl (fun _ => 0)), .inl (cI, 3, .inl (fun _ => 0))] st.heap _ _ := hw
  refine lv_aload_n Z.1 Z.2.1 md_Mod_init_133 rfl (lv_at hl 0 rfl) ?_
  refine lv_bipush (v := nI 6) Z.1 Z.2.1 md_Mod_init_134 (by decide) ?_
  refine xn_newa (atype := .int) (ty := .int) Z hw rfl (Or.inl rfl) mr_int 0 rfl (6) rfl (Nat.le_of_ble_eq_true rfl) 17 905 (Nat.le_of_ble_eq_true rfl) (Nat.le_of_ble_eq_true rfl) (Nat.le_of_ble_eq_true rfl) (Nat.le_of_ble_eq_true rfl) (a + 17) rfl md_Mod_init_136 (fun H hw => ?_)
  have hw : xn_H D tb_cl a [.inr (8, [.int 0, .int 0, .int 0, .ref (a + 1), .int 0, .int 0, .ref (a + 2), .ref (a + 3), .ref (a + 4), .ref (a + 5), .ref (a + 6), .ref (a + 7), .ref (a + 8), .ref (a + 9), .ref (a + 10), .ref (a + 11), .ref (a + 12), .ref (a + 13), .ref (a + 14), .ref (a + 15), .ref (a + 16), .null, .null, .null, .null, .null, .null]), .inl (cZ, 11, .inl (fun _ => 0)), .inl (cI, 60, .inl (fun _ => 0)), .inl (cI, 60, .inl (fun _ => 0)), .inl (cI, 60, .inl (fun _ => 0)), .inl (cI, 60, .inl (fun _ => 0)), .inl (cI, 60, .inl (fun _ => 0)), .inl (cI, 60, .inl (fun _ => 0)), .inl (cI, 60, .inl (fun _ => 0)), .inl (cI, 15, .inl (fun _ => 0)), .inl (cI, 15, .inl (fun _ => 0)), .inl (cI, 15, .inl (fun _ => 0)), .inl (cI, 15, .inl (fun _ => 0)), .inl (cI, 15, .inl (fun _ => 0)), .inl (cI, 195, .inl (fun _ => 0)), .inl (cI, 195, .inl (fun _ => 0)), .inl (cI, 3, .inl (fun _ => 0)), .inl (cI, 6, .inl (fun _ => 0))] st.heap _ _ := hw
  refine xn_put Z hin hw 0 rfl rfl tb_iMod tb_tMod tb_yMod tb_nMod 21 (by decide) mk_Mod_59 rfl rfl rfl rfl (Nat.le_of_ble_eq_true rfl) rfl md_Mod_init_138 (fun H locs hw => ?_)
  have hw : xn_H D tb_cl a [.inr (8, [.int 0, .int 0, .int 0, .ref (a + 1), .int 0, .int 0, .ref (a + 2), .ref (a + 3), .ref (a + 4), .ref (a + 5), .ref (a + 6), .ref (a + 7), .ref (a + 8), .ref (a + 9), .ref (a + 10), .ref (a + 11), .ref (a + 12), .ref (a + 13), .ref (a + 14), .ref (a + 15), .ref (a + 16), .ref (a + 17), .null, .null, .null, .null, .null]), .inl (cZ, 11, .inl (fun _ => 0)), .inl (cI, 60, .inl (fun _ => 0)), .inl (cI, 60, .inl (fun _ => 0)), .inl (cI, 60, .inl (fun _ => 0)), .inl (cI, 60, .inl (fun _ => 0)), .inl (cI, 60, .inl (fun _ => 0)), .inl (cI, 60, .inl (fun _ => 0)), .inl (cI, 60, .inl (fun _ => 0)), .inl (cI, 15, .inl (fun _ => 0)), .inl (cI, 15, .inl (fun _ => 0)), .inl (cI, 15, .inl (fun _ => 0)), .inl (cI, 15, .inl (fun _ => 0)), .inl (cI, 15, .inl (fun _ => 0)), .inl (cI, 195, .inl (fun _ => 0)), .inl (cI, 195, .inl (fun _ => 0)), .inl (cI, 3, .inl (fun _ => 0)), .inl (cI, 6, .inl (fun _ => 0))] st.heap _ _ := hw
  refine lv_aload_n Z.1 Z.2.1 md_Mod_init_141 rfl (lv_at hl 0 rfl) ?_
  refine lv_bipush (v := nI 6) Z.1 Z.2.1 md_Mod_init_142 (by decide) ?_
  refine xn_newa (atype := .int) (ty := .int) Z hw rfl (Or.inl rfl) mr_int 0 rfl (6) rfl (Nat.le_of_ble_eq_true rfl) 18 911 (Nat.le_of_ble_eq_true rfl) (Nat.le_of_ble_eq_true rfl) (Nat.le_of_ble_eq_true rfl) (Nat.le_of_ble_eq_true rfl) (a + 18) rfl md_Mod_init_144 (fun H hw => ?_)
  have hw : xn_H D tb_cl a [.inr (8, [.int 0, .int 0, .int 0, .ref (a + 1), .int 0, .int 0, .ref (a + 2), .ref (a + 3), .ref (a + 4), .ref (a + 5), .ref (a + 6), .ref (a + 7), .ref (a + 8), .ref (a + 9), .ref (a + 10), .ref (a + 11), .ref (a + 12), .ref (a + 13), .ref (a + 14), .ref (a + 15), .ref (a + 16), .ref (a + 17), .null, .null, .null, .null, .null]), .inl (cZ, 11, .inl (fun _ => 0)), .inl (cI, 60, .inl (fun _ => 0)), .inl (cI, 60, .inl (fun _ => 0)), .inl (cI, 60, .inl (fun _ => 0)), .inl (cI, 60, .inl (fun _ => 0)), .inl (cI, 60, .inl (fun _ => 0)), .inl (cI, 60, .inl (fun _ => 0)), .inl (cI, 60, .inl (fun _ => 0)), .inl (cI, 15, .inl (fun _ => 0)), .inl (cI, 15, .inl (fun _ => 0)), .inl (cI, 15, .inl (fun _ => 0)), .inl (cI, 15, .inl (fun _ => 0)), .inl (cI, 15, .inl (fun _ => 0)), .inl (cI, 195, .inl (fun _ => 0)), .inl (cI, 195, .inl (fun _ => 0)), .inl (cI, 3, .inl (fun _ => 0)), .inl (cI, 6, .inl (fun _ => 0)), .inl (cI, 6, .inl (fun _ => 0))] st.heap _ _ := hw
  refine xn_put Z hin hw 0 rfl rfl tb_iMod tb_tMod tb_yMod tb_nMod 22 (by decide) mk_Mod_62 rfl rfl rfl rfl (Nat.le_of_ble_eq_true rfl) rfl md_Mod_init_146 (fun H locs hw => ?_)
  have hw : xn_H D tb_cl a [.inr (8, [.int 0, .int 0, .int 0, .ref (a + 1), .int 0, .int 0, .ref (a + 2), .ref (a + 3), .ref (a + 4), .ref (a + 5), .ref (a + 6), .ref (a + 7), .ref (a + 8), .ref (a + 9), .ref (a + 10), .ref (a + 11), .ref (a + 12), .ref (a + 13), .ref (a + 14), .ref (a + 15), .ref (a + 16), .ref (a + 17), .ref (a + 18), .null, .null, .null, .null]), .inl (cZ, 11, .inl (fun _ => 0)), .inl (cI, 60, .inl (fun _ => 0)), .inl (cI, 60, .inl (fun _ => 0)), .inl (cI, 60, .inl (fun _ => 0)), .inl (cI, 60, .inl (fun _ => 0)), .inl (cI, 60, .inl (fun _ => 0)), .inl (cI, 60, .inl (fun _ => 0)), .inl (cI, 60, .inl (fun _ => 0)), .inl (cI, 15, .inl (fun _ => 0)), .inl (cI, 15, .inl (fun _ => 0)), .inl (cI, 15, .inl (fun _ => 0)), .inl (cI, 15, .inl (fun _ => 0)), .inl (cI, 15, .inl (fun _ => 0)), .inl (cI, 195, .inl (fun _ => 0)), .inl (cI, 195, .inl (fun _ => 0)), .inl (cI, 3, .inl (fun _ => 0)), .inl (cI, 6, .inl (fun _ => 0)), .inl (cI, 6, .inl (fun _ => 0))] st.heap _ _ := hw
  refine lv_aload_n Z.1 Z.2.1 md_Mod_init_149 rfl (lv_at hl 0 rfl) ?_
  refine lv_bipush (v := nI 6) Z.1 Z.2.1 md_Mod_init_150 (by decide) ?_
  refine xn_newa (atype := .int) (ty := .int) Z hw rfl (Or.inl rfl) mr_int 0 rfl (6) rfl (Nat.le_of_ble_eq_true rfl) 19 917 (Nat.le_of_ble_eq_true rfl) (Nat.le_of_ble_eq_true rfl) (Nat.le_of_ble_eq_true rfl) (Nat.le_of_ble_eq_true rfl) (a + 19) rfl md_Mod_init_152 (fun H hw => ?_)
  have hw : xn_H D tb_cl a [.inr (8, [.int 0, .int 0, .int 0, .ref (a + 1), .int 0, .int 0, .ref (a + 2), .ref (a + 3), .ref (a + 4), .ref (a + 5), .ref (a + 6), .ref (a + 7), .ref (a + 8), .ref (a + 9), .ref (a + 10), .ref (a + 11), .ref (a + 12), .ref (a + 13), .ref (a + 14), .ref (a + 15), .ref (a + 16), .ref (a + 17), .ref (a + 18), .null, .null, .null, .null]), .inl (cZ, 11, .inl (fun _ => 0)), .inl (cI, 60, .inl (fun _ => 0)), .inl (cI, 60, .inl (fun _ => 0)), .inl (cI, 60, .inl (fun _ => 0)), .inl (cI, 60, .inl (fun _ => 0)), .inl (cI, 60, .inl (fun _ => 0)), .inl (cI, 60, .inl (fun _ => 0)), .inl (cI, 60, .inl (fun _ => 0)), .inl (cI, 15, .inl (fun _ => 0)), .inl (cI, 15, .inl (fun _ => 0)), .inl (cI, 15, .inl (fun _ => 0)), .inl (cI, 15, .inl (fun _ => 0)), .inl (cI, 15, .inl (fun _ => 0)), .inl (cI, 195, .inl (fun _ => 0)), .inl (cI, 195, .inl (fun _ => 0)), .inl (cI, 3, .inl (fun _ => 0)), .inl (cI, 6, .inl (fun _ => 0)), .inl (cI, 6, .inl (fun _ => 0)), .inl (cI, 6, .inl (fun _ => 0))] st.heap _ _ := hw
  refine xn_put Z hin hw 0 rfl rfl tb_iMod tb_tMod tb_yMod tb_nMod 23 (by decide) mk_Mod_65 rfl rfl rfl rfl (Nat.le_of_ble_eq_true rfl) rfl md_Mod_init_154 (fun H locs hw => ?_)
  have hw : xn_H D tb_cl a [.inr (8, [.int 0, .int 0, .int 0, .ref (a + 1), .int 0, .int 0, .ref (a + 2), .ref (a + 3), .ref (a + 4), .ref (a + 5), .ref (a + 6), .ref (a + 7), .ref (a + 8), .ref (a + 9), .ref (a + 10), .ref (a + 11), .ref (a + 12), .ref (a + 13), .ref (a + 14), .ref (a + 15), .ref (a + 16), .ref (a + 17), .ref (a + 18), .ref (a + 19), .null, .null, .null]), .inl (cZ, 11, .inl (fun _ => 0)), .inl (cI, 60, .inl (fun _ => 0)), .inl (cI, 60, .inl (fun _ => 0)), .inl (cI, 60, .inl (fun _ => 0)), .inl (cI, 60, .inl (fun _ => 0)), .inl (cI, 60, .inl (fun _ => 0)), .inl (cI, 60, .inl (fun _ => 0)), .inl (cI, 60, .inl (fun _ => 0)), .inl (cI, 15, .inl (fun _ => 0)), .inl (cI, 15, .inl (fun _ => 0)), .inl (cI, 15, .inl (fun _ => 0)), .inl (cI, 15, .inl (fun _ => 0)), .inl (cI, 15, .inl (fun _ => 0)), .inl (cI, 195, .inl (fun _ => 0)), .inl (cI, 195, .inl (fun _ => 0)), .inl (cI, 3, .inl (fun _ => 0)), .inl (cI, 6, .inl (fun _ => 0)), .inl (cI, 6, .inl (fun _ => 0)), .inl (cI, 6, .inl (fun _ => 0))] st.heap _ _ := hw
  refine lv_aload_n Z.1 Z.2.1 md_Mod_init_157 rfl (lv_at hl 0 rfl) ?_
  refine lv_bipush (v := nI 30) Z.1 Z.2.1 md_Mod_init_158 (by decide) ?_
  refine xn_newa (atype := .boolean) (ty := .boolean) Z hw rfl (Or.inr rfl) mr_boolean 1 rfl (30) rfl (Nat.le_of_ble_eq_true rfl) 20 947 (Nat.le_of_ble_eq_true rfl) (Nat.le_of_ble_eq_true rfl) (Nat.le_of_ble_eq_true rfl) (Nat.le_of_ble_eq_true rfl) (a + 20) rfl md_Mod_init_160 (fun H hw => ?_)
  have hw : xn_H D tb_cl a [.inr (8, [.int 0, .int 0, .int 0, .ref (a + 1), .int 0, .int 0, .ref (a + 2), .ref (a + 3), .ref (a + 4), .ref (a + 5), .ref (a + 6), .ref (a + 7), .ref (a + 8), .ref (a + 9), .ref (a + 10), .ref (a + 11), .ref (a + 12), .ref (a + 13), .ref (a + 14), .ref (a + 15), .ref (a + 16), .ref (a + 17), .ref (a + 18), .ref (a + 19), .null, .null, .null]), .inl (cZ, 11, .inl (fun _ => 0)), .inl (cI, 60, .inl (fun _ => 0)), .inl (cI, 60, .inl (fun _ => 0)), .inl (cI, 60, .inl (fun _ => 0)), .inl (cI, 60, .inl (fun _ => 0)), .inl (cI, 60, .inl (fun _ => 0)), .inl (cI, 60, .inl (fun _ => 0)), .inl (cI, 60, .inl (fun _ => 0)), .inl (cI, 15, .inl (fun _ => 0)), .inl (cI, 15, .inl (fun _ => 0)), .inl (cI, 15, .inl (fun _ => 0)), .inl (cI, 15, .inl (fun _ => 0)), .inl (cI, 15, .inl (fun _ => 0)), .inl (cI, 195, .inl (fun _ => 0)), .inl (cI, 195, .inl (fun _ => 0)), .inl (cI, 3, .inl (fun _ => 0)), .inl (cI, 6, .inl (fun _ => 0)), .inl (cI, 6, .inl (fun _ => 0)), .inl (cI, 6, .inl (fun _ => 0)), .inl (cZ, 30, .inl (fun _ => 0))] st.heap _ _ := hw
  refine xn_put Z hin hw 0 rfl rfl tb_iMod tb_tMod tb_yMod tb_nMod 24 (by decide) mk_Mod_68 rfl rfl rfl rfl (Nat.le_of_ble_eq_true rfl) rfl md_Mod_init_162 (fun H locs hw => ?_)
  have hw : xn_H D tb_cl a [.inr (8, [.int 0, .int 0, .int 0, .ref (a + 1), .int 0, .int 0, .ref (a + 2), .ref (a + 3), .ref (a + 4), .ref (a + 5), .ref (a + 6), .ref (a + 7), .ref (a + 8), .ref (a + 9), .ref (a + 10), .ref (a + 11), .ref (a + 12), .ref (a + 13), .ref (a + 14), .ref (a + 15), .ref (a + 16), .ref (a + 17), .ref (a + 18), .ref (a + 19), .ref (a + 20), .null, .null]), .inl (cZ, 11, .inl (fun _ => 0)), .inl (cI, 60, .inl (fun _ => 0)), .inl (cI, 60, .inl (fun _ => 0)), .inl (cI, 60, .inl (fun _ => 0)), .inl (cI, 60, .inl (fun _ => 0)), .inl (cI, 60, .inl (fun _ => 0)), .inl (cI, 60, .inl (fun _ => 0)), .inl (cI, 60, .inl (fun _ => 0)), .inl (cI, 15, .inl (fun _ => 0)), .inl (cI, 15, .inl (fun _ => 0)), .inl (cI, 15, .inl (fun _ => 0)), .inl (cI, 15, .inl (fun _ => 0)), .inl (cI, 15, .inl (fun _ => 0)), .inl (cI, 195, .inl (fun _ => 0)), .inl (cI, 195, .inl (fun _ => 0)), .inl (cI, 3, .inl (fun _ => 0)), .inl (cI, 6, .inl (fun _ => 0)), .inl (cI, 6, .inl (fun _ => 0)), .inl (cI, 6, .inl (fun _ => 0)), .inl (cZ, 30, .inl (fun _ => 0))] st.heap _ _ := hw
  refine lv_aload_n Z.1 Z.2.1 md_Mod_init_165 rfl (lv_at hl 0 rfl) ?_
  refine lv_bipush (v := nI 30) Z.1 Z.2.1 md_Mod_init_166 (by decide) ?_
  refine xn_newa (atype := .int) (ty := .int) Z hw rfl (Or.inl rfl) mr_int 0 rfl (30) rfl (Nat.le_of_ble_eq_true rfl) 21 977 (Nat.le_of_ble_eq_true rfl) (Nat.le_of_ble_eq_true rfl) (Nat.le_of_ble_eq_true rfl) (Nat.le_of_ble_eq_true rfl) (a + 21) rfl md_Mod_init_168 (fun H hw => ?_)
  have hw : xn_H D tb_cl a [.inr (8, [.int 0, .int 0, .int 0, .ref (a + 1), .int 0, .int 0, .ref (a + 2), .ref (a + 3), .ref (a + 4), .ref (a + 5), .ref (a + 6), .ref (a + 7), .ref (a + 8), .ref (a + 9), .ref (a + 10), .ref (a + 11), .ref (a + 12), .ref (a + 13), .ref (a + 14), .ref (a + 15), .ref (a + 16), .ref (a + 17), .ref (a + 18), .ref (a + 19), .ref (a + 20), .null, .null]), .inl (cZ, 11, .inl (fun _ => 0)), .inl (cI, 60, .inl (fun _ => 0)), .inl (cI, 60, .inl (fun _ => 0)), .inl (cI, 60, .inl (fun _ => 0)), .inl (cI, 60, .inl (fun _ => 0)), .inl (cI, 60, .inl (fun _ => 0)), .inl (cI, 60, .inl (fun _ => 0)), .inl (cI, 60, .inl (fun _ => 0)), .inl (cI, 15, .inl (fun _ => 0)), .inl (cI, 15, .inl (fun _ => 0)), .inl (cI, 15, .inl (fun _ => 0)), .inl (cI, 15, .inl (fun _ => 0)), .inl (cI, 15, .inl (fun _ => 0)), .inl (cI, 195, .inl (fun _ => 0)), .inl (cI, 195, .inl (fun _ => 0)), .inl (cI, 3, .inl (fun _ => 0)), .inl (cI, 6, .inl (fun _ => 0)), .inl (cI, 6, .inl (fun _ => 0)), .inl (cI, 6, .inl (fun _ => 0)), .inl (cZ, 30, .inl (fun _ => 0)), .inl (cI, 30, .inl (fun _ => 0))] st.heap _ _ := hw
  refine xn_put Z hin hw 0 rfl rfl tb_iMod tb_tMod tb_yMod tb_nMod 25 (by decide) mk_Mod_71 rfl rfl rfl rfl (Nat.le_of_ble_eq_true rfl) rfl md_Mod_init_170 (fun H locs hw => ?_)
  have hw : xn_H D tb_cl a [.inr (8, [.int 0, .int 0, .int 0, .ref (a + 1), .int 0, .int 0, .ref (a + 2), .ref (a + 3), .ref (a + 4), .ref (a + 5), .ref (a + 6), .ref (a + 7), .ref (a + 8), .ref (a + 9), .ref (a + 10), .ref (a + 11), .ref (a + 12), .ref (a + 13), .ref (a + 14), .ref (a + 15), .ref (a + 16), .ref (a + 17), .ref (a + 18), .ref (a + 19), .ref (a + 20), .ref (a + 21), .null]), .inl (cZ, 11, .inl (fun _ => 0)), .inl (cI, 60, .inl (fun _ => 0)), .inl (cI, 60, .inl (fun _ => 0)), .inl (cI, 60, .inl (fun _ => 0)), .inl (cI, 60, .inl (fun _ => 0)), .inl (cI, 60, .inl (fun _ => 0)), .inl (cI, 60, .inl (fun _ => 0)), .inl (cI, 60, .inl (fun _ => 0)), .inl (cI, 15, .inl (fun _ => 0)), .inl (cI, 15, .inl (fun _ => 0)), .inl (cI, 15, .inl (fun _ => 0)), .inl (cI, 15, .inl (fun _ => 0)), .inl (cI, 15, .inl (fun _ => 0)), .inl (cI, 195, .inl (fun _ => 0)), .inl (cI, 195, .inl (fun _ => 0)), .inl (cI, 3, .inl (fun _ => 0)), .inl (cI, 6, .inl (fun _ => 0)), .inl (cI, 6, .inl (fun _ => 0)), .inl (cI, 6, .inl (fun _ => 0)), .inl (cZ, 30, .inl (fun _ => 0)), .inl (cI, 30, .inl (fun _ => 0))] st.heap _ _ := hw
  refine lv_aload_n Z.1 Z.2.1 md_Mod_init_173 rfl (lv_at hl 0 rfl) ?_
  refine lv_bipush (v := nI 30) Z.1 Z.2.1 md_Mod_init_174 (by decide) ?_
  refine xn_newa (atype := .int) (ty := .int) Z hw rfl (Or.inl rfl) mr_int 0 rfl (30) rfl (Nat.le_of_ble_eq_true rfl) 22 1007 (Nat.le_of_ble_eq_true rfl) (Nat.le_of_ble_eq_true rfl) (Nat.le_of_ble_eq_true rfl) (Nat.le_of_ble_eq_true rfl) (a + 22) rfl md_Mod_init_176 (fun H hw => ?_)
  have hw : xn_H D tb_cl a [.inr (8, [.int 0, .int 0, .int 0, .ref (a + 1), .int 0, .int 0, .ref (a + 2), .ref (a + 3), .ref (a + 4), .ref (a + 5), .ref (a + 6), .ref (a + 7), .ref (a + 8), .ref (a + 9), .ref (a + 10), .ref (a + 11), .ref (a + 12), .ref (a + 13), .ref (a + 14), .ref (a + 15), .ref (a + 16), .ref (a + 17), .ref (a + 18), .ref (a + 19), .ref (a + 20), .ref (a + 21), .null]), .inl (cZ, 11, .inl (fun _ => 0)), .inl (cI, 60, .inl (fun _ => 0)), .inl (cI, 60, .inl (fun _ => 0)), .inl (cI, 60, .inl (fun _ => 0)), .inl (cI, 60, .inl (fun _ => 0)), .inl (cI, 60, .inl (fun _ => 0)), .inl (cI, 60, .inl (fun _ => 0)), .inl (cI, 60, .inl (fun _ => 0)), .inl (cI, 15, .inl (fun _ => 0)), .inl (cI, 15, .inl (fun _ => 0)), .inl (cI, 15, .inl (fun _ => 0)), .inl (cI, 15, .inl (fun _ => 0)), .inl (cI, 15, .inl (fun _ => 0)), .inl (cI, 195, .inl (fun _ => 0)), .inl (cI, 195, .inl (fun _ => 0)), .inl (cI, 3, .inl (fun _ => 0)), .inl (cI, 6, .inl (fun _ => 0)), .inl (cI, 6, .inl (fun _ => 0)), .inl (cI, 6, .inl (fun _ => 0)), .inl (cZ, 30, .inl (fun _ => 0)), .inl (cI, 30, .inl (fun _ => 0)), .inl (cI, 30, .inl (fun _ => 0))] st.heap _ _ := hw
  refine xn_put Z hin hw 0 rfl rfl tb_iMod tb_tMod tb_yMod tb_nMod 26 (by decide) mk_Mod_74 rfl rfl rfl rfl (Nat.le_of_ble_eq_true rfl) rfl md_Mod_init_178 (fun H locs hw => ?_)
  have hw : xn_H D tb_cl a [.inr (8, [.int 0, .int 0, .int 0, .ref (a + 1), .int 0, .int 0, .ref (a + 2), .ref (a + 3), .ref (a + 4), .ref (a + 5), .ref (a + 6), .ref (a + 7), .ref (a + 8), .ref (a + 9), .ref (a + 10), .ref (a + 11), .ref (a + 12), .ref (a + 13), .ref (a + 14), .ref (a + 15), .ref (a + 16), .ref (a + 17), .ref (a + 18), .ref (a + 19), .ref (a + 20), .ref (a + 21), .ref (a + 22)]), .inl (cZ, 11, .inl (fun _ => 0)), .inl (cI, 60, .inl (fun _ => 0)), .inl (cI, 60, .inl (fun _ => 0)), .inl (cI, 60, .inl (fun _ => 0)), .inl (cI, 60, .inl (fun _ => 0)), .inl (cI, 60, .inl (fun _ => 0)), .inl (cI, 60, .inl (fun _ => 0)), .inl (cI, 60, .inl (fun _ => 0)), .inl (cI, 15, .inl (fun _ => 0)), .inl (cI, 15, .inl (fun _ => 0)), .inl (cI, 15, .inl (fun _ => 0)), .inl (cI, 15, .inl (fun _ => 0)), .inl (cI, 15, .inl (fun _ => 0)), .inl (cI, 195, .inl (fun _ => 0)), .inl (cI, 195, .inl (fun _ => 0)), .inl (cI, 3, .inl (fun _ => 0)), .inl (cI, 6, .inl (fun _ => 0)), .inl (cI, 6, .inl (fun _ => 0)), .inl (cI, 6, .inl (fun _ => 0)), .inl (cZ, 30, .inl (fun _ => 0)), .inl (cI, 30, .inl (fun _ => 0)), .inl (cI, 30, .inl (fun _ => 0))] st.heap _ _ := hw
  refine lv_aload_n Z.1 Z.2.1 md_Mod_init_181 rfl (lv_at hl 0 rfl) ?_
  refine lv_iload_n Z.1 Z.2.1 md_Mod_init_182 rfl (lv_at hl 1 rfl) ?_
  refine lv_iconst (v := nI 3) Z.1 Z.2.1 md_Mod_init_183 (by decide) ?_
  have k201 : W p l e { frames := 1, cells := 22, slots := 1007, locals := 12 } st m ([.ref a, .int x, .int y, .int z] : List Value).toArray below meth cd0 H locs 22 1007 (MQ below (xn_Qc D tb_cl a (xe_Mod cI cZ n q f a)) ([.ref a, .int x, .int y, .int z] : List Value).toArray st 22 1007 (fun q => a ≤ q)) (F0 m 201 ls [.int (nI n), .ref a]) := by
    refine xn_put Z hin hw 0 rfl rfl tb_iMod tb_tMod tb_yMod tb_nMod 0 (by decide) mk_Mod_77 rfl rfl rfl rfl (Nat.le_of_ble_eq_true rfl) rfl md_Mod_init_201 (fun H locs hw => ?_)
    have hw : xn_H D tb_cl a [.inr (8, [.int (nI (n)), .int 0, .int 0, .ref (a + 1), .int 0, .int 0, .ref (a + 2), .ref (a + 3), .ref (a + 4), .ref (a + 5), .ref (a + 6), .ref (a + 7), .ref (a + 8), .ref (a + 9), .ref (a + 10), .ref (a + 11), .ref (a + 12), .ref (a + 13), .ref (a + 14), .ref (a + 15), .ref (a + 16), .ref (a + 17), .ref (a + 18), .ref (a + 19), .ref (a + 20), .ref (a + 21), .ref (a + 22)]), .inl (cZ, 11, .inl (fun _ => 0)), .inl (cI, 60, .inl (fun _ => 0)), .inl (cI, 60, .inl (fun _ => 0)), .inl (cI, 60, .inl (fun _ => 0)), .inl (cI, 60, .inl (fun _ => 0)), .inl (cI, 60, .inl (fun _ => 0)), .inl (cI, 60, .inl (fun _ => 0)), .inl (cI, 60, .inl (fun _ => 0)), .inl (cI, 15, .inl (fun _ => 0)), .inl (cI, 15, .inl (fun _ => 0)), .inl (cI, 15, .inl (fun _ => 0)), .inl (cI, 15, .inl (fun _ => 0)), .inl (cI, 15, .inl (fun _ => 0)), .inl (cI, 195, .inl (fun _ => 0)), .inl (cI, 195, .inl (fun _ => 0)), .inl (cI, 3, .inl (fun _ => 0)), .inl (cI, 6, .inl (fun _ => 0)), .inl (cI, 6, .inl (fun _ => 0)), .inl (cI, 6, .inl (fun _ => 0)), .inl (cZ, 30, .inl (fun _ => 0)), .inl (cI, 30, .inl (fun _ => 0)), .inl (cI, 30, .inl (fun _ => 0))] st.heap _ _ := hw
    rcases hq with ⟨rfl, rfl, hQ⟩ | ⟨ho | ⟨q1, f1, rfl, rfl, hb⟩, rfl, rfl⟩
    · have hQ1 := hQ; unfold pz_Q at hQ1
      refine lv_iload_n Z.1 Z.2.1 md_Mod_init_204 rfl (lv_at hl 2 rfl) ?_
      refine lv_iconst (v := nI 1) Z.1 Z.2.1 md_Mod_init_205 (by decide) ?_
      refine xi_icmp_lt (tgt := 258) Z md_Mod_init_206 (by decide) (by omega) (by omega) (fun h206 => by exfalso; omega) (fun h206 => ?_)
      refine lv_iload_n Z.1 Z.2.1 md_Mod_init_209 rfl (lv_at hl 2 rfl) ?_
      refine lv_aload_n Z.1 Z.2.1 md_Mod_init_210 rfl (lv_at hl 0 rfl) ?_
      refine xn_get (v := .int (nI (n))) Z (xn_at hw (j := 0) rfl rfl) rfl tb_iMod 0 (by decide) mk_Mod_77 rfl rfl md_Mod_init_211 ?_
      refine xi_icmp_gt (tgt := 258) Z md_Mod_init_214 (by decide) (by omega) (by omega) (fun h214 => by exfalso; omega) (fun h214 => ?_)
      refine lv_iload_n Z.1 Z.2.1 md_Mod_init_217 rfl (lv_at hl 3 rfl) ?_
      refine lv_iconst (v := nI 1) Z.1 Z.2.1 md_Mod_init_218 (by decide) ?_
      refine xi_icmp_lt (tgt := 258) Z md_Mod_init_219 (by decide) (by omega) (by omega) (fun h219 => by exfalso; omega) (fun h219 => ?_)
      refine lv_iload_n Z.1 Z.2.1 md_Mod_init_222 rfl (lv_at hl 3 rfl) ?_
      refine lv_aload_n Z.1 Z.2.1 md_Mod_init_223 rfl (lv_at hl 0 rfl) ?_
      refine xn_get (v := .int (nI (n))) Z (xn_at hw (j := 0) rfl rfl) rfl tb_iMod 0 (by decide) mk_Mod_77 rfl rfl md_Mod_init_224 ?_
      refine xi_icmp_gt (tgt := 258) Z md_Mod_init_227 (by decide) (by omega) (by omega) (fun h227 => by exfalso; omega) (fun h227 => ?_)
      refine lv_iconst (v := nI 2) Z.1 Z.2.1 md_Mod_init_230 (by decide) ?_
      refine lv_iload_n Z.1 Z.2.1 md_Mod_init_231 rfl (lv_at hl 2 rfl) ?_
      refine xi_mul Z md_Mod_init_232 ?_
      refine lv_aload_n Z.1 Z.2.1 md_Mod_init_233 rfl (lv_at hl 0 rfl) ?_
      refine xn_get (v := .int (nI (n))) Z (xn_at hw (j := 0) rfl rfl) rfl tb_iMod 0 (by decide) mk_Mod_77 rfl rfl md_Mod_init_234 ?_
      refine xi_icmp_le (tgt := 258) Z md_Mod_init_237 (by decide) (by omega) (by omega) (fun h237 => by exfalso; omega) (fun h237 => ?_)
      refine lv_iload_n Z.1 Z.2.1 md_Mod_init_240 rfl (lv_at hl 2 rfl) ?_
      refine lv_iconst (v := nI 2) Z.1 Z.2.1 md_Mod_init_241 (by decide) ?_
      refine lv_iload_n Z.1 Z.2.1 md_Mod_init_242 rfl (lv_at hl 3 rfl) ?_
      refine xi_mul Z md_Mod_init_243 ?_
      refine xi_add Z md_Mod_init_244 ?_
      refine lv_iconst (v := nI 2) Z.1 Z.2.1 md_Mod_init_245 (by decide) ?_
      refine lv_aload_n Z.1 Z.2.1 md_Mod_init_246 rfl (lv_at hl 0 rfl) ?_
      refine xn_get (v := .int (nI (n))) Z (xn_at hw (j := 0) rfl rfl) rfl tb_iMod 0 (by decide) mk_Mod_77 rfl rfl md_Mod_init_247 ?_
      refine xi_mul Z md_Mod_init_250 ?_
      refine xi_icmp_le (tgt := 258) Z md_Mod_init_251 (by decide) (by omega) (by omega) (fun h251 => by exfalso; omega) (fun h251 => ?_)
      refine lv_iconst (v := nI 1) Z.1 Z.2.1 md_Mod_init_254 (by decide) ?_
      refine lv_goto (tgt := 259) Z.1 Z.2.1 md_Mod_init_255 (by decide) ?_
      refine lv_istore Z.1 Z.2.1 md_Mod_init_259 hl (by decide) rfl (fun ls hl => ?_)
      have hl : lv_has ls 5 [(4, .int (nI (1))), (0, .ref (a)), (1, .int (x)), (2, .int (nI (q))), (3, .int (nI (f)))] := hl
      refine lv_aload_n Z.1 Z.2.1 md_Mod_init_261 rfl (lv_at hl 1 rfl) ?_
      refine lv_iload Z.1 Z.2.1 md_Mod_init_262 (lv_at hl 0 rfl) ?_
      refine xi_if_eq (tgt := 271) Z md_Mod_init_264 (by decide) (by omega) (fun h264 => by exfalso; omega) (fun h264 => ?_)
      refine lv_iload_n Z.1 Z.2.1 md_Mod_init_267 rfl (lv_at hl 3 rfl) ?_
      refine lv_goto (tgt := 279) Z.1 Z.2.1 md_Mod_init_268 (by decide) ?_
      refine xn_put Z hin hw 0 rfl rfl tb_iMod tb_tMod tb_yMod tb_nMod 1 (by decide) mk_Mod_81 rfl rfl rfl rfl (Nat.le_of_ble_eq_true rfl) rfl md_Mod_init_279 (fun H locs hw => ?_)
      have hw : xn_H D tb_cl a [.inr (8, [.int (nI (n)), .int (nI (q)), .int 0, .ref (a + 1), .int 0, .int 0, .ref (a + 2), .ref (a + 3), .ref (a + 4), .ref (a + 5), .ref (a + 6), .ref (a + 7), .ref (a + 8), .ref (a + 9), .ref (a + 10), .ref (a + 11), .ref (a + 12), .ref (a + 13), .ref (a + 14), .ref (a + 15), .ref (a + 16), .ref (a + 17), .ref (a + 18), .ref (a + 19), .ref (a + 20), .ref (a + 21), .ref (a + 22)]), .inl (cZ, 11, .inl (fun _ => 0)), .inl (cI, 60, .inl (fun _ => 0)), .inl (cI, 60, .inl (fun _ => 0)), .inl (cI, 60, .inl (fun _ => 0)), .inl (cI, 60, .inl (fun _ => 0)), .inl (cI, 60, .inl (fun _ => 0)), .inl (cI, 60, .inl (fun _ => 0)), .inl (cI, 60, .inl (fun _ => 0)), .inl (cI, 15, .inl (fun _ => 0)), .inl (cI, 15, .inl (fun _ => 0)), .inl (cI, 15, .inl (fun _ => 0)), .inl (cI, 15, .inl (fun _ => 0)), .inl (cI, 15, .inl (fun _ => 0)), .inl (cI, 195, .inl (fun _ => 0)), .inl (cI, 195, .inl (fun _ => 0)), .inl (cI, 3, .inl (fun _ => 0)), .inl (cI, 6, .inl (fun _ => 0)), .inl (cI, 6, .inl (fun _ => 0)), .inl (cI, 6, .inl (fun _ => 0)), .inl (cZ, 30, .inl (fun _ => 0)), .inl (cI, 30, .inl (fun _ => 0)), .inl (cI, 30, .inl (fun _ => 0))] st.heap _ _ := hw
      refine lv_aload_n Z.1 Z.2.1 md_Mod_init_282 rfl (lv_at hl 1 rfl) ?_
      refine lv_iload Z.1 Z.2.1 md_Mod_init_283 (lv_at hl 0 rfl) ?_
      refine xi_if_eq (tgt := 292) Z md_Mod_init_285 (by decide) (by omega) (fun h285 => by exfalso; omega) (fun h285 => ?_)
      refine lv_iload_n Z.1 Z.2.1 md_Mod_init_288 rfl (lv_at hl 4 rfl) ?_
      refine lv_goto (tgt := 302) Z.1 Z.2.1 md_Mod_init_289 (by decide) ?_
      refine xn_put Z hin hw 0 rfl rfl tb_iMod tb_tMod tb_yMod tb_nMod 2 (by decide) mk_Mod_84 rfl rfl rfl rfl (Nat.le_of_ble_eq_true rfl) rfl md_Mod_init_302 (fun H locs hw => ?_)
      have hw : xn_H D tb_cl a [.inr (8, [.int (nI (n)), .int (nI (q)), .int (nI (f)), .ref (a + 1), .int 0, .int 0, .ref (a + 2), .ref (a + 3), .ref (a + 4), .ref (a + 5), .ref (a + 6), .ref (a + 7), .ref (a + 8), .ref (a + 9), .ref (a + 10), .ref (a + 11), .ref (a + 12), .ref (a + 13), .ref (a + 14), .ref (a + 15), .ref (a + 16), .ref (a + 17), .ref (a + 18), .ref (a + 19), .ref (a + 20), .ref (a + 21), .ref (a + 22)]), .inl (cZ, 11, .inl (fun _ => 0)), .inl (cI, 60, .inl (fun _ => 0)), .inl (cI, 60, .inl (fun _ => 0)), .inl (cI, 60, .inl (fun _ => 0)), .inl (cI, 60, .inl (fun _ => 0)), .inl (cI, 60, .inl (fun _ => 0)), .inl (cI, 60, .inl (fun _ => 0)), .inl (cI, 60, .inl (fun _ => 0)), .inl (cI, 15, .inl (fun _ => 0)), .inl (cI, 15, .inl (fun _ => 0)), .inl (cI, 15, .inl (fun _ => 0)), .inl (cI, 15, .inl (fun _ => 0)), .inl (cI, 15, .inl (fun _ => 0)), .inl (cI, 195, .inl (fun _ => 0)), .inl (cI, 195, .inl (fun _ => 0)), .inl (cI, 3, .inl (fun _ => 0)), .inl (cI, 6, .inl (fun _ => 0)), .inl (cI, 6, .inl (fun _ => 0)), .inl (cI, 6, .inl (fun _ => 0)), .inl (cZ, 30, .inl (fun _ => 0)), .inl (cI, 30, .inl (fun _ => 0)), .inl (cI, 30, .inl (fun _ => 0))] st.heap _ _ := hw
      exact xn_ret Z hr hlk hw (Nat.le_of_ble_eq_true rfl) (Nat.le_of_ble_eq_true rfl) md_Mod_init_305
    · have ho1 := ho; unfold zq_o at ho1
      refine lv_iload_n Z.1 Z.2.1 md_Mod_init_204 rfl (lv_at hl 2 rfl) ?_
      refine lv_iconst (v := nI 1) Z.1 Z.2.1 md_Mod_init_205 (by decide) ?_
      refine lv_icmp_lt (tgt := 258) Z.1 Z.2.1 md_Mod_init_206 (by decide) (fun h206 => ?_) (fun h206 => ?_)
      · refine lv_iconst (v := nI 0) Z.1 Z.2.1 md_Mod_init_258 (by decide) ?_
        refine lv_istore Z.1 Z.2.1 md_Mod_init_259 hl (by decide) rfl (fun ls hl => ?_)
        have hl : lv_has ls 5 [(4, .int (nI (0))), (0, .ref (a)), (1, .int (x)), (2, .int (y)), (3, .int (z))] := hl
        refine lv_aload_n Z.1 Z.2.1 md_Mod_init_261 rfl (lv_at hl 1 rfl) ?_
        refine lv_iload Z.1 Z.2.1 md_Mod_init_262 (lv_at hl 0 rfl) ?_
        refine xi_if_eq (tgt := 271) Z md_Mod_init_264 (by decide) (by omega) (fun h264 => ?_) (fun h264 => by exfalso; omega)
        refine lv_aload_n Z.1 Z.2.1 md_Mod_init_271 rfl (lv_at hl 1 rfl) ?_
        refine xn_get (v := .int (nI (n))) Z (xn_at hw (j := 0) rfl rfl) rfl tb_iMod 0 (by decide) mk_Mod_77 rfl rfl md_Mod_init_272 ?_
        refine lv_iconst (v := nI 2) Z.1 Z.2.1 md_Mod_init_275 (by decide) ?_
        refine xi_div Z md_Mod_init_276 (by omega) (by omega) (by omega) ?_
        refine lv_iconst (v := nI 1) Z.1 Z.2.1 md_Mod_init_277 (by decide) ?_
        refine xi_add Z md_Mod_init_278 ?_
        refine xn_put Z hin hw 0 rfl rfl tb_iMod tb_tMod tb_yMod tb_nMod 1 (by decide) mk_Mod_81 rfl rfl rfl rfl (Nat.le_of_ble_eq_true rfl) rfl md_Mod_init_279 (fun H locs hw => ?_)
        have hw : xn_H D tb_cl a [.inr (8, [.int (nI (n)), .int (nI ((n / 2) + 1)), .int 0, .ref (a + 1), .int 0, .int 0, .ref (a + 2), .ref (a + 3), .ref (a + 4), .ref (a + 5), .ref (a + 6), .ref (a + 7), .ref (a + 8), .ref (a + 9), .ref (a + 10), .ref (a + 11), .ref (a + 12), .ref (a + 13), .ref (a + 14), .ref (a + 15), .ref (a + 16), .ref (a + 17), .ref (a + 18), .ref (a + 19), .ref (a + 20), .ref (a + 21), .ref (a + 22)]), .inl (cZ, 11, .inl (fun _ => 0)), .inl (cI, 60, .inl (fun _ => 0)), .inl (cI, 60, .inl (fun _ => 0)), .inl (cI, 60, .inl (fun _ => 0)), .inl (cI, 60, .inl (fun _ => 0)), .inl (cI, 60, .inl (fun _ => 0)), .inl (cI, 60, .inl (fun _ => 0)), .inl (cI, 60, .inl (fun _ => 0)), .inl (cI, 15, .inl (fun _ => 0)), .inl (cI, 15, .inl (fun _ => 0)), .inl (cI, 15, .inl (fun _ => 0)), .inl (cI, 15, .inl (fun _ => 0)), .inl (cI, 15, .inl (fun _ => 0)), .inl (cI, 195, .inl (fun _ => 0)), .inl (cI, 195, .inl (fun _ => 0)), .inl (cI, 3, .inl (fun _ => 0)), .inl (cI, 6, .inl (fun _ => 0)), .inl (cI, 6, .inl (fun _ => 0)), .inl (cI, 6, .inl (fun _ => 0)), .inl (cZ, 30, .inl (fun _ => 0)), .inl (cI, 30, .inl (fun _ => 0)), .inl (cI, 30, .inl (fun _ => 0))] st.heap _ _ := hw
        refine lv_aload_n Z.1 Z.2.1 md_Mod_init_282 rfl (lv_at hl 1 rfl) ?_
        refine lv_iload Z.1 Z.2.1 md_Mod_init_283 (lv_at hl 0 rfl) ?_
        refine xi_if_eq (tgt := 292) Z md_Mod_init_285 (by decide) (by omega) (fun h285 => ?_) (fun h285 => by exfalso; omega)
        refine lv_iconst (v := nI 3) Z.1 Z.2.1 md_Mod_init_292 (by decide) ?_
        refine lv_aload_n Z.1 Z.2.1 md_Mod_init_293 rfl (lv_at hl 1 rfl) ?_
        refine xn_get (v := .int (nI (n))) Z (xn_at hw (j := 0) rfl rfl) rfl tb_iMod 0 (by decide) mk_Mod_77 rfl rfl md_Mod_init_294 ?_
        refine xi_mul Z md_Mod_init_297 ?_
        refine lv_iconst (v := nI 3) Z.1 Z.2.1 md_Mod_init_298 (by decide) ?_
        refine xi_add Z md_Mod_init_299 ?_
        refine lv_iconst (v := nI 4) Z.1 Z.2.1 md_Mod_init_300 (by decide) ?_
        refine xi_div Z md_Mod_init_301 (by omega) (by omega) (by omega) ?_
        refine xn_put Z hin hw 0 rfl rfl tb_iMod tb_tMod tb_yMod tb_nMod 2 (by decide) mk_Mod_84 rfl rfl rfl rfl (Nat.le_of_ble_eq_true rfl) rfl md_Mod_init_302 (fun H locs hw => ?_)
        have hw : xn_H D tb_cl a [.inr (8, [.int (nI (n)), .int (nI ((n / 2) + 1)), .int (nI (((3 * n) + 3) / 4)), .ref (a + 1), .int 0, .int 0, .ref (a + 2), .ref (a + 3), .ref (a + 4), .ref (a + 5), .ref (a + 6), .ref (a + 7), .ref (a + 8), .ref (a + 9), .ref (a + 10), .ref (a + 11), .ref (a + 12), .ref (a + 13), .ref (a + 14), .ref (a + 15), .ref (a + 16), .ref (a + 17), .ref (a + 18), .ref (a + 19), .ref (a + 20), .ref (a + 21), .ref (a + 22)]), .inl (cZ, 11, .inl (fun _ => 0)), .inl (cI, 60, .inl (fun _ => 0)), .inl (cI, 60, .inl (fun _ => 0)), .inl (cI, 60, .inl (fun _ => 0)), .inl (cI, 60, .inl (fun _ => 0)), .inl (cI, 60, .inl (fun _ => 0)), .inl (cI, 60, .inl (fun _ => 0)), .inl (cI, 60, .inl (fun _ => 0)), .inl (cI, 15, .inl (fun _ => 0)), .inl (cI, 15, .inl (fun _ => 0)), .inl (cI, 15, .inl (fun _ => 0)), .inl (cI, 15, .inl (fun _ => 0)), .inl (cI, 15, .inl (fun _ => 0)), .inl (cI, 195, .inl (fun _ => 0)), .inl (cI, 195, .inl (fun _ => 0)), .inl (cI, 3, .inl (fun _ => 0)), .inl (cI, 6, .inl (fun _ => 0)), .inl (cI, 6, .inl (fun _ => 0)), .inl (cI, 6, .inl (fun _ => 0)), .inl (cZ, 30, .inl (fun _ => 0)), .inl (cI, 30, .inl (fun _ => 0)), .inl (cI, 30, .inl (fun _ => 0))] st.heap _ _ := hw
        exact xn_ret Z hr hlk hw (Nat.le_of_ble_eq_true rfl) (Nat.le_of_ble_eq_true rfl) md_Mod_init_305
      · refine lv_iload_n Z.1 Z.2.1 md_Mod_init_209 rfl (lv_at hl 2 rfl) ?_
        refine lv_aload_n Z.1 Z.2.1 md_Mod_init_210 rfl (lv_at hl 0 rfl) ?_
        refine xn_get (v := .int (nI (n))) Z (xn_at hw (j := 0) rfl rfl) rfl tb_iMod 0 (by decide) mk_Mod_77 rfl rfl md_Mod_init_211 ?_
        refine lv_icmp_gt (tgt := 258) Z.1 Z.2.1 md_Mod_init_214 (by decide) (fun h214 => ?_) (fun h214 => ?_)
        · refine lv_iconst (v := nI 0) Z.1 Z.2.1 md_Mod_init_258 (by decide) ?_
          refine lv_istore Z.1 Z.2.1 md_Mod_init_259 hl (by decide) rfl (fun ls hl => ?_)
          have hl : lv_has ls 5 [(4, .int (nI (0))), (0, .ref (a)), (1, .int (x)), (2, .int (y)), (3, .int (z))] := hl
          refine lv_aload_n Z.1 Z.2.1 md_Mod_init_261 rfl (lv_at hl 1 rfl) ?_
          refine lv_iload Z.1 Z.2.1 md_Mod_init_262 (lv_at hl 0 rfl) ?_
          refine xi_if_eq (tgt := 271) Z md_Mod_init_264 (by decide) (by omega) (fun h264 => ?_) (fun h264 => by exfalso; omega)
          refine lv_aload_n Z.1 Z.2.1 md_Mod_init_271 rfl (lv_at hl 1 rfl) ?_
          refine xn_get (v := .int (nI (n))) Z (xn_at hw (j := 0) rfl rfl) rfl tb_iMod 0 (by decide) mk_Mod_77 rfl rfl md_Mod_init_272 ?_
          refine lv_iconst (v := nI 2) Z.1 Z.2.1 md_Mod_init_275 (by decide) ?_
          refine xi_div Z md_Mod_init_276 (by omega) (by omega) (by omega) ?_
          refine lv_iconst (v := nI 1) Z.1 Z.2.1 md_Mod_init_277 (by decide) ?_
          refine xi_add Z md_Mod_init_278 ?_
          refine xn_put Z hin hw 0 rfl rfl tb_iMod tb_tMod tb_yMod tb_nMod 1 (by decide) mk_Mod_81 rfl rfl rfl rfl (Nat.le_of_ble_eq_true rfl) rfl md_Mod_init_279 (fun H locs hw => ?_)
          have hw : xn_H D tb_cl a [.inr (8, [.int (nI (n)), .int (nI ((n / 2) + 1)), .int 0, .ref (a + 1), .int 0, .int 0, .ref (a + 2), .ref (a + 3), .ref (a + 4), .ref (a + 5), .ref (a + 6), .ref (a + 7), .ref (a + 8), .ref (a + 9), .ref (a + 10), .ref (a + 11), .ref (a + 12), .ref (a + 13), .ref (a + 14), .ref (a + 15), .ref (a + 16), .ref (a + 17), .ref (a + 18), .ref (a + 19), .ref (a + 20), .ref (a + 21), .ref (a + 22)]), .inl (cZ, 11, .inl (fun _ => 0)), .inl (cI, 60, .inl (fun _ => 0)), .inl (cI, 60, .inl (fun _ => 0)), .inl (cI, 60, .inl (fun _ => 0)), .inl (cI, 60, .inl (fun _ => 0)), .inl (cI, 60, .inl (fun _ => 0)), .inl (cI, 60, .inl (fun _ => 0)), .inl (cI, 60, .inl (fun _ => 0)), .inl (cI, 15, .inl (fun _ => 0)), .inl (cI, 15, .inl (fun _ => 0)), .inl (cI, 15, .inl (fun _ => 0)), .inl (cI, 15, .inl (fun _ => 0)), .inl (cI, 15, .inl (fun _ => 0)), .inl (cI, 195, .inl (fun _ => 0)), .inl (cI, 195, .inl (fun _ => 0)), .inl (cI, 3, .inl (fun _ => 0)), .inl (cI, 6, .inl (fun _ => 0)), .inl (cI, 6, .inl (fun _ => 0)), .inl (cI, 6, .inl (fun _ => 0)), .inl (cZ, 30, .inl (fun _ => 0)), .inl (cI, 30, .inl (fun _ => 0)), .inl (cI, 30, .inl (fun _ => 0))] st.heap _ _ := hw
          refine lv_aload_n Z.1 Z.2.1 md_Mod_init_282 rfl (lv_at hl 1 rfl) ?_
          refine lv_iload Z.1 Z.2.1 md_Mod_init_283 (lv_at hl 0 rfl) ?_
          refine xi_if_eq (tgt := 292) Z md_Mod_init_285 (by decide) (by omega) (fun h285 => ?_) (fun h285 => by exfalso; omega)
          refine lv_iconst (v := nI 3) Z.1 Z.2.1 md_Mod_init_292 (by decide) ?_
          refine lv_aload_n Z.1 Z.2.1 md_Mod_init_293 rfl (lv_at hl 1 rfl) ?_
          refine xn_get (v := .int (nI (n))) Z (xn_at hw (j := 0) rfl rfl) rfl tb_iMod 0 (by decide) mk_Mod_77 rfl rfl md_Mod_init_294 ?_
          refine xi_mul Z md_Mod_init_297 ?_
          refine lv_iconst (v := nI 3) Z.1 Z.2.1 md_Mod_init_298 (by decide) ?_
          refine xi_add Z md_Mod_init_299 ?_
          refine lv_iconst (v := nI 4) Z.1 Z.2.1 md_Mod_init_300 (by decide) ?_
          refine xi_div Z md_Mod_init_301 (by omega) (by omega) (by omega) ?_
          refine xn_put Z hin hw 0 rfl rfl tb_iMod tb_tMod tb_yMod tb_nMod 2 (by decide) mk_Mod_84 rfl rfl rfl rfl (Nat.le_of_ble_eq_true rfl) rfl md_Mod_init_302 (fun H locs hw => ?_)
          have hw : xn_H D tb_cl a [.inr (8, [.int (nI (n)), .int (nI ((n / 2) + 1)), .int (nI (((3 * n) + 3) / 4)), .ref (a + 1), .int 0, .int 0, .ref (a + 2), .ref (a + 3), .ref (a + 4), .ref (a + 5), .ref (a + 6), .ref (a + 7), .ref (a + 8), .ref (a + 9), .ref (a + 10), .ref (a + 11), .ref (a + 12), .ref (a + 13), .ref (a + 14), .ref (a + 15), .ref (a + 16), .ref (a + 17), .ref (a + 18), .ref (a + 19), .ref (a + 20), .ref (a + 21), .ref (a + 22)]), .inl (cZ, 11, .inl (fun _ => 0)), .inl (cI, 60, .inl (fun _ => 0)), .inl (cI, 60, .inl (fun _ => 0)), .inl (cI, 60, .inl (fun _ => 0)), .inl (cI, 60, .inl (fun _ => 0)), .inl (cI, 60, .inl (fun _ => 0)), .inl (cI, 60, .inl (fun _ => 0)), .inl (cI, 60, .inl (fun _ => 0)), .inl (cI, 15, .inl (fun _ => 0)), .inl (cI, 15, .inl (fun _ => 0)), .inl (cI, 15, .inl (fun _ => 0)), .inl (cI, 15, .inl (fun _ => 0)), .inl (cI, 15, .inl (fun _ => 0)), .inl (cI, 195, .inl (fun _ => 0)), .inl (cI, 195, .inl (fun _ => 0)), .inl (cI, 3, .inl (fun _ => 0)), .inl (cI, 6, .inl (fun _ => 0)), .inl (cI, 6, .inl (fun _ => 0)), .inl (cI, 6, .inl (fun _ => 0)), .inl (cZ, 30, .inl (fun _ => 0)), .inl (cI, 30, .inl (fun _ => 0)), .inl (cI, 30, .inl (fun _ => 0))] st.heap _ _ := hw
          exact xn_ret Z hr hlk hw (Nat.le_of_ble_eq_true rfl) (Nat.le_of_ble_eq_true rfl) md_Mod_init_305
        · refine lv_iload_n Z.1 Z.2.1 md_Mod_init_217 rfl (lv_at hl 3 rfl) ?_
          refine lv_iconst (v := nI 1) Z.1 Z.2.1 md_Mod_init_218 (by decide) ?_
          refine lv_icmp_lt (tgt := 258) Z.1 Z.2.1 md_Mod_init_219 (by decide) (fun h219 => ?_) (fun h219 => ?_)
          · refine lv_iconst (v := nI 0) Z.1 Z.2.1 md_Mod_init_258 (by decide) ?_
            refine lv_istore Z.1 Z.2.1 md_Mod_init_259 hl (by decide) rfl (fun ls hl => ?_)
            have hl : lv_has ls 5 [(4, .int (nI (0))), (0, .ref (a)), (1, .int (x)), (2, .int (y)), (3, .int (z))] := hl
            refine lv_aload_n Z.1 Z.2.1 md_Mod_init_261 rfl (lv_at hl 1 rfl) ?_
            refine lv_iload Z.1 Z.2.1 md_Mod_init_262 (lv_at hl 0 rfl) ?_
            refine xi_if_eq (tgt := 271) Z md_Mod_init_264 (by decide) (by omega) (fun h264 => ?_) (fun h264 => by exfalso; omega)
            refine lv_aload_n Z.1 Z.2.1 md_Mod_init_271 rfl (lv_at hl 1 rfl) ?_
            refine xn_get (v := .int (nI (n))) Z (xn_at hw (j := 0) rfl rfl) rfl tb_iMod 0 (by decide) mk_Mod_77 rfl rfl md_Mod_init_272 ?_
            refine lv_iconst (v := nI 2) Z.1 Z.2.1 md_Mod_init_275 (by decide) ?_
            refine xi_div Z md_Mod_init_276 (by omega) (by omega) (by omega) ?_
            refine lv_iconst (v := nI 1) Z.1 Z.2.1 md_Mod_init_277 (by decide) ?_
            refine xi_add Z md_Mod_init_278 ?_
            refine xn_put Z hin hw 0 rfl rfl tb_iMod tb_tMod tb_yMod tb_nMod 1 (by decide) mk_Mod_81 rfl rfl rfl rfl (Nat.le_of_ble_eq_true rfl) rfl md_Mod_init_279 (fun H locs hw => ?_)
            have hw : xn_H D tb_cl a [.inr (8, [.int (nI (n)), .int (nI ((n / 2) + 1)), .int 0, .ref (a + 1), .int 0, .int 0, .ref (a + 2), .ref (a + 3), .ref (a + 4), .ref (a + 5), .ref (a + 6), .ref (a + 7), .ref (a + 8), .ref (a + 9), .ref (a + 10), .ref (a + 11), .ref (a + 12), .ref (a + 13), .ref (a + 14), .ref (a + 15), .ref (a + 16), .ref (a + 17), .ref (a + 18), .ref (a + 19), .ref (a + 20), .ref (a + 21), .ref (a + 22)]), .inl (cZ, 11, .inl (fun _ => 0)), .inl (cI, 60, .inl (fun _ => 0)), .inl (cI, 60, .inl (fun _ => 0)), .inl (cI, 60, .inl (fun _ => 0)), .inl (cI, 60, .inl (fun _ => 0)), .inl (cI, 60, .inl (fun _ => 0)), .inl (cI, 60, .inl (fun _ => 0)), .inl (cI, 60, .inl (fun _ => 0)), .inl (cI, 15, .inl (fun _ => 0)), .inl (cI, 15, .inl (fun _ => 0)), .inl (cI, 15, .inl (fun _ => 0)), .inl (cI, 15, .inl (fun _ => 0)), .inl (cI, 15, .inl (fun _ => 0)), .inl (cI, 195, .inl (fun _ => 0)), .inl (cI, 195, .inl (fun _ => 0)), .inl (cI, 3, .inl (fun _ => 0)), .inl (cI, 6, .inl (fun _ => 0)), .inl (cI, 6, .inl (fun _ => 0)), .inl (cI, 6, .inl (fun _ => 0)), .inl (cZ, 30, .inl (fun _ => 0)), .inl (cI, 30, .inl (fun _ => 0)), .inl (cI, 30, .inl (fun _ => 0))] st.heap _ _ := hw
            refine lv_aload_n Z.1 Z.2.1 md_Mod_init_282 rfl (lv_at hl 1 rfl) ?_
            refine lv_iload Z.1 Z.2.1 md_Mod_init_283 (lv_at hl 0 rfl) ?_
            refine xi_if_eq (tgt := 292) Z md_Mod_init_285 (by decide) (by omega) (fun h285 => ?_) (fun h285 => by exfalso; omega)
            refine lv_iconst (v := nI 3) Z.1 Z.2.1 md_Mod_init_292 (by decide) ?_
            refine lv_aload_n Z.1 Z.2.1 md_Mod_init_293 rfl (lv_at hl 1 rfl) ?_
            refine xn_get (v := .int (nI (n))) Z (xn_at hw (j := 0) rfl rfl) rfl tb_iMod 0 (by decide) mk_Mod_77 rfl rfl md_Mod_init_294 ?_
            refine xi_mul Z md_Mod_init_297 ?_
            refine lv_iconst (v := nI 3) Z.1 Z.2.1 md_Mod_init_298 (by decide) ?_
            refine xi_add Z md_Mod_init_299 ?_
            refine lv_iconst (v := nI 4) Z.1 Z.2.1 md_Mod_init_300 (by decide) ?_
            refine xi_div Z md_Mod_init_301 (by omega) (by omega) (by omega) ?_
            refine xn_put Z hin hw 0 rfl rfl tb_iMod tb_tMod tb_yMod tb_nMod 2 (by decide) mk_Mod_84 rfl rfl rfl rfl (Nat.le_of_ble_eq_true rfl) rfl md_Mod_init_302 (fun H locs hw => ?_)
            have hw : xn_H D tb_cl a [.inr (8, [.int (nI (n)), .int (nI ((n / 2) + 1)), .int (nI (((3 * n) + 3) / 4)), .ref (a + 1), .int 0, .int 0, .ref (a + 2), .ref (a + 3), .ref (a + 4), .ref (a + 5), .ref (a + 6), .ref (a + 7), .ref (a + 8), .ref (a + 9), .ref (a + 10), .ref (a + 11), .ref (a + 12), .ref (a + 13), .ref (a + 14), .ref (a + 15), .ref (a + 16), .ref (a + 17), .ref (a + 18), .ref (a + 19), .ref (a + 20), .ref (a + 21), .ref (a + 22)]), .inl (cZ, 11, .inl (fun _ => 0)), .inl (cI, 60, .inl (fun _ => 0)), .inl (cI, 60, .inl (fun _ => 0)), .inl (cI, 60, .inl (fun _ => 0)), .inl (cI, 60, .inl (fun _ => 0)), .inl (cI, 60, .inl (fun _ => 0)), .inl (cI, 60, .inl (fun _ => 0)), .inl (cI, 60, .inl (fun _ => 0)), .inl (cI, 15, .inl (fun _ => 0)), .inl (cI, 15, .inl (fun _ => 0)), .inl (cI, 15, .inl (fun _ => 0)), .inl (cI, 15, .inl (fun _ => 0)), .inl (cI, 15, .inl (fun _ => 0)), .inl (cI, 195, .inl (fun _ => 0)), .inl (cI, 195, .inl (fun _ => 0)), .inl (cI, 3, .inl (fun _ => 0)), .inl (cI, 6, .inl (fun _ => 0)), .inl (cI, 6, .inl (fun _ => 0)), .inl (cI, 6, .inl (fun _ => 0)), .inl (cZ, 30, .inl (fun _ => 0)), .inl (cI, 30, .inl (fun _ => 0)), .inl (cI, 30, .inl (fun _ => 0))] st.heap _ _ := hw
            exact xn_ret Z hr hlk hw (Nat.le_of_ble_eq_true rfl) (Nat.le_of_ble_eq_true rfl) md_Mod_init_305
          · refine lv_iload_n Z.1 Z.2.1 md_Mod_init_222 rfl (lv_at hl 3 rfl) ?_
            refine lv_aload_n Z.1 Z.2.1 md_Mod_init_223 rfl (lv_at hl 0 rfl) ?_
            refine xn_get (v := .int (nI (n))) Z (xn_at hw (j := 0) rfl rfl) rfl tb_iMod 0 (by decide) mk_Mod_77 rfl rfl md_Mod_init_224 ?_
            refine lv_icmp_gt (tgt := 258) Z.1 Z.2.1 md_Mod_init_227 (by decide) (fun h227 => ?_) (fun h227 => by exfalso; rcases ho1 with h | h | h | h; exact h206 h; exact h214 h; exact h219 h; exact h227 h)
            refine lv_iconst (v := nI 0) Z.1 Z.2.1 md_Mod_init_258 (by decide) ?_
            refine lv_istore Z.1 Z.2.1 md_Mod_init_259 hl (by decide) rfl (fun ls hl => ?_)
            have hl : lv_has ls 5 [(4, .int (nI (0))), (0, .ref (a)), (1, .int (x)), (2, .int (y)), (3, .int (z))] := hl
            refine lv_aload_n Z.1 Z.2.1 md_Mod_init_261 rfl (lv_at hl 1 rfl) ?_
            refine lv_iload Z.1 Z.2.1 md_Mod_init_262 (lv_at hl 0 rfl) ?_
            refine xi_if_eq (tgt := 271) Z md_Mod_init_264 (by decide) (by omega) (fun h264 => ?_) (fun h264 => by exfalso; omega)
            refine lv_aload_n Z.1 Z.2.1 md_Mod_init_271 rfl (lv_at hl 1 rfl) ?_
            refine xn_get (v := .int (nI (n))) Z (xn_at hw (j := 0) rfl rfl) rfl tb_iMod 0 (by decide) mk_Mod_77 rfl rfl md_Mod_init_272 ?_
            refine lv_iconst (v := nI 2) Z.1 Z.2.1 md_Mod_init_275 (by decide) ?_
            refine xi_div Z md_Mod_init_276 (by omega) (by omega) (by omega) ?_
            refine lv_iconst (v := nI 1) Z.1 Z.2.1 md_Mod_init_277 (by decide) ?_
            refine xi_add Z md_Mod_init_278 ?_
            refine xn_put Z hin hw 0 rfl rfl tb_iMod tb_tMod tb_yMod tb_nMod 1 (by decide) mk_Mod_81 rfl rfl rfl rfl (Nat.le_of_ble_eq_true rfl) rfl md_Mod_init_279 (fun H locs hw => ?_)
            have hw : xn_H D tb_cl a [.inr (8, [.int (nI (n)), .int (nI ((n / 2) + 1)), .int 0, .ref (a + 1), .int 0, .int 0, .ref (a + 2), .ref (a + 3), .ref (a + 4), .ref (a + 5), .ref (a + 6), .ref (a + 7), .ref (a + 8), .ref (a + 9), .ref (a + 10), .ref (a + 11), .ref (a + 12), .ref (a + 13), .ref (a + 14), .ref (a + 15), .ref (a + 16), .ref (a + 17), .ref (a + 18), .ref (a + 19), .ref (a + 20), .ref (a + 21), .ref (a + 22)]), .inl (cZ, 11, .inl (fun _ => 0)), .inl (cI, 60, .inl (fun _ => 0)), .inl (cI, 60, .inl (fun _ => 0)), .inl (cI, 60, .inl (fun _ => 0)), .inl (cI, 60, .inl (fun _ => 0)), .inl (cI, 60, .inl (fun _ => 0)), .inl (cI, 60, .inl (fun _ => 0)), .inl (cI, 60, .inl (fun _ => 0)), .inl (cI, 15, .inl (fun _ => 0)), .inl (cI, 15, .inl (fun _ => 0)), .inl (cI, 15, .inl (fun _ => 0)), .inl (cI, 15, .inl (fun _ => 0)), .inl (cI, 15, .inl (fun _ => 0)), .inl (cI, 195, .inl (fun _ => 0)), .inl (cI, 195, .inl (fun _ => 0)), .inl (cI, 3, .inl (fun _ => 0)), .inl (cI, 6, .inl (fun _ => 0)), .inl (cI, 6, .inl (fun _ => 0)), .inl (cI, 6, .inl (fun _ => 0)), .inl (cZ, 30, .inl (fun _ => 0)), .inl (cI, 30, .inl (fun _ => 0)), .inl (cI, 30, .inl (fun _ => 0))] st.heap _ _ := hw
            refine lv_aload_n Z.1 Z.2.1 md_Mod_init_282 rfl (lv_at hl 1 rfl) ?_
            refine lv_iload Z.1 Z.2.1 md_Mod_init_283 (lv_at hl 0 rfl) ?_
            refine xi_if_eq (tgt := 292) Z md_Mod_init_285 (by decide) (by omega) (fun h285 => ?_) (fun h285 => by exfalso; omega)
            refine lv_iconst (v := nI 3) Z.1 Z.2.1 md_Mod_init_292 (by decide) ?_
            refine lv_aload_n Z.1 Z.2.1 md_Mod_init_293 rfl (lv_at hl 1 rfl) ?_
            refine xn_get (v := .int (nI (n))) Z (xn_at hw (j := 0) rfl rfl) rfl tb_iMod 0 (by decide) mk_Mod_77 rfl rfl md_Mod_init_294 ?_
            refine xi_mul Z md_Mod_init_297 ?_
            refine lv_iconst (v := nI 3) Z.1 Z.2.1 md_Mod_init_298 (by decide) ?_
            refine xi_add Z md_Mod_init_299 ?_
            refine lv_iconst (v := nI 4) Z.1 Z.2.1 md_Mod_init_300 (by decide) ?_
            refine xi_div Z md_Mod_init_301 (by omega) (by omega) (by omega) ?_
            refine xn_put Z hin hw 0 rfl rfl tb_iMod tb_tMod tb_yMod tb_nMod 2 (by decide) mk_Mod_84 rfl rfl rfl rfl (Nat.le_of_ble_eq_true rfl) rfl md_Mod_init_302 (fun H locs hw => ?_)
            have hw : xn_H D tb_cl a [.inr (8, [.int (nI (n)), .int (nI ((n / 2) + 1)), .int (nI (((3 * n) + 3) / 4)), .ref (a + 1), .int 0, .int 0, .ref (a + 2), .ref (a + 3), .ref (a + 4), .ref (a + 5), .ref (a + 6), .ref (a + 7), .ref (a + 8), .ref (a + 9), .ref (a + 10), .ref (a + 11), .ref (a + 12), .ref (a + 13), .ref (a + 14), .ref (a + 15), .ref (a + 16), .ref (a + 17), .ref (a + 18), .ref (a + 19), .ref (a + 20), .ref (a + 21), .ref (a + 22)]), .inl (cZ, 11, .inl (fun _ => 0)), .inl (cI, 60, .inl (fun _ => 0)), .inl (cI, 60, .inl (fun _ => 0)), .inl (cI, 60, .inl (fun _ => 0)), .inl (cI, 60, .inl (fun _ => 0)), .inl (cI, 60, .inl (fun _ => 0)), .inl (cI, 60, .inl (fun _ => 0)), .inl (cI, 60, .inl (fun _ => 0)), .inl (cI, 15, .inl (fun _ => 0)), .inl (cI, 15, .inl (fun _ => 0)), .inl (cI, 15, .inl (fun _ => 0)), .inl (cI, 15, .inl (fun _ => 0)), .inl (cI, 15, .inl (fun _ => 0)), .inl (cI, 195, .inl (fun _ => 0)), .inl (cI, 195, .inl (fun _ => 0)), .inl (cI, 3, .inl (fun _ => 0)), .inl (cI, 6, .inl (fun _ => 0)), .inl (cI, 6, .inl (fun _ => 0)), .inl (cI, 6, .inl (fun _ => 0)), .inl (cZ, 30, .inl (fun _ => 0)), .inl (cI, 30, .inl (fun _ => 0)), .inl (cI, 30, .inl (fun _ => 0))] st.heap _ _ := hw
            exact xn_ret Z hr hlk hw (Nat.le_of_ble_eq_true rfl) (Nat.le_of_ble_eq_true rfl) md_Mod_init_305
    · have hb1 := hb; unfold zq_b at hb1
      refine lv_iload_n Z.1 Z.2.1 md_Mod_init_204 rfl (lv_at hl 2 rfl) ?_
      refine lv_iconst (v := nI 1) Z.1 Z.2.1 md_Mod_init_205 (by decide) ?_
      refine xi_icmp_lt (tgt := 258) Z md_Mod_init_206 (by decide) (by omega) (by omega) (fun h206 => by exfalso; omega) (fun h206 => ?_)
      refine lv_iload_n Z.1 Z.2.1 md_Mod_init_209 rfl (lv_at hl 2 rfl) ?_
      refine lv_aload_n Z.1 Z.2.1 md_Mod_init_210 rfl (lv_at hl 0 rfl) ?_
      refine xn_get (v := .int (nI (n))) Z (xn_at hw (j := 0) rfl rfl) rfl tb_iMod 0 (by decide) mk_Mod_77 rfl rfl md_Mod_init_211 ?_
      refine xi_icmp_gt (tgt := 258) Z md_Mod_init_214 (by decide) (by omega) (by omega) (fun h214 => by exfalso; omega) (fun h214 => ?_)
      refine lv_iload_n Z.1 Z.2.1 md_Mod_init_217 rfl (lv_at hl 3 rfl) ?_
      refine lv_iconst (v := nI 1) Z.1 Z.2.1 md_Mod_init_218 (by decide) ?_
      refine xi_icmp_lt (tgt := 258) Z md_Mod_init_219 (by decide) (by omega) (by omega) (fun h219 => by exfalso; omega) (fun h219 => ?_)
      refine lv_iload_n Z.1 Z.2.1 md_Mod_init_222 rfl (lv_at hl 3 rfl) ?_
      refine lv_aload_n Z.1 Z.2.1 md_Mod_init_223 rfl (lv_at hl 0 rfl) ?_
      refine xn_get (v := .int (nI (n))) Z (xn_at hw (j := 0) rfl rfl) rfl tb_iMod 0 (by decide) mk_Mod_77 rfl rfl md_Mod_init_224 ?_
      refine xi_icmp_gt (tgt := 258) Z md_Mod_init_227 (by decide) (by omega) (by omega) (fun h227 => by exfalso; omega) (fun h227 => ?_)
      refine lv_iconst (v := nI 2) Z.1 Z.2.1 md_Mod_init_230 (by decide) ?_
      refine lv_iload_n Z.1 Z.2.1 md_Mod_init_231 rfl (lv_at hl 2 rfl) ?_
      refine xi_mul Z md_Mod_init_232 ?_
      refine lv_aload_n Z.1 Z.2.1 md_Mod_init_233 rfl (lv_at hl 0 rfl) ?_
      refine xn_get (v := .int (nI (n))) Z (xn_at hw (j := 0) rfl rfl) rfl tb_iMod 0 (by decide) mk_Mod_77 rfl rfl md_Mod_init_234 ?_
      refine xi_icmp_le (tgt := 258) Z md_Mod_init_237 (by decide) (by omega) (by omega) (fun h237 => ?_) (fun h237 => ?_)
      · refine lv_iconst (v := nI 0) Z.1 Z.2.1 md_Mod_init_258 (by decide) ?_
        refine lv_istore Z.1 Z.2.1 md_Mod_init_259 hl (by decide) rfl (fun ls hl => ?_)
        have hl : lv_has ls 5 [(4, .int (nI (0))), (0, .ref (a)), (1, .int (x)), (2, .int (nI (q1))), (3, .int (nI (f1)))] := hl
        refine lv_aload_n Z.1 Z.2.1 md_Mod_init_261 rfl (lv_at hl 1 rfl) ?_
        refine lv_iload Z.1 Z.2.1 md_Mod_init_262 (lv_at hl 0 rfl) ?_
        refine xi_if_eq (tgt := 271) Z md_Mod_init_264 (by decide) (by omega) (fun h264 => ?_) (fun h264 => by exfalso; omega)
        refine lv_aload_n Z.1 Z.2.1 md_Mod_init_271 rfl (lv_at hl 1 rfl) ?_
        refine xn_get (v := .int (nI (n))) Z (xn_at hw (j := 0) rfl rfl) rfl tb_iMod 0 (by decide) mk_Mod_77 rfl rfl md_Mod_init_272 ?_
        refine lv_iconst (v := nI 2) Z.1 Z.2.1 md_Mod_init_275 (by decide) ?_
        refine xi_div Z md_Mod_init_276 (by omega) (by omega) (by omega) ?_
        refine lv_iconst (v := nI 1) Z.1 Z.2.1 md_Mod_init_277 (by decide) ?_
        refine xi_add Z md_Mod_init_278 ?_
        refine xn_put Z hin hw 0 rfl rfl tb_iMod tb_tMod tb_yMod tb_nMod 1 (by decide) mk_Mod_81 rfl rfl rfl rfl (Nat.le_of_ble_eq_true rfl) rfl md_Mod_init_279 (fun H locs hw => ?_)
        have hw : xn_H D tb_cl a [.inr (8, [.int (nI (n)), .int (nI ((n / 2) + 1)), .int 0, .ref (a + 1), .int 0, .int 0, .ref (a + 2), .ref (a + 3), .ref (a + 4), .ref (a + 5), .ref (a + 6), .ref (a + 7), .ref (a + 8), .ref (a + 9), .ref (a + 10), .ref (a + 11), .ref (a + 12), .ref (a + 13), .ref (a + 14), .ref (a + 15), .ref (a + 16), .ref (a + 17), .ref (a + 18), .ref (a + 19), .ref (a + 20), .ref (a + 21), .ref (a + 22)]), .inl (cZ, 11, .inl (fun _ => 0)), .inl (cI, 60, .inl (fun _ => 0)), .inl (cI, 60, .inl (fun _ => 0)), .inl (cI, 60, .inl (fun _ => 0)), .inl (cI, 60, .inl (fun _ => 0)), .inl (cI, 60, .inl (fun _ => 0)), .inl (cI, 60, .inl (fun _ => 0)), .inl (cI, 60, .inl (fun _ => 0)), .inl (cI, 15, .inl (fun _ => 0)), .inl (cI, 15, .inl (fun _ => 0)), .inl (cI, 15, .inl (fun _ => 0)), .inl (cI, 15, .inl (fun _ => 0)), .inl (cI, 15, .inl (fun _ => 0)), .inl (cI, 195, .inl (fun _ => 0)), .inl (cI, 195, .inl (fun _ => 0)), .inl (cI, 3, .inl (fun _ => 0)), .inl (cI, 6, .inl (fun _ => 0)), .inl (cI, 6, .inl (fun _ => 0)), .inl (cI, 6, .inl (fun _ => 0)), .inl (cZ, 30, .inl (fun _ => 0)), .inl (cI, 30, .inl (fun _ => 0)), .inl (cI, 30, .inl (fun _ => 0))] st.heap _ _ := hw
        refine lv_aload_n Z.1 Z.2.1 md_Mod_init_282 rfl (lv_at hl 1 rfl) ?_
        refine lv_iload Z.1 Z.2.1 md_Mod_init_283 (lv_at hl 0 rfl) ?_
        refine xi_if_eq (tgt := 292) Z md_Mod_init_285 (by decide) (by omega) (fun h285 => ?_) (fun h285 => by exfalso; omega)
        refine lv_iconst (v := nI 3) Z.1 Z.2.1 md_Mod_init_292 (by decide) ?_
        refine lv_aload_n Z.1 Z.2.1 md_Mod_init_293 rfl (lv_at hl 1 rfl) ?_
        refine xn_get (v := .int (nI (n))) Z (xn_at hw (j := 0) rfl rfl) rfl tb_iMod 0 (by decide) mk_Mod_77 rfl rfl md_Mod_init_294 ?_
        refine xi_mul Z md_Mod_init_297 ?_
        refine lv_iconst (v := nI 3) Z.1 Z.2.1 md_Mod_init_298 (by decide) ?_
        refine xi_add Z md_Mod_init_299 ?_
        refine lv_iconst (v := nI 4) Z.1 Z.2.1 md_Mod_init_300 (by decide) ?_
        refine xi_div Z md_Mod_init_301 (by omega) (by omega) (by omega) ?_
        refine xn_put Z hin hw 0 rfl rfl tb_iMod tb_tMod tb_yMod tb_nMod 2 (by decide) mk_Mod_84 rfl rfl rfl rfl (Nat.le_of_ble_eq_true rfl) rfl md_Mod_init_302 (fun H locs hw => ?_)
        have hw : xn_H D tb_cl a [.inr (8, [.int (nI (n)), .int (nI ((n / 2) + 1)), .int (nI (((3 * n) + 3) / 4)), .ref (a + 1), .int 0, .int 0, .ref (a + 2), .ref (a + 3), .ref (a + 4), .ref (a + 5), .ref (a + 6), .ref (a + 7), .ref (a + 8), .ref (a + 9), .ref (a + 10), .ref (a + 11), .ref (a + 12), .ref (a + 13), .ref (a + 14), .ref (a + 15), .ref (a + 16), .ref (a + 17), .ref (a + 18), .ref (a + 19), .ref (a + 20), .ref (a + 21), .ref (a + 22)]), .inl (cZ, 11, .inl (fun _ => 0)), .inl (cI, 60, .inl (fun _ => 0)), .inl (cI, 60, .inl (fun _ => 0)), .inl (cI, 60, .inl (fun _ => 0)), .inl (cI, 60, .inl (fun _ => 0)), .inl (cI, 60, .inl (fun _ => 0)), .inl (cI, 60, .inl (fun _ => 0)), .inl (cI, 60, .inl (fun _ => 0)), .inl (cI, 15, .inl (fun _ => 0)), .inl (cI, 15, .inl (fun _ => 0)), .inl (cI, 15, .inl (fun _ => 0)), .inl (cI, 15, .inl (fun _ => 0)), .inl (cI, 15, .inl (fun _ => 0)), .inl (cI, 195, .inl (fun _ => 0)), .inl (cI, 195, .inl (fun _ => 0)), .inl (cI, 3, .inl (fun _ => 0)), .inl (cI, 6, .inl (fun _ => 0)), .inl (cI, 6, .inl (fun _ => 0)), .inl (cI, 6, .inl (fun _ => 0)), .inl (cZ, 30, .inl (fun _ => 0)), .inl (cI, 30, .inl (fun _ => 0)), .inl (cI, 30, .inl (fun _ => 0))] st.heap _ _ := hw
        exact xn_ret Z hr hlk hw (Nat.le_of_ble_eq_true rfl) (Nat.le_of_ble_eq_true rfl) md_Mod_init_305
      · refine lv_iload_n Z.1 Z.2.1 md_Mod_init_240 rfl (lv_at hl 2 rfl) ?_
        refine lv_iconst (v := nI 2) Z.1 Z.2.1 md_Mod_init_241 (by decide) ?_
        refine lv_iload_n Z.1 Z.2.1 md_Mod_init_242 rfl (lv_at hl 3 rfl) ?_
        refine xi_mul Z md_Mod_init_243 ?_
        refine xi_add Z md_Mod_init_244 ?_
        refine lv_iconst (v := nI 2) Z.1 Z.2.1 md_Mod_init_245 (by decide) ?_
        refine lv_aload_n Z.1 Z.2.1 md_Mod_init_246 rfl (lv_at hl 0 rfl) ?_
        refine xn_get (v := .int (nI (n))) Z (xn_at hw (j := 0) rfl rfl) rfl tb_iMod 0 (by decide) mk_Mod_77 rfl rfl md_Mod_init_247 ?_
        refine xi_mul Z md_Mod_init_250 ?_
        refine xi_icmp_le (tgt := 258) Z md_Mod_init_251 (by decide) (by omega) (by omega) (fun h251 => ?_) (fun h251 => by exfalso; omega)
        refine lv_iconst (v := nI 0) Z.1 Z.2.1 md_Mod_init_258 (by decide) ?_
        refine lv_istore Z.1 Z.2.1 md_Mod_init_259 hl (by decide) rfl (fun ls hl => ?_)
        have hl : lv_has ls 5 [(4, .int (nI (0))), (0, .ref (a)), (1, .int (x)), (2, .int (nI (q1))), (3, .int (nI (f1)))] := hl
        refine lv_aload_n Z.1 Z.2.1 md_Mod_init_261 rfl (lv_at hl 1 rfl) ?_
        refine lv_iload Z.1 Z.2.1 md_Mod_init_262 (lv_at hl 0 rfl) ?_
        refine xi_if_eq (tgt := 271) Z md_Mod_init_264 (by decide) (by omega) (fun h264 => ?_) (fun h264 => by exfalso; omega)
        refine lv_aload_n Z.1 Z.2.1 md_Mod_init_271 rfl (lv_at hl 1 rfl) ?_
        refine xn_get (v := .int (nI (n))) Z (xn_at hw (j := 0) rfl rfl) rfl tb_iMod 0 (by decide) mk_Mod_77 rfl rfl md_Mod_init_272 ?_
        refine lv_iconst (v := nI 2) Z.1 Z.2.1 md_Mod_init_275 (by decide) ?_
        refine xi_div Z md_Mod_init_276 (by omega) (by omega) (by omega) ?_
        refine lv_iconst (v := nI 1) Z.1 Z.2.1 md_Mod_init_277 (by decide) ?_
        refine xi_add Z md_Mod_init_278 ?_
        refine xn_put Z hin hw 0 rfl rfl tb_iMod tb_tMod tb_yMod tb_nMod 1 (by decide) mk_Mod_81 rfl rfl rfl rfl (Nat.le_of_ble_eq_true rfl) rfl md_Mod_init_279 (fun H locs hw => ?_)
        have hw : xn_H D tb_cl a [.inr (8, [.int (nI (n)), .int (nI ((n / 2) + 1)), .int 0, .ref (a + 1), .int 0, .int 0, .ref (a + 2), .ref (a + 3), .ref (a + 4), .ref (a + 5), .ref (a + 6), .ref (a + 7), .ref (a + 8), .ref (a + 9), .ref (a + 10), .ref (a + 11), .ref (a + 12), .ref (a + 13), .ref (a + 14), .ref (a + 15), .ref (a + 16), .ref (a + 17), .ref (a + 18), .ref (a + 19), .ref (a + 20), .ref (a + 21), .ref (a + 22)]), .inl (cZ, 11, .inl (fun _ => 0)), .inl (cI, 60, .inl (fun _ => 0)), .inl (cI, 60, .inl (fun _ => 0)), .inl (cI, 60, .inl (fun _ => 0)), .inl (cI, 60, .inl (fun _ => 0)), .inl (cI, 60, .inl (fun _ => 0)), .inl (cI, 60, .inl (fun _ => 0)), .inl (cI, 60, .inl (fun _ => 0)), .inl (cI, 15, .inl (fun _ => 0)), .inl (cI, 15, .inl (fun _ => 0)), .inl (cI, 15, .inl (fun _ => 0)), .inl (cI, 15, .inl (fun _ => 0)), .inl (cI, 15, .inl (fun _ => 0)), .inl (cI, 195, .inl (fun _ => 0)), .inl (cI, 195, .inl (fun _ => 0)), .inl (cI, 3, .inl (fun _ => 0)), .inl (cI, 6, .inl (fun _ => 0)), .inl (cI, 6, .inl (fun _ => 0)), .inl (cI, 6, .inl (fun _ => 0)), .inl (cZ, 30, .inl (fun _ => 0)), .inl (cI, 30, .inl (fun _ => 0)), .inl (cI, 30, .inl (fun _ => 0))] st.heap _ _ := hw
        refine lv_aload_n Z.1 Z.2.1 md_Mod_init_282 rfl (lv_at hl 1 rfl) ?_
        refine lv_iload Z.1 Z.2.1 md_Mod_init_283 (lv_at hl 0 rfl) ?_
        refine xi_if_eq (tgt := 292) Z md_Mod_init_285 (by decide) (by omega) (fun h285 => ?_) (fun h285 => by exfalso; omega)
        refine lv_iconst (v := nI 3) Z.1 Z.2.1 md_Mod_init_292 (by decide) ?_
        refine lv_aload_n Z.1 Z.2.1 md_Mod_init_293 rfl (lv_at hl 1 rfl) ?_
        refine xn_get (v := .int (nI (n))) Z (xn_at hw (j := 0) rfl rfl) rfl tb_iMod 0 (by decide) mk_Mod_77 rfl rfl md_Mod_init_294 ?_
        refine xi_mul Z md_Mod_init_297 ?_
        refine lv_iconst (v := nI 3) Z.1 Z.2.1 md_Mod_init_298 (by decide) ?_
        refine xi_add Z md_Mod_init_299 ?_
        refine lv_iconst (v := nI 4) Z.1 Z.2.1 md_Mod_init_300 (by decide) ?_
        refine xi_div Z md_Mod_init_301 (by omega) (by omega) (by omega) ?_
        refine xn_put Z hin hw 0 rfl rfl tb_iMod tb_tMod tb_yMod tb_nMod 2 (by decide) mk_Mod_84 rfl rfl rfl rfl (Nat.le_of_ble_eq_true rfl) rfl md_Mod_init_302 (fun H locs hw => ?_)
        have hw : xn_H D tb_cl a [.inr (8, [.int (nI (n)), .int (nI ((n / 2) + 1)), .int (nI (((3 * n) + 3) / 4)), .ref (a + 1), .int 0, .int 0, .ref (a + 2), .ref (a + 3), .ref (a + 4), .ref (a + 5), .ref (a + 6), .ref (a + 7), .ref (a + 8), .ref (a + 9), .ref (a + 10), .ref (a + 11), .ref (a + 12), .ref (a + 13), .ref (a + 14), .ref (a + 15), .ref (a + 16), .ref (a + 17), .ref (a + 18), .ref (a + 19), .ref (a + 20), .ref (a + 21), .ref (a + 22)]), .inl (cZ, 11, .inl (fun _ => 0)), .inl (cI, 60, .inl (fun _ => 0)), .inl (cI, 60, .inl (fun _ => 0)), .inl (cI, 60, .inl (fun _ => 0)), .inl (cI, 60, .inl (fun _ => 0)), .inl (cI, 60, .inl (fun _ => 0)), .inl (cI, 60, .inl (fun _ => 0)), .inl (cI, 60, .inl (fun _ => 0)), .inl (cI, 15, .inl (fun _ => 0)), .inl (cI, 15, .inl (fun _ => 0)), .inl (cI, 15, .inl (fun _ => 0)), .inl (cI, 15, .inl (fun _ => 0)), .inl (cI, 15, .inl (fun _ => 0)), .inl (cI, 195, .inl (fun _ => 0)), .inl (cI, 195, .inl (fun _ => 0)), .inl (cI, 3, .inl (fun _ => 0)), .inl (cI, 6, .inl (fun _ => 0)), .inl (cI, 6, .inl (fun _ => 0)), .inl (cI, 6, .inl (fun _ => 0)), .inl (cZ, 30, .inl (fun _ => 0)), .inl (cI, 30, .inl (fun _ => 0)), .inl (cI, 30, .inl (fun _ => 0))] st.heap _ _ := hw
        exact xn_ret Z hr hlk hw (Nat.le_of_ble_eq_true rfl) (Nat.le_of_ble_eq_true rfl) md_Mod_init_305
  refine lv_icmp_ge (tgt := 191) Z.1 Z.2.1 md_Mod_init_184 (by decide) (fun h => ?_) (fun h => ?_)
  · refine lv_iload_n Z.1 Z.2.1 md_Mod_init_191 rfl (lv_at hl 1 rfl) ?_
    refine lv_iconst (v := nI 5) Z.1 Z.2.1 md_Mod_init_192 (by decide) ?_
    refine lv_icmp_le (tgt := 200) Z.1 Z.2.1 md_Mod_init_193 (by decide) (fun h5 => ?_) (fun h5 => ?_)
    · refine lv_iload_n Z.1 Z.2.1 md_Mod_init_200 rfl (lv_at hl 1 rfl) ?_
      refine xi_re (show x = nI n from zx_mid hx h h5) ?_
      exact k201
    · refine lv_iconst (v := nI 5) Z.1 Z.2.1 md_Mod_init_196 (by decide) ?_
      refine lv_goto (tgt := 201) Z.1 Z.2.1 md_Mod_init_197 (by decide) ?_
      refine xi_re (show nI 5 = nI n from by rw [zx_hi hx h5]) ?_
      exact k201
  · refine lv_iconst (v := nI 3) Z.1 Z.2.1 md_Mod_init_187 (by decide) ?_
    refine lv_goto (tgt := 201) Z.1 Z.2.1 md_Mod_init_188 (by decide) ?_
    refine xi_re (show nI 3 = nI n from by rw [zx_lo hx h]) ?_
    exact k201
