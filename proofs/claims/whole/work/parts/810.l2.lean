/-! GROUP L2: the law's cases. -/
def lwv (x y : Int32) : Int64 := ((zN x.toInt).toInt64 <<< ((32 : Int32).toInt64 &&& 63)) ||| ((zN y.toInt).toInt64 &&& (4294967295 : Int64))
theorem ml_L_100 : Cond.methodLink RL 100 yX11_repeals ∈ mG := mg_7 146 (by decide +kernel) (by decide +kernel)
theorem ml_L_101 : Cond.methodLink RL 101 yX10_absent ∈ mG := mg_4 204 (by decide +kernel) (by decide +kernel)
theorem ml_L_104 : Cond.methodLink RL 104 yX11_absent ∈ mG := mg_7 150 (by decide +kernel) (by decide +kernel)
theorem ml_L_105 : Cond.methodLink RL 105 yX10_margin ∈ mG := mg_4 213 (by decide +kernel) (by decide +kernel)
theorem ml_L_108 : Cond.methodLink RL 108 yX11_margin ∈ mG := mg_7 154 (by decide +kernel) (by decide +kernel)
theorem ml_L_109 : Cond.methodLink RL 109 yX10_place ∈ mG := mg_4 221 (by decide +kernel) (by decide +kernel)
theorem ml_L_113 : Cond.methodLink RL 113 yX11_place ∈ mG := mg_7 158 (by decide +kernel) (by decide +kernel)
theorem ml_L_114 : Cond.methodLink RL 114 yX10_behind ∈ mG := mg_4 228 (by decide +kernel) (by decide +kernel)
theorem ml_L_117 : Cond.methodLink RL 117 yX11_behind ∈ mG := mg_7 163 (by decide +kernel) (by decide +kernel)
theorem ml_L_118 : Cond.methodLink RL 118 yX10_at ∈ mG := mg_4 236 (by decide +kernel) (by decide +kernel)
theorem ml_L_121 : Cond.methodLink RL 121 yX11_at ∈ mG := mg_7 172 (by decide +kernel) (by decide +kernel)
theorem ml_L_122 : Cond.methodLink RL 122 yX10_rate ∈ mG := mg_5 0 (by decide +kernel) (by decide +kernel)
theorem ml_L_126 : Cond.methodLink RL 126 yX11_rate ∈ mG := mg_7 176 (by decide +kernel) (by decide +kernel)
theorem ml_L_127 : Cond.methodLink RL 127 yX10_parted ∈ mG := mg_5 8 (by decide +kernel) (by decide +kernel)
theorem ml_L_13 : Cond.methodLink RL 13 yX10_feed ∈ mG := mg_3 31 (by decide +kernel) (by decide +kernel)
theorem ml_L_131 : Cond.methodLink RL 131 yX11_parted ∈ mG := mg_7 184 (by decide +kernel) (by decide +kernel)
theorem ml_L_132 : Cond.methodLink RL 132 yX10_worst ∈ mG := mg_5 22 (by decide +kernel) (by decide +kernel)
theorem ml_L_135 : Cond.methodLink RL 135 yX11_worst ∈ mG := mg_7 196 (by decide +kernel) (by decide +kernel)
theorem ml_L_136 : Cond.methodLink RL 136 yX10_ranked ∈ mG := mg_5 50 (by decide +kernel) (by decide +kernel)
theorem ml_L_139 : Cond.methodLink RL 139 yX11_ranked ∈ mG := mg_7 217 (by decide +kernel) (by decide +kernel)
theorem ml_L_140 : Cond.methodLink RL 140 yX10_measure ∈ mG := mg_5 58 (by decide +kernel) (by decide +kernel)
theorem ml_L_143 : Cond.methodLink RL 143 yX11_measure ∈ mG := mg_7 225 (by decide +kernel) (by decide +kernel)
theorem ml_L_144 : Cond.methodLink RL 144 yX10_spent ∈ mG := mg_5 62 (by decide +kernel) (by decide +kernel)
theorem ml_L_147 : Cond.methodLink RL 147 yX11_spent ∈ mG := mg_7 229 (by decide +kernel) (by decide +kernel)
theorem ml_L_148 : Cond.methodLink RL 148 yX10_fine ∈ mG := mg_5 97 (by decide +kernel) (by decide +kernel)
theorem ml_L_151 : Cond.methodLink RL 151 yX11_fine ∈ mG := mg_8 10 (by decide +kernel) (by decide +kernel)
theorem ml_L_152 : Cond.methodLink RL 152 yX10_until ∈ mG := mg_5 107 (by decide +kernel) (by decide +kernel)
theorem ml_L_155 : Cond.methodLink RL 155 yX11_until ∈ mG := mg_8 14 (by decide +kernel) (by decide +kernel)
theorem ml_L_156 : Cond.methodLink RL 156 yX10_lot ∈ mG := mg_5 112 (by decide +kernel) (by decide +kernel)
theorem ml_L_159 : Cond.methodLink RL 159 yX11_lot ∈ mG := mg_8 18 (by decide +kernel) (by decide +kernel)
theorem ml_L_160 : Cond.methodLink RL 160 yX10_shown ∈ mG := mg_5 116 (by decide +kernel) (by decide +kernel)
theorem ml_L_163 : Cond.methodLink RL 163 yX11_shown ∈ mG := mg_8 23 (by decide +kernel) (by decide +kernel)
theorem ml_L_164 : Cond.methodLink RL 164 yX10_clumps ∈ mG := mg_5 121 (by decide +kernel) (by decide +kernel)
theorem ml_L_167 : Cond.methodLink RL 167 yX11_clumps ∈ mG := mg_8 27 (by decide +kernel) (by decide +kernel)
theorem ml_L_168 : Cond.methodLink RL 168 yX10_lamp ∈ mG := mg_5 142 (by decide +kernel) (by decide +kernel)
theorem ml_L_17 : Cond.methodLink RL 17 yX11_feed ∈ mG := mg_6 120 (by decide +kernel) (by decide +kernel)
theorem ml_L_171 : Cond.methodLink RL 171 yX11_lamp ∈ mG := mg_8 33 (by decide +kernel) (by decide +kernel)
theorem ml_L_172 : Cond.methodLink RL 172 yX10_pay ∈ mG := mg_5 146 (by decide +kernel) (by decide +kernel)
theorem ml_L_175 : Cond.methodLink RL 175 yX11_pay ∈ mG := mg_8 37 (by decide +kernel) (by decide +kernel)
theorem ml_L_176 : Cond.methodLink RL 176 yX10_rests ∈ mG := mg_5 153 (by decide +kernel) (by decide +kernel)
theorem ml_L_179 : Cond.methodLink RL 179 yX11_rests ∈ mG := mg_8 46 (by decide +kernel) (by decide +kernel)
theorem ml_L_18 : Cond.methodLink RL 18 yX10_text ∈ mG := mg_3 43 (by decide +kernel) (by decide +kernel)
theorem ml_L_180 : Cond.methodLink RL 180 yX10_thanks ∈ mG := mg_5 162 (by decide +kernel) (by decide +kernel)
theorem ml_L_183 : Cond.methodLink RL 183 yX11_thanks ∈ mG := mg_8 54 (by decide +kernel) (by decide +kernel)
theorem ml_L_184 : Cond.methodLink RL 184 yX10_filled ∈ mG := mg_5 169 (by decide +kernel) (by decide +kernel)
theorem ml_L_187 : Cond.methodLink RL 187 yX11_filled ∈ mG := mg_8 61 (by decide +kernel) (by decide +kernel)
theorem ml_L_188 : Cond.methodLink RL 188 yX10_slip ∈ mG := mg_5 183 (by decide +kernel) (by decide +kernel)
theorem ml_L_191 : Cond.methodLink RL 191 yX11_slip ∈ mG := mg_8 77 (by decide +kernel) (by decide +kernel)
theorem ml_L_192 : Cond.methodLink RL 192 yX10_numbers ∈ mG := mg_5 202 (by decide +kernel) (by decide +kernel)
theorem ml_L_195 : Cond.methodLink RL 195 yX11_numbers ∈ mG := mg_8 85 (by decide +kernel) (by decide +kernel)
theorem ml_L_198 : Cond.methodLink RL 198 yX10_write ∈ mG := mg_5 206 (by decide +kernel) (by decide +kernel)
theorem ml_L_202 : Cond.methodLink RL 202 yX11_write ∈ mG := mg_8 90 (by decide +kernel) (by decide +kernel)
theorem ml_L_203 : Cond.methodLink RL 203 yX10_image ∈ mG := mg_5 214 (by decide +kernel) (by decide +kernel)
theorem ml_L_206 : Cond.methodLink RL 206 yX11_image ∈ mG := mg_8 97 (by decide +kernel) (by decide +kernel)
theorem ml_L_207 : Cond.methodLink RL 207 yX10_restore ∈ mG := mg_5 230 (by decide +kernel) (by decide +kernel)
theorem ml_L_210 : Cond.methodLink RL 210 yX11_restore ∈ mG := mg_8 101 (by decide +kernel) (by decide +kernel)
theorem ml_L_211 : Cond.methodLink RL 211 yX10_status ∈ mG := mg_5 234 (by decide +kernel) (by decide +kernel)
theorem ml_L_214 : Cond.methodLink RL 214 yX11_status ∈ mG := mg_8 105 (by decide +kernel) (by decide +kernel)
theorem ml_L_215 : Cond.methodLink RL 215 yX10_count ∈ mG := mg_5 238 (by decide +kernel) (by decide +kernel)
theorem ml_L_218 : Cond.methodLink RL 218 yX11_count ∈ mG := mg_8 109 (by decide +kernel) (by decide +kernel)
theorem ml_L_22 : Cond.methodLink RL 22 yX11_text ∈ mG := mg_6 128 (by decide +kernel) (by decide +kernel)
theorem ml_L_23 : Cond.methodLink RL 23 yX10_fault ∈ mG := mg_3 212 (by decide +kernel) (by decide +kernel)
theorem ml_L_27 : Cond.methodLink RL 27 yX11_fault ∈ mG := mg_6 217 (by decide +kernel) (by decide +kernel)
theorem ml_L_28 : Cond.methodLink RL 28 yX10_car ∈ mG := mg_3 216 (by decide +kernel) (by decide +kernel)
theorem ml_L_31 : Cond.methodLink RL 31 yX11_car ∈ mG := mg_6 221 (by decide +kernel) (by decide +kernel)
theorem ml_L_32 : Cond.methodLink RL 32 yX10_trait ∈ mG := mg_3 224 (by decide +kernel) (by decide +kernel)
theorem ml_L_36 : Cond.methodLink RL 36 yX11_trait ∈ mG := mg_6 230 (by decide +kernel) (by decide +kernel)
theorem ml_L_37 : Cond.methodLink RL 37 yX10_set ∈ mG := mg_3 228 (by decide +kernel) (by decide +kernel)
theorem ml_L_40 : Cond.methodLink RL 40 yX11_set ∈ mG := mg_6 235 (by decide +kernel) (by decide +kernel)
theorem ml_L_41 : Cond.methodLink RL 41 yX10_chance ∈ mG := mg_3 235 (by decide +kernel) (by decide +kernel)
theorem ml_L_44 : Cond.methodLink RL 44 yX11_chance ∈ mG := mg_7 3 (by decide +kernel) (by decide +kernel)
theorem ml_L_45 : Cond.methodLink RL 45 yX10_can ∈ mG := mg_4 34 (by decide +kernel) (by decide +kernel)
theorem ml_L_48 : Cond.methodLink RL 48 yX11_can ∈ mG := mg_7 31 (by decide +kernel) (by decide +kernel)
theorem ml_L_49 : Cond.methodLink RL 49 yX10_run ∈ mG := mg_4 42 (by decide +kernel) (by decide +kernel)
theorem ml_L_52 : Cond.methodLink RL 52 yX11_run ∈ mG := mg_7 39 (by decide +kernel) (by decide +kernel)
theorem ml_L_53 : Cond.methodLink RL 53 yX10_watch ∈ mG := mg_4 106 (by decide +kernel) (by decide +kernel)
theorem ml_L_57 : Cond.methodLink RL 57 yX11_watch ∈ mG := mg_7 76 (by decide +kernel) (by decide +kernel)
theorem ml_L_58 : Cond.methodLink RL 58 yX10_stands ∈ mG := mg_4 114 (by decide +kernel) (by decide +kernel)
theorem ml_L_61 : Cond.methodLink RL 61 yX11_stands ∈ mG := mg_7 85 (by decide +kernel) (by decide +kernel)
theorem ml_L_62 : Cond.methodLink RL 62 yX10_tries ∈ mG := mg_4 118 (by decide +kernel) (by decide +kernel)
theorem ml_L_66 : Cond.methodLink RL 66 yX11_tries ∈ mG := mg_7 89 (by decide +kernel) (by decide +kernel)
theorem ml_L_67 : Cond.methodLink RL 67 yX10_odds ∈ mG := mg_4 122 (by decide +kernel) (by decide +kernel)
theorem ml_L_71 : Cond.methodLink RL 71 yX11_odds ∈ mG := mg_7 93 (by decide +kernel) (by decide +kernel)
theorem ml_L_72 : Cond.methodLink RL 72 yX10_helps ∈ mG := mg_4 157 (by decide +kernel) (by decide +kernel)
theorem ml_L_75 : Cond.methodLink RL 75 yX11_helps ∈ mG := mg_7 110 (by decide +kernel) (by decide +kernel)
theorem ml_L_76 : Cond.methodLink RL 76 yX10_best ∈ mG := mg_4 161 (by decide +kernel) (by decide +kernel)
theorem ml_L_79 : Cond.methodLink RL 79 yX11_best ∈ mG := mg_7 118 (by decide +kernel) (by decide +kernel)
theorem ml_L_80 : Cond.methodLink RL 80 yX10_back ∈ mG := mg_4 177 (by decide +kernel) (by decide +kernel)
theorem ml_L_83 : Cond.methodLink RL 83 yX11_back ∈ mG := mg_7 125 (by decide +kernel) (by decide +kernel)
theorem ml_L_84 : Cond.methodLink RL 84 yX10_wise ∈ mG := mg_4 182 (by decide +kernel) (by decide +kernel)
theorem ml_L_87 : Cond.methodLink RL 87 yX11_wise ∈ mG := mg_7 130 (by decide +kernel) (by decide +kernel)
theorem ml_L_88 : Cond.methodLink RL 88 yX10_blame ∈ mG := mg_4 186 (by decide +kernel) (by decide +kernel)
theorem ml_L_92 : Cond.methodLink RL 92 yX11_blame ∈ mG := mg_7 135 (by decide +kernel) (by decide +kernel)
theorem ml_L_93 : Cond.methodLink RL 93 yX10_mean ∈ mG := mg_4 190 (by decide +kernel) (by decide +kernel)
theorem ml_L_96 : Cond.methodLink RL 96 yX11_mean ∈ mG := mg_7 139 (by decide +kernel) (by decide +kernel)
theorem ml_L_97 : Cond.methodLink RL 97 yX10_repeals ∈ mG := mg_4 200 (by decide +kernel) (by decide +kernel)

theorem la_c0 {p : Program} {l : Launch} {e : Env} {s : State} {m : MethodId} {below : List Frame} {meth : Method} {c : Code} {Q : State → Prop} {adr : Nat → Nat} {cA : Nat → ClassId} {D : va_G} {b L i n : Nat} {xs : Nat → Int32} (K : lK p l s m c adr cA D b L xs) {H : ZH} {Hp : Heap} {locs : List Loc} (lh : lH s adr cA D H Hp locs) (ok : okZ H) (I : Inv H n) (hn : n ≤ 511) {ls : Array Slot} (hl : lv_has ls 4 (lL adr b i)) (hi : i + 6 ≤ L) (kk : ∀ H2 Hp2 locs2, okZ H2 → Inv H2 (n + 1) → lH s adr cA D H2 Hp2 locs2 → lW p l e s m b below meth c Q Hp2 locs2 (F0 m 1989 ls [])) : lW p l e s m b below meth c Q Hp locs (F0 m 240 ls []) := by
  have hx := K.1
  have hb := K.2.1
  obtain ⟨P1, c1, k1⟩ := b_feed ok I hn (zN_rng (xs (i + 1))).1 (zN_rng (xs (i + 1))).2 (zN_rng (xs (i + 2))).1 (zN_rng (xs (i + 2))).2 (zN_rng (xs (i + 3))).1 (zN_rng (xs (i + 3))).2 (zN_rng (xs (i + 4))).1 (zN_rng (xs (i + 4))).2 (zN_rng (xs (i + 5))).1 (zN_rng (xs (i + 5))).2
  refine lv_aload_n hx hb dL_law_240 rfl (lv_at hl 1 rfl) ?_
  refine la_arg K lh hl hi 1 (by decide) rfl dL_law_241 dL_law_242 dL_law_243 dL_law_244 dL_law_245 ?_
  refine la_arg K lh hl hi 2 (by decide) rfl dL_law_246 dL_law_247 dL_law_248 dL_law_249 dL_law_250 ?_
  refine la_arg K lh hl hi 3 (by decide) rfl dL_law_251 dL_law_252 dL_law_253 dL_law_254 dL_law_255 ?_
  refine la_arg K lh hl hi 4 (by decide) rfl dL_law_256 dL_law_257 dL_law_258 dL_law_259 dL_law_260 ?_
  refine la_arg K lh hl hi 5 (by decide) rfl dL_law_261 dL_law_262 dL_law_263 dL_law_264 dL_law_265 ?_
  refine la_ci K lh hl [.int (zN (xs (i + 1)).toInt), .int (zN (xs (i + 2)).toInt), .int (zN (xs (i + 3)).toInt), .int (zN (xs (i + 4)).toInt), .int (zN (xs (i + 5)).toInt)] [] _ dL_law_266 ml_L_13 ok_X10_feed rfl sh_20 rfl (Or.inl rfl) rfl (Nat.le_of_ble_eq_true rfl) c1 (fun r H1 Hp1 locs1 ok1 p1 lh1 => ?_)
  obtain ⟨P2, c2, k2⟩ := k1 r H1 ok1 p1
  refine lv_aload_n hx hb dL_law_269 rfl (lv_at hl 2 rfl) ?_
  refine la_arg K lh1 hl hi 1 (by decide) rfl dL_law_270 dL_law_271 dL_law_272 dL_law_273 dL_law_274 ?_
  refine la_arg K lh1 hl hi 2 (by decide) rfl dL_law_275 dL_law_276 dL_law_277 dL_law_278 dL_law_279 ?_
  refine la_arg K lh1 hl hi 3 (by decide) rfl dL_law_280 dL_law_281 dL_law_282 dL_law_283 dL_law_284 ?_
  refine la_arg K lh1 hl hi 4 (by decide) rfl dL_law_285 dL_law_286 dL_law_287 dL_law_288 dL_law_289 ?_
  refine la_arg K lh1 hl hi 5 (by decide) rfl dL_law_290 dL_law_291 dL_law_292 dL_law_293 dL_law_294 ?_
  refine la_ci K lh1 hl [.int (zN (xs (i + 1)).toInt), .int (zN (xs (i + 2)).toInt), .int (zN (xs (i + 3)).toInt), .int (zN (xs (i + 4)).toInt), .int (zN (xs (i + 5)).toInt)] [.int (zN r)] _ dL_law_295 ml_L_17 ok_X11_feed rfl sh_0 rfl (Or.inl rfl) rfl (Nat.le_of_ble_eq_true rfl) c2 (fun r' H2 Hp2 locs2 ok2 p2 lh2 => ?_)
  obtain ⟨e', I2⟩ := k2 r' H2 ok2 p2
  subst e'
  exact lv_icmp_eq (tgt := 1989) hx hb dL_law_298 (by decide) (fun _ => kk H2 Hp2 locs2 ok2 I2 lh2) (fun z => absurd rfl z)

theorem la_c1 {p : Program} {l : Launch} {e : Env} {s : State} {m : MethodId} {below : List Frame} {meth : Method} {c : Code} {Q : State → Prop} {adr : Nat → Nat} {cA : Nat → ClassId} {D : va_G} {b L i n : Nat} {xs : Nat → Int32} (K : lK p l s m c adr cA D b L xs) {H : ZH} {Hp : Heap} {locs : List Loc} (lh : lH s adr cA D H Hp locs) (ok : okZ H) (I : Inv H n) (hn : n ≤ 511) {ls : Array Slot} (hl : lv_has ls 4 (lL adr b i)) (hi : i + 6 ≤ L) (kk : ∀ H2 Hp2 locs2, okZ H2 → Inv H2 (n + 1) → lH s adr cA D H2 Hp2 locs2 → lW p l e s m b below meth c Q Hp2 locs2 (F0 m 1989 ls [])) : lW p l e s m b below meth c Q Hp locs (F0 m 303 ls []) := by
  have hx := K.1
  have hb := K.2.1
  obtain ⟨P1, c1, k1⟩ := b_text ok I hn (zN_rng (xs (i + 1))).1 (zN_rng (xs (i + 1))).2 (zN_rng (xs (i + 2))).1 (zN_rng (xs (i + 2))).2
  refine lv_aload_n hx hb dL_law_303 rfl (lv_at hl 1 rfl) ?_
  refine la_arg K lh hl hi 1 (by decide) rfl dL_law_304 dL_law_305 dL_law_306 dL_law_307 dL_law_308 ?_
  refine la_arg K lh hl hi 2 (by decide) rfl dL_law_309 dL_law_310 dL_law_311 dL_law_312 dL_law_313 ?_
  refine la_ci K lh hl [.int (zN (xs (i + 1)).toInt), .int (zN (xs (i + 2)).toInt)] [] _ dL_law_314 ml_L_18 ok_X10_text rfl sh_20 rfl (Or.inl rfl) rfl (Nat.le_of_ble_eq_true rfl) c1 (fun r H1 Hp1 locs1 ok1 p1 lh1 => ?_)
  obtain ⟨P2, c2, k2⟩ := k1 r H1 ok1 p1
  refine lv_aload_n hx hb dL_law_317 rfl (lv_at hl 2 rfl) ?_
  refine la_arg K lh1 hl hi 1 (by decide) rfl dL_law_318 dL_law_319 dL_law_320 dL_law_321 dL_law_322 ?_
  refine la_arg K lh1 hl hi 2 (by decide) rfl dL_law_323 dL_law_324 dL_law_325 dL_law_326 dL_law_327 ?_
  refine la_ci K lh1 hl [.int (zN (xs (i + 1)).toInt), .int (zN (xs (i + 2)).toInt)] [.int (zN r)] _ dL_law_328 ml_L_22 ok_X11_text rfl sh_0 rfl (Or.inl rfl) rfl (Nat.le_of_ble_eq_true rfl) c2 (fun r' H2 Hp2 locs2 ok2 p2 lh2 => ?_)
  obtain ⟨e', I2⟩ := k2 r' H2 ok2 p2
  subst e'
  exact lv_icmp_eq (tgt := 1989) hx hb dL_law_331 (by decide) (fun _ => kk H2 Hp2 locs2 ok2 I2 lh2) (fun z => absurd rfl z)

theorem la_c2 {p : Program} {l : Launch} {e : Env} {s : State} {m : MethodId} {below : List Frame} {meth : Method} {c : Code} {Q : State → Prop} {adr : Nat → Nat} {cA : Nat → ClassId} {D : va_G} {b L i n : Nat} {xs : Nat → Int32} (K : lK p l s m c adr cA D b L xs) {H : ZH} {Hp : Heap} {locs : List Loc} (lh : lH s adr cA D H Hp locs) (ok : okZ H) (I : Inv H n) (hn : n ≤ 511) {ls : Array Slot} (hl : lv_has ls 4 (lL adr b i)) (hi : i + 6 ≤ L) (kk : ∀ H2 Hp2 locs2, okZ H2 → Inv H2 (n + 1) → lH s adr cA D H2 Hp2 locs2 → lW p l e s m b below meth c Q Hp2 locs2 (F0 m 1989 ls [])) : lW p l e s m b below meth c Q Hp locs (F0 m 336 ls []) := by
  have hx := K.1
  have hb := K.2.1
  obtain ⟨P1, c1, k1⟩ := b_fault ok I hn (zN_rng (xs (i + 1))).1 (zN_rng (xs (i + 1))).2
  refine lv_aload_n hx hb dL_law_336 rfl (lv_at hl 1 rfl) ?_
  refine la_arg K lh hl hi 1 (by decide) rfl dL_law_337 dL_law_338 dL_law_339 dL_law_340 dL_law_341 ?_
  refine la_ci K lh hl [.int (zN (xs (i + 1)).toInt)] [] _ dL_law_342 ml_L_23 ok_X10_fault rfl sh_20 rfl (Or.inl rfl) rfl (Nat.le_of_ble_eq_true rfl) c1 (fun r H1 Hp1 locs1 ok1 p1 lh1 => ?_)
  obtain ⟨P2, c2, k2⟩ := k1 r H1 ok1 p1
  refine lv_aload_n hx hb dL_law_345 rfl (lv_at hl 2 rfl) ?_
  refine la_arg K lh1 hl hi 1 (by decide) rfl dL_law_346 dL_law_347 dL_law_348 dL_law_349 dL_law_350 ?_
  refine la_ci K lh1 hl [.int (zN (xs (i + 1)).toInt)] [.int (zN r)] _ dL_law_351 ml_L_27 ok_X11_fault rfl sh_0 rfl (Or.inl rfl) rfl (Nat.le_of_ble_eq_true rfl) c2 (fun r' H2 Hp2 locs2 ok2 p2 lh2 => ?_)
  obtain ⟨e', I2⟩ := k2 r' H2 ok2 p2
  subst e'
  exact lv_icmp_eq (tgt := 1989) hx hb dL_law_354 (by decide) (fun _ => kk H2 Hp2 locs2 ok2 I2 lh2) (fun z => absurd rfl z)

theorem la_c3 {p : Program} {l : Launch} {e : Env} {s : State} {m : MethodId} {below : List Frame} {meth : Method} {c : Code} {Q : State → Prop} {adr : Nat → Nat} {cA : Nat → ClassId} {D : va_G} {b L i n : Nat} {xs : Nat → Int32} (K : lK p l s m c adr cA D b L xs) {H : ZH} {Hp : Heap} {locs : List Loc} (lh : lH s adr cA D H Hp locs) (ok : okZ H) (I : Inv H n) (hn : n ≤ 511) {ls : Array Slot} (hl : lv_has ls 4 (lL adr b i)) (hi : i + 6 ≤ L) (kk : ∀ H2 Hp2 locs2, okZ H2 → Inv H2 (n + 1) → lH s adr cA D H2 Hp2 locs2 → lW p l e s m b below meth c Q Hp2 locs2 (F0 m 1989 ls [])) : lW p l e s m b below meth c Q Hp locs (F0 m 359 ls []) := by
  have hx := K.1
  have hb := K.2.1
  obtain ⟨P1, c1, k1⟩ := b_car ok I hn (zN_rng (xs (i + 1))).1 (zN_rng (xs (i + 1))).2 (zN_rng (xs (i + 2))).1 (zN_rng (xs (i + 2))).2
  refine lv_aload_n hx hb dL_law_359 rfl (lv_at hl 1 rfl) ?_
  refine la_arg K lh hl hi 1 (by decide) rfl dL_law_360 dL_law_361 dL_law_362 dL_law_363 dL_law_364 ?_
  refine la_arg K lh hl hi 2 (by decide) rfl dL_law_365 dL_law_366 dL_law_367 dL_law_368 dL_law_369 ?_
  refine la_ci K lh hl [.int (zN (xs (i + 1)).toInt), .int (zN (xs (i + 2)).toInt)] [] _ dL_law_370 ml_L_28 ok_X10_car rfl sh_20 rfl (Or.inl rfl) rfl (Nat.le_of_ble_eq_true rfl) c1 (fun r H1 Hp1 locs1 ok1 p1 lh1 => ?_)
  obtain ⟨P2, c2, k2⟩ := k1 r H1 ok1 p1
  refine lv_aload_n hx hb dL_law_373 rfl (lv_at hl 2 rfl) ?_
  refine la_arg K lh1 hl hi 1 (by decide) rfl dL_law_374 dL_law_375 dL_law_376 dL_law_377 dL_law_378 ?_
  refine la_arg K lh1 hl hi 2 (by decide) rfl dL_law_379 dL_law_380 dL_law_381 dL_law_382 dL_law_383 ?_
  refine la_ci K lh1 hl [.int (zN (xs (i + 1)).toInt), .int (zN (xs (i + 2)).toInt)] [.int (zN r)] _ dL_law_384 ml_L_31 ok_X11_car rfl sh_0 rfl (Or.inl rfl) rfl (Nat.le_of_ble_eq_true rfl) c2 (fun r' H2 Hp2 locs2 ok2 p2 lh2 => ?_)
  obtain ⟨e', I2⟩ := k2 r' H2 ok2 p2
  subst e'
  exact lv_icmp_eq (tgt := 1989) hx hb dL_law_387 (by decide) (fun _ => kk H2 Hp2 locs2 ok2 I2 lh2) (fun z => absurd rfl z)

theorem la_c4 {p : Program} {l : Launch} {e : Env} {s : State} {m : MethodId} {below : List Frame} {meth : Method} {c : Code} {Q : State → Prop} {adr : Nat → Nat} {cA : Nat → ClassId} {D : va_G} {b L i n : Nat} {xs : Nat → Int32} (K : lK p l s m c adr cA D b L xs) {H : ZH} {Hp : Heap} {locs : List Loc} (lh : lH s adr cA D H Hp locs) (ok : okZ H) (I : Inv H n) (hn : n ≤ 511) {ls : Array Slot} (hl : lv_has ls 4 (lL adr b i)) (hi : i + 6 ≤ L) (kk : ∀ H2 Hp2 locs2, okZ H2 → Inv H2 (n + 1) → lH s adr cA D H2 Hp2 locs2 → lW p l e s m b below meth c Q Hp2 locs2 (F0 m 1989 ls [])) : lW p l e s m b below meth c Q Hp locs (F0 m 392 ls []) := by
  have hx := K.1
  have hb := K.2.1
  obtain ⟨P1, c1, k1⟩ := b_trait ok I hn (zN_rng (xs (i + 1))).1 (zN_rng (xs (i + 1))).2 (lbv_01 (xs (i + 2)))
  refine lv_aload_n hx hb dL_law_392 rfl (lv_at hl 1 rfl) ?_
  refine la_arg K lh hl hi 1 (by decide) rfl dL_law_393 dL_law_394 dL_law_395 dL_law_396 dL_law_397 ?_
  refine la_arg K lh hl hi 2 (by decide) rfl dL_law_398 dL_law_399 dL_law_400 dL_law_401 dL_law_402 ?_
  refine la_bool hx hb dL_law_403 (by decide) dL_law_406 dL_law_407 (by decide) dL_law_410 ?_
  refine la_ci K lh hl [.int (zN (xs (i + 1)).toInt), .int (zN (lbv (xs (i + 2))))] [] _ dL_law_411 ml_L_32 ok_X10_trait rfl sh_20 rfl (Or.inl rfl) rfl (Nat.le_of_ble_eq_true rfl) c1 (fun r H1 Hp1 locs1 ok1 p1 lh1 => ?_)
  obtain ⟨P2, c2, k2⟩ := k1 r H1 ok1 p1
  refine lv_aload_n hx hb dL_law_414 rfl (lv_at hl 2 rfl) ?_
  refine la_arg K lh1 hl hi 1 (by decide) rfl dL_law_415 dL_law_416 dL_law_417 dL_law_418 dL_law_419 ?_
  refine la_arg K lh1 hl hi 2 (by decide) rfl dL_law_420 dL_law_421 dL_law_422 dL_law_423 dL_law_424 ?_
  refine la_bool hx hb dL_law_425 (by decide) dL_law_428 dL_law_429 (by decide) dL_law_432 ?_
  refine la_ci K lh1 hl [.int (zN (xs (i + 1)).toInt), .int (zN (lbv (xs (i + 2))))] [.int (zN r)] _ dL_law_433 ml_L_36 ok_X11_trait rfl sh_0 rfl (Or.inl rfl) rfl (Nat.le_of_ble_eq_true rfl) c2 (fun r' H2 Hp2 locs2 ok2 p2 lh2 => ?_)
  obtain ⟨e', I2⟩ := k2 r' H2 ok2 p2
  subst e'
  exact lv_icmp_eq (tgt := 1989) hx hb dL_law_436 (by decide) (fun _ => kk H2 Hp2 locs2 ok2 I2 lh2) (fun z => absurd rfl z)

theorem la_c5 {p : Program} {l : Launch} {e : Env} {s : State} {m : MethodId} {below : List Frame} {meth : Method} {c : Code} {Q : State → Prop} {adr : Nat → Nat} {cA : Nat → ClassId} {D : va_G} {b L i n : Nat} {xs : Nat → Int32} (K : lK p l s m c adr cA D b L xs) {H : ZH} {Hp : Heap} {locs : List Loc} (lh : lH s adr cA D H Hp locs) (ok : okZ H) (I : Inv H n) (hn : n ≤ 511) {ls : Array Slot} (hl : lv_has ls 4 (lL adr b i)) (hi : i + 6 ≤ L) (kk : ∀ H2 Hp2 locs2, okZ H2 → Inv H2 (n + 1) → lH s adr cA D H2 Hp2 locs2 → lW p l e s m b below meth c Q Hp2 locs2 (F0 m 1989 ls [])) : lW p l e s m b below meth c Q Hp locs (F0 m 441 ls []) := by
  have hx := K.1
  have hb := K.2.1
  obtain ⟨P1, c1, k1⟩ := b_set ok I hn (zN_rng (xs (i + 1))).1 (zN_rng (xs (i + 1))).2 (zN_rng (xs (i + 2))).1 (zN_rng (xs (i + 2))).2
  refine lv_aload_n hx hb dL_law_441 rfl (lv_at hl 1 rfl) ?_
  refine la_arg K lh hl hi 1 (by decide) rfl dL_law_442 dL_law_443 dL_law_444 dL_law_445 dL_law_446 ?_
  refine la_arg K lh hl hi 2 (by decide) rfl dL_law_447 dL_law_448 dL_law_449 dL_law_450 dL_law_451 ?_
  refine la_ci K lh hl [.int (zN (xs (i + 1)).toInt), .int (zN (xs (i + 2)).toInt)] [] _ dL_law_452 ml_L_37 ok_X10_set rfl sh_20 rfl (Or.inl rfl) rfl (Nat.le_of_ble_eq_true rfl) c1 (fun r H1 Hp1 locs1 ok1 p1 lh1 => ?_)
  obtain ⟨P2, c2, k2⟩ := k1 r H1 ok1 p1
  refine lv_aload_n hx hb dL_law_455 rfl (lv_at hl 2 rfl) ?_
  refine la_arg K lh1 hl hi 1 (by decide) rfl dL_law_456 dL_law_457 dL_law_458 dL_law_459 dL_law_460 ?_
  refine la_arg K lh1 hl hi 2 (by decide) rfl dL_law_461 dL_law_462 dL_law_463 dL_law_464 dL_law_465 ?_
  refine la_ci K lh1 hl [.int (zN (xs (i + 1)).toInt), .int (zN (xs (i + 2)).toInt)] [.int (zN r)] _ dL_law_466 ml_L_40 ok_X11_set rfl sh_0 rfl (Or.inl rfl) rfl (Nat.le_of_ble_eq_true rfl) c2 (fun r' H2 Hp2 locs2 ok2 p2 lh2 => ?_)
  obtain ⟨e', I2⟩ := k2 r' H2 ok2 p2
  subst e'
  exact lv_icmp_eq (tgt := 1989) hx hb dL_law_469 (by decide) (fun _ => kk H2 Hp2 locs2 ok2 I2 lh2) (fun z => absurd rfl z)

theorem la_c6 {p : Program} {l : Launch} {e : Env} {s : State} {m : MethodId} {below : List Frame} {meth : Method} {c : Code} {Q : State → Prop} {adr : Nat → Nat} {cA : Nat → ClassId} {D : va_G} {b L i n : Nat} {xs : Nat → Int32} (K : lK p l s m c adr cA D b L xs) {H : ZH} {Hp : Heap} {locs : List Loc} (lh : lH s adr cA D H Hp locs) (ok : okZ H) (I : Inv H n) (hn : n ≤ 511) {ls : Array Slot} (hl : lv_has ls 4 (lL adr b i)) (hi : i + 6 ≤ L) (kk : ∀ H2 Hp2 locs2, okZ H2 → Inv H2 (n + 1) → lH s adr cA D H2 Hp2 locs2 → lW p l e s m b below meth c Q Hp2 locs2 (F0 m 1989 ls [])) : lW p l e s m b below meth c Q Hp locs (F0 m 474 ls []) := by
  have hx := K.1
  have hb := K.2.1
  obtain ⟨P1, c1, k1⟩ := b_chance ok I hn (zN_rng (xs (i + 1))).1 (zN_rng (xs (i + 1))).2
  refine lv_aload_n hx hb dL_law_474 rfl (lv_at hl 1 rfl) ?_
  refine la_arg K lh hl hi 1 (by decide) rfl dL_law_475 dL_law_476 dL_law_477 dL_law_478 dL_law_479 ?_
  refine la_ci K lh hl [.int (zN (xs (i + 1)).toInt)] [] _ dL_law_480 ml_L_41 ok_X10_chance rfl sh_20 rfl (Or.inl rfl) rfl (Nat.le_of_ble_eq_true rfl) c1 (fun r H1 Hp1 locs1 ok1 p1 lh1 => ?_)
  obtain ⟨P2, c2, k2⟩ := k1 r H1 ok1 p1
  refine lv_aload_n hx hb dL_law_483 rfl (lv_at hl 2 rfl) ?_
  refine la_arg K lh1 hl hi 1 (by decide) rfl dL_law_484 dL_law_485 dL_law_486 dL_law_487 dL_law_488 ?_
  refine la_ci K lh1 hl [.int (zN (xs (i + 1)).toInt)] [.int (zN r)] _ dL_law_489 ml_L_44 ok_X11_chance rfl sh_0 rfl (Or.inl rfl) rfl (Nat.le_of_ble_eq_true rfl) c2 (fun r' H2 Hp2 locs2 ok2 p2 lh2 => ?_)
  obtain ⟨e', I2⟩ := k2 r' H2 ok2 p2
  subst e'
  exact lv_icmp_eq (tgt := 1989) hx hb dL_law_492 (by decide) (fun _ => kk H2 Hp2 locs2 ok2 I2 lh2) (fun z => absurd rfl z)

theorem la_c7 {p : Program} {l : Launch} {e : Env} {s : State} {m : MethodId} {below : List Frame} {meth : Method} {c : Code} {Q : State → Prop} {adr : Nat → Nat} {cA : Nat → ClassId} {D : va_G} {b L i n : Nat} {xs : Nat → Int32} (K : lK p l s m c adr cA D b L xs) {H : ZH} {Hp : Heap} {locs : List Loc} (lh : lH s adr cA D H Hp locs) (ok : okZ H) (I : Inv H n) (hn : n ≤ 511) {ls : Array Slot} (hl : lv_has ls 4 (lL adr b i)) (hi : i + 6 ≤ L) (kk : ∀ H2 Hp2 locs2, okZ H2 → Inv H2 (n + 1) → lH s adr cA D H2 Hp2 locs2 → lW p l e s m b below meth c Q Hp2 locs2 (F0 m 1989 ls [])) : lW p l e s m b below meth c Q Hp locs (F0 m 497 ls []) := by
  have hx := K.1
  have hb := K.2.1
  obtain ⟨P1, c1, k1⟩ := b_can ok I hn (zN_rng (xs (i + 1))).1 (zN_rng (xs (i + 1))).2
  refine lv_aload_n hx hb dL_law_497 rfl (lv_at hl 1 rfl) ?_
  refine la_arg K lh hl hi 1 (by decide) rfl dL_law_498 dL_law_499 dL_law_500 dL_law_501 dL_law_502 ?_
  refine la_ci K lh hl [.int (zN (xs (i + 1)).toInt)] [] _ dL_law_503 ml_L_45 ok_X10_can rfl sh_20 rfl (Or.inl rfl) rfl (Nat.le_of_ble_eq_true rfl) c1 (fun r H1 Hp1 locs1 ok1 p1 lh1 => ?_)
  obtain ⟨P2, c2, k2⟩ := k1 r H1 ok1 p1
  refine lv_aload_n hx hb dL_law_506 rfl (lv_at hl 2 rfl) ?_
  refine la_arg K lh1 hl hi 1 (by decide) rfl dL_law_507 dL_law_508 dL_law_509 dL_law_510 dL_law_511 ?_
  refine la_ci K lh1 hl [.int (zN (xs (i + 1)).toInt)] [.int (zN r)] _ dL_law_512 ml_L_48 ok_X11_can rfl sh_0 rfl (Or.inl rfl) rfl (Nat.le_of_ble_eq_true rfl) c2 (fun r' H2 Hp2 locs2 ok2 p2 lh2 => ?_)
  obtain ⟨e', I2⟩ := k2 r' H2 ok2 p2
  subst e'
  exact lv_icmp_eq (tgt := 1989) hx hb dL_law_515 (by decide) (fun _ => kk H2 Hp2 locs2 ok2 I2 lh2) (fun z => absurd rfl z)

theorem la_c8 {p : Program} {l : Launch} {e : Env} {s : State} {m : MethodId} {below : List Frame} {meth : Method} {c : Code} {Q : State → Prop} {adr : Nat → Nat} {cA : Nat → ClassId} {D : va_G} {b L i n : Nat} {xs : Nat → Int32} (K : lK p l s m c adr cA D b L xs) {H : ZH} {Hp : Heap} {locs : List Loc} (lh : lH s adr cA D H Hp locs) (ok : okZ H) (I : Inv H n) (hn : n ≤ 511) {ls : Array Slot} (hl : lv_has ls 4 (lL adr b i)) (hi : i + 6 ≤ L) (kk : ∀ H2 Hp2 locs2, okZ H2 → Inv H2 (n + 1) → lH s adr cA D H2 Hp2 locs2 → lW p l e s m b below meth c Q Hp2 locs2 (F0 m 1989 ls [])) : lW p l e s m b below meth c Q Hp locs (F0 m 520 ls []) := by
  have hx := K.1
  have hb := K.2.1
  obtain ⟨P1, c1, k1⟩ := b_run ok I hn (zN_rng (xs (i + 1))).1 (zN_rng (xs (i + 1))).2 (zN_rng (xs (i + 2))).1 (zN_rng (xs (i + 2))).2
  refine lv_aload_n hx hb dL_law_520 rfl (lv_at hl 1 rfl) ?_
  refine la_arg K lh hl hi 1 (by decide) rfl dL_law_521 dL_law_522 dL_law_523 dL_law_524 dL_law_525 ?_
  refine la_arg K lh hl hi 2 (by decide) rfl dL_law_526 dL_law_527 dL_law_528 dL_law_529 dL_law_530 ?_
  refine la_ci K lh hl [.int (zN (xs (i + 1)).toInt), .int (zN (xs (i + 2)).toInt)] [] _ dL_law_531 ml_L_49 ok_X10_run rfl sh_20 rfl (Or.inl rfl) rfl (Nat.le_of_ble_eq_true rfl) c1 (fun r H1 Hp1 locs1 ok1 p1 lh1 => ?_)
  obtain ⟨P2, c2, k2⟩ := k1 r H1 ok1 p1
  refine lv_aload_n hx hb dL_law_534 rfl (lv_at hl 2 rfl) ?_
  refine la_arg K lh1 hl hi 1 (by decide) rfl dL_law_535 dL_law_536 dL_law_537 dL_law_538 dL_law_539 ?_
  refine la_arg K lh1 hl hi 2 (by decide) rfl dL_law_540 dL_law_541 dL_law_542 dL_law_543 dL_law_544 ?_
  refine la_ci K lh1 hl [.int (zN (xs (i + 1)).toInt), .int (zN (xs (i + 2)).toInt)] [.int (zN r)] _ dL_law_545 ml_L_52 ok_X11_run rfl sh_0 rfl (Or.inl rfl) rfl (Nat.le_of_ble_eq_true rfl) c2 (fun r' H2 Hp2 locs2 ok2 p2 lh2 => ?_)
  obtain ⟨e', I2⟩ := k2 r' H2 ok2 p2
  subst e'
  exact lv_icmp_eq (tgt := 1989) hx hb dL_law_548 (by decide) (fun _ => kk H2 Hp2 locs2 ok2 I2 lh2) (fun z => absurd rfl z)

theorem la_c9 {p : Program} {l : Launch} {e : Env} {s : State} {m : MethodId} {below : List Frame} {meth : Method} {c : Code} {Q : State → Prop} {adr : Nat → Nat} {cA : Nat → ClassId} {D : va_G} {b L i n : Nat} {xs : Nat → Int32} (K : lK p l s m c adr cA D b L xs) {H : ZH} {Hp : Heap} {locs : List Loc} (lh : lH s adr cA D H Hp locs) (ok : okZ H) (I : Inv H n) (hn : n ≤ 511) {ls : Array Slot} (hl : lv_has ls 4 (lL adr b i)) (hi : i + 6 ≤ L) (kk : ∀ H2 Hp2 locs2, okZ H2 → Inv H2 (n + 1) → lH s adr cA D H2 Hp2 locs2 → lW p l e s m b below meth c Q Hp2 locs2 (F0 m 1989 ls [])) : lW p l e s m b below meth c Q Hp locs (F0 m 553 ls []) := by
  have hx := K.1
  have hb := K.2.1
  obtain ⟨P1, c1, k1⟩ := b_watch ok I hn (zN_rng (xs (i + 1))).1 (zN_rng (xs (i + 1))).2 (zN_rng (xs (i + 2))).1 (zN_rng (xs (i + 2))).2 (zN_rng (xs (i + 3))).1 (zN_rng (xs (i + 3))).2 (zN_rng (xs (i + 4))).1 (zN_rng (xs (i + 4))).2
  refine lv_aload_n hx hb dL_law_553 rfl (lv_at hl 1 rfl) ?_
  refine la_arg K lh hl hi 1 (by decide) rfl dL_law_554 dL_law_555 dL_law_556 dL_law_557 dL_law_558 ?_
  refine la_arg K lh hl hi 2 (by decide) rfl dL_law_559 dL_law_560 dL_law_561 dL_law_562 dL_law_563 ?_
  refine la_arg K lh hl hi 3 (by decide) rfl dL_law_564 dL_law_565 dL_law_566 dL_law_567 dL_law_568 ?_
  refine la_arg K lh hl hi 4 (by decide) rfl dL_law_569 dL_law_570 dL_law_571 dL_law_572 dL_law_573 ?_
  refine la_ci K lh hl [.int (zN (xs (i + 1)).toInt), .int (zN (xs (i + 2)).toInt), .int (zN (xs (i + 3)).toInt), .int (zN (xs (i + 4)).toInt)] [] _ dL_law_574 ml_L_53 ok_X10_watch rfl sh_20 rfl (Or.inl rfl) rfl (Nat.le_of_ble_eq_true rfl) c1 (fun r H1 Hp1 locs1 ok1 p1 lh1 => ?_)
  obtain ⟨P2, c2, k2⟩ := k1 r H1 ok1 p1
  refine lv_aload_n hx hb dL_law_577 rfl (lv_at hl 2 rfl) ?_
  refine la_arg K lh1 hl hi 1 (by decide) rfl dL_law_578 dL_law_579 dL_law_580 dL_law_581 dL_law_582 ?_
  refine la_arg K lh1 hl hi 2 (by decide) rfl dL_law_583 dL_law_584 dL_law_585 dL_law_586 dL_law_587 ?_
  refine la_arg K lh1 hl hi 3 (by decide) rfl dL_law_588 dL_law_589 dL_law_590 dL_law_591 dL_law_592 ?_
  refine la_arg K lh1 hl hi 4 (by decide) rfl dL_law_593 dL_law_594 dL_law_595 dL_law_596 dL_law_597 ?_
  refine la_ci K lh1 hl [.int (zN (xs (i + 1)).toInt), .int (zN (xs (i + 2)).toInt), .int (zN (xs (i + 3)).toInt), .int (zN (xs (i + 4)).toInt)] [.int (zN r)] _ dL_law_598 ml_L_57 ok_X11_watch rfl sh_0 rfl (Or.inl rfl) rfl (Nat.le_of_ble_eq_true rfl) c2 (fun r' H2 Hp2 locs2 ok2 p2 lh2 => ?_)
  obtain ⟨e', I2⟩ := k2 r' H2 ok2 p2
  subst e'
  exact lv_icmp_eq (tgt := 1989) hx hb dL_law_601 (by decide) (fun _ => kk H2 Hp2 locs2 ok2 I2 lh2) (fun z => absurd rfl z)

theorem la_c10 {p : Program} {l : Launch} {e : Env} {s : State} {m : MethodId} {below : List Frame} {meth : Method} {c : Code} {Q : State → Prop} {adr : Nat → Nat} {cA : Nat → ClassId} {D : va_G} {b L i n : Nat} {xs : Nat → Int32} (K : lK p l s m c adr cA D b L xs) {H : ZH} {Hp : Heap} {locs : List Loc} (lh : lH s adr cA D H Hp locs) (ok : okZ H) (I : Inv H n) (hn : n ≤ 511) {ls : Array Slot} (hl : lv_has ls 4 (lL adr b i)) (hi : i + 6 ≤ L) (kk : ∀ H2 Hp2 locs2, okZ H2 → Inv H2 (n + 1) → lH s adr cA D H2 Hp2 locs2 → lW p l e s m b below meth c Q Hp2 locs2 (F0 m 1989 ls [])) : lW p l e s m b below meth c Q Hp locs (F0 m 606 ls []) := by
  have hx := K.1
  have hb := K.2.1
  obtain ⟨P1, c1, k1⟩ := b_stands ok I hn (zN_rng (xs (i + 1))).1 (zN_rng (xs (i + 1))).2 (zN_rng (xs (i + 2))).1 (zN_rng (xs (i + 2))).2
  refine lv_aload_n hx hb dL_law_606 rfl (lv_at hl 1 rfl) ?_
  refine la_arg K lh hl hi 1 (by decide) rfl dL_law_607 dL_law_608 dL_law_609 dL_law_610 dL_law_611 ?_
  refine la_arg K lh hl hi 2 (by decide) rfl dL_law_612 dL_law_613 dL_law_614 dL_law_615 dL_law_616 ?_
  refine la_ci K lh hl [.int (zN (xs (i + 1)).toInt), .int (zN (xs (i + 2)).toInt)] [] _ dL_law_617 ml_L_58 ok_X10_stands rfl sh_20 rfl (Or.inl rfl) rfl (Nat.le_of_ble_eq_true rfl) c1 (fun r H1 Hp1 locs1 ok1 p1 lh1 => ?_)
  obtain ⟨P2, c2, k2⟩ := k1 r H1 ok1 p1
  refine lv_aload_n hx hb dL_law_620 rfl (lv_at hl 2 rfl) ?_
  refine la_arg K lh1 hl hi 1 (by decide) rfl dL_law_621 dL_law_622 dL_law_623 dL_law_624 dL_law_625 ?_
  refine la_arg K lh1 hl hi 2 (by decide) rfl dL_law_626 dL_law_627 dL_law_628 dL_law_629 dL_law_630 ?_
  refine la_ci K lh1 hl [.int (zN (xs (i + 1)).toInt), .int (zN (xs (i + 2)).toInt)] [.int (zN r)] _ dL_law_631 ml_L_61 ok_X11_stands rfl sh_0 rfl (Or.inl rfl) rfl (Nat.le_of_ble_eq_true rfl) c2 (fun r' H2 Hp2 locs2 ok2 p2 lh2 => ?_)
  obtain ⟨e', I2⟩ := k2 r' H2 ok2 p2
  subst e'
  exact lv_icmp_eq (tgt := 1989) hx hb dL_law_634 (by decide) (fun _ => kk H2 Hp2 locs2 ok2 I2 lh2) (fun z => absurd rfl z)

theorem la_c11 {p : Program} {l : Launch} {e : Env} {s : State} {m : MethodId} {below : List Frame} {meth : Method} {c : Code} {Q : State → Prop} {adr : Nat → Nat} {cA : Nat → ClassId} {D : va_G} {b L i n : Nat} {xs : Nat → Int32} (K : lK p l s m c adr cA D b L xs) {H : ZH} {Hp : Heap} {locs : List Loc} (lh : lH s adr cA D H Hp locs) (ok : okZ H) (I : Inv H n) (hn : n ≤ 511) {ls : Array Slot} (hl : lv_has ls 4 (lL adr b i)) (hi : i + 6 ≤ L) (kk : ∀ H2 Hp2 locs2, okZ H2 → Inv H2 (n + 1) → lH s adr cA D H2 Hp2 locs2 → lW p l e s m b below meth c Q Hp2 locs2 (F0 m 1989 ls [])) : lW p l e s m b below meth c Q Hp locs (F0 m 639 ls []) := by
  have hx := K.1
  have hb := K.2.1
  obtain ⟨P1, c1, k1⟩ := b_tries ok I hn (zN_rng (xs (i + 1))).1 (zN_rng (xs (i + 1))).2 (zN_rng (xs (i + 2))).1 (zN_rng (xs (i + 2))).2 (zN_rng (xs (i + 3))).1 (zN_rng (xs (i + 3))).2
  refine lv_aload_n hx hb dL_law_639 rfl (lv_at hl 1 rfl) ?_
  refine la_arg K lh hl hi 1 (by decide) rfl dL_law_640 dL_law_641 dL_law_642 dL_law_643 dL_law_644 ?_
  refine la_arg K lh hl hi 2 (by decide) rfl dL_law_645 dL_law_646 dL_law_647 dL_law_648 dL_law_649 ?_
  refine la_arg K lh hl hi 3 (by decide) rfl dL_law_650 dL_law_651 dL_law_652 dL_law_653 dL_law_654 ?_
  refine la_ci K lh hl [.int (zN (xs (i + 1)).toInt), .int (zN (xs (i + 2)).toInt), .int (zN (xs (i + 3)).toInt)] [] _ dL_law_655 ml_L_62 ok_X10_tries rfl sh_20 rfl (Or.inl rfl) rfl (Nat.le_of_ble_eq_true rfl) c1 (fun r H1 Hp1 locs1 ok1 p1 lh1 => ?_)
  obtain ⟨P2, c2, k2⟩ := k1 r H1 ok1 p1
  refine lv_aload_n hx hb dL_law_658 rfl (lv_at hl 2 rfl) ?_
  refine la_arg K lh1 hl hi 1 (by decide) rfl dL_law_659 dL_law_660 dL_law_661 dL_law_662 dL_law_663 ?_
  refine la_arg K lh1 hl hi 2 (by decide) rfl dL_law_664 dL_law_665 dL_law_666 dL_law_667 dL_law_668 ?_
  refine la_arg K lh1 hl hi 3 (by decide) rfl dL_law_669 dL_law_670 dL_law_671 dL_law_672 dL_law_673 ?_
  refine la_ci K lh1 hl [.int (zN (xs (i + 1)).toInt), .int (zN (xs (i + 2)).toInt), .int (zN (xs (i + 3)).toInt)] [.int (zN r)] _ dL_law_674 ml_L_66 ok_X11_tries rfl sh_0 rfl (Or.inl rfl) rfl (Nat.le_of_ble_eq_true rfl) c2 (fun r' H2 Hp2 locs2 ok2 p2 lh2 => ?_)
  obtain ⟨e', I2⟩ := k2 r' H2 ok2 p2
  subst e'
  exact lv_icmp_eq (tgt := 1989) hx hb dL_law_677 (by decide) (fun _ => kk H2 Hp2 locs2 ok2 I2 lh2) (fun z => absurd rfl z)

theorem la_c12 {p : Program} {l : Launch} {e : Env} {s : State} {m : MethodId} {below : List Frame} {meth : Method} {c : Code} {Q : State → Prop} {adr : Nat → Nat} {cA : Nat → ClassId} {D : va_G} {b L i n : Nat} {xs : Nat → Int32} (K : lK p l s m c adr cA D b L xs) {H : ZH} {Hp : Heap} {locs : List Loc} (lh : lH s adr cA D H Hp locs) (ok : okZ H) (I : Inv H n) (hn : n ≤ 511) {ls : Array Slot} (hl : lv_has ls 4 (lL adr b i)) (hi : i + 6 ≤ L) (kk : ∀ H2 Hp2 locs2, okZ H2 → Inv H2 (n + 1) → lH s adr cA D H2 Hp2 locs2 → lW p l e s m b below meth c Q Hp2 locs2 (F0 m 1989 ls [])) : lW p l e s m b below meth c Q Hp locs (F0 m 682 ls []) := by
  have hx := K.1
  have hb := K.2.1
  obtain ⟨P1, c1, k1⟩ := b_odds ok I hn (zN_rng (xs (i + 1))).1 (zN_rng (xs (i + 1))).2
  refine lv_aload_n hx hb dL_law_682 rfl (lv_at hl 1 rfl) ?_
  refine la_arg K lh hl hi 1 (by decide) rfl dL_law_683 dL_law_684 dL_law_685 dL_law_686 dL_law_687 ?_
  refine la_cl K lh hl [.int (zN (xs (i + 1)).toInt)] [] _ dL_law_688 ml_L_67 ok_X10_odds rfl sh_20 rfl rfl rfl (Nat.le_of_ble_eq_true rfl) c1 (fun r H1 Hp1 locs1 ok1 p1 lh1 => ?_)
  obtain ⟨P2, c2, k2⟩ := k1 r H1 ok1 p1
  refine lv_aload_n hx hb dL_law_691 rfl (lv_at hl 2 rfl) ?_
  refine la_arg K lh1 hl hi 1 (by decide) rfl dL_law_692 dL_law_693 dL_law_694 dL_law_695 dL_law_696 ?_
  refine la_cl K lh1 hl [.int (zN (xs (i + 1)).toInt)] [.long (zL r)] _ dL_law_697 ml_L_71 ok_X11_odds rfl sh_0 rfl rfl rfl (Nat.le_of_ble_eq_true rfl) c2 (fun r' H2 Hp2 locs2 ok2 p2 lh2 => ?_)
  obtain ⟨e', I2⟩ := k2 r' H2 ok2 p2
  subst e'
  refine W.lcmp hx hb dL_law_700 ?_
  exact lv_if_eq (tgt := 1989) hx hb dL_law_701 (by decide) (fun _ => kk H2 Hp2 locs2 ok2 I2 lh2) (fun z => absurd (lg_cmp_0 _) z)

theorem la_c13 {p : Program} {l : Launch} {e : Env} {s : State} {m : MethodId} {below : List Frame} {meth : Method} {c : Code} {Q : State → Prop} {adr : Nat → Nat} {cA : Nat → ClassId} {D : va_G} {b L i n : Nat} {xs : Nat → Int32} (K : lK p l s m c adr cA D b L xs) {H : ZH} {Hp : Heap} {locs : List Loc} (lh : lH s adr cA D H Hp locs) (ok : okZ H) (I : Inv H n) (hn : n ≤ 511) {ls : Array Slot} (hl : lv_has ls 4 (lL adr b i)) (hi : i + 6 ≤ L) (kk : ∀ H2 Hp2 locs2, okZ H2 → Inv H2 (n + 1) → lH s adr cA D H2 Hp2 locs2 → lW p l e s m b below meth c Q Hp2 locs2 (F0 m 1989 ls [])) : lW p l e s m b below meth c Q Hp locs (F0 m 706 ls []) := by
  have hx := K.1
  have hb := K.2.1
  obtain ⟨P1, c1, k1⟩ := b_helps ok I hn (zN_rng (xs (i + 1))).1 (zN_rng (xs (i + 1))).2
  refine lv_aload_n hx hb dL_law_706 rfl (lv_at hl 1 rfl) ?_
  refine la_arg K lh hl hi 1 (by decide) rfl dL_law_707 dL_law_708 dL_law_709 dL_law_710 dL_law_711 ?_
  refine la_cl K lh hl [.int (zN (xs (i + 1)).toInt)] [] _ dL_law_712 ml_L_72 ok_X10_helps rfl sh_20 rfl rfl rfl (Nat.le_of_ble_eq_true rfl) c1 (fun r H1 Hp1 locs1 ok1 p1 lh1 => ?_)
  obtain ⟨P2, c2, k2⟩ := k1 r H1 ok1 p1
  refine lv_aload_n hx hb dL_law_715 rfl (lv_at hl 2 rfl) ?_
  refine la_arg K lh1 hl hi 1 (by decide) rfl dL_law_716 dL_law_717 dL_law_718 dL_law_719 dL_law_720 ?_
  refine la_cl K lh1 hl [.int (zN (xs (i + 1)).toInt)] [.long (zL r)] _ dL_law_721 ml_L_75 ok_X11_helps rfl sh_0 rfl rfl rfl (Nat.le_of_ble_eq_true rfl) c2 (fun r' H2 Hp2 locs2 ok2 p2 lh2 => ?_)
  obtain ⟨e', I2⟩ := k2 r' H2 ok2 p2
  subst e'
  refine W.lcmp hx hb dL_law_724 ?_
  exact lv_if_eq (tgt := 1989) hx hb dL_law_725 (by decide) (fun _ => kk H2 Hp2 locs2 ok2 I2 lh2) (fun z => absurd (lg_cmp_0 _) z)

theorem la_c14 {p : Program} {l : Launch} {e : Env} {s : State} {m : MethodId} {below : List Frame} {meth : Method} {c : Code} {Q : State → Prop} {adr : Nat → Nat} {cA : Nat → ClassId} {D : va_G} {b L i n : Nat} {xs : Nat → Int32} (K : lK p l s m c adr cA D b L xs) {H : ZH} {Hp : Heap} {locs : List Loc} (lh : lH s adr cA D H Hp locs) (ok : okZ H) (I : Inv H n) (hn : n ≤ 511) {ls : Array Slot} (hl : lv_has ls 4 (lL adr b i)) (hi : i + 6 ≤ L) (kk : ∀ H2 Hp2 locs2, okZ H2 → Inv H2 (n + 1) → lH s adr cA D H2 Hp2 locs2 → lW p l e s m b below meth c Q Hp2 locs2 (F0 m 1989 ls [])) : lW p l e s m b below meth c Q Hp locs (F0 m 730 ls []) := by
  have hx := K.1
  have hb := K.2.1
  obtain ⟨P1, c1, k1⟩ := b_best ok I hn (zN_rng (xs (i + 1))).1 (zN_rng (xs (i + 1))).2
  refine lv_aload_n hx hb dL_law_730 rfl (lv_at hl 1 rfl) ?_
  refine la_arg K lh hl hi 1 (by decide) rfl dL_law_731 dL_law_732 dL_law_733 dL_law_734 dL_law_735 ?_
  refine la_ci K lh hl [.int (zN (xs (i + 1)).toInt)] [] _ dL_law_736 ml_L_76 ok_X10_best rfl sh_20 rfl (Or.inl rfl) rfl (Nat.le_of_ble_eq_true rfl) c1 (fun r H1 Hp1 locs1 ok1 p1 lh1 => ?_)
  obtain ⟨P2, c2, k2⟩ := k1 r H1 ok1 p1
  refine lv_aload_n hx hb dL_law_739 rfl (lv_at hl 2 rfl) ?_
  refine la_arg K lh1 hl hi 1 (by decide) rfl dL_law_740 dL_law_741 dL_law_742 dL_law_743 dL_law_744 ?_
  refine la_ci K lh1 hl [.int (zN (xs (i + 1)).toInt)] [.int (zN r)] _ dL_law_745 ml_L_79 ok_X11_best rfl sh_0 rfl (Or.inl rfl) rfl (Nat.le_of_ble_eq_true rfl) c2 (fun r' H2 Hp2 locs2 ok2 p2 lh2 => ?_)
  obtain ⟨e', I2⟩ := k2 r' H2 ok2 p2
  subst e'
  exact lv_icmp_eq (tgt := 1989) hx hb dL_law_748 (by decide) (fun _ => kk H2 Hp2 locs2 ok2 I2 lh2) (fun z => absurd rfl z)

theorem la_c15 {p : Program} {l : Launch} {e : Env} {s : State} {m : MethodId} {below : List Frame} {meth : Method} {c : Code} {Q : State → Prop} {adr : Nat → Nat} {cA : Nat → ClassId} {D : va_G} {b L i n : Nat} {xs : Nat → Int32} (K : lK p l s m c adr cA D b L xs) {H : ZH} {Hp : Heap} {locs : List Loc} (lh : lH s adr cA D H Hp locs) (ok : okZ H) (I : Inv H n) (hn : n ≤ 511) {ls : Array Slot} (hl : lv_has ls 4 (lL adr b i)) (hi : i + 6 ≤ L) (kk : ∀ H2 Hp2 locs2, okZ H2 → Inv H2 (n + 1) → lH s adr cA D H2 Hp2 locs2 → lW p l e s m b below meth c Q Hp2 locs2 (F0 m 1989 ls [])) : lW p l e s m b below meth c Q Hp locs (F0 m 753 ls []) := by
  have hx := K.1
  have hb := K.2.1
  obtain ⟨P1, c1, k1⟩ := b_back ok I hn (zN_rng (xs (i + 1))).1 (zN_rng (xs (i + 1))).2
  refine lv_aload_n hx hb dL_law_753 rfl (lv_at hl 1 rfl) ?_
  refine la_arg K lh hl hi 1 (by decide) rfl dL_law_754 dL_law_755 dL_law_756 dL_law_757 dL_law_758 ?_
  refine la_ci K lh hl [.int (zN (xs (i + 1)).toInt)] [] _ dL_law_759 ml_L_80 ok_X10_back rfl sh_20 rfl (Or.inl rfl) rfl (Nat.le_of_ble_eq_true rfl) c1 (fun r H1 Hp1 locs1 ok1 p1 lh1 => ?_)
  obtain ⟨P2, c2, k2⟩ := k1 r H1 ok1 p1
  refine lv_aload_n hx hb dL_law_762 rfl (lv_at hl 2 rfl) ?_
  refine la_arg K lh1 hl hi 1 (by decide) rfl dL_law_763 dL_law_764 dL_law_765 dL_law_766 dL_law_767 ?_
  refine la_ci K lh1 hl [.int (zN (xs (i + 1)).toInt)] [.int (zN r)] _ dL_law_768 ml_L_83 ok_X11_back rfl sh_0 rfl (Or.inl rfl) rfl (Nat.le_of_ble_eq_true rfl) c2 (fun r' H2 Hp2 locs2 ok2 p2 lh2 => ?_)
  obtain ⟨e', I2⟩ := k2 r' H2 ok2 p2
  subst e'
  exact lv_icmp_eq (tgt := 1989) hx hb dL_law_771 (by decide) (fun _ => kk H2 Hp2 locs2 ok2 I2 lh2) (fun z => absurd rfl z)

theorem la_c16 {p : Program} {l : Launch} {e : Env} {s : State} {m : MethodId} {below : List Frame} {meth : Method} {c : Code} {Q : State → Prop} {adr : Nat → Nat} {cA : Nat → ClassId} {D : va_G} {b L i n : Nat} {xs : Nat → Int32} (K : lK p l s m c adr cA D b L xs) {H : ZH} {Hp : Heap} {locs : List Loc} (lh : lH s adr cA D H Hp locs) (ok : okZ H) (I : Inv H n) (hn : n ≤ 511) {ls : Array Slot} (hl : lv_has ls 4 (lL adr b i)) (hi : i + 6 ≤ L) (kk : ∀ H2 Hp2 locs2, okZ H2 → Inv H2 (n + 1) → lH s adr cA D H2 Hp2 locs2 → lW p l e s m b below meth c Q Hp2 locs2 (F0 m 1989 ls [])) : lW p l e s m b below meth c Q Hp locs (F0 m 776 ls []) := by
  have hx := K.1
  have hb := K.2.1
  obtain ⟨P1, c1, k1⟩ := b_wise ok I hn (zN_rng (xs (i + 1))).1 (zN_rng (xs (i + 1))).2
  refine lv_aload_n hx hb dL_law_776 rfl (lv_at hl 1 rfl) ?_
  refine la_arg K lh hl hi 1 (by decide) rfl dL_law_777 dL_law_778 dL_law_779 dL_law_780 dL_law_781 ?_
  refine la_ci K lh hl [.int (zN (xs (i + 1)).toInt)] [] _ dL_law_782 ml_L_84 ok_X10_wise rfl sh_20 rfl (Or.inl rfl) rfl (Nat.le_of_ble_eq_true rfl) c1 (fun r H1 Hp1 locs1 ok1 p1 lh1 => ?_)
  obtain ⟨P2, c2, k2⟩ := k1 r H1 ok1 p1
  refine lv_aload_n hx hb dL_law_785 rfl (lv_at hl 2 rfl) ?_
  refine la_arg K lh1 hl hi 1 (by decide) rfl dL_law_786 dL_law_787 dL_law_788 dL_law_789 dL_law_790 ?_
  refine la_ci K lh1 hl [.int (zN (xs (i + 1)).toInt)] [.int (zN r)] _ dL_law_791 ml_L_87 ok_X11_wise rfl sh_0 rfl (Or.inl rfl) rfl (Nat.le_of_ble_eq_true rfl) c2 (fun r' H2 Hp2 locs2 ok2 p2 lh2 => ?_)
  obtain ⟨e', I2⟩ := k2 r' H2 ok2 p2
  subst e'
  exact lv_icmp_eq (tgt := 1989) hx hb dL_law_794 (by decide) (fun _ => kk H2 Hp2 locs2 ok2 I2 lh2) (fun z => absurd rfl z)

theorem la_c17 {p : Program} {l : Launch} {e : Env} {s : State} {m : MethodId} {below : List Frame} {meth : Method} {c : Code} {Q : State → Prop} {adr : Nat → Nat} {cA : Nat → ClassId} {D : va_G} {b L i n : Nat} {xs : Nat → Int32} (K : lK p l s m c adr cA D b L xs) {H : ZH} {Hp : Heap} {locs : List Loc} (lh : lH s adr cA D H Hp locs) (ok : okZ H) (I : Inv H n) (hn : n ≤ 511) {ls : Array Slot} (hl : lv_has ls 4 (lL adr b i)) (hi : i + 6 ≤ L) (kk : ∀ H2 Hp2 locs2, okZ H2 → Inv H2 (n + 1) → lH s adr cA D H2 Hp2 locs2 → lW p l e s m b below meth c Q Hp2 locs2 (F0 m 1989 ls [])) : lW p l e s m b below meth c Q Hp locs (F0 m 799 ls []) := by
  have hx := K.1
  have hb := K.2.1
  obtain ⟨P1, c1, k1⟩ := b_blame ok I hn (zN_rng (xs (i + 1))).1 (zN_rng (xs (i + 1))).2 (zN_rng (xs (i + 2))).1 (zN_rng (xs (i + 2))).2
  refine lv_aload_n hx hb dL_law_799 rfl (lv_at hl 1 rfl) ?_
  refine la_arg K lh hl hi 1 (by decide) rfl dL_law_800 dL_law_801 dL_law_802 dL_law_803 dL_law_804 ?_
  refine la_arg K lh hl hi 2 (by decide) rfl dL_law_805 dL_law_806 dL_law_807 dL_law_808 dL_law_809 ?_
  refine la_cl K lh hl [.int (zN (xs (i + 1)).toInt), .int (zN (xs (i + 2)).toInt)] [] _ dL_law_810 ml_L_88 ok_X10_blame rfl sh_20 rfl rfl rfl (Nat.le_of_ble_eq_true rfl) c1 (fun r H1 Hp1 locs1 ok1 p1 lh1 => ?_)
  obtain ⟨P2, c2, k2⟩ := k1 r H1 ok1 p1
  refine lv_aload_n hx hb dL_law_813 rfl (lv_at hl 2 rfl) ?_
  refine la_arg K lh1 hl hi 1 (by decide) rfl dL_law_814 dL_law_815 dL_law_816 dL_law_817 dL_law_818 ?_
  refine la_arg K lh1 hl hi 2 (by decide) rfl dL_law_819 dL_law_820 dL_law_821 dL_law_822 dL_law_823 ?_
  refine la_cl K lh1 hl [.int (zN (xs (i + 1)).toInt), .int (zN (xs (i + 2)).toInt)] [.long (zL r)] _ dL_law_824 ml_L_92 ok_X11_blame rfl sh_0 rfl rfl rfl (Nat.le_of_ble_eq_true rfl) c2 (fun r' H2 Hp2 locs2 ok2 p2 lh2 => ?_)
  obtain ⟨e', I2⟩ := k2 r' H2 ok2 p2
  subst e'
  refine W.lcmp hx hb dL_law_827 ?_
  exact lv_if_eq (tgt := 1989) hx hb dL_law_828 (by decide) (fun _ => kk H2 Hp2 locs2 ok2 I2 lh2) (fun z => absurd (lg_cmp_0 _) z)

theorem la_c18 {p : Program} {l : Launch} {e : Env} {s : State} {m : MethodId} {below : List Frame} {meth : Method} {c : Code} {Q : State → Prop} {adr : Nat → Nat} {cA : Nat → ClassId} {D : va_G} {b L i n : Nat} {xs : Nat → Int32} (K : lK p l s m c adr cA D b L xs) {H : ZH} {Hp : Heap} {locs : List Loc} (lh : lH s adr cA D H Hp locs) (ok : okZ H) (I : Inv H n) (hn : n ≤ 511) {ls : Array Slot} (hl : lv_has ls 4 (lL adr b i)) (hi : i + 6 ≤ L) (kk : ∀ H2 Hp2 locs2, okZ H2 → Inv H2 (n + 1) → lH s adr cA D H2 Hp2 locs2 → lW p l e s m b below meth c Q Hp2 locs2 (F0 m 1989 ls [])) : lW p l e s m b below meth c Q Hp locs (F0 m 833 ls []) := by
  have hx := K.1
  have hb := K.2.1
  obtain ⟨P1, c1, k1⟩ := b_mean ok I hn (zN_rng (xs (i + 1))).1 (zN_rng (xs (i + 1))).2
  refine lv_aload_n hx hb dL_law_833 rfl (lv_at hl 1 rfl) ?_
  refine la_arg K lh hl hi 1 (by decide) rfl dL_law_834 dL_law_835 dL_law_836 dL_law_837 dL_law_838 ?_
  refine la_cl K lh hl [.int (zN (xs (i + 1)).toInt)] [] _ dL_law_839 ml_L_93 ok_X10_mean rfl sh_20 rfl rfl rfl (Nat.le_of_ble_eq_true rfl) c1 (fun r H1 Hp1 locs1 ok1 p1 lh1 => ?_)
  obtain ⟨P2, c2, k2⟩ := k1 r H1 ok1 p1
  refine lv_aload_n hx hb dL_law_842 rfl (lv_at hl 2 rfl) ?_
  refine la_arg K lh1 hl hi 1 (by decide) rfl dL_law_843 dL_law_844 dL_law_845 dL_law_846 dL_law_847 ?_
  refine la_cl K lh1 hl [.int (zN (xs (i + 1)).toInt)] [.long (zL r)] _ dL_law_848 ml_L_96 ok_X11_mean rfl sh_0 rfl rfl rfl (Nat.le_of_ble_eq_true rfl) c2 (fun r' H2 Hp2 locs2 ok2 p2 lh2 => ?_)
  obtain ⟨e', I2⟩ := k2 r' H2 ok2 p2
  subst e'
  refine W.lcmp hx hb dL_law_851 ?_
  exact lv_if_eq (tgt := 1989) hx hb dL_law_852 (by decide) (fun _ => kk H2 Hp2 locs2 ok2 I2 lh2) (fun z => absurd (lg_cmp_0 _) z)

theorem la_c19 {p : Program} {l : Launch} {e : Env} {s : State} {m : MethodId} {below : List Frame} {meth : Method} {c : Code} {Q : State → Prop} {adr : Nat → Nat} {cA : Nat → ClassId} {D : va_G} {b L i n : Nat} {xs : Nat → Int32} (K : lK p l s m c adr cA D b L xs) {H : ZH} {Hp : Heap} {locs : List Loc} (lh : lH s adr cA D H Hp locs) (ok : okZ H) (I : Inv H n) (hn : n ≤ 511) {ls : Array Slot} (hl : lv_has ls 4 (lL adr b i)) (hi : i + 6 ≤ L) (kk : ∀ H2 Hp2 locs2, okZ H2 → Inv H2 (n + 1) → lH s adr cA D H2 Hp2 locs2 → lW p l e s m b below meth c Q Hp2 locs2 (F0 m 1989 ls [])) : lW p l e s m b below meth c Q Hp locs (F0 m 857 ls []) := by
  have hx := K.1
  have hb := K.2.1
  obtain ⟨P1, c1, k1⟩ := b_repeals ok I hn (zN_rng (xs (i + 1))).1 (zN_rng (xs (i + 1))).2
  refine lv_aload_n hx hb dL_law_857 rfl (lv_at hl 1 rfl) ?_
  refine la_arg K lh hl hi 1 (by decide) rfl dL_law_858 dL_law_859 dL_law_860 dL_law_861 dL_law_862 ?_
  refine la_cl K lh hl [.int (zN (xs (i + 1)).toInt)] [] _ dL_law_863 ml_L_97 ok_X10_repeals rfl sh_20 rfl rfl rfl (Nat.le_of_ble_eq_true rfl) c1 (fun r H1 Hp1 locs1 ok1 p1 lh1 => ?_)
  obtain ⟨P2, c2, k2⟩ := k1 r H1 ok1 p1
  refine lv_aload_n hx hb dL_law_866 rfl (lv_at hl 2 rfl) ?_
  refine la_arg K lh1 hl hi 1 (by decide) rfl dL_law_867 dL_law_868 dL_law_869 dL_law_870 dL_law_871 ?_
  refine la_cl K lh1 hl [.int (zN (xs (i + 1)).toInt)] [.long (zL r)] _ dL_law_872 ml_L_100 ok_X11_repeals rfl sh_0 rfl rfl rfl (Nat.le_of_ble_eq_true rfl) c2 (fun r' H2 Hp2 locs2 ok2 p2 lh2 => ?_)
  obtain ⟨e', I2⟩ := k2 r' H2 ok2 p2
  subst e'
  refine W.lcmp hx hb dL_law_875 ?_
  exact lv_if_eq (tgt := 1989) hx hb dL_law_876 (by decide) (fun _ => kk H2 Hp2 locs2 ok2 I2 lh2) (fun z => absurd (lg_cmp_0 _) z)

theorem la_c20 {p : Program} {l : Launch} {e : Env} {s : State} {m : MethodId} {below : List Frame} {meth : Method} {c : Code} {Q : State → Prop} {adr : Nat → Nat} {cA : Nat → ClassId} {D : va_G} {b L i n : Nat} {xs : Nat → Int32} (K : lK p l s m c adr cA D b L xs) {H : ZH} {Hp : Heap} {locs : List Loc} (lh : lH s adr cA D H Hp locs) (ok : okZ H) (I : Inv H n) (hn : n ≤ 511) {ls : Array Slot} (hl : lv_has ls 4 (lL adr b i)) (hi : i + 6 ≤ L) (kk : ∀ H2 Hp2 locs2, okZ H2 → Inv H2 (n + 1) → lH s adr cA D H2 Hp2 locs2 → lW p l e s m b below meth c Q Hp2 locs2 (F0 m 1989 ls [])) : lW p l e s m b below meth c Q Hp locs (F0 m 881 ls []) := by
  have hx := K.1
  have hb := K.2.1
  obtain ⟨P1, c1, k1⟩ := b_absent ok I hn (zN_rng (xs (i + 1))).1 (zN_rng (xs (i + 1))).2
  refine lv_aload_n hx hb dL_law_881 rfl (lv_at hl 1 rfl) ?_
  refine la_arg K lh hl hi 1 (by decide) rfl dL_law_882 dL_law_883 dL_law_884 dL_law_885 dL_law_886 ?_
  refine la_cl K lh hl [.int (zN (xs (i + 1)).toInt)] [] _ dL_law_887 ml_L_101 ok_X10_absent rfl sh_20 rfl rfl rfl (Nat.le_of_ble_eq_true rfl) c1 (fun r H1 Hp1 locs1 ok1 p1 lh1 => ?_)
  obtain ⟨P2, c2, k2⟩ := k1 r H1 ok1 p1
  refine lv_aload_n hx hb dL_law_890 rfl (lv_at hl 2 rfl) ?_
  refine la_arg K lh1 hl hi 1 (by decide) rfl dL_law_891 dL_law_892 dL_law_893 dL_law_894 dL_law_895 ?_
  refine la_cl K lh1 hl [.int (zN (xs (i + 1)).toInt)] [.long (zL r)] _ dL_law_896 ml_L_104 ok_X11_absent rfl sh_0 rfl rfl rfl (Nat.le_of_ble_eq_true rfl) c2 (fun r' H2 Hp2 locs2 ok2 p2 lh2 => ?_)
  obtain ⟨e', I2⟩ := k2 r' H2 ok2 p2
  subst e'
  refine W.lcmp hx hb dL_law_899 ?_
  exact lv_if_eq (tgt := 1989) hx hb dL_law_900 (by decide) (fun _ => kk H2 Hp2 locs2 ok2 I2 lh2) (fun z => absurd (lg_cmp_0 _) z)

theorem la_c21 {p : Program} {l : Launch} {e : Env} {s : State} {m : MethodId} {below : List Frame} {meth : Method} {c : Code} {Q : State → Prop} {adr : Nat → Nat} {cA : Nat → ClassId} {D : va_G} {b L i n : Nat} {xs : Nat → Int32} (K : lK p l s m c adr cA D b L xs) {H : ZH} {Hp : Heap} {locs : List Loc} (lh : lH s adr cA D H Hp locs) (ok : okZ H) (I : Inv H n) (hn : n ≤ 511) {ls : Array Slot} (hl : lv_has ls 4 (lL adr b i)) (hi : i + 6 ≤ L) (kk : ∀ H2 Hp2 locs2, okZ H2 → Inv H2 (n + 1) → lH s adr cA D H2 Hp2 locs2 → lW p l e s m b below meth c Q Hp2 locs2 (F0 m 1989 ls [])) : lW p l e s m b below meth c Q Hp locs (F0 m 905 ls []) := by
  have hx := K.1
  have hb := K.2.1
  obtain ⟨P1, c1, k1⟩ := b_margin ok I hn (zN_rng (xs (i + 1))).1 (zN_rng (xs (i + 1))).2
  refine lv_aload_n hx hb dL_law_905 rfl (lv_at hl 1 rfl) ?_
  refine la_arg K lh hl hi 1 (by decide) rfl dL_law_906 dL_law_907 dL_law_908 dL_law_909 dL_law_910 ?_
  refine la_ci K lh hl [.int (zN (xs (i + 1)).toInt)] [] _ dL_law_911 ml_L_105 ok_X10_margin rfl sh_20 rfl (Or.inl rfl) rfl (Nat.le_of_ble_eq_true rfl) c1 (fun r H1 Hp1 locs1 ok1 p1 lh1 => ?_)
  obtain ⟨P2, c2, k2⟩ := k1 r H1 ok1 p1
  refine lv_aload_n hx hb dL_law_914 rfl (lv_at hl 2 rfl) ?_
  refine la_arg K lh1 hl hi 1 (by decide) rfl dL_law_915 dL_law_916 dL_law_917 dL_law_918 dL_law_919 ?_
  refine la_ci K lh1 hl [.int (zN (xs (i + 1)).toInt)] [.int (zN r)] _ dL_law_920 ml_L_108 ok_X11_margin rfl sh_0 rfl (Or.inl rfl) rfl (Nat.le_of_ble_eq_true rfl) c2 (fun r' H2 Hp2 locs2 ok2 p2 lh2 => ?_)
  obtain ⟨e', I2⟩ := k2 r' H2 ok2 p2
  subst e'
  exact lv_icmp_eq (tgt := 1989) hx hb dL_law_923 (by decide) (fun _ => kk H2 Hp2 locs2 ok2 I2 lh2) (fun z => absurd rfl z)

theorem la_c22 {p : Program} {l : Launch} {e : Env} {s : State} {m : MethodId} {below : List Frame} {meth : Method} {c : Code} {Q : State → Prop} {adr : Nat → Nat} {cA : Nat → ClassId} {D : va_G} {b L i n : Nat} {xs : Nat → Int32} (K : lK p l s m c adr cA D b L xs) {H : ZH} {Hp : Heap} {locs : List Loc} (lh : lH s adr cA D H Hp locs) (ok : okZ H) (I : Inv H n) (hn : n ≤ 511) {ls : Array Slot} (hl : lv_has ls 4 (lL adr b i)) (hi : i + 6 ≤ L) (kk : ∀ H2 Hp2 locs2, okZ H2 → Inv H2 (n + 1) → lH s adr cA D H2 Hp2 locs2 → lW p l e s m b below meth c Q Hp2 locs2 (F0 m 1989 ls [])) : lW p l e s m b below meth c Q Hp locs (F0 m 928 ls []) := by
  have hx := K.1
  have hb := K.2.1
  obtain ⟨P1, c1, k1⟩ := b_place ok I hn (zN_rng (xs (i + 2))).1 (zN_rng (xs (i + 2))).2 (zN_rng (xs (i + 3))).1 (zN_rng (xs (i + 3))).2 (zN_rng (xs (i + 4))).1 (zN_rng (xs (i + 4))).2 (zN_rng (xs (i + 5))).1 (zN_rng (xs (i + 5))).2 (lbv_01 (xs (i + 1)))
  refine lv_aload_n hx hb dL_law_928 rfl (lv_at hl 1 rfl) ?_
  refine la_arg K lh hl hi 1 (by decide) rfl dL_law_929 dL_law_930 dL_law_931 dL_law_932 dL_law_933 ?_
  refine la_bool hx hb dL_law_934 (by decide) dL_law_937 dL_law_938 (by decide) dL_law_941 ?_
  refine la_arg K lh hl hi 2 (by decide) rfl dL_law_942 dL_law_943 dL_law_944 dL_law_945 dL_law_946 ?_
  refine la_arg K lh hl hi 3 (by decide) rfl dL_law_947 dL_law_948 dL_law_949 dL_law_950 dL_law_951 ?_
  refine la_arg K lh hl hi 4 (by decide) rfl dL_law_952 dL_law_953 dL_law_954 dL_law_955 dL_law_956 ?_
  refine la_arg K lh hl hi 5 (by decide) rfl dL_law_957 dL_law_958 dL_law_959 dL_law_960 dL_law_961 ?_
  refine la_ci K lh hl [.int (zN (lbv (xs (i + 1)))), .int (zN (xs (i + 2)).toInt), .int (zN (xs (i + 3)).toInt), .int (zN (xs (i + 4)).toInt), .int (zN (xs (i + 5)).toInt)] [] _ dL_law_962 ml_L_109 ok_X10_place rfl sh_20 rfl (Or.inl rfl) rfl (Nat.le_of_ble_eq_true rfl) c1 (fun r H1 Hp1 locs1 ok1 p1 lh1 => ?_)
  obtain ⟨P2, c2, k2⟩ := k1 r H1 ok1 p1
  refine lv_aload_n hx hb dL_law_965 rfl (lv_at hl 2 rfl) ?_
  refine la_arg K lh1 hl hi 1 (by decide) rfl dL_law_966 dL_law_967 dL_law_968 dL_law_969 dL_law_970 ?_
  refine la_bool hx hb dL_law_971 (by decide) dL_law_974 dL_law_975 (by decide) dL_law_978 ?_
  refine la_arg K lh1 hl hi 2 (by decide) rfl dL_law_979 dL_law_980 dL_law_981 dL_law_982 dL_law_983 ?_
  refine la_arg K lh1 hl hi 3 (by decide) rfl dL_law_984 dL_law_985 dL_law_986 dL_law_987 dL_law_988 ?_
  refine la_arg K lh1 hl hi 4 (by decide) rfl dL_law_989 dL_law_990 dL_law_991 dL_law_992 dL_law_993 ?_
  refine la_arg K lh1 hl hi 5 (by decide) rfl dL_law_994 dL_law_995 dL_law_996 dL_law_997 dL_law_998 ?_
  refine la_ci K lh1 hl [.int (zN (lbv (xs (i + 1)))), .int (zN (xs (i + 2)).toInt), .int (zN (xs (i + 3)).toInt), .int (zN (xs (i + 4)).toInt), .int (zN (xs (i + 5)).toInt)] [.int (zN r)] _ dL_law_999 ml_L_113 ok_X11_place rfl sh_0 rfl (Or.inl rfl) rfl (Nat.le_of_ble_eq_true rfl) c2 (fun r' H2 Hp2 locs2 ok2 p2 lh2 => ?_)
  obtain ⟨e', I2⟩ := k2 r' H2 ok2 p2
  subst e'
  exact lv_icmp_eq (tgt := 1989) hx hb dL_law_1002 (by decide) (fun _ => kk H2 Hp2 locs2 ok2 I2 lh2) (fun z => absurd rfl z)

theorem la_c23 {p : Program} {l : Launch} {e : Env} {s : State} {m : MethodId} {below : List Frame} {meth : Method} {c : Code} {Q : State → Prop} {adr : Nat → Nat} {cA : Nat → ClassId} {D : va_G} {b L i n : Nat} {xs : Nat → Int32} (K : lK p l s m c adr cA D b L xs) {H : ZH} {Hp : Heap} {locs : List Loc} (lh : lH s adr cA D H Hp locs) (ok : okZ H) (I : Inv H n) (hn : n ≤ 511) {ls : Array Slot} (hl : lv_has ls 4 (lL adr b i)) (hi : i + 6 ≤ L) (kk : ∀ H2 Hp2 locs2, okZ H2 → Inv H2 (n + 1) → lH s adr cA D H2 Hp2 locs2 → lW p l e s m b below meth c Q Hp2 locs2 (F0 m 1989 ls [])) : lW p l e s m b below meth c Q Hp locs (F0 m 1007 ls []) := by
  have hx := K.1
  have hb := K.2.1
  obtain ⟨P1, c1, k1⟩ := b_behind ok I hn (zN_rng (xs (i + 1))).1 (zN_rng (xs (i + 1))).2 (zN_rng (xs (i + 2))).1 (zN_rng (xs (i + 2))).2
  refine lv_aload_n hx hb dL_law_1007 rfl (lv_at hl 1 rfl) ?_
  refine la_arg K lh hl hi 1 (by decide) rfl dL_law_1008 dL_law_1009 dL_law_1010 dL_law_1011 dL_law_1012 ?_
  refine la_arg K lh hl hi 2 (by decide) rfl dL_law_1013 dL_law_1014 dL_law_1015 dL_law_1016 dL_law_1017 ?_
  refine la_ci K lh hl [.int (zN (xs (i + 1)).toInt), .int (zN (xs (i + 2)).toInt)] [] _ dL_law_1018 ml_L_114 ok_X10_behind rfl sh_20 rfl (Or.inl rfl) rfl (Nat.le_of_ble_eq_true rfl) c1 (fun r H1 Hp1 locs1 ok1 p1 lh1 => ?_)
  obtain ⟨P2, c2, k2⟩ := k1 r H1 ok1 p1
  refine lv_aload_n hx hb dL_law_1021 rfl (lv_at hl 2 rfl) ?_
  refine la_arg K lh1 hl hi 1 (by decide) rfl dL_law_1022 dL_law_1023 dL_law_1024 dL_law_1025 dL_law_1026 ?_
  refine la_arg K lh1 hl hi 2 (by decide) rfl dL_law_1027 dL_law_1028 dL_law_1029 dL_law_1030 dL_law_1031 ?_
  refine la_ci K lh1 hl [.int (zN (xs (i + 1)).toInt), .int (zN (xs (i + 2)).toInt)] [.int (zN r)] _ dL_law_1032 ml_L_117 ok_X11_behind rfl sh_0 rfl (Or.inl rfl) rfl (Nat.le_of_ble_eq_true rfl) c2 (fun r' H2 Hp2 locs2 ok2 p2 lh2 => ?_)
  obtain ⟨e', I2⟩ := k2 r' H2 ok2 p2
  subst e'
  exact lv_icmp_eq (tgt := 1989) hx hb dL_law_1035 (by decide) (fun _ => kk H2 Hp2 locs2 ok2 I2 lh2) (fun z => absurd rfl z)

theorem la_c24 {p : Program} {l : Launch} {e : Env} {s : State} {m : MethodId} {below : List Frame} {meth : Method} {c : Code} {Q : State → Prop} {adr : Nat → Nat} {cA : Nat → ClassId} {D : va_G} {b L i n : Nat} {xs : Nat → Int32} (K : lK p l s m c adr cA D b L xs) {H : ZH} {Hp : Heap} {locs : List Loc} (lh : lH s adr cA D H Hp locs) (ok : okZ H) (I : Inv H n) (hn : n ≤ 511) {ls : Array Slot} (hl : lv_has ls 4 (lL adr b i)) (hi : i + 6 ≤ L) (kk : ∀ H2 Hp2 locs2, okZ H2 → Inv H2 (n + 1) → lH s adr cA D H2 Hp2 locs2 → lW p l e s m b below meth c Q Hp2 locs2 (F0 m 1989 ls [])) : lW p l e s m b below meth c Q Hp locs (F0 m 1040 ls []) := by
  have hx := K.1
  have hb := K.2.1
  obtain ⟨P1, c1, k1⟩ := b_at ok I hn (zN_rng (xs (i + 1))).1 (zN_rng (xs (i + 1))).2 (zN_rng (xs (i + 2))).1 (zN_rng (xs (i + 2))).2
  refine lv_aload_n hx hb dL_law_1040 rfl (lv_at hl 1 rfl) ?_
  refine la_arg K lh hl hi 1 (by decide) rfl dL_law_1041 dL_law_1042 dL_law_1043 dL_law_1044 dL_law_1045 ?_
  refine la_arg K lh hl hi 2 (by decide) rfl dL_law_1046 dL_law_1047 dL_law_1048 dL_law_1049 dL_law_1050 ?_
  refine la_ci K lh hl [.int (zN (xs (i + 1)).toInt), .int (zN (xs (i + 2)).toInt)] [] _ dL_law_1051 ml_L_118 ok_X10_at rfl sh_20 rfl (Or.inl rfl) rfl (Nat.le_of_ble_eq_true rfl) c1 (fun r H1 Hp1 locs1 ok1 p1 lh1 => ?_)
  obtain ⟨P2, c2, k2⟩ := k1 r H1 ok1 p1
  refine lv_aload_n hx hb dL_law_1054 rfl (lv_at hl 2 rfl) ?_
  refine la_arg K lh1 hl hi 1 (by decide) rfl dL_law_1055 dL_law_1056 dL_law_1057 dL_law_1058 dL_law_1059 ?_
  refine la_arg K lh1 hl hi 2 (by decide) rfl dL_law_1060 dL_law_1061 dL_law_1062 dL_law_1063 dL_law_1064 ?_
  refine la_ci K lh1 hl [.int (zN (xs (i + 1)).toInt), .int (zN (xs (i + 2)).toInt)] [.int (zN r)] _ dL_law_1065 ml_L_121 ok_X11_at rfl sh_0 rfl (Or.inl rfl) rfl (Nat.le_of_ble_eq_true rfl) c2 (fun r' H2 Hp2 locs2 ok2 p2 lh2 => ?_)
  obtain ⟨e', I2⟩ := k2 r' H2 ok2 p2
  subst e'
  exact lv_icmp_eq (tgt := 1989) hx hb dL_law_1068 (by decide) (fun _ => kk H2 Hp2 locs2 ok2 I2 lh2) (fun z => absurd rfl z)

theorem la_c25 {p : Program} {l : Launch} {e : Env} {s : State} {m : MethodId} {below : List Frame} {meth : Method} {c : Code} {Q : State → Prop} {adr : Nat → Nat} {cA : Nat → ClassId} {D : va_G} {b L i n : Nat} {xs : Nat → Int32} (K : lK p l s m c adr cA D b L xs) {H : ZH} {Hp : Heap} {locs : List Loc} (lh : lH s adr cA D H Hp locs) (ok : okZ H) (I : Inv H n) (hn : n ≤ 511) {ls : Array Slot} (hl : lv_has ls 4 (lL adr b i)) (hi : i + 6 ≤ L) (kk : ∀ H2 Hp2 locs2, okZ H2 → Inv H2 (n + 1) → lH s adr cA D H2 Hp2 locs2 → lW p l e s m b below meth c Q Hp2 locs2 (F0 m 1989 ls [])) : lW p l e s m b below meth c Q Hp locs (F0 m 1073 ls []) := by
  have hx := K.1
  have hb := K.2.1
  obtain ⟨P1, c1, k1⟩ := b_rate ok I hn (zN_rng (xs (i + 2))).1 (zN_rng (xs (i + 2))).2 (lbv_01 (xs (i + 1)))
  refine lv_aload_n hx hb dL_law_1073 rfl (lv_at hl 1 rfl) ?_
  refine la_arg K lh hl hi 1 (by decide) rfl dL_law_1074 dL_law_1075 dL_law_1076 dL_law_1077 dL_law_1078 ?_
  refine la_bool hx hb dL_law_1079 (by decide) dL_law_1082 dL_law_1083 (by decide) dL_law_1086 ?_
  refine la_arg K lh hl hi 2 (by decide) rfl dL_law_1087 dL_law_1088 dL_law_1089 dL_law_1090 dL_law_1091 ?_
  refine la_ci K lh hl [.int (zN (lbv (xs (i + 1)))), .int (zN (xs (i + 2)).toInt)] [] _ dL_law_1092 ml_L_122 ok_X10_rate rfl sh_20 rfl (Or.inl rfl) rfl (Nat.le_of_ble_eq_true rfl) c1 (fun r H1 Hp1 locs1 ok1 p1 lh1 => ?_)
  obtain ⟨P2, c2, k2⟩ := k1 r H1 ok1 p1
  refine lv_aload_n hx hb dL_law_1095 rfl (lv_at hl 2 rfl) ?_
  refine la_arg K lh1 hl hi 1 (by decide) rfl dL_law_1096 dL_law_1097 dL_law_1098 dL_law_1099 dL_law_1100 ?_
  refine la_bool hx hb dL_law_1101 (by decide) dL_law_1104 dL_law_1105 (by decide) dL_law_1108 ?_
  refine la_arg K lh1 hl hi 2 (by decide) rfl dL_law_1109 dL_law_1110 dL_law_1111 dL_law_1112 dL_law_1113 ?_
  refine la_ci K lh1 hl [.int (zN (lbv (xs (i + 1)))), .int (zN (xs (i + 2)).toInt)] [.int (zN r)] _ dL_law_1114 ml_L_126 ok_X11_rate rfl sh_0 rfl (Or.inl rfl) rfl (Nat.le_of_ble_eq_true rfl) c2 (fun r' H2 Hp2 locs2 ok2 p2 lh2 => ?_)
  obtain ⟨e', I2⟩ := k2 r' H2 ok2 p2
  subst e'
  exact lv_icmp_eq (tgt := 1989) hx hb dL_law_1117 (by decide) (fun _ => kk H2 Hp2 locs2 ok2 I2 lh2) (fun z => absurd rfl z)

theorem la_c26 {p : Program} {l : Launch} {e : Env} {s : State} {m : MethodId} {below : List Frame} {meth : Method} {c : Code} {Q : State → Prop} {adr : Nat → Nat} {cA : Nat → ClassId} {D : va_G} {b L i n : Nat} {xs : Nat → Int32} (K : lK p l s m c adr cA D b L xs) {H : ZH} {Hp : Heap} {locs : List Loc} (lh : lH s adr cA D H Hp locs) (ok : okZ H) (I : Inv H n) (hn : n ≤ 511) {ls : Array Slot} (hl : lv_has ls 4 (lL adr b i)) (hi : i + 6 ≤ L) (kk : ∀ H2 Hp2 locs2, okZ H2 → Inv H2 (n + 1) → lH s adr cA D H2 Hp2 locs2 → lW p l e s m b below meth c Q Hp2 locs2 (F0 m 1989 ls [])) : lW p l e s m b below meth c Q Hp locs (F0 m 1122 ls []) := by
  have hx := K.1
  have hb := K.2.1
  obtain ⟨P1, c1, k1⟩ := b_parted ok I hn
  refine lv_aload_n hx hb dL_law_1122 rfl (lv_at hl 1 rfl) ?_
  refine la_ci K lh hl [] [] _ dL_law_1123 ml_L_127 ok_X10_parted rfl sh_20 rfl (Or.inl rfl) rfl (Nat.le_of_ble_eq_true rfl) c1 (fun r H1 Hp1 locs1 ok1 p1 lh1 => ?_)
  obtain ⟨P2, c2, k2⟩ := k1 r H1 ok1 p1
  refine lv_aload_n hx hb dL_law_1126 rfl (lv_at hl 2 rfl) ?_
  refine la_ci K lh1 hl [] [.int (zN r)] _ dL_law_1127 ml_L_131 ok_X11_parted rfl sh_0 rfl (Or.inl rfl) rfl (Nat.le_of_ble_eq_true rfl) c2 (fun r' H2 Hp2 locs2 ok2 p2 lh2 => ?_)
  obtain ⟨e', I2⟩ := k2 r' H2 ok2 p2
  subst e'
  exact lv_icmp_eq (tgt := 1989) hx hb dL_law_1130 (by decide) (fun _ => kk H2 Hp2 locs2 ok2 I2 lh2) (fun z => absurd rfl z)

theorem la_c27 {p : Program} {l : Launch} {e : Env} {s : State} {m : MethodId} {below : List Frame} {meth : Method} {c : Code} {Q : State → Prop} {adr : Nat → Nat} {cA : Nat → ClassId} {D : va_G} {b L i n : Nat} {xs : Nat → Int32} (K : lK p l s m c adr cA D b L xs) {H : ZH} {Hp : Heap} {locs : List Loc} (lh : lH s adr cA D H Hp locs) (ok : okZ H) (I : Inv H n) (hn : n ≤ 511) {ls : Array Slot} (hl : lv_has ls 4 (lL adr b i)) (hi : i + 6 ≤ L) (kk : ∀ H2 Hp2 locs2, okZ H2 → Inv H2 (n + 1) → lH s adr cA D H2 Hp2 locs2 → lW p l e s m b below meth c Q Hp2 locs2 (F0 m 1989 ls [])) : lW p l e s m b below meth c Q Hp locs (F0 m 1135 ls []) := by
  have hx := K.1
  have hb := K.2.1
  obtain ⟨P1, c1, k1⟩ := b_worst ok I hn (zN_rng (xs (i + 1))).1 (zN_rng (xs (i + 1))).2 (zN_rng (xs (i + 2))).1 (zN_rng (xs (i + 2))).2
  refine lv_aload_n hx hb dL_law_1135 rfl (lv_at hl 1 rfl) ?_
  refine la_arg K lh hl hi 1 (by decide) rfl dL_law_1136 dL_law_1137 dL_law_1138 dL_law_1139 dL_law_1140 ?_
  refine la_arg K lh hl hi 2 (by decide) rfl dL_law_1141 dL_law_1142 dL_law_1143 dL_law_1144 dL_law_1145 ?_
  refine la_ci K lh hl [.int (zN (xs (i + 1)).toInt), .int (zN (xs (i + 2)).toInt)] [] _ dL_law_1146 ml_L_132 ok_X10_worst rfl sh_20 rfl (Or.inl rfl) rfl (Nat.le_of_ble_eq_true rfl) c1 (fun r H1 Hp1 locs1 ok1 p1 lh1 => ?_)
  obtain ⟨P2, c2, k2⟩ := k1 r H1 ok1 p1
  refine lv_aload_n hx hb dL_law_1149 rfl (lv_at hl 2 rfl) ?_
  refine la_arg K lh1 hl hi 1 (by decide) rfl dL_law_1150 dL_law_1151 dL_law_1152 dL_law_1153 dL_law_1154 ?_
  refine la_arg K lh1 hl hi 2 (by decide) rfl dL_law_1155 dL_law_1156 dL_law_1157 dL_law_1158 dL_law_1159 ?_
  refine la_ci K lh1 hl [.int (zN (xs (i + 1)).toInt), .int (zN (xs (i + 2)).toInt)] [.int (zN r)] _ dL_law_1160 ml_L_135 ok_X11_worst rfl sh_0 rfl (Or.inl rfl) rfl (Nat.le_of_ble_eq_true rfl) c2 (fun r' H2 Hp2 locs2 ok2 p2 lh2 => ?_)
  obtain ⟨e', I2⟩ := k2 r' H2 ok2 p2
  subst e'
  exact lv_icmp_eq (tgt := 1989) hx hb dL_law_1163 (by decide) (fun _ => kk H2 Hp2 locs2 ok2 I2 lh2) (fun z => absurd rfl z)

theorem la_c28 {p : Program} {l : Launch} {e : Env} {s : State} {m : MethodId} {below : List Frame} {meth : Method} {c : Code} {Q : State → Prop} {adr : Nat → Nat} {cA : Nat → ClassId} {D : va_G} {b L i n : Nat} {xs : Nat → Int32} (K : lK p l s m c adr cA D b L xs) {H : ZH} {Hp : Heap} {locs : List Loc} (lh : lH s adr cA D H Hp locs) (ok : okZ H) (I : Inv H n) (hn : n ≤ 511) {ls : Array Slot} (hl : lv_has ls 4 (lL adr b i)) (hi : i + 6 ≤ L) (kk : ∀ H2 Hp2 locs2, okZ H2 → Inv H2 (n + 1) → lH s adr cA D H2 Hp2 locs2 → lW p l e s m b below meth c Q Hp2 locs2 (F0 m 1989 ls [])) : lW p l e s m b below meth c Q Hp locs (F0 m 1168 ls []) := by
  have hx := K.1
  have hb := K.2.1
  obtain ⟨P1, c1, k1⟩ := b_ranked ok I hn (zN_rng (xs (i + 1))).1 (zN_rng (xs (i + 1))).2
  refine lv_aload_n hx hb dL_law_1168 rfl (lv_at hl 1 rfl) ?_
  refine la_arg K lh hl hi 1 (by decide) rfl dL_law_1169 dL_law_1170 dL_law_1171 dL_law_1172 dL_law_1173 ?_
  refine la_ci K lh hl [.int (zN (xs (i + 1)).toInt)] [] _ dL_law_1174 ml_L_136 ok_X10_ranked rfl sh_20 rfl (Or.inl rfl) rfl (Nat.le_of_ble_eq_true rfl) c1 (fun r H1 Hp1 locs1 ok1 p1 lh1 => ?_)
  obtain ⟨P2, c2, k2⟩ := k1 r H1 ok1 p1
  refine lv_aload_n hx hb dL_law_1177 rfl (lv_at hl 2 rfl) ?_
  refine la_arg K lh1 hl hi 1 (by decide) rfl dL_law_1178 dL_law_1179 dL_law_1180 dL_law_1181 dL_law_1182 ?_
  refine la_ci K lh1 hl [.int (zN (xs (i + 1)).toInt)] [.int (zN r)] _ dL_law_1183 ml_L_139 ok_X11_ranked rfl sh_0 rfl (Or.inl rfl) rfl (Nat.le_of_ble_eq_true rfl) c2 (fun r' H2 Hp2 locs2 ok2 p2 lh2 => ?_)
  obtain ⟨e', I2⟩ := k2 r' H2 ok2 p2
  subst e'
  exact lv_icmp_eq (tgt := 1989) hx hb dL_law_1186 (by decide) (fun _ => kk H2 Hp2 locs2 ok2 I2 lh2) (fun z => absurd rfl z)

theorem la_c29 {p : Program} {l : Launch} {e : Env} {s : State} {m : MethodId} {below : List Frame} {meth : Method} {c : Code} {Q : State → Prop} {adr : Nat → Nat} {cA : Nat → ClassId} {D : va_G} {b L i n : Nat} {xs : Nat → Int32} (K : lK p l s m c adr cA D b L xs) {H : ZH} {Hp : Heap} {locs : List Loc} (lh : lH s adr cA D H Hp locs) (ok : okZ H) (I : Inv H n) (hn : n ≤ 511) {ls : Array Slot} (hl : lv_has ls 4 (lL adr b i)) (hi : i + 6 ≤ L) (kk : ∀ H2 Hp2 locs2, okZ H2 → Inv H2 (n + 1) → lH s adr cA D H2 Hp2 locs2 → lW p l e s m b below meth c Q Hp2 locs2 (F0 m 1989 ls [])) : lW p l e s m b below meth c Q Hp locs (F0 m 1191 ls []) := by
  have hx := K.1
  have hb := K.2.1
  obtain ⟨P1, c1, k1⟩ := b_measure ok I hn (zN_rng (xs (i + 1))).1 (zN_rng (xs (i + 1))).2 (zN_rng (xs (i + 2))).1 (zN_rng (xs (i + 2))).2 (zN_rng (xs (i + 3))).1 (zN_rng (xs (i + 3))).2
  refine lv_aload_n hx hb dL_law_1191 rfl (lv_at hl 1 rfl) ?_
  refine la_arg K lh hl hi 1 (by decide) rfl dL_law_1192 dL_law_1193 dL_law_1194 dL_law_1195 dL_law_1196 ?_
  refine la_arg K lh hl hi 2 (by decide) rfl dL_law_1197 dL_law_1198 dL_law_1199 dL_law_1200 dL_law_1201 ?_
  refine la_arg K lh hl hi 3 (by decide) rfl dL_law_1202 dL_law_1203 dL_law_1204 dL_law_1205 dL_law_1206 ?_
  refine la_ci K lh hl [.int (zN (xs (i + 1)).toInt), .int (zN (xs (i + 2)).toInt), .int (zN (xs (i + 3)).toInt)] [] _ dL_law_1207 ml_L_140 ok_X10_measure rfl sh_20 rfl (Or.inl rfl) rfl (Nat.le_of_ble_eq_true rfl) c1 (fun r H1 Hp1 locs1 ok1 p1 lh1 => ?_)
  obtain ⟨P2, c2, k2⟩ := k1 r H1 ok1 p1
  refine lv_aload_n hx hb dL_law_1210 rfl (lv_at hl 2 rfl) ?_
  refine la_arg K lh1 hl hi 1 (by decide) rfl dL_law_1211 dL_law_1212 dL_law_1213 dL_law_1214 dL_law_1215 ?_
  refine la_arg K lh1 hl hi 2 (by decide) rfl dL_law_1216 dL_law_1217 dL_law_1218 dL_law_1219 dL_law_1220 ?_
  refine la_arg K lh1 hl hi 3 (by decide) rfl dL_law_1221 dL_law_1222 dL_law_1223 dL_law_1224 dL_law_1225 ?_
  refine la_ci K lh1 hl [.int (zN (xs (i + 1)).toInt), .int (zN (xs (i + 2)).toInt), .int (zN (xs (i + 3)).toInt)] [.int (zN r)] _ dL_law_1226 ml_L_143 ok_X11_measure rfl sh_0 rfl (Or.inl rfl) rfl (Nat.le_of_ble_eq_true rfl) c2 (fun r' H2 Hp2 locs2 ok2 p2 lh2 => ?_)
  obtain ⟨e', I2⟩ := k2 r' H2 ok2 p2
  subst e'
  exact lv_icmp_eq (tgt := 1989) hx hb dL_law_1229 (by decide) (fun _ => kk H2 Hp2 locs2 ok2 I2 lh2) (fun z => absurd rfl z)

theorem la_c30 {p : Program} {l : Launch} {e : Env} {s : State} {m : MethodId} {below : List Frame} {meth : Method} {c : Code} {Q : State → Prop} {adr : Nat → Nat} {cA : Nat → ClassId} {D : va_G} {b L i n : Nat} {xs : Nat → Int32} (K : lK p l s m c adr cA D b L xs) {H : ZH} {Hp : Heap} {locs : List Loc} (lh : lH s adr cA D H Hp locs) (ok : okZ H) (I : Inv H n) (hn : n ≤ 511) {ls : Array Slot} (hl : lv_has ls 4 (lL adr b i)) (hi : i + 6 ≤ L) (kk : ∀ H2 Hp2 locs2, okZ H2 → Inv H2 (n + 1) → lH s adr cA D H2 Hp2 locs2 → lW p l e s m b below meth c Q Hp2 locs2 (F0 m 1989 ls [])) : lW p l e s m b below meth c Q Hp locs (F0 m 1234 ls []) := by
  have hx := K.1
  have hb := K.2.1
  obtain ⟨P1, c1, k1⟩ := b_spent ok I hn (zN_rng (xs (i + 1))).1 (zN_rng (xs (i + 1))).2 (zN_rng (xs (i + 2))).1 (zN_rng (xs (i + 2))).2
  refine lv_aload_n hx hb dL_law_1234 rfl (lv_at hl 1 rfl) ?_
  refine la_arg K lh hl hi 1 (by decide) rfl dL_law_1235 dL_law_1236 dL_law_1237 dL_law_1238 dL_law_1239 ?_
  refine la_arg K lh hl hi 2 (by decide) rfl dL_law_1240 dL_law_1241 dL_law_1242 dL_law_1243 dL_law_1244 ?_
  refine la_ci K lh hl [.int (zN (xs (i + 1)).toInt), .int (zN (xs (i + 2)).toInt)] [] _ dL_law_1245 ml_L_144 ok_X10_spent rfl sh_20 rfl (Or.inl rfl) rfl (Nat.le_of_ble_eq_true rfl) c1 (fun r H1 Hp1 locs1 ok1 p1 lh1 => ?_)
  obtain ⟨P2, c2, k2⟩ := k1 r H1 ok1 p1
  refine lv_aload_n hx hb dL_law_1248 rfl (lv_at hl 2 rfl) ?_
  refine la_arg K lh1 hl hi 1 (by decide) rfl dL_law_1249 dL_law_1250 dL_law_1251 dL_law_1252 dL_law_1253 ?_
  refine la_arg K lh1 hl hi 2 (by decide) rfl dL_law_1254 dL_law_1255 dL_law_1256 dL_law_1257 dL_law_1258 ?_
  refine la_ci K lh1 hl [.int (zN (xs (i + 1)).toInt), .int (zN (xs (i + 2)).toInt)] [.int (zN r)] _ dL_law_1259 ml_L_147 ok_X11_spent rfl sh_0 rfl (Or.inl rfl) rfl (Nat.le_of_ble_eq_true rfl) c2 (fun r' H2 Hp2 locs2 ok2 p2 lh2 => ?_)
  obtain ⟨e', I2⟩ := k2 r' H2 ok2 p2
  subst e'
  exact lv_icmp_eq (tgt := 1989) hx hb dL_law_1262 (by decide) (fun _ => kk H2 Hp2 locs2 ok2 I2 lh2) (fun z => absurd rfl z)

theorem la_c31 {p : Program} {l : Launch} {e : Env} {s : State} {m : MethodId} {below : List Frame} {meth : Method} {c : Code} {Q : State → Prop} {adr : Nat → Nat} {cA : Nat → ClassId} {D : va_G} {b L i n : Nat} {xs : Nat → Int32} (K : lK p l s m c adr cA D b L xs) {H : ZH} {Hp : Heap} {locs : List Loc} (lh : lH s adr cA D H Hp locs) (ok : okZ H) (I : Inv H n) (hn : n ≤ 511) {ls : Array Slot} (hl : lv_has ls 4 (lL adr b i)) (hi : i + 6 ≤ L) (kk : ∀ H2 Hp2 locs2, okZ H2 → Inv H2 (n + 1) → lH s adr cA D H2 Hp2 locs2 → lW p l e s m b below meth c Q Hp2 locs2 (F0 m 1989 ls [])) : lW p l e s m b below meth c Q Hp locs (F0 m 1267 ls []) := by
  have hx := K.1
  have hb := K.2.1
  obtain ⟨P1, c1, k1⟩ := b_fine ok I hn (zN_rng (xs (i + 1))).1 (zN_rng (xs (i + 1))).2 (zN_rng (xs (i + 2))).1 (zN_rng (xs (i + 2))).2 (zN_rng (xs (i + 3))).1 (zN_rng (xs (i + 3))).2 (zN_rng (xs (i + 4))).1 (zN_rng (xs (i + 4))).2
  refine lv_aload_n hx hb dL_law_1267 rfl (lv_at hl 1 rfl) ?_
  refine la_arg K lh hl hi 1 (by decide) rfl dL_law_1268 dL_law_1269 dL_law_1270 dL_law_1271 dL_law_1272 ?_
  refine la_arg K lh hl hi 2 (by decide) rfl dL_law_1273 dL_law_1274 dL_law_1275 dL_law_1276 dL_law_1277 ?_
  refine la_arg K lh hl hi 3 (by decide) rfl dL_law_1278 dL_law_1279 dL_law_1280 dL_law_1281 dL_law_1282 ?_
  refine la_arg K lh hl hi 4 (by decide) rfl dL_law_1283 dL_law_1284 dL_law_1285 dL_law_1286 dL_law_1287 ?_
  refine la_ci K lh hl [.int (zN (xs (i + 1)).toInt), .int (zN (xs (i + 2)).toInt), .int (zN (xs (i + 3)).toInt), .int (zN (xs (i + 4)).toInt)] [] _ dL_law_1288 ml_L_148 ok_X10_fine rfl sh_20 rfl (Or.inl rfl) rfl (Nat.le_of_ble_eq_true rfl) c1 (fun r H1 Hp1 locs1 ok1 p1 lh1 => ?_)
  obtain ⟨P2, c2, k2⟩ := k1 r H1 ok1 p1
  refine lv_aload_n hx hb dL_law_1291 rfl (lv_at hl 2 rfl) ?_
  refine la_arg K lh1 hl hi 1 (by decide) rfl dL_law_1292 dL_law_1293 dL_law_1294 dL_law_1295 dL_law_1296 ?_
  refine la_arg K lh1 hl hi 2 (by decide) rfl dL_law_1297 dL_law_1298 dL_law_1299 dL_law_1300 dL_law_1301 ?_
  refine la_arg K lh1 hl hi 3 (by decide) rfl dL_law_1302 dL_law_1303 dL_law_1304 dL_law_1305 dL_law_1306 ?_
  refine la_arg K lh1 hl hi 4 (by decide) rfl dL_law_1307 dL_law_1308 dL_law_1309 dL_law_1310 dL_law_1311 ?_
  refine la_ci K lh1 hl [.int (zN (xs (i + 1)).toInt), .int (zN (xs (i + 2)).toInt), .int (zN (xs (i + 3)).toInt), .int (zN (xs (i + 4)).toInt)] [.int (zN r)] _ dL_law_1312 ml_L_151 ok_X11_fine rfl sh_0 rfl (Or.inl rfl) rfl (Nat.le_of_ble_eq_true rfl) c2 (fun r' H2 Hp2 locs2 ok2 p2 lh2 => ?_)
  obtain ⟨e', I2⟩ := k2 r' H2 ok2 p2
  subst e'
  exact lv_icmp_eq (tgt := 1989) hx hb dL_law_1315 (by decide) (fun _ => kk H2 Hp2 locs2 ok2 I2 lh2) (fun z => absurd rfl z)

theorem la_c32 {p : Program} {l : Launch} {e : Env} {s : State} {m : MethodId} {below : List Frame} {meth : Method} {c : Code} {Q : State → Prop} {adr : Nat → Nat} {cA : Nat → ClassId} {D : va_G} {b L i n : Nat} {xs : Nat → Int32} (K : lK p l s m c adr cA D b L xs) {H : ZH} {Hp : Heap} {locs : List Loc} (lh : lH s adr cA D H Hp locs) (ok : okZ H) (I : Inv H n) (hn : n ≤ 511) {ls : Array Slot} (hl : lv_has ls 4 (lL adr b i)) (hi : i + 6 ≤ L) (kk : ∀ H2 Hp2 locs2, okZ H2 → Inv H2 (n + 1) → lH s adr cA D H2 Hp2 locs2 → lW p l e s m b below meth c Q Hp2 locs2 (F0 m 1989 ls [])) : lW p l e s m b below meth c Q Hp locs (F0 m 1320 ls []) := by
  have hx := K.1
  have hb := K.2.1
  obtain ⟨P1, c1, k1⟩ := b_until ok I hn (zN_rng (xs (i + 1))).1 (zN_rng (xs (i + 1))).2 (zN_rng (xs (i + 2))).1 (zN_rng (xs (i + 2))).2 (zN_rng (xs (i + 3))).1 (zN_rng (xs (i + 3))).2 (zN_rng (xs (i + 4))).1 (zN_rng (xs (i + 4))).2
  refine lv_aload_n hx hb dL_law_1320 rfl (lv_at hl 1 rfl) ?_
  refine la_arg K lh hl hi 1 (by decide) rfl dL_law_1321 dL_law_1322 dL_law_1323 dL_law_1324 dL_law_1325 ?_
  refine la_arg K lh hl hi 2 (by decide) rfl dL_law_1326 dL_law_1327 dL_law_1328 dL_law_1329 dL_law_1330 ?_
  refine la_arg K lh hl hi 3 (by decide) rfl dL_law_1331 dL_law_1332 dL_law_1333 dL_law_1334 dL_law_1335 ?_
  refine la_arg K lh hl hi 4 (by decide) rfl dL_law_1336 dL_law_1337 dL_law_1338 dL_law_1339 dL_law_1340 ?_
  refine la_ci K lh hl [.int (zN (xs (i + 1)).toInt), .int (zN (xs (i + 2)).toInt), .int (zN (xs (i + 3)).toInt), .int (zN (xs (i + 4)).toInt)] [] _ dL_law_1341 ml_L_152 ok_X10_until rfl sh_20 rfl (Or.inl rfl) rfl (Nat.le_of_ble_eq_true rfl) c1 (fun r H1 Hp1 locs1 ok1 p1 lh1 => ?_)
  obtain ⟨P2, c2, k2⟩ := k1 r H1 ok1 p1
  refine lv_aload_n hx hb dL_law_1344 rfl (lv_at hl 2 rfl) ?_
  refine la_arg K lh1 hl hi 1 (by decide) rfl dL_law_1345 dL_law_1346 dL_law_1347 dL_law_1348 dL_law_1349 ?_
  refine la_arg K lh1 hl hi 2 (by decide) rfl dL_law_1350 dL_law_1351 dL_law_1352 dL_law_1353 dL_law_1354 ?_
  refine la_arg K lh1 hl hi 3 (by decide) rfl dL_law_1355 dL_law_1356 dL_law_1357 dL_law_1358 dL_law_1359 ?_
  refine la_arg K lh1 hl hi 4 (by decide) rfl dL_law_1360 dL_law_1361 dL_law_1362 dL_law_1363 dL_law_1364 ?_
  refine la_ci K lh1 hl [.int (zN (xs (i + 1)).toInt), .int (zN (xs (i + 2)).toInt), .int (zN (xs (i + 3)).toInt), .int (zN (xs (i + 4)).toInt)] [.int (zN r)] _ dL_law_1365 ml_L_155 ok_X11_until rfl sh_0 rfl (Or.inl rfl) rfl (Nat.le_of_ble_eq_true rfl) c2 (fun r' H2 Hp2 locs2 ok2 p2 lh2 => ?_)
  obtain ⟨e', I2⟩ := k2 r' H2 ok2 p2
  subst e'
  exact lv_icmp_eq (tgt := 1989) hx hb dL_law_1368 (by decide) (fun _ => kk H2 Hp2 locs2 ok2 I2 lh2) (fun z => absurd rfl z)

theorem la_c33 {p : Program} {l : Launch} {e : Env} {s : State} {m : MethodId} {below : List Frame} {meth : Method} {c : Code} {Q : State → Prop} {adr : Nat → Nat} {cA : Nat → ClassId} {D : va_G} {b L i n : Nat} {xs : Nat → Int32} (K : lK p l s m c adr cA D b L xs) {H : ZH} {Hp : Heap} {locs : List Loc} (lh : lH s adr cA D H Hp locs) (ok : okZ H) (I : Inv H n) (hn : n ≤ 511) {ls : Array Slot} (hl : lv_has ls 4 (lL adr b i)) (hi : i + 6 ≤ L) (kk : ∀ H2 Hp2 locs2, okZ H2 → Inv H2 (n + 1) → lH s adr cA D H2 Hp2 locs2 → lW p l e s m b below meth c Q Hp2 locs2 (F0 m 1989 ls [])) : lW p l e s m b below meth c Q Hp locs (F0 m 1373 ls []) := by
  have hx := K.1
  have hb := K.2.1
  obtain ⟨P1, c1, k1⟩ := b_lot ok I hn (zN_rng (xs (i + 1))).1 (zN_rng (xs (i + 1))).2 (zN_rng (xs (i + 2))).1 (zN_rng (xs (i + 2))).2
  refine lv_aload_n hx hb dL_law_1373 rfl (lv_at hl 1 rfl) ?_
  refine la_arg K lh hl hi 1 (by decide) rfl dL_law_1374 dL_law_1375 dL_law_1376 dL_law_1377 dL_law_1378 ?_
  refine la_arg K lh hl hi 2 (by decide) rfl dL_law_1379 dL_law_1380 dL_law_1381 dL_law_1382 dL_law_1383 ?_
  refine la_ci K lh hl [.int (zN (xs (i + 1)).toInt), .int (zN (xs (i + 2)).toInt)] [] _ dL_law_1384 ml_L_156 ok_X10_lot rfl sh_20 rfl (Or.inl rfl) rfl (Nat.le_of_ble_eq_true rfl) c1 (fun r H1 Hp1 locs1 ok1 p1 lh1 => ?_)
  obtain ⟨P2, c2, k2⟩ := k1 r H1 ok1 p1
  refine lv_aload_n hx hb dL_law_1387 rfl (lv_at hl 2 rfl) ?_
  refine la_arg K lh1 hl hi 1 (by decide) rfl dL_law_1388 dL_law_1389 dL_law_1390 dL_law_1391 dL_law_1392 ?_
  refine la_arg K lh1 hl hi 2 (by decide) rfl dL_law_1393 dL_law_1394 dL_law_1395 dL_law_1396 dL_law_1397 ?_
  refine la_ci K lh1 hl [.int (zN (xs (i + 1)).toInt), .int (zN (xs (i + 2)).toInt)] [.int (zN r)] _ dL_law_1398 ml_L_159 ok_X11_lot rfl sh_0 rfl (Or.inl rfl) rfl (Nat.le_of_ble_eq_true rfl) c2 (fun r' H2 Hp2 locs2 ok2 p2 lh2 => ?_)
  obtain ⟨e', I2⟩ := k2 r' H2 ok2 p2
  subst e'
  exact lv_icmp_eq (tgt := 1989) hx hb dL_law_1401 (by decide) (fun _ => kk H2 Hp2 locs2 ok2 I2 lh2) (fun z => absurd rfl z)

theorem la_c34 {p : Program} {l : Launch} {e : Env} {s : State} {m : MethodId} {below : List Frame} {meth : Method} {c : Code} {Q : State → Prop} {adr : Nat → Nat} {cA : Nat → ClassId} {D : va_G} {b L i n : Nat} {xs : Nat → Int32} (K : lK p l s m c adr cA D b L xs) {H : ZH} {Hp : Heap} {locs : List Loc} (lh : lH s adr cA D H Hp locs) (ok : okZ H) (I : Inv H n) (hn : n ≤ 511) {ls : Array Slot} (hl : lv_has ls 4 (lL adr b i)) (hi : i + 6 ≤ L) (kk : ∀ H2 Hp2 locs2, okZ H2 → Inv H2 (n + 1) → lH s adr cA D H2 Hp2 locs2 → lW p l e s m b below meth c Q Hp2 locs2 (F0 m 1989 ls [])) : lW p l e s m b below meth c Q Hp locs (F0 m 1406 ls []) := by
  have hx := K.1
  have hb := K.2.1
  obtain ⟨P1, c1, k1⟩ := b_shown ok I hn (zN_rng (xs (i + 1))).1 (zN_rng (xs (i + 1))).2 (zN_rng (xs (i + 2))).1 (zN_rng (xs (i + 2))).2 (zN_rng (xs (i + 3))).1 (zN_rng (xs (i + 3))).2 (zN_rng (xs (i + 4))).1 (zN_rng (xs (i + 4))).2
  refine lv_aload_n hx hb dL_law_1406 rfl (lv_at hl 1 rfl) ?_
  refine la_arg K lh hl hi 1 (by decide) rfl dL_law_1407 dL_law_1408 dL_law_1409 dL_law_1410 dL_law_1411 ?_
  refine la_arg K lh hl hi 2 (by decide) rfl dL_law_1412 dL_law_1413 dL_law_1414 dL_law_1415 dL_law_1416 ?_
  refine la_arg K lh hl hi 3 (by decide) rfl dL_law_1417 dL_law_1418 dL_law_1419 dL_law_1420 dL_law_1421 ?_
  refine la_arg K lh hl hi 4 (by decide) rfl dL_law_1422 dL_law_1423 dL_law_1424 dL_law_1425 dL_law_1426 ?_
  refine la_ci K lh hl [.int (zN (xs (i + 1)).toInt), .int (zN (xs (i + 2)).toInt), .int (zN (xs (i + 3)).toInt), .int (zN (xs (i + 4)).toInt)] [] _ dL_law_1427 ml_L_160 ok_X10_shown rfl sh_20 rfl (Or.inl rfl) rfl (Nat.le_of_ble_eq_true rfl) c1 (fun r H1 Hp1 locs1 ok1 p1 lh1 => ?_)
  obtain ⟨P2, c2, k2⟩ := k1 r H1 ok1 p1
  refine lv_aload_n hx hb dL_law_1430 rfl (lv_at hl 2 rfl) ?_
  refine la_arg K lh1 hl hi 1 (by decide) rfl dL_law_1431 dL_law_1432 dL_law_1433 dL_law_1434 dL_law_1435 ?_
  refine la_arg K lh1 hl hi 2 (by decide) rfl dL_law_1436 dL_law_1437 dL_law_1438 dL_law_1439 dL_law_1440 ?_
  refine la_arg K lh1 hl hi 3 (by decide) rfl dL_law_1441 dL_law_1442 dL_law_1443 dL_law_1444 dL_law_1445 ?_
  refine la_arg K lh1 hl hi 4 (by decide) rfl dL_law_1446 dL_law_1447 dL_law_1448 dL_law_1449 dL_law_1450 ?_
  refine la_ci K lh1 hl [.int (zN (xs (i + 1)).toInt), .int (zN (xs (i + 2)).toInt), .int (zN (xs (i + 3)).toInt), .int (zN (xs (i + 4)).toInt)] [.int (zN r)] _ dL_law_1451 ml_L_163 ok_X11_shown rfl sh_0 rfl (Or.inl rfl) rfl (Nat.le_of_ble_eq_true rfl) c2 (fun r' H2 Hp2 locs2 ok2 p2 lh2 => ?_)
  obtain ⟨e', I2⟩ := k2 r' H2 ok2 p2
  subst e'
  exact lv_icmp_eq (tgt := 1989) hx hb dL_law_1454 (by decide) (fun _ => kk H2 Hp2 locs2 ok2 I2 lh2) (fun z => absurd rfl z)

theorem la_c35 {p : Program} {l : Launch} {e : Env} {s : State} {m : MethodId} {below : List Frame} {meth : Method} {c : Code} {Q : State → Prop} {adr : Nat → Nat} {cA : Nat → ClassId} {D : va_G} {b L i n : Nat} {xs : Nat → Int32} (K : lK p l s m c adr cA D b L xs) {H : ZH} {Hp : Heap} {locs : List Loc} (lh : lH s adr cA D H Hp locs) (ok : okZ H) (I : Inv H n) (hn : n ≤ 511) {ls : Array Slot} (hl : lv_has ls 4 (lL adr b i)) (hi : i + 6 ≤ L) (kk : ∀ H2 Hp2 locs2, okZ H2 → Inv H2 (n + 1) → lH s adr cA D H2 Hp2 locs2 → lW p l e s m b below meth c Q Hp2 locs2 (F0 m 1989 ls [])) : lW p l e s m b below meth c Q Hp locs (F0 m 1459 ls []) := by
  have hx := K.1
  have hb := K.2.1
  obtain ⟨P1, c1, k1⟩ := b_clumps ok I hn (zN_rng (xs (i + 1))).1 (zN_rng (xs (i + 1))).2 (zN_rng (xs (i + 2))).1 (zN_rng (xs (i + 2))).2 (zN_rng (xs (i + 3))).1 (zN_rng (xs (i + 3))).2 (zN_rng (xs (i + 4))).1 (zN_rng (xs (i + 4))).2
  refine lv_aload_n hx hb dL_law_1459 rfl (lv_at hl 1 rfl) ?_
  refine la_arg K lh hl hi 1 (by decide) rfl dL_law_1460 dL_law_1461 dL_law_1462 dL_law_1463 dL_law_1464 ?_
  refine la_arg K lh hl hi 2 (by decide) rfl dL_law_1465 dL_law_1466 dL_law_1467 dL_law_1468 dL_law_1469 ?_
  refine la_arg K lh hl hi 3 (by decide) rfl dL_law_1470 dL_law_1471 dL_law_1472 dL_law_1473 dL_law_1474 ?_
  refine la_arg K lh hl hi 4 (by decide) rfl dL_law_1475 dL_law_1476 dL_law_1477 dL_law_1478 dL_law_1479 ?_
  refine la_ci K lh hl [.int (zN (xs (i + 1)).toInt), .int (zN (xs (i + 2)).toInt), .int (zN (xs (i + 3)).toInt), .int (zN (xs (i + 4)).toInt)] [] _ dL_law_1480 ml_L_164 ok_X10_clumps rfl sh_20 rfl (Or.inl rfl) rfl (Nat.le_of_ble_eq_true rfl) c1 (fun r H1 Hp1 locs1 ok1 p1 lh1 => ?_)
  obtain ⟨P2, c2, k2⟩ := k1 r H1 ok1 p1
  refine lv_aload_n hx hb dL_law_1483 rfl (lv_at hl 2 rfl) ?_
  refine la_arg K lh1 hl hi 1 (by decide) rfl dL_law_1484 dL_law_1485 dL_law_1486 dL_law_1487 dL_law_1488 ?_
  refine la_arg K lh1 hl hi 2 (by decide) rfl dL_law_1489 dL_law_1490 dL_law_1491 dL_law_1492 dL_law_1493 ?_
  refine la_arg K lh1 hl hi 3 (by decide) rfl dL_law_1494 dL_law_1495 dL_law_1496 dL_law_1497 dL_law_1498 ?_
  refine la_arg K lh1 hl hi 4 (by decide) rfl dL_law_1499 dL_law_1500 dL_law_1501 dL_law_1502 dL_law_1503 ?_
  refine la_ci K lh1 hl [.int (zN (xs (i + 1)).toInt), .int (zN (xs (i + 2)).toInt), .int (zN (xs (i + 3)).toInt), .int (zN (xs (i + 4)).toInt)] [.int (zN r)] _ dL_law_1504 ml_L_167 ok_X11_clumps rfl sh_0 rfl (Or.inl rfl) rfl (Nat.le_of_ble_eq_true rfl) c2 (fun r' H2 Hp2 locs2 ok2 p2 lh2 => ?_)
  obtain ⟨e', I2⟩ := k2 r' H2 ok2 p2
  subst e'
  exact lv_icmp_eq (tgt := 1989) hx hb dL_law_1507 (by decide) (fun _ => kk H2 Hp2 locs2 ok2 I2 lh2) (fun z => absurd rfl z)

theorem la_c36 {p : Program} {l : Launch} {e : Env} {s : State} {m : MethodId} {below : List Frame} {meth : Method} {c : Code} {Q : State → Prop} {adr : Nat → Nat} {cA : Nat → ClassId} {D : va_G} {b L i n : Nat} {xs : Nat → Int32} (K : lK p l s m c adr cA D b L xs) {H : ZH} {Hp : Heap} {locs : List Loc} (lh : lH s adr cA D H Hp locs) (ok : okZ H) (I : Inv H n) (hn : n ≤ 511) {ls : Array Slot} (hl : lv_has ls 4 (lL adr b i)) (hi : i + 6 ≤ L) (kk : ∀ H2 Hp2 locs2, okZ H2 → Inv H2 (n + 1) → lH s adr cA D H2 Hp2 locs2 → lW p l e s m b below meth c Q Hp2 locs2 (F0 m 1989 ls [])) : lW p l e s m b below meth c Q Hp locs (F0 m 1512 ls []) := by
  have hx := K.1
  have hb := K.2.1
  obtain ⟨P1, c1, k1⟩ := b_lamp ok I hn (zN_rng (xs (i + 1))).1 (zN_rng (xs (i + 1))).2 (zN_rng (xs (i + 2))).1 (zN_rng (xs (i + 2))).2 (zN_rng (xs (i + 3))).1 (zN_rng (xs (i + 3))).2
  refine lv_aload_n hx hb dL_law_1512 rfl (lv_at hl 1 rfl) ?_
  refine la_arg K lh hl hi 1 (by decide) rfl dL_law_1513 dL_law_1514 dL_law_1515 dL_law_1516 dL_law_1517 ?_
  refine la_arg K lh hl hi 2 (by decide) rfl dL_law_1518 dL_law_1519 dL_law_1520 dL_law_1521 dL_law_1522 ?_
  refine la_arg K lh hl hi 3 (by decide) rfl dL_law_1523 dL_law_1524 dL_law_1525 dL_law_1526 dL_law_1527 ?_
  refine la_ci K lh hl [.int (zN (xs (i + 1)).toInt), .int (zN (xs (i + 2)).toInt), .int (zN (xs (i + 3)).toInt)] [] _ dL_law_1528 ml_L_168 ok_X10_lamp rfl sh_20 rfl (Or.inl rfl) rfl (Nat.le_of_ble_eq_true rfl) c1 (fun r H1 Hp1 locs1 ok1 p1 lh1 => ?_)
  obtain ⟨P2, c2, k2⟩ := k1 r H1 ok1 p1
  refine lv_aload_n hx hb dL_law_1531 rfl (lv_at hl 2 rfl) ?_
  refine la_arg K lh1 hl hi 1 (by decide) rfl dL_law_1532 dL_law_1533 dL_law_1534 dL_law_1535 dL_law_1536 ?_
  refine la_arg K lh1 hl hi 2 (by decide) rfl dL_law_1537 dL_law_1538 dL_law_1539 dL_law_1540 dL_law_1541 ?_
  refine la_arg K lh1 hl hi 3 (by decide) rfl dL_law_1542 dL_law_1543 dL_law_1544 dL_law_1545 dL_law_1546 ?_
  refine la_ci K lh1 hl [.int (zN (xs (i + 1)).toInt), .int (zN (xs (i + 2)).toInt), .int (zN (xs (i + 3)).toInt)] [.int (zN r)] _ dL_law_1547 ml_L_171 ok_X11_lamp rfl sh_0 rfl (Or.inl rfl) rfl (Nat.le_of_ble_eq_true rfl) c2 (fun r' H2 Hp2 locs2 ok2 p2 lh2 => ?_)
  obtain ⟨e', I2⟩ := k2 r' H2 ok2 p2
  subst e'
  exact lv_icmp_eq (tgt := 1989) hx hb dL_law_1550 (by decide) (fun _ => kk H2 Hp2 locs2 ok2 I2 lh2) (fun z => absurd rfl z)

theorem la_c37 {p : Program} {l : Launch} {e : Env} {s : State} {m : MethodId} {below : List Frame} {meth : Method} {c : Code} {Q : State → Prop} {adr : Nat → Nat} {cA : Nat → ClassId} {D : va_G} {b L i n : Nat} {xs : Nat → Int32} (K : lK p l s m c adr cA D b L xs) {H : ZH} {Hp : Heap} {locs : List Loc} (lh : lH s adr cA D H Hp locs) (ok : okZ H) (I : Inv H n) (hn : n ≤ 511) {ls : Array Slot} (hl : lv_has ls 4 (lL adr b i)) (hi : i + 6 ≤ L) (kk : ∀ H2 Hp2 locs2, okZ H2 → Inv H2 (n + 1) → lH s adr cA D H2 Hp2 locs2 → lW p l e s m b below meth c Q Hp2 locs2 (F0 m 1989 ls [])) : lW p l e s m b below meth c Q Hp locs (F0 m 1555 ls []) := by
  have hx := K.1
  have hb := K.2.1
  obtain ⟨P1, c1, k1⟩ := b_pay ok I hn (zN_rng (xs (i + 1))).1 (zN_rng (xs (i + 1))).2 (zN_rng (xs (i + 2))).1 (zN_rng (xs (i + 2))).2 (zN_rng (xs (i + 3))).1 (zN_rng (xs (i + 3))).2 (zN_rng (xs (i + 4))).1 (zN_rng (xs (i + 4))).2
  refine lv_aload_n hx hb dL_law_1555 rfl (lv_at hl 1 rfl) ?_
  refine la_arg K lh hl hi 1 (by decide) rfl dL_law_1556 dL_law_1557 dL_law_1558 dL_law_1559 dL_law_1560 ?_
  refine la_arg K lh hl hi 2 (by decide) rfl dL_law_1561 dL_law_1562 dL_law_1563 dL_law_1564 dL_law_1565 ?_
  refine la_arg K lh hl hi 3 (by decide) rfl dL_law_1566 dL_law_1567 dL_law_1568 dL_law_1569 dL_law_1570 ?_
  refine la_arg K lh hl hi 4 (by decide) rfl dL_law_1571 dL_law_1572 dL_law_1573 dL_law_1574 dL_law_1575 ?_
  refine la_ci K lh hl [.int (zN (xs (i + 1)).toInt), .int (zN (xs (i + 2)).toInt), .int (zN (xs (i + 3)).toInt), .int (zN (xs (i + 4)).toInt)] [] _ dL_law_1576 ml_L_172 ok_X10_pay rfl sh_20 rfl (Or.inl rfl) rfl (Nat.le_of_ble_eq_true rfl) c1 (fun r H1 Hp1 locs1 ok1 p1 lh1 => ?_)
  obtain ⟨P2, c2, k2⟩ := k1 r H1 ok1 p1
  refine lv_aload_n hx hb dL_law_1579 rfl (lv_at hl 2 rfl) ?_
  refine la_arg K lh1 hl hi 1 (by decide) rfl dL_law_1580 dL_law_1581 dL_law_1582 dL_law_1583 dL_law_1584 ?_
  refine la_arg K lh1 hl hi 2 (by decide) rfl dL_law_1585 dL_law_1586 dL_law_1587 dL_law_1588 dL_law_1589 ?_
  refine la_arg K lh1 hl hi 3 (by decide) rfl dL_law_1590 dL_law_1591 dL_law_1592 dL_law_1593 dL_law_1594 ?_
  refine la_arg K lh1 hl hi 4 (by decide) rfl dL_law_1595 dL_law_1596 dL_law_1597 dL_law_1598 dL_law_1599 ?_
  refine la_ci K lh1 hl [.int (zN (xs (i + 1)).toInt), .int (zN (xs (i + 2)).toInt), .int (zN (xs (i + 3)).toInt), .int (zN (xs (i + 4)).toInt)] [.int (zN r)] _ dL_law_1600 ml_L_175 ok_X11_pay rfl sh_0 rfl (Or.inl rfl) rfl (Nat.le_of_ble_eq_true rfl) c2 (fun r' H2 Hp2 locs2 ok2 p2 lh2 => ?_)
  obtain ⟨e', I2⟩ := k2 r' H2 ok2 p2
  subst e'
  exact lv_icmp_eq (tgt := 1989) hx hb dL_law_1603 (by decide) (fun _ => kk H2 Hp2 locs2 ok2 I2 lh2) (fun z => absurd rfl z)

theorem la_c38 {p : Program} {l : Launch} {e : Env} {s : State} {m : MethodId} {below : List Frame} {meth : Method} {c : Code} {Q : State → Prop} {adr : Nat → Nat} {cA : Nat → ClassId} {D : va_G} {b L i n : Nat} {xs : Nat → Int32} (K : lK p l s m c adr cA D b L xs) {H : ZH} {Hp : Heap} {locs : List Loc} (lh : lH s adr cA D H Hp locs) (ok : okZ H) (I : Inv H n) (hn : n ≤ 511) {ls : Array Slot} (hl : lv_has ls 4 (lL adr b i)) (hi : i + 6 ≤ L) (kk : ∀ H2 Hp2 locs2, okZ H2 → Inv H2 (n + 1) → lH s adr cA D H2 Hp2 locs2 → lW p l e s m b below meth c Q Hp2 locs2 (F0 m 1989 ls [])) : lW p l e s m b below meth c Q Hp locs (F0 m 1608 ls []) := by
  have hx := K.1
  have hb := K.2.1
  obtain ⟨P1, c1, k1⟩ := b_rests ok I hn (zN_rng (xs (i + 1))).1 (zN_rng (xs (i + 1))).2 (zN_rng (xs (i + 2))).1 (zN_rng (xs (i + 2))).2 (zN_rng (xs (i + 3))).1 (zN_rng (xs (i + 3))).2
  refine lv_aload_n hx hb dL_law_1608 rfl (lv_at hl 1 rfl) ?_
  refine la_arg K lh hl hi 1 (by decide) rfl dL_law_1609 dL_law_1610 dL_law_1611 dL_law_1612 dL_law_1613 ?_
  refine la_arg K lh hl hi 2 (by decide) rfl dL_law_1614 dL_law_1615 dL_law_1616 dL_law_1617 dL_law_1618 ?_
  refine la_arg K lh hl hi 3 (by decide) rfl dL_law_1619 dL_law_1620 dL_law_1621 dL_law_1622 dL_law_1623 ?_
  refine la_ci K lh hl [.int (zN (xs (i + 1)).toInt), .int (zN (xs (i + 2)).toInt), .int (zN (xs (i + 3)).toInt)] [] _ dL_law_1624 ml_L_176 ok_X10_rests rfl sh_20 rfl (Or.inl rfl) rfl (Nat.le_of_ble_eq_true rfl) c1 (fun r H1 Hp1 locs1 ok1 p1 lh1 => ?_)
  obtain ⟨P2, c2, k2⟩ := k1 r H1 ok1 p1
  refine lv_aload_n hx hb dL_law_1627 rfl (lv_at hl 2 rfl) ?_
  refine la_arg K lh1 hl hi 1 (by decide) rfl dL_law_1628 dL_law_1629 dL_law_1630 dL_law_1631 dL_law_1632 ?_
  refine la_arg K lh1 hl hi 2 (by decide) rfl dL_law_1633 dL_law_1634 dL_law_1635 dL_law_1636 dL_law_1637 ?_
  refine la_arg K lh1 hl hi 3 (by decide) rfl dL_law_1638 dL_law_1639 dL_law_1640 dL_law_1641 dL_law_1642 ?_
  refine la_ci K lh1 hl [.int (zN (xs (i + 1)).toInt), .int (zN (xs (i + 2)).toInt), .int (zN (xs (i + 3)).toInt)] [.int (zN r)] _ dL_law_1643 ml_L_179 ok_X11_rests rfl sh_0 rfl (Or.inl rfl) rfl (Nat.le_of_ble_eq_true rfl) c2 (fun r' H2 Hp2 locs2 ok2 p2 lh2 => ?_)
  obtain ⟨e', I2⟩ := k2 r' H2 ok2 p2
  subst e'
  exact lv_icmp_eq (tgt := 1989) hx hb dL_law_1646 (by decide) (fun _ => kk H2 Hp2 locs2 ok2 I2 lh2) (fun z => absurd rfl z)

theorem la_c39 {p : Program} {l : Launch} {e : Env} {s : State} {m : MethodId} {below : List Frame} {meth : Method} {c : Code} {Q : State → Prop} {adr : Nat → Nat} {cA : Nat → ClassId} {D : va_G} {b L i n : Nat} {xs : Nat → Int32} (K : lK p l s m c adr cA D b L xs) {H : ZH} {Hp : Heap} {locs : List Loc} (lh : lH s adr cA D H Hp locs) (ok : okZ H) (I : Inv H n) (hn : n ≤ 511) {ls : Array Slot} (hl : lv_has ls 4 (lL adr b i)) (hi : i + 6 ≤ L) (kk : ∀ H2 Hp2 locs2, okZ H2 → Inv H2 (n + 1) → lH s adr cA D H2 Hp2 locs2 → lW p l e s m b below meth c Q Hp2 locs2 (F0 m 1989 ls [])) : lW p l e s m b below meth c Q Hp locs (F0 m 1651 ls []) := by
  have hx := K.1
  have hb := K.2.1
  obtain ⟨P1, c1, k1⟩ := b_thanks ok I hn (zN_rng (xs (i + 1))).1 (zN_rng (xs (i + 1))).2 (zN_rng (xs (i + 2))).1 (zN_rng (xs (i + 2))).2 (zN_rng (xs (i + 3))).1 (zN_rng (xs (i + 3))).2 (zN_rng (xs (i + 4))).1 (zN_rng (xs (i + 4))).2 (zN_rng (xs (i + 5))).1 (zN_rng (xs (i + 5))).2
  refine lv_aload_n hx hb dL_law_1651 rfl (lv_at hl 1 rfl) ?_
  refine la_arg K lh hl hi 1 (by decide) rfl dL_law_1652 dL_law_1653 dL_law_1654 dL_law_1655 dL_law_1656 ?_
  refine la_arg K lh hl hi 2 (by decide) rfl dL_law_1657 dL_law_1658 dL_law_1659 dL_law_1660 dL_law_1661 ?_
  refine la_arg K lh hl hi 3 (by decide) rfl dL_law_1662 dL_law_1663 dL_law_1664 dL_law_1665 dL_law_1666 ?_
  refine la_arg K lh hl hi 4 (by decide) rfl dL_law_1667 dL_law_1668 dL_law_1669 dL_law_1670 dL_law_1671 ?_
  refine la_arg K lh hl hi 5 (by decide) rfl dL_law_1672 dL_law_1673 dL_law_1674 dL_law_1675 dL_law_1676 ?_
  refine la_ci K lh hl [.int (zN (xs (i + 1)).toInt), .int (zN (xs (i + 2)).toInt), .int (zN (xs (i + 3)).toInt), .int (zN (xs (i + 4)).toInt), .int (zN (xs (i + 5)).toInt)] [] _ dL_law_1677 ml_L_180 ok_X10_thanks rfl sh_20 rfl (Or.inl rfl) rfl (Nat.le_of_ble_eq_true rfl) c1 (fun r H1 Hp1 locs1 ok1 p1 lh1 => ?_)
  obtain ⟨P2, c2, k2⟩ := k1 r H1 ok1 p1
  refine lv_aload_n hx hb dL_law_1680 rfl (lv_at hl 2 rfl) ?_
  refine la_arg K lh1 hl hi 1 (by decide) rfl dL_law_1681 dL_law_1682 dL_law_1683 dL_law_1684 dL_law_1685 ?_
  refine la_arg K lh1 hl hi 2 (by decide) rfl dL_law_1686 dL_law_1687 dL_law_1688 dL_law_1689 dL_law_1690 ?_
  refine la_arg K lh1 hl hi 3 (by decide) rfl dL_law_1691 dL_law_1692 dL_law_1693 dL_law_1694 dL_law_1695 ?_
  refine la_arg K lh1 hl hi 4 (by decide) rfl dL_law_1696 dL_law_1697 dL_law_1698 dL_law_1699 dL_law_1700 ?_
  refine la_arg K lh1 hl hi 5 (by decide) rfl dL_law_1701 dL_law_1702 dL_law_1703 dL_law_1704 dL_law_1705 ?_
  refine la_ci K lh1 hl [.int (zN (xs (i + 1)).toInt), .int (zN (xs (i + 2)).toInt), .int (zN (xs (i + 3)).toInt), .int (zN (xs (i + 4)).toInt), .int (zN (xs (i + 5)).toInt)] [.int (zN r)] _ dL_law_1706 ml_L_183 ok_X11_thanks rfl sh_0 rfl (Or.inl rfl) rfl (Nat.le_of_ble_eq_true rfl) c2 (fun r' H2 Hp2 locs2 ok2 p2 lh2 => ?_)
  obtain ⟨e', I2⟩ := k2 r' H2 ok2 p2
  subst e'
  exact lv_icmp_eq (tgt := 1989) hx hb dL_law_1709 (by decide) (fun _ => kk H2 Hp2 locs2 ok2 I2 lh2) (fun z => absurd rfl z)

theorem la_c40 {p : Program} {l : Launch} {e : Env} {s : State} {m : MethodId} {below : List Frame} {meth : Method} {c : Code} {Q : State → Prop} {adr : Nat → Nat} {cA : Nat → ClassId} {D : va_G} {b L i n : Nat} {xs : Nat → Int32} (K : lK p l s m c adr cA D b L xs) {H : ZH} {Hp : Heap} {locs : List Loc} (lh : lH s adr cA D H Hp locs) (ok : okZ H) (I : Inv H n) (hn : n ≤ 511) {ls : Array Slot} (hl : lv_has ls 4 (lL adr b i)) (hi : i + 6 ≤ L) (kk : ∀ H2 Hp2 locs2, okZ H2 → Inv H2 (n + 1) → lH s adr cA D H2 Hp2 locs2 → lW p l e s m b below meth c Q Hp2 locs2 (F0 m 1989 ls [])) : lW p l e s m b below meth c Q Hp locs (F0 m 1714 ls []) := by
  have hx := K.1
  have hb := K.2.1
  obtain ⟨P1, c1, k1⟩ := b_filled ok I hn (zN_rng (xs (i + 1))).1 (zN_rng (xs (i + 1))).2 (zN_rng (xs (i + 2))).1 (zN_rng (xs (i + 2))).2
  refine lv_aload_n hx hb dL_law_1714 rfl (lv_at hl 1 rfl) ?_
  refine la_arg K lh hl hi 1 (by decide) rfl dL_law_1715 dL_law_1716 dL_law_1717 dL_law_1718 dL_law_1719 ?_
  refine la_arg K lh hl hi 2 (by decide) rfl dL_law_1720 dL_law_1721 dL_law_1722 dL_law_1723 dL_law_1724 ?_
  refine la_ci K lh hl [.int (zN (xs (i + 1)).toInt), .int (zN (xs (i + 2)).toInt)] [] _ dL_law_1725 ml_L_184 ok_X10_filled rfl sh_20 rfl (Or.inl rfl) rfl (Nat.le_of_ble_eq_true rfl) c1 (fun r H1 Hp1 locs1 ok1 p1 lh1 => ?_)
  obtain ⟨P2, c2, k2⟩ := k1 r H1 ok1 p1
  refine lv_aload_n hx hb dL_law_1728 rfl (lv_at hl 2 rfl) ?_
  refine la_arg K lh1 hl hi 1 (by decide) rfl dL_law_1729 dL_law_1730 dL_law_1731 dL_law_1732 dL_law_1733 ?_
  refine la_arg K lh1 hl hi 2 (by decide) rfl dL_law_1734 dL_law_1735 dL_law_1736 dL_law_1737 dL_law_1738 ?_
  refine la_ci K lh1 hl [.int (zN (xs (i + 1)).toInt), .int (zN (xs (i + 2)).toInt)] [.int (zN r)] _ dL_law_1739 ml_L_187 ok_X11_filled rfl sh_0 rfl (Or.inl rfl) rfl (Nat.le_of_ble_eq_true rfl) c2 (fun r' H2 Hp2 locs2 ok2 p2 lh2 => ?_)
  obtain ⟨e', I2⟩ := k2 r' H2 ok2 p2
  subst e'
  exact lv_icmp_eq (tgt := 1989) hx hb dL_law_1742 (by decide) (fun _ => kk H2 Hp2 locs2 ok2 I2 lh2) (fun z => absurd rfl z)

theorem la_c41 {p : Program} {l : Launch} {e : Env} {s : State} {m : MethodId} {below : List Frame} {meth : Method} {c : Code} {Q : State → Prop} {adr : Nat → Nat} {cA : Nat → ClassId} {D : va_G} {b L i n : Nat} {xs : Nat → Int32} (K : lK p l s m c adr cA D b L xs) {H : ZH} {Hp : Heap} {locs : List Loc} (lh : lH s adr cA D H Hp locs) (ok : okZ H) (I : Inv H n) (hn : n ≤ 511) {ls : Array Slot} (hl : lv_has ls 4 (lL adr b i)) (hi : i + 6 ≤ L) (kk : ∀ H2 Hp2 locs2, okZ H2 → Inv H2 (n + 1) → lH s adr cA D H2 Hp2 locs2 → lW p l e s m b below meth c Q Hp2 locs2 (F0 m 1989 ls [])) : lW p l e s m b below meth c Q Hp locs (F0 m 1747 ls []) := by
  have hx := K.1
  have hb := K.2.1
  obtain ⟨P1, c1, k1⟩ := b_slip ok I hn (zN_rng (xs (i + 1))).1 (zN_rng (xs (i + 1))).2 (zN_rng (xs (i + 2))).1 (zN_rng (xs (i + 2))).2
  refine lv_aload_n hx hb dL_law_1747 rfl (lv_at hl 1 rfl) ?_
  refine la_arg K lh hl hi 1 (by decide) rfl dL_law_1748 dL_law_1749 dL_law_1750 dL_law_1751 dL_law_1752 ?_
  refine la_arg K lh hl hi 2 (by decide) rfl dL_law_1753 dL_law_1754 dL_law_1755 dL_law_1756 dL_law_1757 ?_
  refine la_ci K lh hl [.int (zN (xs (i + 1)).toInt), .int (zN (xs (i + 2)).toInt)] [] _ dL_law_1758 ml_L_188 ok_X10_slip rfl sh_20 rfl (Or.inl rfl) rfl (Nat.le_of_ble_eq_true rfl) c1 (fun r H1 Hp1 locs1 ok1 p1 lh1 => ?_)
  obtain ⟨P2, c2, k2⟩ := k1 r H1 ok1 p1
  refine lv_aload_n hx hb dL_law_1761 rfl (lv_at hl 2 rfl) ?_
  refine la_arg K lh1 hl hi 1 (by decide) rfl dL_law_1762 dL_law_1763 dL_law_1764 dL_law_1765 dL_law_1766 ?_
  refine la_arg K lh1 hl hi 2 (by decide) rfl dL_law_1767 dL_law_1768 dL_law_1769 dL_law_1770 dL_law_1771 ?_
  refine la_ci K lh1 hl [.int (zN (xs (i + 1)).toInt), .int (zN (xs (i + 2)).toInt)] [.int (zN r)] _ dL_law_1772 ml_L_191 ok_X11_slip rfl sh_0 rfl (Or.inl rfl) rfl (Nat.le_of_ble_eq_true rfl) c2 (fun r' H2 Hp2 locs2 ok2 p2 lh2 => ?_)
  obtain ⟨e', I2⟩ := k2 r' H2 ok2 p2
  subst e'
  exact lv_icmp_eq (tgt := 1989) hx hb dL_law_1775 (by decide) (fun _ => kk H2 Hp2 locs2 ok2 I2 lh2) (fun z => absurd rfl z)

theorem la_c42 {p : Program} {l : Launch} {e : Env} {s : State} {m : MethodId} {below : List Frame} {meth : Method} {c : Code} {Q : State → Prop} {adr : Nat → Nat} {cA : Nat → ClassId} {D : va_G} {b L i n : Nat} {xs : Nat → Int32} (K : lK p l s m c adr cA D b L xs) {H : ZH} {Hp : Heap} {locs : List Loc} (lh : lH s adr cA D H Hp locs) (ok : okZ H) (I : Inv H n) (hn : n ≤ 511) {ls : Array Slot} (hl : lv_has ls 4 (lL adr b i)) (hi : i + 6 ≤ L) (kk : ∀ H2 Hp2 locs2, okZ H2 → Inv H2 (n + 1) → lH s adr cA D H2 Hp2 locs2 → lW p l e s m b below meth c Q Hp2 locs2 (F0 m 1989 ls [])) : lW p l e s m b below meth c Q Hp locs (F0 m 1780 ls []) := by
  have hx := K.1
  have hb := K.2.1
  obtain ⟨P1, c1, k1⟩ := b_numbers ok I hn (zN_rng (xs (i + 1))).1 (zN_rng (xs (i + 1))).2 (zN_rng (xs (i + 2))).1 (zN_rng (xs (i + 2))).2 (zN_rng (xs (i + 3))).1 (zN_rng (xs (i + 3))).2
  refine lv_aload_n hx hb dL_law_1780 rfl (lv_at hl 1 rfl) ?_
  refine la_arg K lh hl hi 1 (by decide) rfl dL_law_1781 dL_law_1782 dL_law_1783 dL_law_1784 dL_law_1785 ?_
  refine la_arg K lh hl hi 2 (by decide) rfl dL_law_1786 dL_law_1787 dL_law_1788 dL_law_1789 dL_law_1790 ?_
  refine la_arg K lh hl hi 3 (by decide) rfl dL_law_1791 dL_law_1792 dL_law_1793 dL_law_1794 dL_law_1795 ?_
  refine la_ci K lh hl [.int (zN (xs (i + 1)).toInt), .int (zN (xs (i + 2)).toInt), .int (zN (xs (i + 3)).toInt)] [] _ dL_law_1796 ml_L_192 ok_X10_numbers rfl sh_20 rfl (Or.inl rfl) rfl (Nat.le_of_ble_eq_true rfl) c1 (fun r H1 Hp1 locs1 ok1 p1 lh1 => ?_)
  obtain ⟨P2, c2, k2⟩ := k1 r H1 ok1 p1
  refine lv_aload_n hx hb dL_law_1799 rfl (lv_at hl 2 rfl) ?_
  refine la_arg K lh1 hl hi 1 (by decide) rfl dL_law_1800 dL_law_1801 dL_law_1802 dL_law_1803 dL_law_1804 ?_
  refine la_arg K lh1 hl hi 2 (by decide) rfl dL_law_1805 dL_law_1806 dL_law_1807 dL_law_1808 dL_law_1809 ?_
  refine la_arg K lh1 hl hi 3 (by decide) rfl dL_law_1810 dL_law_1811 dL_law_1812 dL_law_1813 dL_law_1814 ?_
  refine la_ci K lh1 hl [.int (zN (xs (i + 1)).toInt), .int (zN (xs (i + 2)).toInt), .int (zN (xs (i + 3)).toInt)] [.int (zN r)] _ dL_law_1815 ml_L_195 ok_X11_numbers rfl sh_0 rfl (Or.inl rfl) rfl (Nat.le_of_ble_eq_true rfl) c2 (fun r' H2 Hp2 locs2 ok2 p2 lh2 => ?_)
  obtain ⟨e', I2⟩ := k2 r' H2 ok2 p2
  subst e'
  exact lv_icmp_eq (tgt := 1989) hx hb dL_law_1818 (by decide) (fun _ => kk H2 Hp2 locs2 ok2 I2 lh2) (fun z => absurd rfl z)

theorem la_c43 {p : Program} {l : Launch} {e : Env} {s : State} {m : MethodId} {below : List Frame} {meth : Method} {c : Code} {Q : State → Prop} {adr : Nat → Nat} {cA : Nat → ClassId} {D : va_G} {b L i n : Nat} {xs : Nat → Int32} (K : lK p l s m c adr cA D b L xs) {H : ZH} {Hp : Heap} {locs : List Loc} (lh : lH s adr cA D H Hp locs) (ok : okZ H) (I : Inv H n) (hn : n ≤ 511) {ls : Array Slot} (hl : lv_has ls 4 (lL adr b i)) (hi : i + 6 ≤ L) (kk : ∀ H2 Hp2 locs2, okZ H2 → Inv H2 (n + 1) → lH s adr cA D H2 Hp2 locs2 → lW p l e s m b below meth c Q Hp2 locs2 (F0 m 1989 ls [])) : lW p l e s m b below meth c Q Hp locs (F0 m 1823 ls []) := by
  have hx := K.1
  have hb := K.2.1
  obtain ⟨P1, c1, k1⟩ := b_write ok I hn (zN_rng (xs (i + 1))).1 (zN_rng (xs (i + 1))).2 (zN_rng (xs (i + 2))).1 (zN_rng (xs (i + 2))).2 (zL_rng (lwv (xs (i + 3)) (xs (i + 4)))).1 (zL_rng (lwv (xs (i + 3)) (xs (i + 4)))).2
  refine lv_aload_n hx hb dL_law_1823 rfl (lv_at hl 1 rfl) ?_
  refine la_arg K lh hl hi 1 (by decide) rfl dL_law_1824 dL_law_1825 dL_law_1826 dL_law_1827 dL_law_1828 ?_
  refine la_arg K lh hl hi 2 (by decide) rfl dL_law_1829 dL_law_1830 dL_law_1831 dL_law_1832 dL_law_1833 ?_
  refine la_arg K lh hl hi 3 (by decide) rfl dL_law_1834 dL_law_1835 dL_law_1836 dL_law_1837 dL_law_1838 ?_
  refine lv_i2l hx hb dL_law_1839 rfl ?_
  refine lv_bipush (v := 32) hx hb dL_law_1840 (by decide) ?_
  refine lv_lshl hx hb dL_law_1842 rfl ?_
  refine la_arg K lh hl hi 4 (by decide) rfl dL_law_1843 dL_law_1844 dL_law_1845 dL_law_1846 dL_law_1847 ?_
  refine lv_i2l hx hb dL_law_1848 rfl ?_
  refine lv_ldc2 hx hb K.2.2.2.1 (K.2.2.2.2.1 _ cl_L_196) dL_law_1849 ?_
  refine lv_land hx hb dL_law_1852 ?_
  refine lv_lor hx hb dL_law_1853 ?_
  refine W.eq (g2 := F0 m 1854 ls (.long (zL (lwv (xs (i + 3)) (xs (i + 4))).toInt) :: .int (zN (xs (i + 2)).toInt) :: .int (zN (xs (i + 1)).toInt) :: .ref (adr 20) :: [])) (by rw [zL_of]; rfl) ?_
  refine la_cl K lh hl [.int (zN (xs (i + 1)).toInt), .int (zN (xs (i + 2)).toInt), .long (zL (lwv (xs (i + 3)) (xs (i + 4))).toInt)] [] _ dL_law_1854 ml_L_198 ok_X10_write rfl sh_20 rfl rfl rfl (Nat.le_of_ble_eq_true rfl) c1 (fun r H1 Hp1 locs1 ok1 p1 lh1 => ?_)
  obtain ⟨P2, c2, k2⟩ := k1 r H1 ok1 p1
  refine lv_aload_n hx hb dL_law_1857 rfl (lv_at hl 2 rfl) ?_
  refine la_arg K lh1 hl hi 1 (by decide) rfl dL_law_1858 dL_law_1859 dL_law_1860 dL_law_1861 dL_law_1862 ?_
  refine la_arg K lh1 hl hi 2 (by decide) rfl dL_law_1863 dL_law_1864 dL_law_1865 dL_law_1866 dL_law_1867 ?_
  refine la_arg K lh1 hl hi 3 (by decide) rfl dL_law_1868 dL_law_1869 dL_law_1870 dL_law_1871 dL_law_1872 ?_
  refine lv_i2l hx hb dL_law_1873 rfl ?_
  refine lv_bipush (v := 32) hx hb dL_law_1874 (by decide) ?_
  refine lv_lshl hx hb dL_law_1876 rfl ?_
  refine la_arg K lh1 hl hi 4 (by decide) rfl dL_law_1877 dL_law_1878 dL_law_1879 dL_law_1880 dL_law_1881 ?_
  refine lv_i2l hx hb dL_law_1882 rfl ?_
  refine lv_ldc2 hx hb K.2.2.2.1 (K.2.2.2.2.1 _ cl_L_196) dL_law_1883 ?_
  refine lv_land hx hb dL_law_1886 ?_
  refine lv_lor hx hb dL_law_1887 ?_
  refine W.eq (g2 := F0 m 1888 ls (.long (zL (lwv (xs (i + 3)) (xs (i + 4))).toInt) :: .int (zN (xs (i + 2)).toInt) :: .int (zN (xs (i + 1)).toInt) :: .ref (adr 0) :: [.long (zL r)])) (by rw [zL_of]; rfl) ?_
  refine la_cl K lh1 hl [.int (zN (xs (i + 1)).toInt), .int (zN (xs (i + 2)).toInt), .long (zL (lwv (xs (i + 3)) (xs (i + 4))).toInt)] [.long (zL r)] _ dL_law_1888 ml_L_202 ok_X11_write rfl sh_0 rfl rfl rfl (Nat.le_of_ble_eq_true rfl) c2 (fun r' H2 Hp2 locs2 ok2 p2 lh2 => ?_)
  obtain ⟨e', I2⟩ := k2 r' H2 ok2 p2
  subst e'
  refine W.lcmp hx hb dL_law_1891 ?_
  exact lv_if_eq (tgt := 1989) hx hb dL_law_1892 (by decide) (fun _ => kk H2 Hp2 locs2 ok2 I2 lh2) (fun z => absurd (lg_cmp_0 _) z)

theorem la_c44 {p : Program} {l : Launch} {e : Env} {s : State} {m : MethodId} {below : List Frame} {meth : Method} {c : Code} {Q : State → Prop} {adr : Nat → Nat} {cA : Nat → ClassId} {D : va_G} {b L i n : Nat} {xs : Nat → Int32} (K : lK p l s m c adr cA D b L xs) {H : ZH} {Hp : Heap} {locs : List Loc} (lh : lH s adr cA D H Hp locs) (ok : okZ H) (I : Inv H n) (hn : n ≤ 511) {ls : Array Slot} (hl : lv_has ls 4 (lL adr b i)) (hi : i + 6 ≤ L) (kk : ∀ H2 Hp2 locs2, okZ H2 → Inv H2 (n + 1) → lH s adr cA D H2 Hp2 locs2 → lW p l e s m b below meth c Q Hp2 locs2 (F0 m 1989 ls [])) : lW p l e s m b below meth c Q Hp locs (F0 m 1897 ls []) := by
  have hx := K.1
  have hb := K.2.1
  obtain ⟨P1, c1, k1⟩ := b_image ok I hn (zN_rng (xs (i + 1))).1 (zN_rng (xs (i + 1))).2
  refine lv_aload_n hx hb dL_law_1897 rfl (lv_at hl 1 rfl) ?_
  refine la_arg K lh hl hi 1 (by decide) rfl dL_law_1898 dL_law_1899 dL_law_1900 dL_law_1901 dL_law_1902 ?_
  refine la_ci K lh hl [.int (zN (xs (i + 1)).toInt)] [] _ dL_law_1903 ml_L_203 ok_X10_image rfl sh_20 rfl (Or.inl rfl) rfl (Nat.le_of_ble_eq_true rfl) c1 (fun r H1 Hp1 locs1 ok1 p1 lh1 => ?_)
  obtain ⟨P2, c2, k2⟩ := k1 r H1 ok1 p1
  refine lv_aload_n hx hb dL_law_1906 rfl (lv_at hl 2 rfl) ?_
  refine la_arg K lh1 hl hi 1 (by decide) rfl dL_law_1907 dL_law_1908 dL_law_1909 dL_law_1910 dL_law_1911 ?_
  refine la_ci K lh1 hl [.int (zN (xs (i + 1)).toInt)] [.int (zN r)] _ dL_law_1912 ml_L_206 ok_X11_image rfl sh_0 rfl (Or.inl rfl) rfl (Nat.le_of_ble_eq_true rfl) c2 (fun r' H2 Hp2 locs2 ok2 p2 lh2 => ?_)
  obtain ⟨e', I2⟩ := k2 r' H2 ok2 p2
  subst e'
  exact lv_icmp_eq (tgt := 1989) hx hb dL_law_1915 (by decide) (fun _ => kk H2 Hp2 locs2 ok2 I2 lh2) (fun z => absurd rfl z)

theorem la_c45 {p : Program} {l : Launch} {e : Env} {s : State} {m : MethodId} {below : List Frame} {meth : Method} {c : Code} {Q : State → Prop} {adr : Nat → Nat} {cA : Nat → ClassId} {D : va_G} {b L i n : Nat} {xs : Nat → Int32} (K : lK p l s m c adr cA D b L xs) {H : ZH} {Hp : Heap} {locs : List Loc} (lh : lH s adr cA D H Hp locs) (ok : okZ H) (I : Inv H n) (hn : n ≤ 511) {ls : Array Slot} (hl : lv_has ls 4 (lL adr b i)) (hi : i + 6 ≤ L) (kk : ∀ H2 Hp2 locs2, okZ H2 → Inv H2 (n + 1) → lH s adr cA D H2 Hp2 locs2 → lW p l e s m b below meth c Q Hp2 locs2 (F0 m 1989 ls [])) : lW p l e s m b below meth c Q Hp locs (F0 m 1920 ls []) := by
  have hx := K.1
  have hb := K.2.1
  obtain ⟨P1, c1, k1⟩ := b_restore ok I hn (zN_rng (xs (i + 1))).1 (zN_rng (xs (i + 1))).2
  refine lv_aload_n hx hb dL_law_1920 rfl (lv_at hl 1 rfl) ?_
  refine la_arg K lh hl hi 1 (by decide) rfl dL_law_1921 dL_law_1922 dL_law_1923 dL_law_1924 dL_law_1925 ?_
  refine la_ci K lh hl [.int (zN (xs (i + 1)).toInt)] [] _ dL_law_1926 ml_L_207 ok_X10_restore rfl sh_20 rfl (Or.inl rfl) rfl (Nat.le_of_ble_eq_true rfl) c1 (fun r H1 Hp1 locs1 ok1 p1 lh1 => ?_)
  obtain ⟨P2, c2, k2⟩ := k1 r H1 ok1 p1
  refine lv_aload_n hx hb dL_law_1929 rfl (lv_at hl 2 rfl) ?_
  refine la_arg K lh1 hl hi 1 (by decide) rfl dL_law_1930 dL_law_1931 dL_law_1932 dL_law_1933 dL_law_1934 ?_
  refine la_ci K lh1 hl [.int (zN (xs (i + 1)).toInt)] [.int (zN r)] _ dL_law_1935 ml_L_210 ok_X11_restore rfl sh_0 rfl (Or.inl rfl) rfl (Nat.le_of_ble_eq_true rfl) c2 (fun r' H2 Hp2 locs2 ok2 p2 lh2 => ?_)
  obtain ⟨e', I2⟩ := k2 r' H2 ok2 p2
  subst e'
  exact lv_icmp_eq (tgt := 1989) hx hb dL_law_1938 (by decide) (fun _ => kk H2 Hp2 locs2 ok2 I2 lh2) (fun z => absurd rfl z)

theorem la_c46 {p : Program} {l : Launch} {e : Env} {s : State} {m : MethodId} {below : List Frame} {meth : Method} {c : Code} {Q : State → Prop} {adr : Nat → Nat} {cA : Nat → ClassId} {D : va_G} {b L i n : Nat} {xs : Nat → Int32} (K : lK p l s m c adr cA D b L xs) {H : ZH} {Hp : Heap} {locs : List Loc} (lh : lH s adr cA D H Hp locs) (ok : okZ H) (I : Inv H n) (hn : n ≤ 511) {ls : Array Slot} (hl : lv_has ls 4 (lL adr b i)) (hi : i + 6 ≤ L) (kk : ∀ H2 Hp2 locs2, okZ H2 → Inv H2 (n + 1) → lH s adr cA D H2 Hp2 locs2 → lW p l e s m b below meth c Q Hp2 locs2 (F0 m 1989 ls [])) : lW p l e s m b below meth c Q Hp locs (F0 m 1943 ls []) := by
  have hx := K.1
  have hb := K.2.1
  obtain ⟨P1, c1, k1⟩ := b_status ok I hn (zN_rng (xs (i + 1))).1 (zN_rng (xs (i + 1))).2
  refine lv_aload_n hx hb dL_law_1943 rfl (lv_at hl 1 rfl) ?_
  refine la_arg K lh hl hi 1 (by decide) rfl dL_law_1944 dL_law_1945 dL_law_1946 dL_law_1947 dL_law_1948 ?_
  refine la_ci K lh hl [.int (zN (xs (i + 1)).toInt)] [] _ dL_law_1949 ml_L_211 ok_X10_status rfl sh_20 rfl (Or.inl rfl) rfl (Nat.le_of_ble_eq_true rfl) c1 (fun r H1 Hp1 locs1 ok1 p1 lh1 => ?_)
  obtain ⟨P2, c2, k2⟩ := k1 r H1 ok1 p1
  refine lv_aload_n hx hb dL_law_1952 rfl (lv_at hl 2 rfl) ?_
  refine la_arg K lh1 hl hi 1 (by decide) rfl dL_law_1953 dL_law_1954 dL_law_1955 dL_law_1956 dL_law_1957 ?_
  refine la_ci K lh1 hl [.int (zN (xs (i + 1)).toInt)] [.int (zN r)] _ dL_law_1958 ml_L_214 ok_X11_status rfl sh_0 rfl (Or.inl rfl) rfl (Nat.le_of_ble_eq_true rfl) c2 (fun r' H2 Hp2 locs2 ok2 p2 lh2 => ?_)
  obtain ⟨e', I2⟩ := k2 r' H2 ok2 p2
  subst e'
  exact lv_icmp_eq (tgt := 1989) hx hb dL_law_1961 (by decide) (fun _ => kk H2 Hp2 locs2 ok2 I2 lh2) (fun z => absurd rfl z)

theorem la_c47 {p : Program} {l : Launch} {e : Env} {s : State} {m : MethodId} {below : List Frame} {meth : Method} {c : Code} {Q : State → Prop} {adr : Nat → Nat} {cA : Nat → ClassId} {D : va_G} {b L i n : Nat} {xs : Nat → Int32} (K : lK p l s m c adr cA D b L xs) {H : ZH} {Hp : Heap} {locs : List Loc} (lh : lH s adr cA D H Hp locs) (ok : okZ H) (I : Inv H n) (hn : n ≤ 511) {ls : Array Slot} (hl : lv_has ls 4 (lL adr b i)) (hi : i + 6 ≤ L) (kk : ∀ H2 Hp2 locs2, okZ H2 → Inv H2 (n + 1) → lH s adr cA D H2 Hp2 locs2 → lW p l e s m b below meth c Q Hp2 locs2 (F0 m 1989 ls [])) : lW p l e s m b below meth c Q Hp locs (F0 m 1966 ls []) := by
  have hx := K.1
  have hb := K.2.1
  obtain ⟨P1, c1, k1⟩ := b_count ok I hn (zN_rng (xs (i + 1))).1 (zN_rng (xs (i + 1))).2
  refine lv_aload_n hx hb dL_law_1966 rfl (lv_at hl 1 rfl) ?_
  refine la_arg K lh hl hi 1 (by decide) rfl dL_law_1967 dL_law_1968 dL_law_1969 dL_law_1970 dL_law_1971 ?_
  refine la_ci K lh hl [.int (zN (xs (i + 1)).toInt)] [] _ dL_law_1972 ml_L_215 ok_X10_count rfl sh_20 rfl (Or.inl rfl) rfl (Nat.le_of_ble_eq_true rfl) c1 (fun r H1 Hp1 locs1 ok1 p1 lh1 => ?_)
  obtain ⟨P2, c2, k2⟩ := k1 r H1 ok1 p1
  refine lv_aload_n hx hb dL_law_1975 rfl (lv_at hl 2 rfl) ?_
  refine la_arg K lh1 hl hi 1 (by decide) rfl dL_law_1976 dL_law_1977 dL_law_1978 dL_law_1979 dL_law_1980 ?_
  refine la_ci K lh1 hl [.int (zN (xs (i + 1)).toInt)] [.int (zN r)] _ dL_law_1981 ml_L_218 ok_X11_count rfl sh_0 rfl (Or.inl rfl) rfl (Nat.le_of_ble_eq_true rfl) c2 (fun r' H2 Hp2 locs2 ok2 p2 lh2 => ?_)
  obtain ⟨e', I2⟩ := k2 r' H2 ok2 p2
  subst e'
  exact lv_icmp_eq (tgt := 1989) hx hb dL_law_1984 (by decide) (fun _ => kk H2 Hp2 locs2 ok2 I2 lh2) (fun z => absurd rfl z)
