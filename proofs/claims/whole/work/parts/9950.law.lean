/-! the law: its loop -/
abbrev BL (nm : String) (L : Nat) (xs : Nat → Int32) (w0 : Wd) (Post : Option Value → Wd → Prop) (w : Wd) (pc : Nat) (ls : List (Nat × Value)) (st : List Value) : Prop := GP nm RL cL_law 4 (some .boolean) 10 398 (some (L, xs)) w0 Post w pc ls st
/-- least agrees (proved apart) -/
def AGL : Prop := ∀ (n : Nat) (w : Wd) (X Y : Nat), Inv n w X Y → ∀ x : Int32, EX11_least [.ref X, .int x] w (fun r w1 => ∃ v : Int32, r = some (.int v) ∧ (∃ fs, w1[Y]? = some (.inr (11, fs))) ∧ EX12_least [.ref Y, .int x] w1 (fun r' w2 => r' = some (.int v) ∧ Inv (n + 1) w2 X Y))
theorem Inv.x {n : Nat} {w : Wd} {X Y : Nat} (h : Inv n w X Y) : ∃ fs, w[X]? = some (.inr (10, fs)) := by
  obtain ⟨-, -, -, tl, tb, fa, st, rf, sh, pn, pk, ps, im, ⟨⟨s, hX, -⟩, -⟩, -⟩ := h
  exact ⟨_, hX⟩
theorem law_feed {nm : String} {w0 w : Wd} {Q : Option Value → Wd → Prop} {L n X Y : Nat} {xs : Nat → Int32} (hL : L ≤ 3072) (hi : 6 * n + 6 ≤ L) (h : Inv n w X Y) (K : ∀ w2, Inv (n + 1) w2 X Y → BL nm L xs w0 Q w2 1251 [(3, .int (nI (6 * n))), (2, .ref Y), (1, .ref X), (0, .float 0)] []) : BL nm L xs w0 Q w 180 [(3, .int (nI (6 * n))), (2, .ref Y), (1, .ref X), (0, .float 0)] [] := by
  obtain ⟨fsX, hX⟩ := h.x
  refine g_aload_n (pc := 180) 2 dL_law_180 rfl rfl ?_
  refine g_sload_n (pc := 181) 3 dL_law_181 rfl rfl ?_
  refine g_iload_n (pc := 182) 0 dL_law_182 rfl rfl ?_
  refine g_iconst (pc := 183) (v := nI 1) dL_law_183 (by decide) ?_
  refine n_iadd (pc := 184) dL_law_184 ?_
  refine g_sld (pc := 185) ((6 * n) + 1) rfl dL_law_185 (IXn (by omega) (by omega)) ?_
  refine g_sload_n (pc := 186) 3 dL_law_186 rfl rfl ?_
  refine g_iload_n (pc := 187) 0 dL_law_187 rfl rfl ?_
  refine g_iconst (pc := 188) (v := nI 2) dL_law_188 (by decide) ?_
  refine n_iadd (pc := 189) dL_law_189 ?_
  refine g_sld (pc := 190) ((6 * n) + 2) rfl dL_law_190 (IXn (by omega) (by omega)) ?_
  refine g_sload_n (pc := 191) 3 dL_law_191 rfl rfl ?_
  refine g_iload_n (pc := 192) 0 dL_law_192 rfl rfl ?_
  refine g_iconst (pc := 193) (v := nI 3) dL_law_193 (by decide) ?_
  refine n_iadd (pc := 194) dL_law_194 ?_
  refine g_sld (pc := 195) ((6 * n) + 3) rfl dL_law_195 (IXn (by omega) (by omega)) ?_
  refine g_sload_n (pc := 196) 3 dL_law_196 rfl rfl ?_
  refine g_iload_n (pc := 197) 0 dL_law_197 rfl rfl ?_
  refine g_iconst (pc := 198) (v := nI 4) dL_law_198 (by decide) ?_
  refine n_iadd (pc := 199) dL_law_199 ?_
  refine g_sld (pc := 200) ((6 * n) + 4) rfl dL_law_200 (IXn (by omega) (by omega)) ?_
  refine g_sload_n (pc := 201) 3 dL_law_201 rfl rfl ?_
  refine g_iload_n (pc := 202) 0 dL_law_202 rfl rfl ?_
  refine g_iconst (pc := 203) (v := nI 5) dL_law_203 (by decide) ?_
  refine n_iadd (pc := 204) dL_law_204 ?_
  refine g_sld (pc := 205) ((6 * n) + 5) rfl dL_law_205 (IXn (by omega) (by omega)) ?_
  refine g_callV (pc := 206) [.int (xs ((6 * n) + 1)), .int (xs ((6 * n) + 2)), .int (xs ((6 * n) + 3)), .int (xs ((6 * n) + 4)), .int (xs ((6 * n) + 5))] dL_law_206 cv_L_13.1 cv_L_13.2.1 cv_L_13.2.2.1 cv_L_13.2.2.2 hX rfl rfl (Nat.le_of_ble_eq_true rfl) (by decide) (by decide) (ag_feed h) ?_
  rintro _ w1 ⟨v, rfl, ⟨fsY, hY⟩, hE2⟩
  refine g_aload_n (pc := 209) 1 dL_law_209 rfl rfl ?_
  refine g_sload_n (pc := 210) 3 dL_law_210 rfl rfl ?_
  refine g_iload_n (pc := 211) 0 dL_law_211 rfl rfl ?_
  refine g_iconst (pc := 212) (v := nI 1) dL_law_212 (by decide) ?_
  refine n_iadd (pc := 213) dL_law_213 ?_
  refine g_sld (pc := 214) ((6 * n) + 1) rfl dL_law_214 (IXn (by omega) (by omega)) ?_
  refine g_sload_n (pc := 215) 3 dL_law_215 rfl rfl ?_
  refine g_iload_n (pc := 216) 0 dL_law_216 rfl rfl ?_
  refine g_iconst (pc := 217) (v := nI 2) dL_law_217 (by decide) ?_
  refine n_iadd (pc := 218) dL_law_218 ?_
  refine g_sld (pc := 219) ((6 * n) + 2) rfl dL_law_219 (IXn (by omega) (by omega)) ?_
  refine g_sload_n (pc := 220) 3 dL_law_220 rfl rfl ?_
  refine g_iload_n (pc := 221) 0 dL_law_221 rfl rfl ?_
  refine g_iconst (pc := 222) (v := nI 3) dL_law_222 (by decide) ?_
  refine n_iadd (pc := 223) dL_law_223 ?_
  refine g_sld (pc := 224) ((6 * n) + 3) rfl dL_law_224 (IXn (by omega) (by omega)) ?_
  refine g_sload_n (pc := 225) 3 dL_law_225 rfl rfl ?_
  refine g_iload_n (pc := 226) 0 dL_law_226 rfl rfl ?_
  refine g_iconst (pc := 227) (v := nI 4) dL_law_227 (by decide) ?_
  refine n_iadd (pc := 228) dL_law_228 ?_
  refine g_sld (pc := 229) ((6 * n) + 4) rfl dL_law_229 (IXn (by omega) (by omega)) ?_
  refine g_sload_n (pc := 230) 3 dL_law_230 rfl rfl ?_
  refine g_iload_n (pc := 231) 0 dL_law_231 rfl rfl ?_
  refine g_iconst (pc := 232) (v := nI 5) dL_law_232 (by decide) ?_
  refine n_iadd (pc := 233) dL_law_233 ?_
  refine g_sld (pc := 234) ((6 * n) + 5) rfl dL_law_234 (IXn (by omega) (by omega)) ?_
  refine g_callV (pc := 235) [.int (xs ((6 * n) + 1)), .int (xs ((6 * n) + 2)), .int (xs ((6 * n) + 3)), .int (xs ((6 * n) + 4)), .int (xs ((6 * n) + 5))] dL_law_235 cv_L_17.1 cv_L_17.2.1 cv_L_17.2.2.1 cv_L_17.2.2.2 hY rfl rfl (Nat.le_of_ble_eq_true rfl) (by decide) (by decide) hE2 ?_
  rintro _ w2 ⟨rfl, hI⟩
  refine g_icmp_eq (pc := 238) 1251 dL_law_238 (by decide) (fun hb9 => ?_) (fun hb9 => ?_)
  · exact K w2 hI
  · exact absurd rfl hb9
theorem law_end {nm : String} {w0 w : Wd} {Q : Option Value → Wd → Prop} {L n X Y : Nat} {xs : Nat → Int32} (hL : L ≤ 3072) (hi : 6 * n + 6 ≤ L) (h : Inv n w X Y) (K : ∀ w2, Inv (n + 1) w2 X Y → BL nm L xs w0 Q w2 1251 [(3, .int (nI (6 * n))), (2, .ref Y), (1, .ref X), (0, .float 0)] []) : BL nm L xs w0 Q w 243 [(3, .int (nI (6 * n))), (2, .ref Y), (1, .ref X), (0, .float 0)] [] := by
  obtain ⟨fsX, hX⟩ := h.x
  refine g_aload_n (pc := 243) 2 dL_law_243 rfl rfl ?_
  refine g_sload_n (pc := 244) 3 dL_law_244 rfl rfl ?_
  refine g_iload_n (pc := 245) 0 dL_law_245 rfl rfl ?_
  refine g_iconst (pc := 246) (v := nI 1) dL_law_246 (by decide) ?_
  refine n_iadd (pc := 247) dL_law_247 ?_
  refine g_sld (pc := 248) ((6 * n) + 1) rfl dL_law_248 (IXn (by omega) (by omega)) ?_
  refine g_callV (pc := 249) [.int (xs ((6 * n) + 1))] dL_law_249 cv_L_18.1 cv_L_18.2.1 cv_L_18.2.2.1 cv_L_18.2.2.2 hX rfl rfl (Nat.le_of_ble_eq_true rfl) (by decide) (by decide) (ag_end h) ?_
  rintro _ w1 ⟨v, rfl, ⟨fsY, hY⟩, hE2⟩
  refine g_aload_n (pc := 252) 1 dL_law_252 rfl rfl ?_
  refine g_sload_n (pc := 253) 3 dL_law_253 rfl rfl ?_
  refine g_iload_n (pc := 254) 0 dL_law_254 rfl rfl ?_
  refine g_iconst (pc := 255) (v := nI 1) dL_law_255 (by decide) ?_
  refine n_iadd (pc := 256) dL_law_256 ?_
  refine g_sld (pc := 257) ((6 * n) + 1) rfl dL_law_257 (IXn (by omega) (by omega)) ?_
  refine g_callV (pc := 258) [.int (xs ((6 * n) + 1))] dL_law_258 cv_L_22.1 cv_L_22.2.1 cv_L_22.2.2.1 cv_L_22.2.2.2 hY rfl rfl (Nat.le_of_ble_eq_true rfl) (by decide) (by decide) hE2 ?_
  rintro _ w2 ⟨rfl, hI⟩
  refine g_icmp_eq (pc := 261) 1251 dL_law_261 (by decide) (fun hb9 => ?_) (fun hb9 => ?_)
  · exact K w2 hI
  · exact absurd rfl hb9
theorem law_tape {nm : String} {w0 w : Wd} {Q : Option Value → Wd → Prop} {L n X Y : Nat} {xs : Nat → Int32} (hL : L ≤ 3072) (hi : 6 * n + 6 ≤ L) (h : Inv n w X Y) (K : ∀ w2, Inv (n + 1) w2 X Y → BL nm L xs w0 Q w2 1251 [(3, .int (nI (6 * n))), (2, .ref Y), (1, .ref X), (0, .float 0)] []) : BL nm L xs w0 Q w 266 [(3, .int (nI (6 * n))), (2, .ref Y), (1, .ref X), (0, .float 0)] [] := by
  obtain ⟨fsX, hX⟩ := h.x
  refine g_aload_n (pc := 266) 2 dL_law_266 rfl rfl ?_
  refine g_sload_n (pc := 267) 3 dL_law_267 rfl rfl ?_
  refine g_iload_n (pc := 268) 0 dL_law_268 rfl rfl ?_
  refine g_iconst (pc := 269) (v := nI 1) dL_law_269 (by decide) ?_
  refine n_iadd (pc := 270) dL_law_270 ?_
  refine g_sld (pc := 271) ((6 * n) + 1) rfl dL_law_271 (IXn (by omega) (by omega)) ?_
  refine g_callV (pc := 272) [.int (xs ((6 * n) + 1))] dL_law_272 cv_L_23.1 cv_L_23.2.1 cv_L_23.2.2.1 cv_L_23.2.2.2 hX rfl rfl (Nat.le_of_ble_eq_true rfl) (by decide) (by decide) (ag_tape h) ?_
  rintro _ w1 ⟨v, rfl, ⟨fsY, hY⟩, hE2⟩
  refine g_aload_n (pc := 275) 1 dL_law_275 rfl rfl ?_
  refine g_sload_n (pc := 276) 3 dL_law_276 rfl rfl ?_
  refine g_iload_n (pc := 277) 0 dL_law_277 rfl rfl ?_
  refine g_iconst (pc := 278) (v := nI 1) dL_law_278 (by decide) ?_
  refine n_iadd (pc := 279) dL_law_279 ?_
  refine g_sld (pc := 280) ((6 * n) + 1) rfl dL_law_280 (IXn (by omega) (by omega)) ?_
  refine g_callV (pc := 281) [.int (xs ((6 * n) + 1))] dL_law_281 cv_L_26.1 cv_L_26.2.1 cv_L_26.2.2.1 cv_L_26.2.2.2 hY rfl rfl (Nat.le_of_ble_eq_true rfl) (by decide) (by decide) hE2 ?_
  rintro _ w2 ⟨rfl, hI⟩
  refine g_icmp_eq (pc := 284) 1251 dL_law_284 (by decide) (fun hb9 => ?_) (fun hb9 => ?_)
  · exact K w2 hI
  · exact absurd rfl hb9
theorem law_read {nm : String} {w0 w : Wd} {Q : Option Value → Wd → Prop} {L n X Y : Nat} {xs : Nat → Int32} (hL : L ≤ 3072) (hi : 6 * n + 6 ≤ L) (h : Inv n w X Y) (K : ∀ w2, Inv (n + 1) w2 X Y → BL nm L xs w0 Q w2 1251 [(3, .int (nI (6 * n))), (2, .ref Y), (1, .ref X), (0, .float 0)] []) : BL nm L xs w0 Q w 289 [(3, .int (nI (6 * n))), (2, .ref Y), (1, .ref X), (0, .float 0)] [] := by
  obtain ⟨fsX, hX⟩ := h.x
  refine g_aload_n (pc := 289) 2 dL_law_289 rfl rfl ?_
  refine g_sload_n (pc := 290) 3 dL_law_290 rfl rfl ?_
  refine g_iload_n (pc := 291) 0 dL_law_291 rfl rfl ?_
  refine g_iconst (pc := 292) (v := nI 1) dL_law_292 (by decide) ?_
  refine n_iadd (pc := 293) dL_law_293 ?_
  refine g_sld (pc := 294) ((6 * n) + 1) rfl dL_law_294 (IXn (by omega) (by omega)) ?_
  refine g_callV (pc := 295) [.int (xs ((6 * n) + 1))] dL_law_295 cv_L_27.1 cv_L_27.2.1 cv_L_27.2.2.1 cv_L_27.2.2.2 hX rfl rfl (Nat.le_of_ble_eq_true rfl) (by decide) (by decide) (ag_read h) ?_
  rintro _ w1 ⟨v, rfl, ⟨fsY, hY⟩, hE2⟩
  refine g_aload_n (pc := 298) 1 dL_law_298 rfl rfl ?_
  refine g_sload_n (pc := 299) 3 dL_law_299 rfl rfl ?_
  refine g_iload_n (pc := 300) 0 dL_law_300 rfl rfl ?_
  refine g_iconst (pc := 301) (v := nI 1) dL_law_301 (by decide) ?_
  refine n_iadd (pc := 302) dL_law_302 ?_
  refine g_sld (pc := 303) ((6 * n) + 1) rfl dL_law_303 (IXn (by omega) (by omega)) ?_
  refine g_callV (pc := 304) [.int (xs ((6 * n) + 1))] dL_law_304 cv_L_30.1 cv_L_30.2.1 cv_L_30.2.2.1 cv_L_30.2.2.2 hY rfl rfl (Nat.le_of_ble_eq_true rfl) (by decide) (by decide) hE2 ?_
  rintro _ w2 ⟨rfl, hI⟩
  refine g_icmp_eq (pc := 307) 1251 dL_law_307 (by decide) (fun hb9 => ?_) (fun hb9 => ?_)
  · exact K w2 hI
  · exact absurd rfl hb9
theorem law_fault {nm : String} {w0 w : Wd} {Q : Option Value → Wd → Prop} {L n X Y : Nat} {xs : Nat → Int32} (hL : L ≤ 3072) (hi : 6 * n + 6 ≤ L) (h : Inv n w X Y) (K : ∀ w2, Inv (n + 1) w2 X Y → BL nm L xs w0 Q w2 1251 [(3, .int (nI (6 * n))), (2, .ref Y), (1, .ref X), (0, .float 0)] []) : BL nm L xs w0 Q w 312 [(3, .int (nI (6 * n))), (2, .ref Y), (1, .ref X), (0, .float 0)] [] := by
  obtain ⟨fsX, hX⟩ := h.x
  refine g_aload_n (pc := 312) 2 dL_law_312 rfl rfl ?_
  refine g_callV (pc := 313) [] dL_law_313 cv_L_31.1 cv_L_31.2.1 cv_L_31.2.2.1 cv_L_31.2.2.2 hX rfl rfl (Nat.le_of_ble_eq_true rfl) (by decide) (by decide) (ag_fault h) ?_
  rintro _ w1 ⟨v, rfl, ⟨fsY, hY⟩, hE2⟩
  refine g_aload_n (pc := 316) 1 dL_law_316 rfl rfl ?_
  refine g_callV (pc := 317) [] dL_law_317 cv_L_35.1 cv_L_35.2.1 cv_L_35.2.2.1 cv_L_35.2.2.2 hY rfl rfl (Nat.le_of_ble_eq_true rfl) (by decide) (by decide) hE2 ?_
  rintro _ w2 ⟨rfl, hI⟩
  refine g_icmp_eq (pc := 320) 1251 dL_law_320 (by decide) (fun hb9 => ?_) (fun hb9 => ?_)
  · exact K w2 hI
  · exact absurd rfl hb9
theorem law_listing {nm : String} {w0 w : Wd} {Q : Option Value → Wd → Prop} {L n X Y : Nat} {xs : Nat → Int32} (hL : L ≤ 3072) (hi : 6 * n + 6 ≤ L) (h : Inv n w X Y) (K : ∀ w2, Inv (n + 1) w2 X Y → BL nm L xs w0 Q w2 1251 [(3, .int (nI (6 * n))), (2, .ref Y), (1, .ref X), (0, .float 0)] []) : BL nm L xs w0 Q w 325 [(3, .int (nI (6 * n))), (2, .ref Y), (1, .ref X), (0, .float 0)] [] := by
  obtain ⟨fsX, hX⟩ := h.x
  refine g_aload_n (pc := 325) 2 dL_law_325 rfl rfl ?_
  refine g_sload_n (pc := 326) 3 dL_law_326 rfl rfl ?_
  refine g_iload_n (pc := 327) 0 dL_law_327 rfl rfl ?_
  refine g_iconst (pc := 328) (v := nI 1) dL_law_328 (by decide) ?_
  refine n_iadd (pc := 329) dL_law_329 ?_
  refine g_sld (pc := 330) ((6 * n) + 1) rfl dL_law_330 (IXn (by omega) (by omega)) ?_
  refine g_callV (pc := 331) [.int (xs ((6 * n) + 1))] dL_law_331 cv_L_36.1 cv_L_36.2.1 cv_L_36.2.2.1 cv_L_36.2.2.2 hX rfl rfl (Nat.le_of_ble_eq_true rfl) (by decide) (by decide) (ag_listing h) ?_
  rintro _ w1 ⟨v, rfl, ⟨fsY, hY⟩, hE2⟩
  refine g_aload_n (pc := 334) 1 dL_law_334 rfl rfl ?_
  refine g_sload_n (pc := 335) 3 dL_law_335 rfl rfl ?_
  refine g_iload_n (pc := 336) 0 dL_law_336 rfl rfl ?_
  refine g_iconst (pc := 337) (v := nI 1) dL_law_337 (by decide) ?_
  refine n_iadd (pc := 338) dL_law_338 ?_
  refine g_sld (pc := 339) ((6 * n) + 1) rfl dL_law_339 (IXn (by omega) (by omega)) ?_
  refine g_callV (pc := 340) [.int (xs ((6 * n) + 1))] dL_law_340 cv_L_39.1 cv_L_39.2.1 cv_L_39.2.2.1 cv_L_39.2.2.2 hY rfl rfl (Nat.le_of_ble_eq_true rfl) (by decide) (by decide) hE2 ?_
  rintro _ w2 ⟨rfl, hI⟩
  refine g_icmp_eq (pc := 343) 1251 dL_law_343 (by decide) (fun hb9 => ?_) (fun hb9 => ?_)
  · exact K w2 hI
  · exact absurd rfl hb9
theorem law_times {nm : String} {w0 w : Wd} {Q : Option Value → Wd → Prop} {L n X Y : Nat} {xs : Nat → Int32} (hL : L ≤ 3072) (hi : 6 * n + 6 ≤ L) (h : Inv n w X Y) (K : ∀ w2, Inv (n + 1) w2 X Y → BL nm L xs w0 Q w2 1251 [(3, .int (nI (6 * n))), (2, .ref Y), (1, .ref X), (0, .float 0)] []) : BL nm L xs w0 Q w 348 [(3, .int (nI (6 * n))), (2, .ref Y), (1, .ref X), (0, .float 0)] [] := by
  obtain ⟨fsX, hX⟩ := h.x
  refine g_aload_n (pc := 348) 2 dL_law_348 rfl rfl ?_
  refine g_sload_n (pc := 349) 3 dL_law_349 rfl rfl ?_
  refine g_iload_n (pc := 350) 0 dL_law_350 rfl rfl ?_
  refine g_iconst (pc := 351) (v := nI 1) dL_law_351 (by decide) ?_
  refine n_iadd (pc := 352) dL_law_352 ?_
  refine g_sld (pc := 353) ((6 * n) + 1) rfl dL_law_353 (IXn (by omega) (by omega)) ?_
  refine g_sload_n (pc := 354) 3 dL_law_354 rfl rfl ?_
  refine g_iload_n (pc := 355) 0 dL_law_355 rfl rfl ?_
  refine g_iconst (pc := 356) (v := nI 2) dL_law_356 (by decide) ?_
  refine n_iadd (pc := 357) dL_law_357 ?_
  refine g_sld (pc := 358) ((6 * n) + 2) rfl dL_law_358 (IXn (by omega) (by omega)) ?_
  refine g_sload_n (pc := 359) 3 dL_law_359 rfl rfl ?_
  refine g_iload_n (pc := 360) 0 dL_law_360 rfl rfl ?_
  refine g_iconst (pc := 361) (v := nI 3) dL_law_361 (by decide) ?_
  refine n_iadd (pc := 362) dL_law_362 ?_
  refine g_sld (pc := 363) ((6 * n) + 3) rfl dL_law_363 (IXn (by omega) (by omega)) ?_
  refine g_callV (pc := 364) [.int (xs ((6 * n) + 1)), .int (xs ((6 * n) + 2)), .int (xs ((6 * n) + 3))] dL_law_364 cv_L_40.1 cv_L_40.2.1 cv_L_40.2.2.1 cv_L_40.2.2.2 hX rfl rfl (Nat.le_of_ble_eq_true rfl) (by decide) (by decide) (ag_times h) ?_
  rintro _ w1 ⟨v, rfl, ⟨fsY, hY⟩, hE2⟩
  refine g_aload_n (pc := 367) 1 dL_law_367 rfl rfl ?_
  refine g_sload_n (pc := 368) 3 dL_law_368 rfl rfl ?_
  refine g_iload_n (pc := 369) 0 dL_law_369 rfl rfl ?_
  refine g_iconst (pc := 370) (v := nI 1) dL_law_370 (by decide) ?_
  refine n_iadd (pc := 371) dL_law_371 ?_
  refine g_sld (pc := 372) ((6 * n) + 1) rfl dL_law_372 (IXn (by omega) (by omega)) ?_
  refine g_sload_n (pc := 373) 3 dL_law_373 rfl rfl ?_
  refine g_iload_n (pc := 374) 0 dL_law_374 rfl rfl ?_
  refine g_iconst (pc := 375) (v := nI 2) dL_law_375 (by decide) ?_
  refine n_iadd (pc := 376) dL_law_376 ?_
  refine g_sld (pc := 377) ((6 * n) + 2) rfl dL_law_377 (IXn (by omega) (by omega)) ?_
  refine g_sload_n (pc := 378) 3 dL_law_378 rfl rfl ?_
  refine g_iload_n (pc := 379) 0 dL_law_379 rfl rfl ?_
  refine g_iconst (pc := 380) (v := nI 3) dL_law_380 (by decide) ?_
  refine n_iadd (pc := 381) dL_law_381 ?_
  refine g_sld (pc := 382) ((6 * n) + 3) rfl dL_law_382 (IXn (by omega) (by omega)) ?_
  refine g_callV (pc := 383) [.int (xs ((6 * n) + 1)), .int (xs ((6 * n) + 2)), .int (xs ((6 * n) + 3))] dL_law_383 cv_L_44.1 cv_L_44.2.1 cv_L_44.2.2.1 cv_L_44.2.2.2 hY rfl rfl (Nat.le_of_ble_eq_true rfl) (by decide) (by decide) hE2 ?_
  rintro _ w2 ⟨rfl, hI⟩
  refine g_icmp_eq (pc := 386) 1251 dL_law_386 (by decide) (fun hb9 => ?_) (fun hb9 => ?_)
  · exact K w2 hI
  · exact absurd rfl hb9
theorem law_by {nm : String} {w0 w : Wd} {Q : Option Value → Wd → Prop} {L n X Y : Nat} {xs : Nat → Int32} (hL : L ≤ 3072) (hi : 6 * n + 6 ≤ L) (h : Inv n w X Y) (K : ∀ w2, Inv (n + 1) w2 X Y → BL nm L xs w0 Q w2 1251 [(3, .int (nI (6 * n))), (2, .ref Y), (1, .ref X), (0, .float 0)] []) : BL nm L xs w0 Q w 391 [(3, .int (nI (6 * n))), (2, .ref Y), (1, .ref X), (0, .float 0)] [] := by
  obtain ⟨fsX, hX⟩ := h.x
  refine g_aload_n (pc := 391) 2 dL_law_391 rfl rfl ?_
  refine g_sload_n (pc := 392) 3 dL_law_392 rfl rfl ?_
  refine g_iload_n (pc := 393) 0 dL_law_393 rfl rfl ?_
  refine g_iconst (pc := 394) (v := nI 1) dL_law_394 (by decide) ?_
  refine n_iadd (pc := 395) dL_law_395 ?_
  refine g_sld (pc := 396) ((6 * n) + 1) rfl dL_law_396 (IXn (by omega) (by omega)) ?_
  refine g_sload_n (pc := 397) 3 dL_law_397 rfl rfl ?_
  refine g_iload_n (pc := 398) 0 dL_law_398 rfl rfl ?_
  refine g_iconst (pc := 399) (v := nI 2) dL_law_399 (by decide) ?_
  refine n_iadd (pc := 400) dL_law_400 ?_
  refine g_sld (pc := 401) ((6 * n) + 2) rfl dL_law_401 (IXn (by omega) (by omega)) ?_
  refine g_sload_n (pc := 402) 3 dL_law_402 rfl rfl ?_
  refine g_iload_n (pc := 403) 0 dL_law_403 rfl rfl ?_
  refine g_iconst (pc := 404) (v := nI 3) dL_law_404 (by decide) ?_
  refine n_iadd (pc := 405) dL_law_405 ?_
  refine g_sld (pc := 406) ((6 * n) + 3) rfl dL_law_406 (IXn (by omega) (by omega)) ?_
  refine g_callV (pc := 407) [.int (xs ((6 * n) + 1)), .int (xs ((6 * n) + 2)), .int (xs ((6 * n) + 3))] dL_law_407 cv_L_45.1 cv_L_45.2.1 cv_L_45.2.2.1 cv_L_45.2.2.2 hX rfl rfl (Nat.le_of_ble_eq_true rfl) (by decide) (by decide) (ag_by h) ?_
  rintro _ w1 ⟨v, rfl, ⟨fsY, hY⟩, hE2⟩
  refine g_aload_n (pc := 410) 1 dL_law_410 rfl rfl ?_
  refine g_sload_n (pc := 411) 3 dL_law_411 rfl rfl ?_
  refine g_iload_n (pc := 412) 0 dL_law_412 rfl rfl ?_
  refine g_iconst (pc := 413) (v := nI 1) dL_law_413 (by decide) ?_
  refine n_iadd (pc := 414) dL_law_414 ?_
  refine g_sld (pc := 415) ((6 * n) + 1) rfl dL_law_415 (IXn (by omega) (by omega)) ?_
  refine g_sload_n (pc := 416) 3 dL_law_416 rfl rfl ?_
  refine g_iload_n (pc := 417) 0 dL_law_417 rfl rfl ?_
  refine g_iconst (pc := 418) (v := nI 2) dL_law_418 (by decide) ?_
  refine n_iadd (pc := 419) dL_law_419 ?_
  refine g_sld (pc := 420) ((6 * n) + 2) rfl dL_law_420 (IXn (by omega) (by omega)) ?_
  refine g_sload_n (pc := 421) 3 dL_law_421 rfl rfl ?_
  refine g_iload_n (pc := 422) 0 dL_law_422 rfl rfl ?_
  refine g_iconst (pc := 423) (v := nI 3) dL_law_423 (by decide) ?_
  refine n_iadd (pc := 424) dL_law_424 ?_
  refine g_sld (pc := 425) ((6 * n) + 3) rfl dL_law_425 (IXn (by omega) (by omega)) ?_
  refine g_callV (pc := 426) [.int (xs ((6 * n) + 1)), .int (xs ((6 * n) + 2)), .int (xs ((6 * n) + 3))] dL_law_426 cv_L_48.1 cv_L_48.2.1 cv_L_48.2.2.1 cv_L_48.2.2.2 hY rfl rfl (Nat.le_of_ble_eq_true rfl) (by decide) (by decide) hE2 ?_
  rintro _ w2 ⟨rfl, hI⟩
  refine g_icmp_eq (pc := 429) 1251 dL_law_429 (by decide) (fun hb9 => ?_) (fun hb9 => ?_)
  · exact K w2 hI
  · exact absurd rfl hb9
theorem law_plus {nm : String} {w0 w : Wd} {Q : Option Value → Wd → Prop} {L n X Y : Nat} {xs : Nat → Int32} (hL : L ≤ 3072) (hi : 6 * n + 6 ≤ L) (h : Inv n w X Y) (K : ∀ w2, Inv (n + 1) w2 X Y → BL nm L xs w0 Q w2 1251 [(3, .int (nI (6 * n))), (2, .ref Y), (1, .ref X), (0, .float 0)] []) : BL nm L xs w0 Q w 434 [(3, .int (nI (6 * n))), (2, .ref Y), (1, .ref X), (0, .float 0)] [] := by
  obtain ⟨fsX, hX⟩ := h.x
  refine g_aload_n (pc := 434) 2 dL_law_434 rfl rfl ?_
  refine g_sload_n (pc := 435) 3 dL_law_435 rfl rfl ?_
  refine g_iload_n (pc := 436) 0 dL_law_436 rfl rfl ?_
  refine g_iconst (pc := 437) (v := nI 1) dL_law_437 (by decide) ?_
  refine n_iadd (pc := 438) dL_law_438 ?_
  refine g_sld (pc := 439) ((6 * n) + 1) rfl dL_law_439 (IXn (by omega) (by omega)) ?_
  refine g_sload_n (pc := 440) 3 dL_law_440 rfl rfl ?_
  refine g_iload_n (pc := 441) 0 dL_law_441 rfl rfl ?_
  refine g_iconst (pc := 442) (v := nI 2) dL_law_442 (by decide) ?_
  refine n_iadd (pc := 443) dL_law_443 ?_
  refine g_sld (pc := 444) ((6 * n) + 2) rfl dL_law_444 (IXn (by omega) (by omega)) ?_
  refine g_sload_n (pc := 445) 3 dL_law_445 rfl rfl ?_
  refine g_iload_n (pc := 446) 0 dL_law_446 rfl rfl ?_
  refine g_iconst (pc := 447) (v := nI 3) dL_law_447 (by decide) ?_
  refine n_iadd (pc := 448) dL_law_448 ?_
  refine g_sld (pc := 449) ((6 * n) + 3) rfl dL_law_449 (IXn (by omega) (by omega)) ?_
  refine g_sload_n (pc := 450) 3 dL_law_450 rfl rfl ?_
  refine g_iload_n (pc := 451) 0 dL_law_451 rfl rfl ?_
  refine g_iconst (pc := 452) (v := nI 4) dL_law_452 (by decide) ?_
  refine n_iadd (pc := 453) dL_law_453 ?_
  refine g_sld (pc := 454) ((6 * n) + 4) rfl dL_law_454 (IXn (by omega) (by omega)) ?_
  refine g_callV (pc := 455) [.int (xs ((6 * n) + 1)), .int (xs ((6 * n) + 2)), .int (xs ((6 * n) + 3)), .int (xs ((6 * n) + 4))] dL_law_455 cv_L_49.1 cv_L_49.2.1 cv_L_49.2.2.1 cv_L_49.2.2.2 hX rfl rfl (Nat.le_of_ble_eq_true rfl) (by decide) (by decide) (ag_plus h) ?_
  rintro _ w1 ⟨v, rfl, ⟨fsY, hY⟩, hE2⟩
  refine g_aload_n (pc := 458) 1 dL_law_458 rfl rfl ?_
  refine g_sload_n (pc := 459) 3 dL_law_459 rfl rfl ?_
  refine g_iload_n (pc := 460) 0 dL_law_460 rfl rfl ?_
  refine g_iconst (pc := 461) (v := nI 1) dL_law_461 (by decide) ?_
  refine n_iadd (pc := 462) dL_law_462 ?_
  refine g_sld (pc := 463) ((6 * n) + 1) rfl dL_law_463 (IXn (by omega) (by omega)) ?_
  refine g_sload_n (pc := 464) 3 dL_law_464 rfl rfl ?_
  refine g_iload_n (pc := 465) 0 dL_law_465 rfl rfl ?_
  refine g_iconst (pc := 466) (v := nI 2) dL_law_466 (by decide) ?_
  refine n_iadd (pc := 467) dL_law_467 ?_
  refine g_sld (pc := 468) ((6 * n) + 2) rfl dL_law_468 (IXn (by omega) (by omega)) ?_
  refine g_sload_n (pc := 469) 3 dL_law_469 rfl rfl ?_
  refine g_iload_n (pc := 470) 0 dL_law_470 rfl rfl ?_
  refine g_iconst (pc := 471) (v := nI 3) dL_law_471 (by decide) ?_
  refine n_iadd (pc := 472) dL_law_472 ?_
  refine g_sld (pc := 473) ((6 * n) + 3) rfl dL_law_473 (IXn (by omega) (by omega)) ?_
  refine g_sload_n (pc := 474) 3 dL_law_474 rfl rfl ?_
  refine g_iload_n (pc := 475) 0 dL_law_475 rfl rfl ?_
  refine g_iconst (pc := 476) (v := nI 4) dL_law_476 (by decide) ?_
  refine n_iadd (pc := 477) dL_law_477 ?_
  refine g_sld (pc := 478) ((6 * n) + 4) rfl dL_law_478 (IXn (by omega) (by omega)) ?_
  refine g_callV (pc := 479) [.int (xs ((6 * n) + 1)), .int (xs ((6 * n) + 2)), .int (xs ((6 * n) + 3)), .int (xs ((6 * n) + 4))] dL_law_479 cv_L_53.1 cv_L_53.2.1 cv_L_53.2.2.1 cv_L_53.2.2.2 hY rfl rfl (Nat.le_of_ble_eq_true rfl) (by decide) (by decide) hE2 ?_
  rintro _ w2 ⟨rfl, hI⟩
  refine g_icmp_eq (pc := 482) 1251 dL_law_482 (by decide) (fun hb9 => ?_) (fun hb9 => ?_)
  · exact K w2 hI
  · exact absurd rfl hb9
theorem law_turn {nm : String} {w0 w : Wd} {Q : Option Value → Wd → Prop} {L n X Y : Nat} {xs : Nat → Int32} (hL : L ≤ 3072) (hi : 6 * n + 6 ≤ L) (h : Inv n w X Y) (K : ∀ w2, Inv (n + 1) w2 X Y → BL nm L xs w0 Q w2 1251 [(3, .int (nI (6 * n))), (2, .ref Y), (1, .ref X), (0, .float 0)] []) : BL nm L xs w0 Q w 487 [(3, .int (nI (6 * n))), (2, .ref Y), (1, .ref X), (0, .float 0)] [] := by
  obtain ⟨fsX, hX⟩ := h.x
  refine g_aload_n (pc := 487) 2 dL_law_487 rfl rfl ?_
  refine g_sload_n (pc := 488) 3 dL_law_488 rfl rfl ?_
  refine g_iload_n (pc := 489) 0 dL_law_489 rfl rfl ?_
  refine g_iconst (pc := 490) (v := nI 1) dL_law_490 (by decide) ?_
  refine n_iadd (pc := 491) dL_law_491 ?_
  refine g_sld (pc := 492) ((6 * n) + 1) rfl dL_law_492 (IXn (by omega) (by omega)) ?_
  refine g_sload_n (pc := 493) 3 dL_law_493 rfl rfl ?_
  refine g_iload_n (pc := 494) 0 dL_law_494 rfl rfl ?_
  refine g_iconst (pc := 495) (v := nI 2) dL_law_495 (by decide) ?_
  refine n_iadd (pc := 496) dL_law_496 ?_
  refine g_sld (pc := 497) ((6 * n) + 2) rfl dL_law_497 (IXn (by omega) (by omega)) ?_
  refine g_sload_n (pc := 498) 3 dL_law_498 rfl rfl ?_
  refine g_iload_n (pc := 499) 0 dL_law_499 rfl rfl ?_
  refine g_iconst (pc := 500) (v := nI 3) dL_law_500 (by decide) ?_
  refine n_iadd (pc := 501) dL_law_501 ?_
  refine g_sld (pc := 502) ((6 * n) + 3) rfl dL_law_502 (IXn (by omega) (by omega)) ?_
  refine g_callV (pc := 503) [.int (xs ((6 * n) + 1)), .int (xs ((6 * n) + 2)), .int (xs ((6 * n) + 3))] dL_law_503 cv_L_54.1 cv_L_54.2.1 cv_L_54.2.2.1 cv_L_54.2.2.2 hX rfl rfl (Nat.le_of_ble_eq_true rfl) (by decide) (by decide) (ag_turn h) ?_
  rintro _ w1 ⟨v, rfl, ⟨fsY, hY⟩, hE2⟩
  refine g_aload_n (pc := 506) 1 dL_law_506 rfl rfl ?_
  refine g_sload_n (pc := 507) 3 dL_law_507 rfl rfl ?_
  refine g_iload_n (pc := 508) 0 dL_law_508 rfl rfl ?_
  refine g_iconst (pc := 509) (v := nI 1) dL_law_509 (by decide) ?_
  refine n_iadd (pc := 510) dL_law_510 ?_
  refine g_sld (pc := 511) ((6 * n) + 1) rfl dL_law_511 (IXn (by omega) (by omega)) ?_
  refine g_sload_n (pc := 512) 3 dL_law_512 rfl rfl ?_
  refine g_iload_n (pc := 513) 0 dL_law_513 rfl rfl ?_
  refine g_iconst (pc := 514) (v := nI 2) dL_law_514 (by decide) ?_
  refine n_iadd (pc := 515) dL_law_515 ?_
  refine g_sld (pc := 516) ((6 * n) + 2) rfl dL_law_516 (IXn (by omega) (by omega)) ?_
  refine g_sload_n (pc := 517) 3 dL_law_517 rfl rfl ?_
  refine g_iload_n (pc := 518) 0 dL_law_518 rfl rfl ?_
  refine g_iconst (pc := 519) (v := nI 3) dL_law_519 (by decide) ?_
  refine n_iadd (pc := 520) dL_law_520 ?_
  refine g_sld (pc := 521) ((6 * n) + 3) rfl dL_law_521 (IXn (by omega) (by omega)) ?_
  refine g_callV (pc := 522) [.int (xs ((6 * n) + 1)), .int (xs ((6 * n) + 2)), .int (xs ((6 * n) + 3))] dL_law_522 cv_L_57.1 cv_L_57.2.1 cv_L_57.2.2.1 cv_L_57.2.2.2 hY rfl rfl (Nat.le_of_ble_eq_true rfl) (by decide) (by decide) hE2 ?_
  rintro _ w2 ⟨rfl, hI⟩
  refine g_icmp_eq (pc := 525) 1251 dL_law_525 (by decide) (fun hb9 => ?_) (fun hb9 => ?_)
  · exact K w2 hI
  · exact absurd rfl hb9
theorem law_cyclotomic {nm : String} {w0 w : Wd} {Q : Option Value → Wd → Prop} {L n X Y : Nat} {xs : Nat → Int32} (hL : L ≤ 3072) (hi : 6 * n + 6 ≤ L) (h : Inv n w X Y) (K : ∀ w2, Inv (n + 1) w2 X Y → BL nm L xs w0 Q w2 1251 [(3, .int (nI (6 * n))), (2, .ref Y), (1, .ref X), (0, .float 0)] []) : BL nm L xs w0 Q w 530 [(3, .int (nI (6 * n))), (2, .ref Y), (1, .ref X), (0, .float 0)] [] := by
  obtain ⟨fsX, hX⟩ := h.x
  refine g_aload_n (pc := 530) 2 dL_law_530 rfl rfl ?_
  refine g_sload_n (pc := 531) 3 dL_law_531 rfl rfl ?_
  refine g_iload_n (pc := 532) 0 dL_law_532 rfl rfl ?_
  refine g_iconst (pc := 533) (v := nI 1) dL_law_533 (by decide) ?_
  refine n_iadd (pc := 534) dL_law_534 ?_
  refine g_sld (pc := 535) ((6 * n) + 1) rfl dL_law_535 (IXn (by omega) (by omega)) ?_
  refine g_sload_n (pc := 536) 3 dL_law_536 rfl rfl ?_
  refine g_iload_n (pc := 537) 0 dL_law_537 rfl rfl ?_
  refine g_iconst (pc := 538) (v := nI 2) dL_law_538 (by decide) ?_
  refine n_iadd (pc := 539) dL_law_539 ?_
  refine g_sld (pc := 540) ((6 * n) + 2) rfl dL_law_540 (IXn (by omega) (by omega)) ?_
  refine g_callV (pc := 541) [.int (xs ((6 * n) + 1)), .int (xs ((6 * n) + 2))] dL_law_541 cv_L_58.1 cv_L_58.2.1 cv_L_58.2.2.1 cv_L_58.2.2.2 hX rfl rfl (Nat.le_of_ble_eq_true rfl) (by decide) (by decide) (ag_cyclotomic h) ?_
  rintro _ w1 ⟨v, rfl, ⟨fsY, hY⟩, hE2⟩
  refine g_aload_n (pc := 544) 1 dL_law_544 rfl rfl ?_
  refine g_sload_n (pc := 545) 3 dL_law_545 rfl rfl ?_
  refine g_iload_n (pc := 546) 0 dL_law_546 rfl rfl ?_
  refine g_iconst (pc := 547) (v := nI 1) dL_law_547 (by decide) ?_
  refine n_iadd (pc := 548) dL_law_548 ?_
  refine g_sld (pc := 549) ((6 * n) + 1) rfl dL_law_549 (IXn (by omega) (by omega)) ?_
  refine g_sload_n (pc := 550) 3 dL_law_550 rfl rfl ?_
  refine g_iload_n (pc := 551) 0 dL_law_551 rfl rfl ?_
  refine g_iconst (pc := 552) (v := nI 2) dL_law_552 (by decide) ?_
  refine n_iadd (pc := 553) dL_law_553 ?_
  refine g_sld (pc := 554) ((6 * n) + 2) rfl dL_law_554 (IXn (by omega) (by omega)) ?_
  refine g_callV (pc := 555) [.int (xs ((6 * n) + 1)), .int (xs ((6 * n) + 2))] dL_law_555 cv_L_62.1 cv_L_62.2.1 cv_L_62.2.2.1 cv_L_62.2.2.2 hY rfl rfl (Nat.le_of_ble_eq_true rfl) (by decide) (by decide) hE2 ?_
  rintro _ w2 ⟨rfl, hI⟩
  refine g_icmp_eq (pc := 558) 1251 dL_law_558 (by decide) (fun hb9 => ?_) (fun hb9 => ?_)
  · exact K w2 hI
  · exact absurd rfl hb9
theorem law_core {nm : String} {w0 w : Wd} {Q : Option Value → Wd → Prop} {L n X Y : Nat} {xs : Nat → Int32} (hL : L ≤ 3072) (hi : 6 * n + 6 ≤ L) (h : Inv n w X Y) (K : ∀ w2, Inv (n + 1) w2 X Y → BL nm L xs w0 Q w2 1251 [(3, .int (nI (6 * n))), (2, .ref Y), (1, .ref X), (0, .float 0)] []) : BL nm L xs w0 Q w 563 [(3, .int (nI (6 * n))), (2, .ref Y), (1, .ref X), (0, .float 0)] [] := by
  obtain ⟨fsX, hX⟩ := h.x
  refine g_aload_n (pc := 563) 2 dL_law_563 rfl rfl ?_
  refine g_sload_n (pc := 564) 3 dL_law_564 rfl rfl ?_
  refine g_iload_n (pc := 565) 0 dL_law_565 rfl rfl ?_
  refine g_iconst (pc := 566) (v := nI 1) dL_law_566 (by decide) ?_
  refine n_iadd (pc := 567) dL_law_567 ?_
  refine g_sld (pc := 568) ((6 * n) + 1) rfl dL_law_568 (IXn (by omega) (by omega)) ?_
  refine g_sload_n (pc := 569) 3 dL_law_569 rfl rfl ?_
  refine g_iload_n (pc := 570) 0 dL_law_570 rfl rfl ?_
  refine g_iconst (pc := 571) (v := nI 2) dL_law_571 (by decide) ?_
  refine n_iadd (pc := 572) dL_law_572 ?_
  refine g_sld (pc := 573) ((6 * n) + 2) rfl dL_law_573 (IXn (by omega) (by omega)) ?_
  refine g_callV (pc := 574) [.int (xs ((6 * n) + 1)), .int (xs ((6 * n) + 2))] dL_law_574 cv_L_63.1 cv_L_63.2.1 cv_L_63.2.2.1 cv_L_63.2.2.2 hX rfl rfl (Nat.le_of_ble_eq_true rfl) (by decide) (by decide) (ag_core h) ?_
  rintro _ w1 ⟨v, rfl, ⟨fsY, hY⟩, hE2⟩
  refine g_aload_n (pc := 577) 1 dL_law_577 rfl rfl ?_
  refine g_sload_n (pc := 578) 3 dL_law_578 rfl rfl ?_
  refine g_iload_n (pc := 579) 0 dL_law_579 rfl rfl ?_
  refine g_iconst (pc := 580) (v := nI 1) dL_law_580 (by decide) ?_
  refine n_iadd (pc := 581) dL_law_581 ?_
  refine g_sld (pc := 582) ((6 * n) + 1) rfl dL_law_582 (IXn (by omega) (by omega)) ?_
  refine g_sload_n (pc := 583) 3 dL_law_583 rfl rfl ?_
  refine g_iload_n (pc := 584) 0 dL_law_584 rfl rfl ?_
  refine g_iconst (pc := 585) (v := nI 2) dL_law_585 (by decide) ?_
  refine n_iadd (pc := 586) dL_law_586 ?_
  refine g_sld (pc := 587) ((6 * n) + 2) rfl dL_law_587 (IXn (by omega) (by omega)) ?_
  refine g_callV (pc := 588) [.int (xs ((6 * n) + 1)), .int (xs ((6 * n) + 2))] dL_law_588 cv_L_66.1 cv_L_66.2.1 cv_L_66.2.2.1 cv_L_66.2.2.2 hY rfl rfl (Nat.le_of_ble_eq_true rfl) (by decide) (by decide) hE2 ?_
  rintro _ w2 ⟨rfl, hI⟩
  refine g_icmp_eq (pc := 591) 1251 dL_law_591 (by decide) (fun hb9 => ?_) (fun hb9 => ?_)
  · exact K w2 hI
  · exact absurd rfl hb9
theorem law_search {nm : String} {w0 w : Wd} {Q : Option Value → Wd → Prop} {L n X Y : Nat} {xs : Nat → Int32} (hL : L ≤ 3072) (hi : 6 * n + 6 ≤ L) (h : Inv n w X Y) (K : ∀ w2, Inv (n + 1) w2 X Y → BL nm L xs w0 Q w2 1251 [(3, .int (nI (6 * n))), (2, .ref Y), (1, .ref X), (0, .float 0)] []) : BL nm L xs w0 Q w 596 [(3, .int (nI (6 * n))), (2, .ref Y), (1, .ref X), (0, .float 0)] [] := by
  obtain ⟨fsX, hX⟩ := h.x
  refine g_aload_n (pc := 596) 2 dL_law_596 rfl rfl ?_
  refine g_sload_n (pc := 597) 3 dL_law_597 rfl rfl ?_
  refine g_iload_n (pc := 598) 0 dL_law_598 rfl rfl ?_
  refine g_iconst (pc := 599) (v := nI 1) dL_law_599 (by decide) ?_
  refine n_iadd (pc := 600) dL_law_600 ?_
  refine g_sld (pc := 601) ((6 * n) + 1) rfl dL_law_601 (IXn (by omega) (by omega)) ?_
  refine g_sload_n (pc := 602) 3 dL_law_602 rfl rfl ?_
  refine g_iload_n (pc := 603) 0 dL_law_603 rfl rfl ?_
  refine g_iconst (pc := 604) (v := nI 2) dL_law_604 (by decide) ?_
  refine n_iadd (pc := 605) dL_law_605 ?_
  refine g_sld (pc := 606) ((6 * n) + 2) rfl dL_law_606 (IXn (by omega) (by omega)) ?_
  refine g_sload_n (pc := 607) 3 dL_law_607 rfl rfl ?_
  refine g_iload_n (pc := 608) 0 dL_law_608 rfl rfl ?_
  refine g_iconst (pc := 609) (v := nI 3) dL_law_609 (by decide) ?_
  refine n_iadd (pc := 610) dL_law_610 ?_
  refine g_sld (pc := 611) ((6 * n) + 3) rfl dL_law_611 (IXn (by omega) (by omega)) ?_
  refine g_sload_n (pc := 612) 3 dL_law_612 rfl rfl ?_
  refine g_iload_n (pc := 613) 0 dL_law_613 rfl rfl ?_
  refine g_iconst (pc := 614) (v := nI 4) dL_law_614 (by decide) ?_
  refine n_iadd (pc := 615) dL_law_615 ?_
  refine g_sld (pc := 616) ((6 * n) + 4) rfl dL_law_616 (IXn (by omega) (by omega)) ?_
  refine g_callV (pc := 617) [.int (xs ((6 * n) + 1)), .int (xs ((6 * n) + 2)), .int (xs ((6 * n) + 3)), .int (xs ((6 * n) + 4))] dL_law_617 cv_L_67.1 cv_L_67.2.1 cv_L_67.2.2.1 cv_L_67.2.2.2 hX rfl rfl (Nat.le_of_ble_eq_true rfl) (by decide) (by decide) (ag_search h) ?_
  rintro _ w1 ⟨v, rfl, ⟨fsY, hY⟩, hE2⟩
  refine g_aload_n (pc := 620) 1 dL_law_620 rfl rfl ?_
  refine g_sload_n (pc := 621) 3 dL_law_621 rfl rfl ?_
  refine g_iload_n (pc := 622) 0 dL_law_622 rfl rfl ?_
  refine g_iconst (pc := 623) (v := nI 1) dL_law_623 (by decide) ?_
  refine n_iadd (pc := 624) dL_law_624 ?_
  refine g_sld (pc := 625) ((6 * n) + 1) rfl dL_law_625 (IXn (by omega) (by omega)) ?_
  refine g_sload_n (pc := 626) 3 dL_law_626 rfl rfl ?_
  refine g_iload_n (pc := 627) 0 dL_law_627 rfl rfl ?_
  refine g_iconst (pc := 628) (v := nI 2) dL_law_628 (by decide) ?_
  refine n_iadd (pc := 629) dL_law_629 ?_
  refine g_sld (pc := 630) ((6 * n) + 2) rfl dL_law_630 (IXn (by omega) (by omega)) ?_
  refine g_sload_n (pc := 631) 3 dL_law_631 rfl rfl ?_
  refine g_iload_n (pc := 632) 0 dL_law_632 rfl rfl ?_
  refine g_iconst (pc := 633) (v := nI 3) dL_law_633 (by decide) ?_
  refine n_iadd (pc := 634) dL_law_634 ?_
  refine g_sld (pc := 635) ((6 * n) + 3) rfl dL_law_635 (IXn (by omega) (by omega)) ?_
  refine g_sload_n (pc := 636) 3 dL_law_636 rfl rfl ?_
  refine g_iload_n (pc := 637) 0 dL_law_637 rfl rfl ?_
  refine g_iconst (pc := 638) (v := nI 4) dL_law_638 (by decide) ?_
  refine n_iadd (pc := 639) dL_law_639 ?_
  refine g_sld (pc := 640) ((6 * n) + 4) rfl dL_law_640 (IXn (by omega) (by omega)) ?_
  refine g_callV (pc := 641) [.int (xs ((6 * n) + 1)), .int (xs ((6 * n) + 2)), .int (xs ((6 * n) + 3)), .int (xs ((6 * n) + 4))] dL_law_641 cv_L_70.1 cv_L_70.2.1 cv_L_70.2.2.1 cv_L_70.2.2.2 hY rfl rfl (Nat.le_of_ble_eq_true rfl) (by decide) (by decide) hE2 ?_
  rintro _ w2 ⟨rfl, hI⟩
  refine g_icmp_eq (pc := 644) 1251 dL_law_644 (by decide) (fun hb9 => ?_) (fun hb9 => ?_)
  · exact K w2 hI
  · exact absurd rfl hb9
theorem law_take {nm : String} {w0 w : Wd} {Q : Option Value → Wd → Prop} {L n X Y : Nat} {xs : Nat → Int32} (hL : L ≤ 3072) (hi : 6 * n + 6 ≤ L) (h : Inv n w X Y) (K : ∀ w2, Inv (n + 1) w2 X Y → BL nm L xs w0 Q w2 1251 [(3, .int (nI (6 * n))), (2, .ref Y), (1, .ref X), (0, .float 0)] []) : BL nm L xs w0 Q w 649 [(3, .int (nI (6 * n))), (2, .ref Y), (1, .ref X), (0, .float 0)] [] := by
  obtain ⟨fsX, hX⟩ := h.x
  refine g_aload_n (pc := 649) 2 dL_law_649 rfl rfl ?_
  refine g_sload_n (pc := 650) 3 dL_law_650 rfl rfl ?_
  refine g_iload_n (pc := 651) 0 dL_law_651 rfl rfl ?_
  refine g_iconst (pc := 652) (v := nI 1) dL_law_652 (by decide) ?_
  refine n_iadd (pc := 653) dL_law_653 ?_
  refine g_sld (pc := 654) ((6 * n) + 1) rfl dL_law_654 (IXn (by omega) (by omega)) ?_
  refine g_sload_n (pc := 655) 3 dL_law_655 rfl rfl ?_
  refine g_iload_n (pc := 656) 0 dL_law_656 rfl rfl ?_
  refine g_iconst (pc := 657) (v := nI 2) dL_law_657 (by decide) ?_
  refine n_iadd (pc := 658) dL_law_658 ?_
  refine g_sld (pc := 659) ((6 * n) + 2) rfl dL_law_659 (IXn (by omega) (by omega)) ?_
  refine g_callV (pc := 660) [.int (xs ((6 * n) + 1)), .int (xs ((6 * n) + 2))] dL_law_660 cv_L_71.1 cv_L_71.2.1 cv_L_71.2.2.1 cv_L_71.2.2.2 hX rfl rfl (Nat.le_of_ble_eq_true rfl) (by decide) (by decide) (ag_take h) ?_
  rintro _ w1 ⟨v, rfl, ⟨fsY, hY⟩, hE2⟩
  refine g_aload_n (pc := 663) 1 dL_law_663 rfl rfl ?_
  refine g_sload_n (pc := 664) 3 dL_law_664 rfl rfl ?_
  refine g_iload_n (pc := 665) 0 dL_law_665 rfl rfl ?_
  refine g_iconst (pc := 666) (v := nI 1) dL_law_666 (by decide) ?_
  refine n_iadd (pc := 667) dL_law_667 ?_
  refine g_sld (pc := 668) ((6 * n) + 1) rfl dL_law_668 (IXn (by omega) (by omega)) ?_
  refine g_sload_n (pc := 669) 3 dL_law_669 rfl rfl ?_
  refine g_iload_n (pc := 670) 0 dL_law_670 rfl rfl ?_
  refine g_iconst (pc := 671) (v := nI 2) dL_law_671 (by decide) ?_
  refine n_iadd (pc := 672) dL_law_672 ?_
  refine g_sld (pc := 673) ((6 * n) + 2) rfl dL_law_673 (IXn (by omega) (by omega)) ?_
  refine g_callV (pc := 674) [.int (xs ((6 * n) + 1)), .int (xs ((6 * n) + 2))] dL_law_674 cv_L_74.1 cv_L_74.2.1 cv_L_74.2.2.1 cv_L_74.2.2.2 hY rfl rfl (Nat.le_of_ble_eq_true rfl) (by decide) (by decide) hE2 ?_
  rintro _ w2 ⟨rfl, hI⟩
  refine g_icmp_eq (pc := 677) 1251 dL_law_677 (by decide) (fun hb9 => ?_) (fun hb9 => ?_)
  · exact K w2 hI
  · exact absurd rfl hb9
theorem law_undo {nm : String} {w0 w : Wd} {Q : Option Value → Wd → Prop} {L n X Y : Nat} {xs : Nat → Int32} (hL : L ≤ 3072) (hi : 6 * n + 6 ≤ L) (h : Inv n w X Y) (K : ∀ w2, Inv (n + 1) w2 X Y → BL nm L xs w0 Q w2 1251 [(3, .int (nI (6 * n))), (2, .ref Y), (1, .ref X), (0, .float 0)] []) : BL nm L xs w0 Q w 682 [(3, .int (nI (6 * n))), (2, .ref Y), (1, .ref X), (0, .float 0)] [] := by
  obtain ⟨fsX, hX⟩ := h.x
  refine g_aload_n (pc := 682) 2 dL_law_682 rfl rfl ?_
  refine g_callV (pc := 683) [] dL_law_683 cv_L_75.1 cv_L_75.2.1 cv_L_75.2.2.1 cv_L_75.2.2.2 hX rfl rfl (Nat.le_of_ble_eq_true rfl) (by decide) (by decide) (ag_undo h) ?_
  rintro _ w1 ⟨v, rfl, ⟨fsY, hY⟩, hE2⟩
  refine g_aload_n (pc := 686) 1 dL_law_686 rfl rfl ?_
  refine g_callV (pc := 687) [] dL_law_687 cv_L_78.1 cv_L_78.2.1 cv_L_78.2.2.1 cv_L_78.2.2.2 hY rfl rfl (Nat.le_of_ble_eq_true rfl) (by decide) (by decide) hE2 ?_
  rintro _ w2 ⟨rfl, hI⟩
  refine g_icmp_eq (pc := 690) 1251 dL_law_690 (by decide) (fun hb9 => ?_) (fun hb9 => ?_)
  · exact K w2 hI
  · exact absurd rfl hb9
theorem law_image {nm : String} {w0 w : Wd} {Q : Option Value → Wd → Prop} {L n X Y : Nat} {xs : Nat → Int32} (hL : L ≤ 3072) (hi : 6 * n + 6 ≤ L) (h : Inv n w X Y) (K : ∀ w2, Inv (n + 1) w2 X Y → BL nm L xs w0 Q w2 1251 [(3, .int (nI (6 * n))), (2, .ref Y), (1, .ref X), (0, .float 0)] []) : BL nm L xs w0 Q w 695 [(3, .int (nI (6 * n))), (2, .ref Y), (1, .ref X), (0, .float 0)] [] := by
  obtain ⟨fsX, hX⟩ := h.x
  refine g_aload_n (pc := 695) 2 dL_law_695 rfl rfl ?_
  refine g_sload_n (pc := 696) 3 dL_law_696 rfl rfl ?_
  refine g_iload_n (pc := 697) 0 dL_law_697 rfl rfl ?_
  refine g_iconst (pc := 698) (v := nI 1) dL_law_698 (by decide) ?_
  refine n_iadd (pc := 699) dL_law_699 ?_
  refine g_sld (pc := 700) ((6 * n) + 1) rfl dL_law_700 (IXn (by omega) (by omega)) ?_
  refine g_callV (pc := 701) [.int (xs ((6 * n) + 1))] dL_law_701 cv_L_79.1 cv_L_79.2.1 cv_L_79.2.2.1 cv_L_79.2.2.2 hX rfl rfl (Nat.le_of_ble_eq_true rfl) (by decide) (by decide) (ag_image h) ?_
  rintro _ w1 ⟨v, rfl, ⟨fsY, hY⟩, hE2⟩
  refine g_aload_n (pc := 704) 1 dL_law_704 rfl rfl ?_
  refine g_sload_n (pc := 705) 3 dL_law_705 rfl rfl ?_
  refine g_iload_n (pc := 706) 0 dL_law_706 rfl rfl ?_
  refine g_iconst (pc := 707) (v := nI 1) dL_law_707 (by decide) ?_
  refine n_iadd (pc := 708) dL_law_708 ?_
  refine g_sld (pc := 709) ((6 * n) + 1) rfl dL_law_709 (IXn (by omega) (by omega)) ?_
  refine g_callV (pc := 710) [.int (xs ((6 * n) + 1))] dL_law_710 cv_L_82.1 cv_L_82.2.1 cv_L_82.2.2.1 cv_L_82.2.2.2 hY rfl rfl (Nat.le_of_ble_eq_true rfl) (by decide) (by decide) hE2 ?_
  rintro _ w2 ⟨rfl, hI⟩
  refine g_icmp_eq (pc := 713) 1251 dL_law_713 (by decide) (fun hb9 => ?_) (fun hb9 => ?_)
  · exact K w2 hI
  · exact absurd rfl hb9
theorem law_back {nm : String} {w0 w : Wd} {Q : Option Value → Wd → Prop} {L n X Y : Nat} {xs : Nat → Int32} (hL : L ≤ 3072) (hi : 6 * n + 6 ≤ L) (h : Inv n w X Y) (K : ∀ w2, Inv (n + 1) w2 X Y → BL nm L xs w0 Q w2 1251 [(3, .int (nI (6 * n))), (2, .ref Y), (1, .ref X), (0, .float 0)] []) : BL nm L xs w0 Q w 718 [(3, .int (nI (6 * n))), (2, .ref Y), (1, .ref X), (0, .float 0)] [] := by
  obtain ⟨fsX, hX⟩ := h.x
  refine g_aload_n (pc := 718) 2 dL_law_718 rfl rfl ?_
  refine g_sload_n (pc := 719) 3 dL_law_719 rfl rfl ?_
  refine g_iload_n (pc := 720) 0 dL_law_720 rfl rfl ?_
  refine g_iconst (pc := 721) (v := nI 1) dL_law_721 (by decide) ?_
  refine n_iadd (pc := 722) dL_law_722 ?_
  refine g_sld (pc := 723) ((6 * n) + 1) rfl dL_law_723 (IXn (by omega) (by omega)) ?_
  refine g_callV (pc := 724) [.int (xs ((6 * n) + 1))] dL_law_724 cv_L_83.1 cv_L_83.2.1 cv_L_83.2.2.1 cv_L_83.2.2.2 hX rfl rfl (Nat.le_of_ble_eq_true rfl) (by decide) (by decide) (ag_back h) ?_
  rintro _ w1 ⟨v, rfl, ⟨fsY, hY⟩, hE2⟩
  refine g_aload_n (pc := 727) 1 dL_law_727 rfl rfl ?_
  refine g_sload_n (pc := 728) 3 dL_law_728 rfl rfl ?_
  refine g_iload_n (pc := 729) 0 dL_law_729 rfl rfl ?_
  refine g_iconst (pc := 730) (v := nI 1) dL_law_730 (by decide) ?_
  refine n_iadd (pc := 731) dL_law_731 ?_
  refine g_sld (pc := 732) ((6 * n) + 1) rfl dL_law_732 (IXn (by omega) (by omega)) ?_
  refine g_callV (pc := 733) [.int (xs ((6 * n) + 1))] dL_law_733 cv_L_86.1 cv_L_86.2.1 cv_L_86.2.2.1 cv_L_86.2.2.2 hY rfl rfl (Nat.le_of_ble_eq_true rfl) (by decide) (by decide) hE2 ?_
  rintro _ w2 ⟨rfl, hI⟩
  refine g_icmp_eq (pc := 736) 1251 dL_law_736 (by decide) (fun hb9 => ?_) (fun hb9 => ?_)
  · exact K w2 hI
  · exact absurd rfl hb9
theorem law_coefficient {nm : String} {w0 w : Wd} {Q : Option Value → Wd → Prop} {L n X Y : Nat} {xs : Nat → Int32} (hL : L ≤ 3072) (hi : 6 * n + 6 ≤ L) (h : Inv n w X Y) (K : ∀ w2, Inv (n + 1) w2 X Y → BL nm L xs w0 Q w2 1251 [(3, .int (nI (6 * n))), (2, .ref Y), (1, .ref X), (0, .float 0)] []) : BL nm L xs w0 Q w 741 [(3, .int (nI (6 * n))), (2, .ref Y), (1, .ref X), (0, .float 0)] [] := by
  obtain ⟨fsX, hX⟩ := h.x
  refine g_aload_n (pc := 741) 2 dL_law_741 rfl rfl ?_
  refine g_sload_n (pc := 742) 3 dL_law_742 rfl rfl ?_
  refine g_iload_n (pc := 743) 0 dL_law_743 rfl rfl ?_
  refine g_iconst (pc := 744) (v := nI 1) dL_law_744 (by decide) ?_
  refine n_iadd (pc := 745) dL_law_745 ?_
  refine g_sld (pc := 746) ((6 * n) + 1) rfl dL_law_746 (IXn (by omega) (by omega)) ?_
  refine g_sload_n (pc := 747) 3 dL_law_747 rfl rfl ?_
  refine g_iload_n (pc := 748) 0 dL_law_748 rfl rfl ?_
  refine g_iconst (pc := 749) (v := nI 2) dL_law_749 (by decide) ?_
  refine n_iadd (pc := 750) dL_law_750 ?_
  refine g_sld (pc := 751) ((6 * n) + 2) rfl dL_law_751 (IXn (by omega) (by omega)) ?_
  refine g_callV (pc := 752) [.int (xs ((6 * n) + 1)), .int (xs ((6 * n) + 2))] dL_law_752 cv_L_87.1 cv_L_87.2.1 cv_L_87.2.2.1 cv_L_87.2.2.2 hX rfl rfl (Nat.le_of_ble_eq_true rfl) (by decide) (by decide) (ag_coefficient h) ?_
  rintro _ w1 ⟨v, rfl, ⟨fsY, hY⟩, hE2⟩
  refine g_aload_n (pc := 755) 1 dL_law_755 rfl rfl ?_
  refine g_sload_n (pc := 756) 3 dL_law_756 rfl rfl ?_
  refine g_iload_n (pc := 757) 0 dL_law_757 rfl rfl ?_
  refine g_iconst (pc := 758) (v := nI 1) dL_law_758 (by decide) ?_
  refine n_iadd (pc := 759) dL_law_759 ?_
  refine g_sld (pc := 760) ((6 * n) + 1) rfl dL_law_760 (IXn (by omega) (by omega)) ?_
  refine g_sload_n (pc := 761) 3 dL_law_761 rfl rfl ?_
  refine g_iload_n (pc := 762) 0 dL_law_762 rfl rfl ?_
  refine g_iconst (pc := 763) (v := nI 2) dL_law_763 (by decide) ?_
  refine n_iadd (pc := 764) dL_law_764 ?_
  refine g_sld (pc := 765) ((6 * n) + 2) rfl dL_law_765 (IXn (by omega) (by omega)) ?_
  refine g_callV (pc := 766) [.int (xs ((6 * n) + 1)), .int (xs ((6 * n) + 2))] dL_law_766 cv_L_90.1 cv_L_90.2.1 cv_L_90.2.2.1 cv_L_90.2.2.2 hY rfl rfl (Nat.le_of_ble_eq_true rfl) (by decide) (by decide) hE2 ?_
  rintro _ w2 ⟨rfl, hI⟩
  refine g_icmp_eq (pc := 769) 1251 dL_law_769 (by decide) (fun hb9 => ?_) (fun hb9 => ?_)
  · exact K w2 hI
  · exact absurd rfl hb9
theorem law_of_ {nm : String} {w0 w : Wd} {Q : Option Value → Wd → Prop} {L n X Y : Nat} {xs : Nat → Int32} (hL : L ≤ 3072) (hi : 6 * n + 6 ≤ L) (h : Inv n w X Y) (K : ∀ w2, Inv (n + 1) w2 X Y → BL nm L xs w0 Q w2 1251 [(3, .int (nI (6 * n))), (2, .ref Y), (1, .ref X), (0, .float 0)] []) : BL nm L xs w0 Q w 774 [(3, .int (nI (6 * n))), (2, .ref Y), (1, .ref X), (0, .float 0)] [] := by
  obtain ⟨fsX, hX⟩ := h.x
  refine g_aload_n (pc := 774) 2 dL_law_774 rfl rfl ?_
  refine g_sload_n (pc := 775) 3 dL_law_775 rfl rfl ?_
  refine g_iload_n (pc := 776) 0 dL_law_776 rfl rfl ?_
  refine g_iconst (pc := 777) (v := nI 1) dL_law_777 (by decide) ?_
  refine n_iadd (pc := 778) dL_law_778 ?_
  refine g_sld (pc := 779) ((6 * n) + 1) rfl dL_law_779 (IXn (by omega) (by omega)) ?_
  refine g_sload_n (pc := 780) 3 dL_law_780 rfl rfl ?_
  refine g_iload_n (pc := 781) 0 dL_law_781 rfl rfl ?_
  refine g_iconst (pc := 782) (v := nI 2) dL_law_782 (by decide) ?_
  refine n_iadd (pc := 783) dL_law_783 ?_
  refine g_sld (pc := 784) ((6 * n) + 2) rfl dL_law_784 (IXn (by omega) (by omega)) ?_
  refine g_callV (pc := 785) [.int (xs ((6 * n) + 1)), .int (xs ((6 * n) + 2))] dL_law_785 cv_L_91.1 cv_L_91.2.1 cv_L_91.2.2.1 cv_L_91.2.2.2 hX rfl rfl (Nat.le_of_ble_eq_true rfl) (by decide) (by decide) (ag_of_ h) ?_
  rintro _ w1 ⟨v, rfl, ⟨fsY, hY⟩, hE2⟩
  refine g_aload_n (pc := 788) 1 dL_law_788 rfl rfl ?_
  refine g_sload_n (pc := 789) 3 dL_law_789 rfl rfl ?_
  refine g_iload_n (pc := 790) 0 dL_law_790 rfl rfl ?_
  refine g_iconst (pc := 791) (v := nI 1) dL_law_791 (by decide) ?_
  refine n_iadd (pc := 792) dL_law_792 ?_
  refine g_sld (pc := 793) ((6 * n) + 1) rfl dL_law_793 (IXn (by omega) (by omega)) ?_
  refine g_sload_n (pc := 794) 3 dL_law_794 rfl rfl ?_
  refine g_iload_n (pc := 795) 0 dL_law_795 rfl rfl ?_
  refine g_iconst (pc := 796) (v := nI 2) dL_law_796 (by decide) ?_
  refine n_iadd (pc := 797) dL_law_797 ?_
  refine g_sld (pc := 798) ((6 * n) + 2) rfl dL_law_798 (IXn (by omega) (by omega)) ?_
  refine g_callV (pc := 799) [.int (xs ((6 * n) + 1)), .int (xs ((6 * n) + 2))] dL_law_799 cv_L_94.1 cv_L_94.2.1 cv_L_94.2.2.1 cv_L_94.2.2.2 hY rfl rfl (Nat.le_of_ble_eq_true rfl) (by decide) (by decide) hE2 ?_
  rintro _ w2 ⟨rfl, hI⟩
  refine g_icmp_eq (pc := 802) 1251 dL_law_802 (by decide) (fun hb9 => ?_) (fun hb9 => ?_)
  · exact K w2 hI
  · exact absurd rfl hb9
theorem law_level {nm : String} {w0 w : Wd} {Q : Option Value → Wd → Prop} {L n X Y : Nat} {xs : Nat → Int32} (hL : L ≤ 3072) (hi : 6 * n + 6 ≤ L) (h : Inv n w X Y) (K : ∀ w2, Inv (n + 1) w2 X Y → BL nm L xs w0 Q w2 1251 [(3, .int (nI (6 * n))), (2, .ref Y), (1, .ref X), (0, .float 0)] []) : BL nm L xs w0 Q w 807 [(3, .int (nI (6 * n))), (2, .ref Y), (1, .ref X), (0, .float 0)] [] := by
  obtain ⟨fsX, hX⟩ := h.x
  refine g_aload_n (pc := 807) 2 dL_law_807 rfl rfl ?_
  refine g_sload_n (pc := 808) 3 dL_law_808 rfl rfl ?_
  refine g_iload_n (pc := 809) 0 dL_law_809 rfl rfl ?_
  refine g_iconst (pc := 810) (v := nI 1) dL_law_810 (by decide) ?_
  refine n_iadd (pc := 811) dL_law_811 ?_
  refine g_sld (pc := 812) ((6 * n) + 1) rfl dL_law_812 (IXn (by omega) (by omega)) ?_
  refine g_sload_n (pc := 813) 3 dL_law_813 rfl rfl ?_
  refine g_iload_n (pc := 814) 0 dL_law_814 rfl rfl ?_
  refine g_iconst (pc := 815) (v := nI 2) dL_law_815 (by decide) ?_
  refine n_iadd (pc := 816) dL_law_816 ?_
  refine g_sld (pc := 817) ((6 * n) + 2) rfl dL_law_817 (IXn (by omega) (by omega)) ?_
  refine g_sload_n (pc := 818) 3 dL_law_818 rfl rfl ?_
  refine g_iload_n (pc := 819) 0 dL_law_819 rfl rfl ?_
  refine g_iconst (pc := 820) (v := nI 3) dL_law_820 (by decide) ?_
  refine n_iadd (pc := 821) dL_law_821 ?_
  refine g_sld (pc := 822) ((6 * n) + 3) rfl dL_law_822 (IXn (by omega) (by omega)) ?_
  refine g_callV (pc := 823) [.int (xs ((6 * n) + 1)), .int (xs ((6 * n) + 2)), .int (xs ((6 * n) + 3))] dL_law_823 cv_L_95.1 cv_L_95.2.1 cv_L_95.2.2.1 cv_L_95.2.2.2 hX rfl rfl (Nat.le_of_ble_eq_true rfl) (by decide) (by decide) (ag_level h) ?_
  rintro _ w1 ⟨v, rfl, ⟨fsY, hY⟩, hE2⟩
  refine g_aload_n (pc := 826) 1 dL_law_826 rfl rfl ?_
  refine g_sload_n (pc := 827) 3 dL_law_827 rfl rfl ?_
  refine g_iload_n (pc := 828) 0 dL_law_828 rfl rfl ?_
  refine g_iconst (pc := 829) (v := nI 1) dL_law_829 (by decide) ?_
  refine n_iadd (pc := 830) dL_law_830 ?_
  refine g_sld (pc := 831) ((6 * n) + 1) rfl dL_law_831 (IXn (by omega) (by omega)) ?_
  refine g_sload_n (pc := 832) 3 dL_law_832 rfl rfl ?_
  refine g_iload_n (pc := 833) 0 dL_law_833 rfl rfl ?_
  refine g_iconst (pc := 834) (v := nI 2) dL_law_834 (by decide) ?_
  refine n_iadd (pc := 835) dL_law_835 ?_
  refine g_sld (pc := 836) ((6 * n) + 2) rfl dL_law_836 (IXn (by omega) (by omega)) ?_
  refine g_sload_n (pc := 837) 3 dL_law_837 rfl rfl ?_
  refine g_iload_n (pc := 838) 0 dL_law_838 rfl rfl ?_
  refine g_iconst (pc := 839) (v := nI 3) dL_law_839 (by decide) ?_
  refine n_iadd (pc := 840) dL_law_840 ?_
  refine g_sld (pc := 841) ((6 * n) + 3) rfl dL_law_841 (IXn (by omega) (by omega)) ?_
  refine g_callV (pc := 842) [.int (xs ((6 * n) + 1)), .int (xs ((6 * n) + 2)), .int (xs ((6 * n) + 3))] dL_law_842 cv_L_99.1 cv_L_99.2.1 cv_L_99.2.2.1 cv_L_99.2.2.2 hY rfl rfl (Nat.le_of_ble_eq_true rfl) (by decide) (by decide) hE2 ?_
  rintro _ w2 ⟨rfl, hI⟩
  refine g_lcmp_eq (pc := 845) 1251 dL_law_845 dL_law_846 (by decide) (fun hb9 => ?_) (fun hb9 => ?_)
  · exact K w2 hI
  · exact absurd rfl hb9
theorem law_low {nm : String} {w0 w : Wd} {Q : Option Value → Wd → Prop} {L n X Y : Nat} {xs : Nat → Int32} (hL : L ≤ 3072) (hi : 6 * n + 6 ≤ L) (h : Inv n w X Y) (K : ∀ w2, Inv (n + 1) w2 X Y → BL nm L xs w0 Q w2 1251 [(3, .int (nI (6 * n))), (2, .ref Y), (1, .ref X), (0, .float 0)] []) : BL nm L xs w0 Q w 851 [(3, .int (nI (6 * n))), (2, .ref Y), (1, .ref X), (0, .float 0)] [] := by
  obtain ⟨fsX, hX⟩ := h.x
  refine g_aload_n (pc := 851) 2 dL_law_851 rfl rfl ?_
  refine g_sload_n (pc := 852) 3 dL_law_852 rfl rfl ?_
  refine g_iload_n (pc := 853) 0 dL_law_853 rfl rfl ?_
  refine g_iconst (pc := 854) (v := nI 1) dL_law_854 (by decide) ?_
  refine n_iadd (pc := 855) dL_law_855 ?_
  refine g_sld (pc := 856) ((6 * n) + 1) rfl dL_law_856 (IXn (by omega) (by omega)) ?_
  refine g_sload_n (pc := 857) 3 dL_law_857 rfl rfl ?_
  refine g_iload_n (pc := 858) 0 dL_law_858 rfl rfl ?_
  refine g_iconst (pc := 859) (v := nI 2) dL_law_859 (by decide) ?_
  refine n_iadd (pc := 860) dL_law_860 ?_
  refine g_sld (pc := 861) ((6 * n) + 2) rfl dL_law_861 (IXn (by omega) (by omega)) ?_
  refine g_callV (pc := 862) [.int (xs ((6 * n) + 1)), .int (xs ((6 * n) + 2))] dL_law_862 cv_L_100.1 cv_L_100.2.1 cv_L_100.2.2.1 cv_L_100.2.2.2 hX rfl rfl (Nat.le_of_ble_eq_true rfl) (by decide) (by decide) (ag_low h) ?_
  rintro _ w1 ⟨v, rfl, ⟨fsY, hY⟩, hE2⟩
  refine g_aload_n (pc := 865) 1 dL_law_865 rfl rfl ?_
  refine g_sload_n (pc := 866) 3 dL_law_866 rfl rfl ?_
  refine g_iload_n (pc := 867) 0 dL_law_867 rfl rfl ?_
  refine g_iconst (pc := 868) (v := nI 1) dL_law_868 (by decide) ?_
  refine n_iadd (pc := 869) dL_law_869 ?_
  refine g_sld (pc := 870) ((6 * n) + 1) rfl dL_law_870 (IXn (by omega) (by omega)) ?_
  refine g_sload_n (pc := 871) 3 dL_law_871 rfl rfl ?_
  refine g_iload_n (pc := 872) 0 dL_law_872 rfl rfl ?_
  refine g_iconst (pc := 873) (v := nI 2) dL_law_873 (by decide) ?_
  refine n_iadd (pc := 874) dL_law_874 ?_
  refine g_sld (pc := 875) ((6 * n) + 2) rfl dL_law_875 (IXn (by omega) (by omega)) ?_
  refine g_callV (pc := 876) [.int (xs ((6 * n) + 1)), .int (xs ((6 * n) + 2))] dL_law_876 cv_L_103.1 cv_L_103.2.1 cv_L_103.2.2.1 cv_L_103.2.2.2 hY rfl rfl (Nat.le_of_ble_eq_true rfl) (by decide) (by decide) hE2 ?_
  rintro _ w2 ⟨rfl, hI⟩
  refine g_icmp_eq (pc := 879) 1251 dL_law_879 (by decide) (fun hb9 => ?_) (fun hb9 => ?_)
  · exact K w2 hI
  · exact absurd rfl hb9
theorem law_high {nm : String} {w0 w : Wd} {Q : Option Value → Wd → Prop} {L n X Y : Nat} {xs : Nat → Int32} (hL : L ≤ 3072) (hi : 6 * n + 6 ≤ L) (h : Inv n w X Y) (K : ∀ w2, Inv (n + 1) w2 X Y → BL nm L xs w0 Q w2 1251 [(3, .int (nI (6 * n))), (2, .ref Y), (1, .ref X), (0, .float 0)] []) : BL nm L xs w0 Q w 884 [(3, .int (nI (6 * n))), (2, .ref Y), (1, .ref X), (0, .float 0)] [] := by
  obtain ⟨fsX, hX⟩ := h.x
  refine g_aload_n (pc := 884) 2 dL_law_884 rfl rfl ?_
  refine g_sload_n (pc := 885) 3 dL_law_885 rfl rfl ?_
  refine g_iload_n (pc := 886) 0 dL_law_886 rfl rfl ?_
  refine g_iconst (pc := 887) (v := nI 1) dL_law_887 (by decide) ?_
  refine n_iadd (pc := 888) dL_law_888 ?_
  refine g_sld (pc := 889) ((6 * n) + 1) rfl dL_law_889 (IXn (by omega) (by omega)) ?_
  refine g_sload_n (pc := 890) 3 dL_law_890 rfl rfl ?_
  refine g_iload_n (pc := 891) 0 dL_law_891 rfl rfl ?_
  refine g_iconst (pc := 892) (v := nI 2) dL_law_892 (by decide) ?_
  refine n_iadd (pc := 893) dL_law_893 ?_
  refine g_sld (pc := 894) ((6 * n) + 2) rfl dL_law_894 (IXn (by omega) (by omega)) ?_
  refine g_callV (pc := 895) [.int (xs ((6 * n) + 1)), .int (xs ((6 * n) + 2))] dL_law_895 cv_L_104.1 cv_L_104.2.1 cv_L_104.2.2.1 cv_L_104.2.2.2 hX rfl rfl (Nat.le_of_ble_eq_true rfl) (by decide) (by decide) (ag_high h) ?_
  rintro _ w1 ⟨v, rfl, ⟨fsY, hY⟩, hE2⟩
  refine g_aload_n (pc := 898) 1 dL_law_898 rfl rfl ?_
  refine g_sload_n (pc := 899) 3 dL_law_899 rfl rfl ?_
  refine g_iload_n (pc := 900) 0 dL_law_900 rfl rfl ?_
  refine g_iconst (pc := 901) (v := nI 1) dL_law_901 (by decide) ?_
  refine n_iadd (pc := 902) dL_law_902 ?_
  refine g_sld (pc := 903) ((6 * n) + 1) rfl dL_law_903 (IXn (by omega) (by omega)) ?_
  refine g_sload_n (pc := 904) 3 dL_law_904 rfl rfl ?_
  refine g_iload_n (pc := 905) 0 dL_law_905 rfl rfl ?_
  refine g_iconst (pc := 906) (v := nI 2) dL_law_906 (by decide) ?_
  refine n_iadd (pc := 907) dL_law_907 ?_
  refine g_sld (pc := 908) ((6 * n) + 2) rfl dL_law_908 (IXn (by omega) (by omega)) ?_
  refine g_callV (pc := 909) [.int (xs ((6 * n) + 1)), .int (xs ((6 * n) + 2))] dL_law_909 cv_L_107.1 cv_L_107.2.1 cv_L_107.2.2.1 cv_L_107.2.2.2 hY rfl rfl (Nat.le_of_ble_eq_true rfl) (by decide) (by decide) hE2 ?_
  rintro _ w2 ⟨rfl, hI⟩
  refine g_icmp_eq (pc := 912) 1251 dL_law_912 (by decide) (fun hb9 => ?_) (fun hb9 => ?_)
  · exact K w2 hI
  · exact absurd rfl hb9
theorem law_enclosed {nm : String} {w0 w : Wd} {Q : Option Value → Wd → Prop} {L n X Y : Nat} {xs : Nat → Int32} (hL : L ≤ 3072) (hi : 6 * n + 6 ≤ L) (h : Inv n w X Y) (K : ∀ w2, Inv (n + 1) w2 X Y → BL nm L xs w0 Q w2 1251 [(3, .int (nI (6 * n))), (2, .ref Y), (1, .ref X), (0, .float 0)] []) : BL nm L xs w0 Q w 917 [(3, .int (nI (6 * n))), (2, .ref Y), (1, .ref X), (0, .float 0)] [] := by
  obtain ⟨fsX, hX⟩ := h.x
  refine g_aload_n (pc := 917) 2 dL_law_917 rfl rfl ?_
  refine g_sload_n (pc := 918) 3 dL_law_918 rfl rfl ?_
  refine g_iload_n (pc := 919) 0 dL_law_919 rfl rfl ?_
  refine g_iconst (pc := 920) (v := nI 1) dL_law_920 (by decide) ?_
  refine n_iadd (pc := 921) dL_law_921 ?_
  refine g_sld (pc := 922) ((6 * n) + 1) rfl dL_law_922 (IXn (by omega) (by omega)) ?_
  refine g_sload_n (pc := 923) 3 dL_law_923 rfl rfl ?_
  refine g_iload_n (pc := 924) 0 dL_law_924 rfl rfl ?_
  refine g_iconst (pc := 925) (v := nI 2) dL_law_925 (by decide) ?_
  refine n_iadd (pc := 926) dL_law_926 ?_
  refine g_sld (pc := 927) ((6 * n) + 2) rfl dL_law_927 (IXn (by omega) (by omega)) ?_
  refine g_callV (pc := 928) [.int (xs ((6 * n) + 1)), .int (xs ((6 * n) + 2))] dL_law_928 cv_L_108.1 cv_L_108.2.1 cv_L_108.2.2.1 cv_L_108.2.2.2 hX rfl rfl (Nat.le_of_ble_eq_true rfl) (by decide) (by decide) (ag_enclosed h) ?_
  rintro _ w1 ⟨v, rfl, ⟨fsY, hY⟩, hE2⟩
  refine g_aload_n (pc := 931) 1 dL_law_931 rfl rfl ?_
  refine g_sload_n (pc := 932) 3 dL_law_932 rfl rfl ?_
  refine g_iload_n (pc := 933) 0 dL_law_933 rfl rfl ?_
  refine g_iconst (pc := 934) (v := nI 1) dL_law_934 (by decide) ?_
  refine n_iadd (pc := 935) dL_law_935 ?_
  refine g_sld (pc := 936) ((6 * n) + 1) rfl dL_law_936 (IXn (by omega) (by omega)) ?_
  refine g_sload_n (pc := 937) 3 dL_law_937 rfl rfl ?_
  refine g_iload_n (pc := 938) 0 dL_law_938 rfl rfl ?_
  refine g_iconst (pc := 939) (v := nI 2) dL_law_939 (by decide) ?_
  refine n_iadd (pc := 940) dL_law_940 ?_
  refine g_sld (pc := 941) ((6 * n) + 2) rfl dL_law_941 (IXn (by omega) (by omega)) ?_
  refine g_callV (pc := 942) [.int (xs ((6 * n) + 1)), .int (xs ((6 * n) + 2))] dL_law_942 cv_L_111.1 cv_L_111.2.1 cv_L_111.2.2.1 cv_L_111.2.2.2 hY rfl rfl (Nat.le_of_ble_eq_true rfl) (by decide) (by decide) hE2 ?_
  rintro _ w2 ⟨rfl, hI⟩
  refine g_icmp_eq (pc := 945) 1251 dL_law_945 (by decide) (fun hb9 => ?_) (fun hb9 => ?_)
  · exact K w2 hI
  · exact absurd rfl hb9
theorem law_often {nm : String} {w0 w : Wd} {Q : Option Value → Wd → Prop} {L n X Y : Nat} {xs : Nat → Int32} (hL : L ≤ 3072) (hi : 6 * n + 6 ≤ L) (h : Inv n w X Y) (K : ∀ w2, Inv (n + 1) w2 X Y → BL nm L xs w0 Q w2 1251 [(3, .int (nI (6 * n))), (2, .ref Y), (1, .ref X), (0, .float 0)] []) : BL nm L xs w0 Q w 950 [(3, .int (nI (6 * n))), (2, .ref Y), (1, .ref X), (0, .float 0)] [] := by
  obtain ⟨fsX, hX⟩ := h.x
  refine g_aload_n (pc := 950) 2 dL_law_950 rfl rfl ?_
  refine g_sload_n (pc := 951) 3 dL_law_951 rfl rfl ?_
  refine g_iload_n (pc := 952) 0 dL_law_952 rfl rfl ?_
  refine g_iconst (pc := 953) (v := nI 1) dL_law_953 (by decide) ?_
  refine n_iadd (pc := 954) dL_law_954 ?_
  refine g_sld (pc := 955) ((6 * n) + 1) rfl dL_law_955 (IXn (by omega) (by omega)) ?_
  refine g_sload_n (pc := 956) 3 dL_law_956 rfl rfl ?_
  refine g_iload_n (pc := 957) 0 dL_law_957 rfl rfl ?_
  refine g_iconst (pc := 958) (v := nI 2) dL_law_958 (by decide) ?_
  refine n_iadd (pc := 959) dL_law_959 ?_
  refine g_sld (pc := 960) ((6 * n) + 2) rfl dL_law_960 (IXn (by omega) (by omega)) ?_
  refine g_callV (pc := 961) [.int (xs ((6 * n) + 1)), .int (xs ((6 * n) + 2))] dL_law_961 cv_L_112.1 cv_L_112.2.1 cv_L_112.2.2.1 cv_L_112.2.2.2 hX rfl rfl (Nat.le_of_ble_eq_true rfl) (by decide) (by decide) (ag_often h) ?_
  rintro _ w1 ⟨v, rfl, ⟨fsY, hY⟩, hE2⟩
  refine g_aload_n (pc := 964) 1 dL_law_964 rfl rfl ?_
  refine g_sload_n (pc := 965) 3 dL_law_965 rfl rfl ?_
  refine g_iload_n (pc := 966) 0 dL_law_966 rfl rfl ?_
  refine g_iconst (pc := 967) (v := nI 1) dL_law_967 (by decide) ?_
  refine n_iadd (pc := 968) dL_law_968 ?_
  refine g_sld (pc := 969) ((6 * n) + 1) rfl dL_law_969 (IXn (by omega) (by omega)) ?_
  refine g_sload_n (pc := 970) 3 dL_law_970 rfl rfl ?_
  refine g_iload_n (pc := 971) 0 dL_law_971 rfl rfl ?_
  refine g_iconst (pc := 972) (v := nI 2) dL_law_972 (by decide) ?_
  refine n_iadd (pc := 973) dL_law_973 ?_
  refine g_sld (pc := 974) ((6 * n) + 2) rfl dL_law_974 (IXn (by omega) (by omega)) ?_
  refine g_callV (pc := 975) [.int (xs ((6 * n) + 1)), .int (xs ((6 * n) + 2))] dL_law_975 cv_L_115.1 cv_L_115.2.1 cv_L_115.2.2.1 cv_L_115.2.2.2 hY rfl rfl (Nat.le_of_ble_eq_true rfl) (by decide) (by decide) hE2 ?_
  rintro _ w2 ⟨rfl, hI⟩
  refine g_icmp_eq (pc := 978) 1251 dL_law_978 (by decide) (fun hb9 => ?_) (fun hb9 => ?_)
  · exact K w2 hI
  · exact absurd rfl hb9
theorem law_value {nm : String} {w0 w : Wd} {Q : Option Value → Wd → Prop} {L n X Y : Nat} {xs : Nat → Int32} (hL : L ≤ 3072) (hi : 6 * n + 6 ≤ L) (h : Inv n w X Y) (K : ∀ w2, Inv (n + 1) w2 X Y → BL nm L xs w0 Q w2 1251 [(3, .int (nI (6 * n))), (2, .ref Y), (1, .ref X), (0, .float 0)] []) : BL nm L xs w0 Q w 983 [(3, .int (nI (6 * n))), (2, .ref Y), (1, .ref X), (0, .float 0)] [] := by
  obtain ⟨fsX, hX⟩ := h.x
  refine g_aload_n (pc := 983) 2 dL_law_983 rfl rfl ?_
  refine g_sload_n (pc := 984) 3 dL_law_984 rfl rfl ?_
  refine g_iload_n (pc := 985) 0 dL_law_985 rfl rfl ?_
  refine g_iconst (pc := 986) (v := nI 1) dL_law_986 (by decide) ?_
  refine n_iadd (pc := 987) dL_law_987 ?_
  refine g_sld (pc := 988) ((6 * n) + 1) rfl dL_law_988 (IXn (by omega) (by omega)) ?_
  refine g_sload_n (pc := 989) 3 dL_law_989 rfl rfl ?_
  refine g_iload_n (pc := 990) 0 dL_law_990 rfl rfl ?_
  refine g_iconst (pc := 991) (v := nI 2) dL_law_991 (by decide) ?_
  refine n_iadd (pc := 992) dL_law_992 ?_
  refine g_sld (pc := 993) ((6 * n) + 2) rfl dL_law_993 (IXn (by omega) (by omega)) ?_
  refine g_callV (pc := 994) [.int (xs ((6 * n) + 1)), .int (xs ((6 * n) + 2))] dL_law_994 cv_L_116.1 cv_L_116.2.1 cv_L_116.2.2.1 cv_L_116.2.2.2 hX rfl rfl (Nat.le_of_ble_eq_true rfl) (by decide) (by decide) (ag_value h) ?_
  rintro _ w1 ⟨v, rfl, ⟨fsY, hY⟩, hE2⟩
  refine g_aload_n (pc := 997) 1 dL_law_997 rfl rfl ?_
  refine g_sload_n (pc := 998) 3 dL_law_998 rfl rfl ?_
  refine g_iload_n (pc := 999) 0 dL_law_999 rfl rfl ?_
  refine g_iconst (pc := 1000) (v := nI 1) dL_law_1000 (by decide) ?_
  refine n_iadd (pc := 1001) dL_law_1001 ?_
  refine g_sld (pc := 1002) ((6 * n) + 1) rfl dL_law_1002 (IXn (by omega) (by omega)) ?_
  refine g_sload_n (pc := 1003) 3 dL_law_1003 rfl rfl ?_
  refine g_iload_n (pc := 1004) 0 dL_law_1004 rfl rfl ?_
  refine g_iconst (pc := 1005) (v := nI 2) dL_law_1005 (by decide) ?_
  refine n_iadd (pc := 1006) dL_law_1006 ?_
  refine g_sld (pc := 1007) ((6 * n) + 2) rfl dL_law_1007 (IXn (by omega) (by omega)) ?_
  refine g_callV (pc := 1008) [.int (xs ((6 * n) + 1)), .int (xs ((6 * n) + 2))] dL_law_1008 cv_L_120.1 cv_L_120.2.1 cv_L_120.2.2.1 cv_L_120.2.2.2 hY rfl rfl (Nat.le_of_ble_eq_true rfl) (by decide) (by decide) hE2 ?_
  rintro _ w2 ⟨rfl, hI⟩
  refine g_lcmp_eq (pc := 1011) 1251 dL_law_1011 dL_law_1012 (by decide) (fun hb9 => ?_) (fun hb9 => ?_)
  · exact K w2 hI
  · exact absurd rfl hb9
theorem law_roots {nm : String} {w0 w : Wd} {Q : Option Value → Wd → Prop} {L n X Y : Nat} {xs : Nat → Int32} (hL : L ≤ 3072) (hi : 6 * n + 6 ≤ L) (h : Inv n w X Y) (K : ∀ w2, Inv (n + 1) w2 X Y → BL nm L xs w0 Q w2 1251 [(3, .int (nI (6 * n))), (2, .ref Y), (1, .ref X), (0, .float 0)] []) : BL nm L xs w0 Q w 1017 [(3, .int (nI (6 * n))), (2, .ref Y), (1, .ref X), (0, .float 0)] [] := by
  obtain ⟨fsX, hX⟩ := h.x
  refine g_aload_n (pc := 1017) 2 dL_law_1017 rfl rfl ?_
  refine g_sload_n (pc := 1018) 3 dL_law_1018 rfl rfl ?_
  refine g_iload_n (pc := 1019) 0 dL_law_1019 rfl rfl ?_
  refine g_iconst (pc := 1020) (v := nI 1) dL_law_1020 (by decide) ?_
  refine n_iadd (pc := 1021) dL_law_1021 ?_
  refine g_sld (pc := 1022) ((6 * n) + 1) rfl dL_law_1022 (IXn (by omega) (by omega)) ?_
  refine g_sload_n (pc := 1023) 3 dL_law_1023 rfl rfl ?_
  refine g_iload_n (pc := 1024) 0 dL_law_1024 rfl rfl ?_
  refine g_iconst (pc := 1025) (v := nI 2) dL_law_1025 (by decide) ?_
  refine n_iadd (pc := 1026) dL_law_1026 ?_
  refine g_sld (pc := 1027) ((6 * n) + 2) rfl dL_law_1027 (IXn (by omega) (by omega)) ?_
  refine g_callV (pc := 1028) [.int (xs ((6 * n) + 1)), .int (xs ((6 * n) + 2))] dL_law_1028 cv_L_121.1 cv_L_121.2.1 cv_L_121.2.2.1 cv_L_121.2.2.2 hX rfl rfl (Nat.le_of_ble_eq_true rfl) (by decide) (by decide) (ag_roots h) ?_
  rintro _ w1 ⟨v, rfl, ⟨fsY, hY⟩, hE2⟩
  refine g_aload_n (pc := 1031) 1 dL_law_1031 rfl rfl ?_
  refine g_sload_n (pc := 1032) 3 dL_law_1032 rfl rfl ?_
  refine g_iload_n (pc := 1033) 0 dL_law_1033 rfl rfl ?_
  refine g_iconst (pc := 1034) (v := nI 1) dL_law_1034 (by decide) ?_
  refine n_iadd (pc := 1035) dL_law_1035 ?_
  refine g_sld (pc := 1036) ((6 * n) + 1) rfl dL_law_1036 (IXn (by omega) (by omega)) ?_
  refine g_sload_n (pc := 1037) 3 dL_law_1037 rfl rfl ?_
  refine g_iload_n (pc := 1038) 0 dL_law_1038 rfl rfl ?_
  refine g_iconst (pc := 1039) (v := nI 2) dL_law_1039 (by decide) ?_
  refine n_iadd (pc := 1040) dL_law_1040 ?_
  refine g_sld (pc := 1041) ((6 * n) + 2) rfl dL_law_1041 (IXn (by omega) (by omega)) ?_
  refine g_callV (pc := 1042) [.int (xs ((6 * n) + 1)), .int (xs ((6 * n) + 2))] dL_law_1042 cv_L_124.1 cv_L_124.2.1 cv_L_124.2.2.1 cv_L_124.2.2.2 hY rfl rfl (Nat.le_of_ble_eq_true rfl) (by decide) (by decide) hE2 ?_
  rintro _ w2 ⟨rfl, hI⟩
  refine g_icmp_eq (pc := 1045) 1251 dL_law_1045 (by decide) (fun hb9 => ?_) (fun hb9 => ?_)
  · exact K w2 hI
  · exact absurd rfl hb9
theorem law_compare {nm : String} {w0 w : Wd} {Q : Option Value → Wd → Prop} {L n X Y : Nat} {xs : Nat → Int32} (hL : L ≤ 3072) (hi : 6 * n + 6 ≤ L) (h : Inv n w X Y) (K : ∀ w2, Inv (n + 1) w2 X Y → BL nm L xs w0 Q w2 1251 [(3, .int (nI (6 * n))), (2, .ref Y), (1, .ref X), (0, .float 0)] []) : BL nm L xs w0 Q w 1050 [(3, .int (nI (6 * n))), (2, .ref Y), (1, .ref X), (0, .float 0)] [] := by
  obtain ⟨fsX, hX⟩ := h.x
  refine g_aload_n (pc := 1050) 2 dL_law_1050 rfl rfl ?_
  refine g_sload_n (pc := 1051) 3 dL_law_1051 rfl rfl ?_
  refine g_iload_n (pc := 1052) 0 dL_law_1052 rfl rfl ?_
  refine g_iconst (pc := 1053) (v := nI 1) dL_law_1053 (by decide) ?_
  refine n_iadd (pc := 1054) dL_law_1054 ?_
  refine g_sld (pc := 1055) ((6 * n) + 1) rfl dL_law_1055 (IXn (by omega) (by omega)) ?_
  refine g_sload_n (pc := 1056) 3 dL_law_1056 rfl rfl ?_
  refine g_iload_n (pc := 1057) 0 dL_law_1057 rfl rfl ?_
  refine g_iconst (pc := 1058) (v := nI 2) dL_law_1058 (by decide) ?_
  refine n_iadd (pc := 1059) dL_law_1059 ?_
  refine g_sld (pc := 1060) ((6 * n) + 2) rfl dL_law_1060 (IXn (by omega) (by omega)) ?_
  refine g_sload_n (pc := 1061) 3 dL_law_1061 rfl rfl ?_
  refine g_iload_n (pc := 1062) 0 dL_law_1062 rfl rfl ?_
  refine g_iconst (pc := 1063) (v := nI 3) dL_law_1063 (by decide) ?_
  refine n_iadd (pc := 1064) dL_law_1064 ?_
  refine g_sld (pc := 1065) ((6 * n) + 3) rfl dL_law_1065 (IXn (by omega) (by omega)) ?_
  refine g_callV (pc := 1066) [.int (xs ((6 * n) + 1)), .int (xs ((6 * n) + 2)), .int (xs ((6 * n) + 3))] dL_law_1066 cv_L_125.1 cv_L_125.2.1 cv_L_125.2.2.1 cv_L_125.2.2.2 hX rfl rfl (Nat.le_of_ble_eq_true rfl) (by decide) (by decide) (ag_compare h) ?_
  rintro _ w1 ⟨v, rfl, ⟨fsY, hY⟩, hE2⟩
  refine g_aload_n (pc := 1069) 1 dL_law_1069 rfl rfl ?_
  refine g_sload_n (pc := 1070) 3 dL_law_1070 rfl rfl ?_
  refine g_iload_n (pc := 1071) 0 dL_law_1071 rfl rfl ?_
  refine g_iconst (pc := 1072) (v := nI 1) dL_law_1072 (by decide) ?_
  refine n_iadd (pc := 1073) dL_law_1073 ?_
  refine g_sld (pc := 1074) ((6 * n) + 1) rfl dL_law_1074 (IXn (by omega) (by omega)) ?_
  refine g_sload_n (pc := 1075) 3 dL_law_1075 rfl rfl ?_
  refine g_iload_n (pc := 1076) 0 dL_law_1076 rfl rfl ?_
  refine g_iconst (pc := 1077) (v := nI 2) dL_law_1077 (by decide) ?_
  refine n_iadd (pc := 1078) dL_law_1078 ?_
  refine g_sld (pc := 1079) ((6 * n) + 2) rfl dL_law_1079 (IXn (by omega) (by omega)) ?_
  refine g_sload_n (pc := 1080) 3 dL_law_1080 rfl rfl ?_
  refine g_iload_n (pc := 1081) 0 dL_law_1081 rfl rfl ?_
  refine g_iconst (pc := 1082) (v := nI 3) dL_law_1082 (by decide) ?_
  refine n_iadd (pc := 1083) dL_law_1083 ?_
  refine g_sld (pc := 1084) ((6 * n) + 3) rfl dL_law_1084 (IXn (by omega) (by omega)) ?_
  refine g_callV (pc := 1085) [.int (xs ((6 * n) + 1)), .int (xs ((6 * n) + 2)), .int (xs ((6 * n) + 3))] dL_law_1085 cv_L_128.1 cv_L_128.2.1 cv_L_128.2.2.1 cv_L_128.2.2.2 hY rfl rfl (Nat.le_of_ble_eq_true rfl) (by decide) (by decide) hE2 ?_
  rintro _ w2 ⟨rfl, hI⟩
  refine g_icmp_eq (pc := 1088) 1251 dL_law_1088 (by decide) (fun hb9 => ?_) (fun hb9 => ?_)
  · exact K w2 hI
  · exact absurd rfl hb9
theorem law_surely {nm : String} {w0 w : Wd} {Q : Option Value → Wd → Prop} {L n X Y : Nat} {xs : Nat → Int32} (hL : L ≤ 3072) (hi : 6 * n + 6 ≤ L) (h : Inv n w X Y) (K : ∀ w2, Inv (n + 1) w2 X Y → BL nm L xs w0 Q w2 1251 [(3, .int (nI (6 * n))), (2, .ref Y), (1, .ref X), (0, .float 0)] []) : BL nm L xs w0 Q w 1093 [(3, .int (nI (6 * n))), (2, .ref Y), (1, .ref X), (0, .float 0)] [] := by
  obtain ⟨fsX, hX⟩ := h.x
  refine g_aload_n (pc := 1093) 2 dL_law_1093 rfl rfl ?_
  refine g_sload_n (pc := 1094) 3 dL_law_1094 rfl rfl ?_
  refine g_iload_n (pc := 1095) 0 dL_law_1095 rfl rfl ?_
  refine g_iconst (pc := 1096) (v := nI 1) dL_law_1096 (by decide) ?_
  refine n_iadd (pc := 1097) dL_law_1097 ?_
  refine g_sld (pc := 1098) ((6 * n) + 1) rfl dL_law_1098 (IXn (by omega) (by omega)) ?_
  refine g_sload_n (pc := 1099) 3 dL_law_1099 rfl rfl ?_
  refine g_iload_n (pc := 1100) 0 dL_law_1100 rfl rfl ?_
  refine g_iconst (pc := 1101) (v := nI 2) dL_law_1101 (by decide) ?_
  refine n_iadd (pc := 1102) dL_law_1102 ?_
  refine g_sld (pc := 1103) ((6 * n) + 2) rfl dL_law_1103 (IXn (by omega) (by omega)) ?_
  refine g_sload_n (pc := 1104) 3 dL_law_1104 rfl rfl ?_
  refine g_iload_n (pc := 1105) 0 dL_law_1105 rfl rfl ?_
  refine g_iconst (pc := 1106) (v := nI 3) dL_law_1106 (by decide) ?_
  refine n_iadd (pc := 1107) dL_law_1107 ?_
  refine g_sld (pc := 1108) ((6 * n) + 3) rfl dL_law_1108 (IXn (by omega) (by omega)) ?_
  refine g_callV (pc := 1109) [.int (xs ((6 * n) + 1)), .int (xs ((6 * n) + 2)), .int (xs ((6 * n) + 3))] dL_law_1109 cv_L_129.1 cv_L_129.2.1 cv_L_129.2.2.1 cv_L_129.2.2.2 hX rfl rfl (Nat.le_of_ble_eq_true rfl) (by decide) (by decide) (ag_surely h) ?_
  rintro _ w1 ⟨v, rfl, ⟨fsY, hY⟩, hE2⟩
  refine g_aload_n (pc := 1112) 1 dL_law_1112 rfl rfl ?_
  refine g_sload_n (pc := 1113) 3 dL_law_1113 rfl rfl ?_
  refine g_iload_n (pc := 1114) 0 dL_law_1114 rfl rfl ?_
  refine g_iconst (pc := 1115) (v := nI 1) dL_law_1115 (by decide) ?_
  refine n_iadd (pc := 1116) dL_law_1116 ?_
  refine g_sld (pc := 1117) ((6 * n) + 1) rfl dL_law_1117 (IXn (by omega) (by omega)) ?_
  refine g_sload_n (pc := 1118) 3 dL_law_1118 rfl rfl ?_
  refine g_iload_n (pc := 1119) 0 dL_law_1119 rfl rfl ?_
  refine g_iconst (pc := 1120) (v := nI 2) dL_law_1120 (by decide) ?_
  refine n_iadd (pc := 1121) dL_law_1121 ?_
  refine g_sld (pc := 1122) ((6 * n) + 2) rfl dL_law_1122 (IXn (by omega) (by omega)) ?_
  refine g_sload_n (pc := 1123) 3 dL_law_1123 rfl rfl ?_
  refine g_iload_n (pc := 1124) 0 dL_law_1124 rfl rfl ?_
  refine g_iconst (pc := 1125) (v := nI 3) dL_law_1125 (by decide) ?_
  refine n_iadd (pc := 1126) dL_law_1126 ?_
  refine g_sld (pc := 1127) ((6 * n) + 3) rfl dL_law_1127 (IXn (by omega) (by omega)) ?_
  refine g_callV (pc := 1128) [.int (xs ((6 * n) + 1)), .int (xs ((6 * n) + 2)), .int (xs ((6 * n) + 3))] dL_law_1128 cv_L_132.1 cv_L_132.2.1 cv_L_132.2.2.1 cv_L_132.2.2.2 hY rfl rfl (Nat.le_of_ble_eq_true rfl) (by decide) (by decide) hE2 ?_
  rintro _ w2 ⟨rfl, hI⟩
  refine g_icmp_eq (pc := 1131) 1251 dL_law_1131 (by decide) (fun hb9 => ?_) (fun hb9 => ?_)
  · exact K w2 hI
  · exact absurd rfl hb9
theorem law_least {nm : String} {w0 w : Wd} {Q : Option Value → Wd → Prop} {L n X Y : Nat} {xs : Nat → Int32} (HL : AGL) (hL : L ≤ 3072) (hi : 6 * n + 6 ≤ L) (h : Inv n w X Y) (K : ∀ w2, Inv (n + 1) w2 X Y → BL nm L xs w0 Q w2 1251 [(3, .int (nI (6 * n))), (2, .ref Y), (1, .ref X), (0, .float 0)] []) : BL nm L xs w0 Q w 1136 [(3, .int (nI (6 * n))), (2, .ref Y), (1, .ref X), (0, .float 0)] [] := by
  obtain ⟨fsX, hX⟩ := h.x
  refine g_aload_n (pc := 1136) 2 dL_law_1136 rfl rfl ?_
  refine g_sload_n (pc := 1137) 3 dL_law_1137 rfl rfl ?_
  refine g_iload_n (pc := 1138) 0 dL_law_1138 rfl rfl ?_
  refine g_iconst (pc := 1139) (v := nI 1) dL_law_1139 (by decide) ?_
  refine n_iadd (pc := 1140) dL_law_1140 ?_
  refine g_sld (pc := 1141) ((6 * n) + 1) rfl dL_law_1141 (IXn (by omega) (by omega)) ?_
  refine g_callV (pc := 1142) [.int (xs ((6 * n) + 1))] dL_law_1142 cv_L_133.1 cv_L_133.2.1 cv_L_133.2.2.1 cv_L_133.2.2.2 hX rfl rfl (Nat.le_of_ble_eq_true rfl) (by decide) (by decide) (HL _ _ _ _ h _) ?_
  rintro _ w1 ⟨v, rfl, ⟨fsY, hY⟩, hE2⟩
  refine g_aload_n (pc := 1145) 1 dL_law_1145 rfl rfl ?_
  refine g_sload_n (pc := 1146) 3 dL_law_1146 rfl rfl ?_
  refine g_iload_n (pc := 1147) 0 dL_law_1147 rfl rfl ?_
  refine g_iconst (pc := 1148) (v := nI 1) dL_law_1148 (by decide) ?_
  refine n_iadd (pc := 1149) dL_law_1149 ?_
  refine g_sld (pc := 1150) ((6 * n) + 1) rfl dL_law_1150 (IXn (by omega) (by omega)) ?_
  refine g_callV (pc := 1151) [.int (xs ((6 * n) + 1))] dL_law_1151 cv_L_136.1 cv_L_136.2.1 cv_L_136.2.2.1 cv_L_136.2.2.2 hY rfl rfl (Nat.le_of_ble_eq_true rfl) (by decide) (by decide) hE2 ?_
  rintro _ w2 ⟨rfl, hI⟩
  refine g_icmp_eq (pc := 1154) 1251 dL_law_1154 (by decide) (fun hb9 => ?_) (fun hb9 => ?_)
  · exact K w2 hI
  · exact absurd rfl hb9
theorem law_found {nm : String} {w0 w : Wd} {Q : Option Value → Wd → Prop} {L n X Y : Nat} {xs : Nat → Int32} (hL : L ≤ 3072) (hi : 6 * n + 6 ≤ L) (h : Inv n w X Y) (K : ∀ w2, Inv (n + 1) w2 X Y → BL nm L xs w0 Q w2 1251 [(3, .int (nI (6 * n))), (2, .ref Y), (1, .ref X), (0, .float 0)] []) : BL nm L xs w0 Q w 1159 [(3, .int (nI (6 * n))), (2, .ref Y), (1, .ref X), (0, .float 0)] [] := by
  obtain ⟨fsX, hX⟩ := h.x
  refine g_aload_n (pc := 1159) 2 dL_law_1159 rfl rfl ?_
  refine g_sload_n (pc := 1160) 3 dL_law_1160 rfl rfl ?_
  refine g_iload_n (pc := 1161) 0 dL_law_1161 rfl rfl ?_
  refine g_iconst (pc := 1162) (v := nI 1) dL_law_1162 (by decide) ?_
  refine n_iadd (pc := 1163) dL_law_1163 ?_
  refine g_sld (pc := 1164) ((6 * n) + 1) rfl dL_law_1164 (IXn (by omega) (by omega)) ?_
  refine g_sload_n (pc := 1165) 3 dL_law_1165 rfl rfl ?_
  refine g_iload_n (pc := 1166) 0 dL_law_1166 rfl rfl ?_
  refine g_iconst (pc := 1167) (v := nI 2) dL_law_1167 (by decide) ?_
  refine n_iadd (pc := 1168) dL_law_1168 ?_
  refine g_sld (pc := 1169) ((6 * n) + 2) rfl dL_law_1169 (IXn (by omega) (by omega)) ?_
  refine g_callV (pc := 1170) [.int (xs ((6 * n) + 1)), .int (xs ((6 * n) + 2))] dL_law_1170 cv_L_137.1 cv_L_137.2.1 cv_L_137.2.2.1 cv_L_137.2.2.2 hX rfl rfl (Nat.le_of_ble_eq_true rfl) (by decide) (by decide) (ag_found h) ?_
  rintro _ w1 ⟨v, rfl, ⟨fsY, hY⟩, hE2⟩
  refine g_aload_n (pc := 1173) 1 dL_law_1173 rfl rfl ?_
  refine g_sload_n (pc := 1174) 3 dL_law_1174 rfl rfl ?_
  refine g_iload_n (pc := 1175) 0 dL_law_1175 rfl rfl ?_
  refine g_iconst (pc := 1176) (v := nI 1) dL_law_1176 (by decide) ?_
  refine n_iadd (pc := 1177) dL_law_1177 ?_
  refine g_sld (pc := 1178) ((6 * n) + 1) rfl dL_law_1178 (IXn (by omega) (by omega)) ?_
  refine g_sload_n (pc := 1179) 3 dL_law_1179 rfl rfl ?_
  refine g_iload_n (pc := 1180) 0 dL_law_1180 rfl rfl ?_
  refine g_iconst (pc := 1181) (v := nI 2) dL_law_1181 (by decide) ?_
  refine n_iadd (pc := 1182) dL_law_1182 ?_
  refine g_sld (pc := 1183) ((6 * n) + 2) rfl dL_law_1183 (IXn (by omega) (by omega)) ?_
  refine g_callV (pc := 1184) [.int (xs ((6 * n) + 1)), .int (xs ((6 * n) + 2))] dL_law_1184 cv_L_140.1 cv_L_140.2.1 cv_L_140.2.2.1 cv_L_140.2.2.2 hY rfl rfl (Nat.le_of_ble_eq_true rfl) (by decide) (by decide) hE2 ?_
  rintro _ w2 ⟨rfl, hI⟩
  refine g_icmp_eq (pc := 1187) 1251 dL_law_1187 (by decide) (fun hb9 => ?_) (fun hb9 => ?_)
  · exact K w2 hI
  · exact absurd rfl hb9
theorem law_smallest {nm : String} {w0 w : Wd} {Q : Option Value → Wd → Prop} {L n X Y : Nat} {xs : Nat → Int32} (hL : L ≤ 3072) (hi : 6 * n + 6 ≤ L) (h : Inv n w X Y) (K : ∀ w2, Inv (n + 1) w2 X Y → BL nm L xs w0 Q w2 1251 [(3, .int (nI (6 * n))), (2, .ref Y), (1, .ref X), (0, .float 0)] []) : BL nm L xs w0 Q w 1192 [(3, .int (nI (6 * n))), (2, .ref Y), (1, .ref X), (0, .float 0)] [] := by
  obtain ⟨fsX, hX⟩ := h.x
  refine g_aload_n (pc := 1192) 2 dL_law_1192 rfl rfl ?_
  refine g_sload_n (pc := 1193) 3 dL_law_1193 rfl rfl ?_
  refine g_iload_n (pc := 1194) 0 dL_law_1194 rfl rfl ?_
  refine g_iconst (pc := 1195) (v := nI 1) dL_law_1195 (by decide) ?_
  refine n_iadd (pc := 1196) dL_law_1196 ?_
  refine g_sld (pc := 1197) ((6 * n) + 1) rfl dL_law_1197 (IXn (by omega) (by omega)) ?_
  refine g_callV (pc := 1198) [.int (xs ((6 * n) + 1))] dL_law_1198 cv_L_141.1 cv_L_141.2.1 cv_L_141.2.2.1 cv_L_141.2.2.2 hX rfl rfl (Nat.le_of_ble_eq_true rfl) (by decide) (by decide) (ag_smallest h) ?_
  rintro _ w1 ⟨v, rfl, ⟨fsY, hY⟩, hE2⟩
  refine g_aload_n (pc := 1201) 1 dL_law_1201 rfl rfl ?_
  refine g_sload_n (pc := 1202) 3 dL_law_1202 rfl rfl ?_
  refine g_iload_n (pc := 1203) 0 dL_law_1203 rfl rfl ?_
  refine g_iconst (pc := 1204) (v := nI 1) dL_law_1204 (by decide) ?_
  refine n_iadd (pc := 1205) dL_law_1205 ?_
  refine g_sld (pc := 1206) ((6 * n) + 1) rfl dL_law_1206 (IXn (by omega) (by omega)) ?_
  refine g_callV (pc := 1207) [.int (xs ((6 * n) + 1))] dL_law_1207 cv_L_144.1 cv_L_144.2.1 cv_L_144.2.2.1 cv_L_144.2.2.2 hY rfl rfl (Nat.le_of_ble_eq_true rfl) (by decide) (by decide) hE2 ?_
  rintro _ w2 ⟨rfl, hI⟩
  refine g_icmp_eq (pc := 1210) 1251 dL_law_1210 (by decide) (fun hb9 => ?_) (fun hb9 => ?_)
  · exact K w2 hI
  · exact absurd rfl hb9
theorem law_count {nm : String} {w0 w : Wd} {Q : Option Value → Wd → Prop} {L n X Y : Nat} {xs : Nat → Int32} (hL : L ≤ 3072) (hi : 6 * n + 6 ≤ L) (h : Inv n w X Y) (K : ∀ w2, Inv (n + 1) w2 X Y → BL nm L xs w0 Q w2 1251 [(3, .int (nI (6 * n))), (2, .ref Y), (1, .ref X), (0, .float 0)] []) : BL nm L xs w0 Q w 1215 [(3, .int (nI (6 * n))), (2, .ref Y), (1, .ref X), (0, .float 0)] [] := by
  obtain ⟨fsX, hX⟩ := h.x
  refine g_aload_n (pc := 1215) 2 dL_law_1215 rfl rfl ?_
  refine g_sload_n (pc := 1216) 3 dL_law_1216 rfl rfl ?_
  refine g_iload_n (pc := 1217) 0 dL_law_1217 rfl rfl ?_
  refine g_iconst (pc := 1218) (v := nI 1) dL_law_1218 (by decide) ?_
  refine n_iadd (pc := 1219) dL_law_1219 ?_
  refine g_sld (pc := 1220) ((6 * n) + 1) rfl dL_law_1220 (IXn (by omega) (by omega)) ?_
  refine g_callV (pc := 1221) [.int (xs ((6 * n) + 1))] dL_law_1221 cv_L_145.1 cv_L_145.2.1 cv_L_145.2.2.1 cv_L_145.2.2.2 hX rfl rfl (Nat.le_of_ble_eq_true rfl) (by decide) (by decide) (ag_count h) ?_
  rintro _ w1 ⟨v, rfl, ⟨fsY, hY⟩, hE2⟩
  refine g_aload_n (pc := 1224) 1 dL_law_1224 rfl rfl ?_
  refine g_sload_n (pc := 1225) 3 dL_law_1225 rfl rfl ?_
  refine g_iload_n (pc := 1226) 0 dL_law_1226 rfl rfl ?_
  refine g_iconst (pc := 1227) (v := nI 1) dL_law_1227 (by decide) ?_
  refine n_iadd (pc := 1228) dL_law_1228 ?_
  refine g_sld (pc := 1229) ((6 * n) + 1) rfl dL_law_1229 (IXn (by omega) (by omega)) ?_
  refine g_callV (pc := 1230) [.int (xs ((6 * n) + 1))] dL_law_1230 cv_L_148.1 cv_L_148.2.1 cv_L_148.2.2.1 cv_L_148.2.2.2 hY rfl rfl (Nat.le_of_ble_eq_true rfl) (by decide) (by decide) hE2 ?_
  rintro _ w2 ⟨rfl, hI⟩
  refine g_icmp_eq (pc := 1233) 1251 dL_law_1233 (by decide) (fun hb9 => ?_) (fun hb9 => ?_)
  · exact K w2 hI
  · exact absurd rfl hb9
theorem law_status {nm : String} {w0 w : Wd} {Q : Option Value → Wd → Prop} {L n X Y : Nat} {xs : Nat → Int32} (hL : L ≤ 3072) (hi : 6 * n + 6 ≤ L) (h : Inv n w X Y) (K : ∀ w2, Inv (n + 1) w2 X Y → BL nm L xs w0 Q w2 1251 [(3, .int (nI (6 * n))), (2, .ref Y), (1, .ref X), (0, .float 0)] []) : BL nm L xs w0 Q w 1238 [(3, .int (nI (6 * n))), (2, .ref Y), (1, .ref X), (0, .float 0)] [] := by
  obtain ⟨fsX, hX⟩ := h.x
  refine g_aload_n (pc := 1238) 2 dL_law_1238 rfl rfl ?_
  refine g_callV (pc := 1239) [] dL_law_1239 cv_L_149.1 cv_L_149.2.1 cv_L_149.2.2.1 cv_L_149.2.2.2 hX rfl rfl (Nat.le_of_ble_eq_true rfl) (by decide) (by decide) (ag_status h) ?_
  rintro _ w1 ⟨v, rfl, ⟨fsY, hY⟩, hE2⟩
  refine g_aload_n (pc := 1242) 1 dL_law_1242 rfl rfl ?_
  refine g_callV (pc := 1243) [] dL_law_1243 cv_L_152.1 cv_L_152.2.1 cv_L_152.2.2.1 cv_L_152.2.2.2 hY rfl rfl (Nat.le_of_ble_eq_true rfl) (by decide) (by decide) hE2 ?_
  rintro _ w2 ⟨rfl, hI⟩
  refine g_icmp_eq (pc := 1246) 1251 dL_law_1246 (by decide) (fun hb9 => ?_) (fun hb9 => ?_)
  · exact K w2 hI
  · exact absurd rfl hb9
theorem and63 (x : Int32) : ∃ k : Nat, k < 64 ∧ x &&& nI 63 = nI k := by
  have e : (x &&& nI 63).toBitVec.toNat = x.toUInt32.toNat % 64 := by
    rw [Int32.toBitVec_and, BitVec.toNat_and]
    exact Nat.and_two_pow_sub_one_eq_mod (n := 6) _
  have h : x.toUInt32.toNat % 64 < 64 := Nat.mod_lt _ (by decide)
  refine ⟨x.toUInt32.toNat % 64, h, ?_⟩
  apply Int32.toInt_inj.mp
  rw [nI_toInt (by omega)]
  show (x &&& nI 63).toBitVec.toInt = _
  rw [BitVec.toInt_eq_toNat_bmod, e]
  exact bmod32 (by omega) (by omega)
theorem Inv.up {n : Nat} {w : Wd} {X Y : Nat} (h : Inv n w X Y) : Inv (n + 1) w X Y := by
  obtain ⟨h1, h2, ⟨h3, h4⟩, h5⟩ := h
  exact ⟨h1, h2, ⟨by omega, by omega⟩, h5⟩
theorem law_loop {nm : String} {w0 : Wd} {L X Y : Nat} {xs : Nat → Int32} (HL : AGL) (hL : L ≤ 3072) : ∀ (z n : Nat) (w : Wd), n + z = 512 → Inv n w X Y → BL nm L xs w0 (fun r w' => r = some (.int 1) ∧ w'.length ≤ 600000 ∧ slW w' ≤ 7302250) w 18 [(3, .int (nI (6 * n))), (2, .ref Y), (1, .ref X), (0, .float 0)] [] := by
  intro z
  induction z with
  | zero =>
    intro n w hz h
    have hlt : ∀ m : Nat, m < 2147483648 → ((nI L - nI 6 < nI m) ↔ L < m + 6) := fun m hm => by
      rw [Int32.lt_iff_toInt_lt, I_sub (x := nI L) (y := nI 6) (by rw [nI_toInt (by omega), nI_toInt (by omega)]; omega) (by rw [nI_toInt (by omega), nI_toInt (by omega)]; omega), nI_toInt (by omega), nI_toInt (by omega), nI_toInt hm]
      omega
    refine g_iload_n (pc := 18) 0 dL_law_18 rfl rfl ?_
    refine g_sload_n (pc := 19) 3 dL_law_19 rfl rfl ?_
    refine g_slen (pc := 20) rfl dL_law_20 ?_
    refine g_bipush (pc := 21) (v := nI 6) dL_law_21 (by decide) ?_
    refine g_isub (pc := 23) dL_law_23 ?_
    refine g_icmp_gt (pc := 24) 1257 dL_law_24 (by decide) (fun hb9 => ?_) (fun hb9 => ?_)
    · refine g_iconst (pc := 1257) (v := nI 1) dL_law_1257 (by decide) ?_
      obtain ⟨-, -, ⟨r1, r2⟩, -⟩ := h
      exact g_iret (pc := 1258) dL_law_1258 ⟨rfl, by omega, by omega⟩
    · rw [hlt _ (by omega)] at hb9
      exact absurd hb9 (by omega)
  | succ z ih =>
    intro n w hz h
    have hlt : ∀ m : Nat, m < 2147483648 → ((nI L - nI 6 < nI m) ↔ L < m + 6) := fun m hm => by
      rw [Int32.lt_iff_toInt_lt, I_sub (x := nI L) (y := nI 6) (by rw [nI_toInt (by omega), nI_toInt (by omega)]; omega) (by rw [nI_toInt (by omega), nI_toInt (by omega)]; omega), nI_toInt (by omega), nI_toInt (by omega), nI_toInt hm]
      omega
    refine g_iload_n (pc := 18) 0 dL_law_18 rfl rfl ?_
    refine g_sload_n (pc := 19) 3 dL_law_19 rfl rfl ?_
    refine g_slen (pc := 20) rfl dL_law_20 ?_
    refine g_bipush (pc := 21) (v := nI 6) dL_law_21 (by decide) ?_
    refine g_isub (pc := 23) dL_law_23 ?_
    refine g_icmp_gt (pc := 24) 1257 dL_law_24 (by decide) (fun hb9 => ?_) (fun hb9 => ?_)
    · refine g_iconst (pc := 1257) (v := nI 1) dL_law_1257 (by decide) ?_
      obtain ⟨-, -, ⟨r1, r2⟩, -⟩ := h
      exact g_iret (pc := 1258) dL_law_1258 ⟨rfl, by omega, by omega⟩
    · rw [hlt _ (by omega)] at hb9
      have hi : 6 * n + 6 ≤ L := by omega
      refine g_sload_n (pc := 27) 3 dL_law_27 rfl rfl ?_
      refine g_iload_n (pc := 28) 0 dL_law_28 rfl rfl ?_
      refine g_sld (pc := 29) (6 * n) rfl dL_law_29 (IXn (by omega) (by omega)) ?_
      refine g_bipush (pc := 30) (v := nI 63) dL_law_30 (by decide) ?_
      refine g_iand (pc := 32) dL_law_32 ?_
      obtain ⟨k, hk, ek⟩ := and63 (xs (6 * n))
      refine GP.ti (nI k) ek ?_
      have K : ∀ w2, Inv (n + 1) w2 X Y → BL nm L xs w0 (fun r w' => r = some (.int 1) ∧ w'.length ≤ 600000 ∧ slW w' ≤ 7302250) w2 1251 [(3, .int (nI (6 * n))), (2, .ref Y), (1, .ref X), (0, .float 0)] [] := fun w2 h2 => by
        refine n_iinc (pc := 1251) (c := 6) [(3, .int (nI ((6 * n) + 6))), (2, .ref Y), (1, .ref X), (0, .float 0)] 0 dL_law_1251 rfl (by decide) (by decide) rfl ?_
        refine g_goto (pc := 1254) 18 dL_law_1254 (by decide) ?_
        rw [show 6 * n + 6 = 6 * (n + 1) by omega]
        exact ih (n + 1) w2 (by omega) h2
      rcases Nat.lt_or_ge k 33 with hk9 | hk9
      · rcases (show k = 0 ∨ k = 1 ∨ k = 2 ∨ k = 3 ∨ k = 4 ∨ k = 5 ∨ k = 6 ∨ k = 7 ∨ k = 8 ∨ k = 9 ∨ k = 10 ∨ k = 11 ∨ k = 12 ∨ k = 13 ∨ k = 14 ∨ k = 15 ∨ k = 16 ∨ k = 17 ∨ k = 18 ∨ k = 19 ∨ k = 20 ∨ k = 21 ∨ k = 22 ∨ k = 23 ∨ k = 24 ∨ k = 25 ∨ k = 26 ∨ k = 27 ∨ k = 28 ∨ k = 29 ∨ k = 30 ∨ k = 31 ∨ k = 32 by omega) with rfl | rfl | rfl | rfl | rfl | rfl | rfl | rfl | rfl | rfl | rfl | rfl | rfl | rfl | rfl | rfl | rfl | rfl | rfl | rfl | rfl | rfl | rfl | rfl | rfl | rfl | rfl | rfl | rfl | rfl | rfl | rfl | rfl
        · exact g_tabIn (pc := 33) (off := 147) 180 dL_law_33 (by decide) (by decide) (by decide) (by decide) (law_feed hL hi h K)
        · exact g_tabIn (pc := 33) (off := 210) 243 dL_law_33 (by decide) (by decide) (by decide) (by decide) (law_end hL hi h K)
        · exact g_tabIn (pc := 33) (off := 233) 266 dL_law_33 (by decide) (by decide) (by decide) (by decide) (law_tape hL hi h K)
        · exact g_tabIn (pc := 33) (off := 256) 289 dL_law_33 (by decide) (by decide) (by decide) (by decide) (law_read hL hi h K)
        · exact g_tabIn (pc := 33) (off := 279) 312 dL_law_33 (by decide) (by decide) (by decide) (by decide) (law_fault hL hi h K)
        · exact g_tabIn (pc := 33) (off := 292) 325 dL_law_33 (by decide) (by decide) (by decide) (by decide) (law_listing hL hi h K)
        · exact g_tabIn (pc := 33) (off := 315) 348 dL_law_33 (by decide) (by decide) (by decide) (by decide) (law_times hL hi h K)
        · exact g_tabIn (pc := 33) (off := 358) 391 dL_law_33 (by decide) (by decide) (by decide) (by decide) (law_by hL hi h K)
        · exact g_tabIn (pc := 33) (off := 401) 434 dL_law_33 (by decide) (by decide) (by decide) (by decide) (law_plus hL hi h K)
        · exact g_tabIn (pc := 33) (off := 454) 487 dL_law_33 (by decide) (by decide) (by decide) (by decide) (law_turn hL hi h K)
        · exact g_tabIn (pc := 33) (off := 497) 530 dL_law_33 (by decide) (by decide) (by decide) (by decide) (law_cyclotomic hL hi h K)
        · exact g_tabIn (pc := 33) (off := 530) 563 dL_law_33 (by decide) (by decide) (by decide) (by decide) (law_core hL hi h K)
        · exact g_tabIn (pc := 33) (off := 563) 596 dL_law_33 (by decide) (by decide) (by decide) (by decide) (law_search hL hi h K)
        · exact g_tabIn (pc := 33) (off := 616) 649 dL_law_33 (by decide) (by decide) (by decide) (by decide) (law_take hL hi h K)
        · exact g_tabIn (pc := 33) (off := 649) 682 dL_law_33 (by decide) (by decide) (by decide) (by decide) (law_undo hL hi h K)
        · exact g_tabIn (pc := 33) (off := 662) 695 dL_law_33 (by decide) (by decide) (by decide) (by decide) (law_image hL hi h K)
        · exact g_tabIn (pc := 33) (off := 685) 718 dL_law_33 (by decide) (by decide) (by decide) (by decide) (law_back hL hi h K)
        · exact g_tabIn (pc := 33) (off := 708) 741 dL_law_33 (by decide) (by decide) (by decide) (by decide) (law_coefficient hL hi h K)
        · exact g_tabIn (pc := 33) (off := 741) 774 dL_law_33 (by decide) (by decide) (by decide) (by decide) (law_of_ hL hi h K)
        · exact g_tabIn (pc := 33) (off := 774) 807 dL_law_33 (by decide) (by decide) (by decide) (by decide) (law_level hL hi h K)
        · exact g_tabIn (pc := 33) (off := 818) 851 dL_law_33 (by decide) (by decide) (by decide) (by decide) (law_low hL hi h K)
        · exact g_tabIn (pc := 33) (off := 851) 884 dL_law_33 (by decide) (by decide) (by decide) (by decide) (law_high hL hi h K)
        · exact g_tabIn (pc := 33) (off := 884) 917 dL_law_33 (by decide) (by decide) (by decide) (by decide) (law_enclosed hL hi h K)
        · exact g_tabIn (pc := 33) (off := 917) 950 dL_law_33 (by decide) (by decide) (by decide) (by decide) (law_often hL hi h K)
        · exact g_tabIn (pc := 33) (off := 950) 983 dL_law_33 (by decide) (by decide) (by decide) (by decide) (law_value hL hi h K)
        · exact g_tabIn (pc := 33) (off := 984) 1017 dL_law_33 (by decide) (by decide) (by decide) (by decide) (law_roots hL hi h K)
        · exact g_tabIn (pc := 33) (off := 1017) 1050 dL_law_33 (by decide) (by decide) (by decide) (by decide) (law_compare hL hi h K)
        · exact g_tabIn (pc := 33) (off := 1060) 1093 dL_law_33 (by decide) (by decide) (by decide) (by decide) (law_surely hL hi h K)
        · exact g_tabIn (pc := 33) (off := 1103) 1136 dL_law_33 (by decide) (by decide) (by decide) (by decide) (law_least HL hL hi h K)
        · exact g_tabIn (pc := 33) (off := 1126) 1159 dL_law_33 (by decide) (by decide) (by decide) (by decide) (law_found hL hi h K)
        · exact g_tabIn (pc := 33) (off := 1159) 1192 dL_law_33 (by decide) (by decide) (by decide) (by decide) (law_smallest hL hi h K)
        · exact g_tabIn (pc := 33) (off := 1182) 1215 dL_law_33 (by decide) (by decide) (by decide) (by decide) (law_count hL hi h K)
        · exact g_tabIn (pc := 33) (off := 1205) 1238 dL_law_33 (by decide) (by decide) (by decide) (by decide) (law_status hL hi h K)
      · have e9 := nI_toInt (show k < 2147483648 by omega)
        exact g_tabOut (pc := 33) 1251 dL_law_33 (Or.inr (by omega)) (by decide) (K w (h.up))
