/-! ===== the law: its 35 cases, its loop ===== -/
abbrev FLn (nm : String) : tk_F := (⟨RL, nm, "([I)Z"⟩, cL_law, 4, some .boolean, 10, 600000, 7302250)
/-- the script's number at i -/
def sc (G : tk_G) (i : Int) : Int := (G.2.2.2.2 (Int.toNat 0)).getD (Int.toNat i) 0
abbrev lw_at (G : tk_G) (i : Int) : Prop := 0 ≤ i ∧ i + 6 < ((G.2.2.2.2 (Int.toNat 0)).length : Int) ∧ ((G.2.2.2.2 (Int.toNat 0)).length : Int) < 2 ^ 31
abbrev lw_go (nm : String) (G : tk_G) (i : Int) (Q : tk_V → tk_S → tk_M → Prop) : Prop := ∀ M', JJ M' → Ok G (FLn nm) 1490 [xS 0, xR 0, xR 101, xI i] [] SF M' 136 5328 Q

theorem lc_generate {nm : String} {G : tk_G} {M : tk_M} {i : Int} {Q : tk_V → tk_S → tk_M → Prop} (hG : gs_ok G) (hi : lw_at G i) (hJ : JJ M) (hQ : lw_go nm G i Q) : Ok G (FLn nm) 188 [xS 0, xR 0, xR 101, xI i] [] SF M 136 5328 Q := by
  obtain ⟨z, hw, h1, h2⟩ := hJ
  obtain ⟨i0, i1, i2⟩ := hi
  refine tr_aload_n (pc := 188) dL_law_188 rfl (by decide) ?_
  refine tr_sload_n (pc := 189) dL_law_189 rfl ?_
  refine tr_iload_n (pc := 190) dL_law_190 rfl ?_
  refine tr_iconst (pc := 191) dL_law_191 ⟨by decide, by decide⟩ ?_
  refine tr_iadd (pc := 192) dL_law_192 ⟨by omega, by omega⟩ ?_
  refine tr_sald (pc := 193) dL_law_193 ⟨by decide, by decide⟩ (by omega) (by omega) (show _ = sc G (i + 1) from rfl) ?_
  refine tr_sload_n (pc := 194) dL_law_194 rfl ?_
  refine tr_iload_n (pc := 195) dL_law_195 rfl ?_
  refine tr_iconst (pc := 196) dL_law_196 ⟨by decide, by decide⟩ ?_
  refine tr_iadd (pc := 197) dL_law_197 ⟨by omega, by omega⟩ ?_
  refine tr_sald (pc := 198) dL_law_198 ⟨by decide, by decide⟩ (by omega) (by omega) (show _ = sc G (i + 2) from rfl) ?_
  refine tr_sload_n (pc := 199) dL_law_199 rfl ?_
  refine tr_iload_n (pc := 200) dL_law_200 rfl ?_
  refine tr_iconst (pc := 201) dL_law_201 ⟨by decide, by decide⟩ ?_
  refine tr_iadd (pc := 202) dL_law_202 ⟨by omega, by omega⟩ ?_
  refine tr_sald (pc := 203) dL_law_203 ⟨by decide, by decide⟩ (by omega) (by omega) (show _ = sc G (i + 3) from rfl) ?_
  refine tr_cVi3 (pc := 204) dL_law_204 mtX9_generate lvL_13 rfl sg0 kc9 ⟨(Nat.le_of_ble_eq_true rfl), (Nat.le_of_ble_eq_true rfl)⟩ nlX9_generate (Nat.le_of_ble_eq_true rfl) ⟨(Nat.le_of_ble_eq_true rfl), (Nat.le_of_ble_eq_true rfl)⟩ (sp_X9_generate h1.1) (fun r204 M204 h204 => ?_)
  obtain ⟨hr204, C1, f1⟩ := h204
  obtain rfl := hr204.symm
  have h2a := h2.up f1.hi
  refine tr_aload_n (pc := 207) dL_law_207 rfl (by decide) ?_
  refine tr_sload_n (pc := 208) dL_law_208 rfl ?_
  refine tr_iload_n (pc := 209) dL_law_209 rfl ?_
  refine tr_iconst (pc := 210) dL_law_210 ⟨by decide, by decide⟩ ?_
  refine tr_iadd (pc := 211) dL_law_211 ⟨by omega, by omega⟩ ?_
  refine tr_sald (pc := 212) dL_law_212 ⟨by decide, by decide⟩ (by omega) (by omega) (show _ = sc G (i + 1) from rfl) ?_
  refine tr_sload_n (pc := 213) dL_law_213 rfl ?_
  refine tr_iload_n (pc := 214) dL_law_214 rfl ?_
  refine tr_iconst (pc := 215) dL_law_215 ⟨by decide, by decide⟩ ?_
  refine tr_iadd (pc := 216) dL_law_216 ⟨by omega, by omega⟩ ?_
  refine tr_sald (pc := 217) dL_law_217 ⟨by decide, by decide⟩ (by omega) (by omega) (show _ = sc G (i + 2) from rfl) ?_
  refine tr_sload_n (pc := 218) dL_law_218 rfl ?_
  refine tr_iload_n (pc := 219) dL_law_219 rfl ?_
  refine tr_iconst (pc := 220) dL_law_220 ⟨by decide, by decide⟩ ?_
  refine tr_iadd (pc := 221) dL_law_221 ⟨by omega, by omega⟩ ?_
  refine tr_sald (pc := 222) dL_law_222 ⟨by decide, by decide⟩ (by omega) (by omega) (show _ = sc G (i + 3) from rfl) ?_
  refine tr_cVi3 (pc := 223) dL_law_223 mtX10_generate lvL_17 rfl sg101 kc10 ⟨(Nat.le_of_ble_eq_true rfl), (Nat.le_of_ble_eq_true rfl)⟩ nlX10_generate (Nat.le_of_ble_eq_true rfl) ⟨(Nat.le_of_ble_eq_true rfl), (Nat.le_of_ble_eq_true rfl)⟩ (sp_X10_generate h2a.1) (fun r223 M223 h223 => ?_)
  obtain ⟨hr223, C2, f2⟩ := h223
  obtain rfl := hr223.symm
  refine tr_icmpeq (pc := 226) (tgt := 1490) dL_law_226 (by decide) (fun c226 => ?_) (fun c226 => absurd c226 (fun hh => hh rfl))
  exact hQ _ (jj_core hw h1 h2a (cnd_gen hw.1 _ _ _) C1 f1 C2 f2)
theorem lc_drop {nm : String} {G : tk_G} {M : tk_M} {i : Int} {Q : tk_V → tk_S → tk_M → Prop} (hG : gs_ok G) (hi : lw_at G i) (hJ : JJ M) (hQ : lw_go nm G i Q) : Ok G (FLn nm) 231 [xS 0, xR 0, xR 101, xI i] [] SF M 136 5328 Q := by
  obtain ⟨z, hw, h1, h2⟩ := hJ
  obtain ⟨i0, i1, i2⟩ := hi
  refine tr_aload_n (pc := 231) dL_law_231 rfl (by decide) ?_
  refine tr_sload_n (pc := 232) dL_law_232 rfl ?_
  refine tr_iload_n (pc := 233) dL_law_233 rfl ?_
  refine tr_iconst (pc := 234) dL_law_234 ⟨by decide, by decide⟩ ?_
  refine tr_iadd (pc := 235) dL_law_235 ⟨by omega, by omega⟩ ?_
  refine tr_sald (pc := 236) dL_law_236 ⟨by decide, by decide⟩ (by omega) (by omega) (show _ = sc G (i + 1) from rfl) ?_
  refine tr_sload_n (pc := 237) dL_law_237 rfl ?_
  refine tr_iload_n (pc := 238) dL_law_238 rfl ?_
  refine tr_iconst (pc := 239) dL_law_239 ⟨by decide, by decide⟩ ?_
  refine tr_iadd (pc := 240) dL_law_240 ⟨by omega, by omega⟩ ?_
  refine tr_sald (pc := 241) dL_law_241 ⟨by decide, by decide⟩ (by omega) (by omega) (show _ = sc G (i + 2) from rfl) ?_
  refine tr_cVi2 (pc := 242) dL_law_242 mtX9_drop lvL_18 rfl sg0 kc9 ⟨(Nat.le_of_ble_eq_true rfl), (Nat.le_of_ble_eq_true rfl)⟩ nlX9_drop (Nat.le_of_ble_eq_true rfl) ⟨(Nat.le_of_ble_eq_true rfl), (Nat.le_of_ble_eq_true rfl)⟩ (sp_X9_drop h1.1) (fun r242 M242 h242 => ?_)
  obtain ⟨hr242, C1, f1⟩ := h242
  obtain rfl := hr242.symm
  have h2a := h2.up f1.hi
  refine tr_aload_n (pc := 245) dL_law_245 rfl (by decide) ?_
  refine tr_sload_n (pc := 246) dL_law_246 rfl ?_
  refine tr_iload_n (pc := 247) dL_law_247 rfl ?_
  refine tr_iconst (pc := 248) dL_law_248 ⟨by decide, by decide⟩ ?_
  refine tr_iadd (pc := 249) dL_law_249 ⟨by omega, by omega⟩ ?_
  refine tr_sald (pc := 250) dL_law_250 ⟨by decide, by decide⟩ (by omega) (by omega) (show _ = sc G (i + 1) from rfl) ?_
  refine tr_sload_n (pc := 251) dL_law_251 rfl ?_
  refine tr_iload_n (pc := 252) dL_law_252 rfl ?_
  refine tr_iconst (pc := 253) dL_law_253 ⟨by decide, by decide⟩ ?_
  refine tr_iadd (pc := 254) dL_law_254 ⟨by omega, by omega⟩ ?_
  refine tr_sald (pc := 255) dL_law_255 ⟨by decide, by decide⟩ (by omega) (by omega) (show _ = sc G (i + 2) from rfl) ?_
  refine tr_cVi2 (pc := 256) dL_law_256 mtX10_drop lvL_22 rfl sg101 kc10 ⟨(Nat.le_of_ble_eq_true rfl), (Nat.le_of_ble_eq_true rfl)⟩ nlX10_drop (Nat.le_of_ble_eq_true rfl) ⟨(Nat.le_of_ble_eq_true rfl), (Nat.le_of_ble_eq_true rfl)⟩ (sp_X10_drop h2a.1) (fun r256 M256 h256 => ?_)
  obtain ⟨hr256, C2, f2⟩ := h256
  obtain rfl := hr256.symm
  refine tr_icmpeq (pc := 259) (tgt := 1490) dL_law_259 (by decide) (fun c259 => ?_) (fun c259 => absurd c259 (fun hh => hh rfl))
  exact hQ _ (jj_core hw h1 h2a (cnd_drop hw.1 _ _) C1 f1 C2 f2)
theorem lc_clear {nm : String} {G : tk_G} {M : tk_M} {i : Int} {Q : tk_V → tk_S → tk_M → Prop} (hG : gs_ok G) (hi : lw_at G i) (hJ : JJ M) (hQ : lw_go nm G i Q) : Ok G (FLn nm) 264 [xS 0, xR 0, xR 101, xI i] [] SF M 136 5328 Q := by
  obtain ⟨z, hw, h1, h2⟩ := hJ
  obtain ⟨i0, i1, i2⟩ := hi
  refine tr_aload_n (pc := 264) dL_law_264 rfl (by decide) ?_
  refine tr_sload_n (pc := 265) dL_law_265 rfl ?_
  refine tr_iload_n (pc := 266) dL_law_266 rfl ?_
  refine tr_iconst (pc := 267) dL_law_267 ⟨by decide, by decide⟩ ?_
  refine tr_iadd (pc := 268) dL_law_268 ⟨by omega, by omega⟩ ?_
  refine tr_sald (pc := 269) dL_law_269 ⟨by decide, by decide⟩ (by omega) (by omega) (show _ = sc G (i + 1) from rfl) ?_
  refine tr_cVi1 (pc := 270) dL_law_270 mtX9_clear lvL_23 rfl sg0 kc9 ⟨(Nat.le_of_ble_eq_true rfl), (Nat.le_of_ble_eq_true rfl)⟩ nlX9_clear (Nat.le_of_ble_eq_true rfl) ⟨(Nat.le_of_ble_eq_true rfl), (Nat.le_of_ble_eq_true rfl)⟩ (sp_X9_clear h1.1) (fun r270 M270 h270 => ?_)
  obtain ⟨hr270, C1, f1⟩ := h270
  obtain rfl := hr270.symm
  have h2a := h2.up f1.hi
  refine tr_aload_n (pc := 273) dL_law_273 rfl (by decide) ?_
  refine tr_sload_n (pc := 274) dL_law_274 rfl ?_
  refine tr_iload_n (pc := 275) dL_law_275 rfl ?_
  refine tr_iconst (pc := 276) dL_law_276 ⟨by decide, by decide⟩ ?_
  refine tr_iadd (pc := 277) dL_law_277 ⟨by omega, by omega⟩ ?_
  refine tr_sald (pc := 278) dL_law_278 ⟨by decide, by decide⟩ (by omega) (by omega) (show _ = sc G (i + 1) from rfl) ?_
  refine tr_cVi1 (pc := 279) dL_law_279 mtX10_clear lvL_27 rfl sg101 kc10 ⟨(Nat.le_of_ble_eq_true rfl), (Nat.le_of_ble_eq_true rfl)⟩ nlX10_clear (Nat.le_of_ble_eq_true rfl) ⟨(Nat.le_of_ble_eq_true rfl), (Nat.le_of_ble_eq_true rfl)⟩ (sp_X10_clear h2a.1) (fun r279 M279 h279 => ?_)
  obtain ⟨hr279, C2, f2⟩ := h279
  obtain rfl := hr279.symm
  refine tr_icmpeq (pc := 282) (tgt := 1490) dL_law_282 (by decide) (fun c282 => ?_) (fun c282 => absurd c282 (fun hh => hh rfl))
  exact hQ _ (jj_core hw h1 h2a (cnd_clear hw.1 _) C1 f1 C2 f2)
theorem lc_merge {nm : String} {G : tk_G} {M : tk_M} {i : Int} {Q : tk_V → tk_S → tk_M → Prop} (hG : gs_ok G) (hi : lw_at G i) (hJ : JJ M) (hQ : lw_go nm G i Q) : Ok G (FLn nm) 287 [xS 0, xR 0, xR 101, xI i] [] SF M 136 5328 Q := by
  obtain ⟨z, hw, h1, h2⟩ := hJ
  obtain ⟨i0, i1, i2⟩ := hi
  refine tr_aload_n (pc := 287) dL_law_287 rfl (by decide) ?_
  refine tr_sload_n (pc := 288) dL_law_288 rfl ?_
  refine tr_iload_n (pc := 289) dL_law_289 rfl ?_
  refine tr_iconst (pc := 290) dL_law_290 ⟨by decide, by decide⟩ ?_
  refine tr_iadd (pc := 291) dL_law_291 ⟨by omega, by omega⟩ ?_
  refine tr_sald (pc := 292) dL_law_292 ⟨by decide, by decide⟩ (by omega) (by omega) (show _ = sc G (i + 1) from rfl) ?_
  refine tr_cVi1 (pc := 293) dL_law_293 mtX9_merge lvL_28 rfl sg0 kc9 ⟨(Nat.le_of_ble_eq_true rfl), (Nat.le_of_ble_eq_true rfl)⟩ nlX9_merge (Nat.le_of_ble_eq_true rfl) ⟨(Nat.le_of_ble_eq_true rfl), (Nat.le_of_ble_eq_true rfl)⟩ (sp_X9_merge h1.1) (fun r293 M293 h293 => ?_)
  obtain ⟨hr293, C1, f1⟩ := h293
  obtain rfl := hr293.symm
  have h2a := h2.up f1.hi
  refine tr_aload_n (pc := 296) dL_law_296 rfl (by decide) ?_
  refine tr_sload_n (pc := 297) dL_law_297 rfl ?_
  refine tr_iload_n (pc := 298) dL_law_298 rfl ?_
  refine tr_iconst (pc := 299) dL_law_299 ⟨by decide, by decide⟩ ?_
  refine tr_iadd (pc := 300) dL_law_300 ⟨by omega, by omega⟩ ?_
  refine tr_sald (pc := 301) dL_law_301 ⟨by decide, by decide⟩ (by omega) (by omega) (show _ = sc G (i + 1) from rfl) ?_
  refine tr_cVi1 (pc := 302) dL_law_302 mtX10_merge lvL_31 rfl sg101 kc10 ⟨(Nat.le_of_ble_eq_true rfl), (Nat.le_of_ble_eq_true rfl)⟩ nlX10_merge (Nat.le_of_ble_eq_true rfl) ⟨(Nat.le_of_ble_eq_true rfl), (Nat.le_of_ble_eq_true rfl)⟩ (sp_X10_merge h2a.1) (fun r302 M302 h302 => ?_)
  obtain ⟨hr302, C2, f2⟩ := h302
  obtain rfl := hr302.symm
  refine tr_icmpeq (pc := 305) (tgt := 1490) dL_law_305 (by decide) (fun c305 => ?_) (fun c305 => absurd c305 (fun hh => hh rfl))
  exact hQ _ (jj_core hw h1 h2a (cnd_merge hw.1 _) C1 f1 C2 f2)
theorem lc_close {nm : String} {G : tk_G} {M : tk_M} {i : Int} {Q : tk_V → tk_S → tk_M → Prop} (hG : gs_ok G) (hi : lw_at G i) (hJ : JJ M) (hQ : lw_go nm G i Q) : Ok G (FLn nm) 310 [xS 0, xR 0, xR 101, xI i] [] SF M 136 5328 Q := by
  obtain ⟨z, hw, h1, h2⟩ := hJ
  obtain ⟨i0, i1, i2⟩ := hi
  refine tr_aload_n (pc := 310) dL_law_310 rfl (by decide) ?_
  refine tr_sload_n (pc := 311) dL_law_311 rfl ?_
  refine tr_iload_n (pc := 312) dL_law_312 rfl ?_
  refine tr_iconst (pc := 313) dL_law_313 ⟨by decide, by decide⟩ ?_
  refine tr_iadd (pc := 314) dL_law_314 ⟨by omega, by omega⟩ ?_
  refine tr_sald (pc := 315) dL_law_315 ⟨by decide, by decide⟩ (by omega) (by omega) (show _ = sc G (i + 1) from rfl) ?_
  refine tr_cVi1 (pc := 316) dL_law_316 mtX9_close lvL_32 rfl sg0 kc9 ⟨(Nat.le_of_ble_eq_true rfl), (Nat.le_of_ble_eq_true rfl)⟩ nlX9_close (Nat.le_of_ble_eq_true rfl) ⟨(Nat.le_of_ble_eq_true rfl), (Nat.le_of_ble_eq_true rfl)⟩ (sp_X9_close hG h1.1) (fun r316 M316 h316 => ?_)
  obtain ⟨hr316, C1, f1⟩ := h316
  obtain rfl := hr316.symm
  have h2a := h2.up f1.hi
  refine tr_aload_n (pc := 319) dL_law_319 rfl (by decide) ?_
  refine tr_sload_n (pc := 320) dL_law_320 rfl ?_
  refine tr_iload_n (pc := 321) dL_law_321 rfl ?_
  refine tr_iconst (pc := 322) dL_law_322 ⟨by decide, by decide⟩ ?_
  refine tr_iadd (pc := 323) dL_law_323 ⟨by omega, by omega⟩ ?_
  refine tr_sald (pc := 324) dL_law_324 ⟨by decide, by decide⟩ (by omega) (by omega) (show _ = sc G (i + 1) from rfl) ?_
  refine tr_cVi1 (pc := 325) dL_law_325 mtX10_close lvL_35 rfl sg101 kc10 ⟨(Nat.le_of_ble_eq_true rfl), (Nat.le_of_ble_eq_true rfl)⟩ nlX10_close (Nat.le_of_ble_eq_true rfl) ⟨(Nat.le_of_ble_eq_true rfl), (Nat.le_of_ble_eq_true rfl)⟩ (sp_X10_close h2a.1 hw.1) (fun r325 M325 h325 => ?_)
  obtain ⟨hr325, C2, f2⟩ := h325
  obtain rfl := hr325.symm
  refine tr_icmpeq (pc := 328) (tgt := 1490) dL_law_328 (by decide) (fun c328 => ?_) (fun c328 => absurd c328 (fun hh => hh rfl))
  exact hQ _ (jj_core hw h1 h2a (cnd_close h2a.1 hw.1 _) C1 f1 C2 f2)
theorem lc_back {nm : String} {G : tk_G} {M : tk_M} {i : Int} {Q : tk_V → tk_S → tk_M → Prop} (hG : gs_ok G) (hi : lw_at G i) (hJ : JJ M) (hQ : lw_go nm G i Q) : Ok G (FLn nm) 333 [xS 0, xR 0, xR 101, xI i] [] SF M 136 5328 Q := by
  obtain ⟨z, hw, h1, h2⟩ := hJ
  obtain ⟨i0, i1, i2⟩ := hi
  refine tr_aload_n (pc := 333) dL_law_333 rfl (by decide) ?_
  refine tr_cVi0 (pc := 334) dL_law_334 mtX9_back lvL_36 rfl sg0 kc9 ⟨(Nat.le_of_ble_eq_true rfl), (Nat.le_of_ble_eq_true rfl)⟩ nlX9_back (Nat.le_of_ble_eq_true rfl) ⟨(Nat.le_of_ble_eq_true rfl), (Nat.le_of_ble_eq_true rfl)⟩ (sp_X9_back h1.1) (fun r334 M334 h334 => ?_)
  obtain ⟨hr334, C1, f1⟩ := h334
  obtain rfl := hr334.symm
  have h2a := h2.up f1.hi
  refine tr_aload_n (pc := 337) dL_law_337 rfl (by decide) ?_
  refine tr_cVi0 (pc := 338) dL_law_338 mtX10_back lvL_40 rfl sg101 kc10 ⟨(Nat.le_of_ble_eq_true rfl), (Nat.le_of_ble_eq_true rfl)⟩ nlX10_back (Nat.le_of_ble_eq_true rfl) ⟨(Nat.le_of_ble_eq_true rfl), (Nat.le_of_ble_eq_true rfl)⟩ (sp_X10_back h2a.1) (fun r338 M338 h338 => ?_)
  obtain ⟨hr338, C2, f2⟩ := h338
  obtain rfl := hr338.symm
  refine tr_icmpeq (pc := 341) (tgt := 1490) dL_law_341 (by decide) (fun c341 => ?_) (fun c341 => absurd c341 (fun hh => hh rfl))
  exact hQ _ (jj_core hw h1 h2a (cnd_back hw.1) C1 f1 C2 f2)
theorem lc_feed {nm : String} {G : tk_G} {M : tk_M} {i : Int} {Q : tk_V → tk_S → tk_M → Prop} (hG : gs_ok G) (hi : lw_at G i) (hJ : JJ M) (hQ : lw_go nm G i Q) : Ok G (FLn nm) 346 [xS 0, xR 0, xR 101, xI i] [] SF M 136 5328 Q := by
  obtain ⟨z, hw, h1, h2⟩ := hJ
  obtain ⟨i0, i1, i2⟩ := hi
  refine tr_aload_n (pc := 346) dL_law_346 rfl (by decide) ?_
  refine tr_sload_n (pc := 347) dL_law_347 rfl ?_
  refine tr_iload_n (pc := 348) dL_law_348 rfl ?_
  refine tr_iconst (pc := 349) dL_law_349 ⟨by decide, by decide⟩ ?_
  refine tr_iadd (pc := 350) dL_law_350 ⟨by omega, by omega⟩ ?_
  refine tr_sald (pc := 351) dL_law_351 ⟨by decide, by decide⟩ (by omega) (by omega) (show _ = sc G (i + 1) from rfl) ?_
  refine tr_cVi1 (pc := 352) dL_law_352 mtX9_feed lvL_41 rfl sg0 kc9 ⟨(Nat.le_of_ble_eq_true rfl), (Nat.le_of_ble_eq_true rfl)⟩ nlX9_feed (Nat.le_of_ble_eq_true rfl) ⟨(Nat.le_of_ble_eq_true rfl), (Nat.le_of_ble_eq_true rfl)⟩ (sp_X9_feed (h1.2.2.2.1.ok hw.2.2.2.1).1) (fun r352 M352 h352 => ?_)
  have h2a : JR M352 z := h2.up (fun c hc => by
    rcases h352 with A | A | A
    · rw [A.2.2]
    · rw [A.2.2.2]
    · rw [A.2.2.2, tk_mu_c (by omega), tk_mu_c (by omega)])
  refine tr_aload_n (pc := 355) dL_law_355 rfl (by decide) ?_
  refine tr_sload_n (pc := 356) dL_law_356 rfl ?_
  refine tr_iload_n (pc := 357) dL_law_357 rfl ?_
  refine tr_iconst (pc := 358) dL_law_358 ⟨by decide, by decide⟩ ?_
  refine tr_iadd (pc := 359) dL_law_359 ⟨by omega, by omega⟩ ?_
  refine tr_sald (pc := 360) dL_law_360 ⟨by decide, by decide⟩ (by omega) (by omega) (show _ = sc G (i + 1) from rfl) ?_
  refine tr_cVi1 (pc := 361) dL_law_361 mtX10_feed lvL_44 rfl sg101 kc10 ⟨(Nat.le_of_ble_eq_true rfl), (Nat.le_of_ble_eq_true rfl)⟩ nlX10_feed (Nat.le_of_ble_eq_true rfl) ⟨(Nat.le_of_ble_eq_true rfl), (Nat.le_of_ble_eq_true rfl)⟩ (sp_X10_feed (h2a.2.2.2.1.ok hw.2.2.2.1).1) (fun r361 M361 h361 => ?_)
  obtain ⟨e, hJ⟩ := jj_feed hw h1 h2 h352 h361
  refine tr_icmpeq (pc := 364) (tgt := 1490) dL_law_364 (by decide) (fun c364 => ?_) (fun c364 => absurd c364 (fun hh => hh e))
  exact hQ _ hJ
theorem lc_read {nm : String} {G : tk_G} {M : tk_M} {i : Int} {Q : tk_V → tk_S → tk_M → Prop} (hG : gs_ok G) (hi : lw_at G i) (hJ : JJ M) (hQ : lw_go nm G i Q) : Ok G (FLn nm) 369 [xS 0, xR 0, xR 101, xI i] [] SF M 136 5328 Q := by
  obtain ⟨z, hw, h1, h2⟩ := hJ
  obtain ⟨i0, i1, i2⟩ := hi
  refine tr_aload_n (pc := 369) dL_law_369 rfl (by decide) ?_
  refine tr_cVi0 (pc := 370) dL_law_370 mtX9_read lvL_45 rfl sg0 kc9 ⟨(Nat.le_of_ble_eq_true rfl), (Nat.le_of_ble_eq_true rfl)⟩ nlX9_read (Nat.le_of_ble_eq_true rfl) ⟨(Nat.le_of_ble_eq_true rfl), (Nat.le_of_ble_eq_true rfl)⟩ (sp_X9_read hG h1.1 (h1.2.2.2.1.ok hw.2.2.2.1).1) (fun r370 M370 h370 => ?_)
  rw [(h1.2.2.2.1.ok hw.2.2.2.1).2, h1.2.2.2.1.1] at h370
  have h2a : JR M370 z := h2.up (fun c hc => h370.2.2.2 c (by omega) (by omega) (by omega) (by omega))
  refine tr_aload_n (pc := 373) dL_law_373 rfl (by decide) ?_
  refine tr_cVi0 (pc := 374) dL_law_374 mtX10_read lvL_48 rfl sg101 kc10 ⟨(Nat.le_of_ble_eq_true rfl), (Nat.le_of_ble_eq_true rfl)⟩ nlX10_read (Nat.le_of_ble_eq_true rfl) ⟨(Nat.le_of_ble_eq_true rfl), (Nat.le_of_ble_eq_true rfl)⟩ (sp_X10_read h2a.1 hw.1 (h2a.2.2.2.1.ok hw.2.2.2.1).1) (fun r374 M374 h374 => ?_)
  rw [(h2a.2.2.2.1.ok hw.2.2.2.1).2, h2a.2.2.2.1.1] at h374
  obtain ⟨e, hJ⟩ := jj_read hw h1 h2 h370 h374
  refine tr_icmpeq (pc := 377) (tgt := 1490) dL_law_377 (by decide) (fun c377 => ?_) (fun c377 => absurd c377 (fun hh => hh e))
  exact hQ _ hJ
theorem lc_of {nm : String} {G : tk_G} {M : tk_M} {i : Int} {Q : tk_V → tk_S → tk_M → Prop} (hG : gs_ok G) (hi : lw_at G i) (hJ : JJ M) (hQ : lw_go nm G i Q) : Ok G (FLn nm) 382 [xS 0, xR 0, xR 101, xI i] [] SF M 136 5328 Q := by
  obtain ⟨z, hw, h1, h2⟩ := hJ
  obtain ⟨i0, i1, i2⟩ := hi
  refine tr_aload_n (pc := 382) dL_law_382 rfl (by decide) ?_
  refine tr_sload_n (pc := 383) dL_law_383 rfl ?_
  refine tr_iload_n (pc := 384) dL_law_384 rfl ?_
  refine tr_iconst (pc := 385) dL_law_385 ⟨by decide, by decide⟩ ?_
  refine tr_iadd (pc := 386) dL_law_386 ⟨by omega, by omega⟩ ?_
  refine tr_sald (pc := 387) dL_law_387 ⟨by decide, by decide⟩ (by omega) (by omega) (show _ = sc G (i + 1) from rfl) ?_
  refine tr_sload_n (pc := 388) dL_law_388 rfl ?_
  refine tr_iload_n (pc := 389) dL_law_389 rfl ?_
  refine tr_iconst (pc := 390) dL_law_390 ⟨by decide, by decide⟩ ?_
  refine tr_iadd (pc := 391) dL_law_391 ⟨by omega, by omega⟩ ?_
  refine tr_sald (pc := 392) dL_law_392 ⟨by decide, by decide⟩ (by omega) (by omega) (show _ = sc G (i + 2) from rfl) ?_
  refine tr_sload_n (pc := 393) dL_law_393 rfl ?_
  refine tr_iload_n (pc := 394) dL_law_394 rfl ?_
  refine tr_iconst (pc := 395) dL_law_395 ⟨by decide, by decide⟩ ?_
  refine tr_iadd (pc := 396) dL_law_396 ⟨by omega, by omega⟩ ?_
  refine tr_sald (pc := 397) dL_law_397 ⟨by decide, by decide⟩ (by omega) (by omega) (show _ = sc G (i + 3) from rfl) ?_
  refine tr_cVi3 (pc := 398) dL_law_398 mtX9_of lvL_49 rfl sg0 kc9 ⟨(Nat.le_of_ble_eq_true rfl), (Nat.le_of_ble_eq_true rfl)⟩ nlX9_of (Nat.le_of_ble_eq_true rfl) ⟨(Nat.le_of_ble_eq_true rfl), (Nat.le_of_ble_eq_true rfl)⟩ (sp_X9_of hG h1.1) (fun r398 M398 h398 => ?_)
  obtain ⟨hr398, f1⟩ := h398
  obtain rfl := hr398.symm
  have h2a := h2.up f1.hi
  refine tr_aload_n (pc := 401) dL_law_401 rfl (by decide) ?_
  refine tr_sload_n (pc := 402) dL_law_402 rfl ?_
  refine tr_iload_n (pc := 403) dL_law_403 rfl ?_
  refine tr_iconst (pc := 404) dL_law_404 ⟨by decide, by decide⟩ ?_
  refine tr_iadd (pc := 405) dL_law_405 ⟨by omega, by omega⟩ ?_
  refine tr_sald (pc := 406) dL_law_406 ⟨by decide, by decide⟩ (by omega) (by omega) (show _ = sc G (i + 1) from rfl) ?_
  refine tr_sload_n (pc := 407) dL_law_407 rfl ?_
  refine tr_iload_n (pc := 408) dL_law_408 rfl ?_
  refine tr_iconst (pc := 409) dL_law_409 ⟨by decide, by decide⟩ ?_
  refine tr_iadd (pc := 410) dL_law_410 ⟨by omega, by omega⟩ ?_
  refine tr_sald (pc := 411) dL_law_411 ⟨by decide, by decide⟩ (by omega) (by omega) (show _ = sc G (i + 2) from rfl) ?_
  refine tr_sload_n (pc := 412) dL_law_412 rfl ?_
  refine tr_iload_n (pc := 413) dL_law_413 rfl ?_
  refine tr_iconst (pc := 414) dL_law_414 ⟨by decide, by decide⟩ ?_
  refine tr_iadd (pc := 415) dL_law_415 ⟨by omega, by omega⟩ ?_
  refine tr_sald (pc := 416) dL_law_416 ⟨by decide, by decide⟩ (by omega) (by omega) (show _ = sc G (i + 3) from rfl) ?_
  refine tr_cVi3 (pc := 417) dL_law_417 mtX10_of lvL_52 rfl sg101 kc10 ⟨(Nat.le_of_ble_eq_true rfl), (Nat.le_of_ble_eq_true rfl)⟩ nlX10_of (Nat.le_of_ble_eq_true rfl) ⟨(Nat.le_of_ble_eq_true rfl), (Nat.le_of_ble_eq_true rfl)⟩ (sp_X10_of h2a.1) (fun r417 M417 h417 => ?_)
  obtain ⟨hr417, f2⟩ := h417
  obtain rfl := hr417.symm
  refine tr_icmpeq (pc := 420) (tgt := 1490) dL_law_420 (by decide) (fun c420 => ?_) (fun c420 => absurd c420 (fun hh => hh rfl))
  exact hQ _ (jj_ask hw h1 h2a f1 f2)
theorem lc_told {nm : String} {G : tk_G} {M : tk_M} {i : Int} {Q : tk_V → tk_S → tk_M → Prop} (hG : gs_ok G) (hi : lw_at G i) (hJ : JJ M) (hQ : lw_go nm G i Q) : Ok G (FLn nm) 425 [xS 0, xR 0, xR 101, xI i] [] SF M 136 5328 Q := by
  obtain ⟨z, hw, h1, h2⟩ := hJ
  obtain ⟨i0, i1, i2⟩ := hi
  refine tr_aload_n (pc := 425) dL_law_425 rfl (by decide) ?_
  refine tr_sload_n (pc := 426) dL_law_426 rfl ?_
  refine tr_iload_n (pc := 427) dL_law_427 rfl ?_
  refine tr_iconst (pc := 428) dL_law_428 ⟨by decide, by decide⟩ ?_
  refine tr_iadd (pc := 429) dL_law_429 ⟨by omega, by omega⟩ ?_
  refine tr_sald (pc := 430) dL_law_430 ⟨by decide, by decide⟩ (by omega) (by omega) (show _ = sc G (i + 1) from rfl) ?_
  refine tr_sload_n (pc := 431) dL_law_431 rfl ?_
  refine tr_iload_n (pc := 432) dL_law_432 rfl ?_
  refine tr_iconst (pc := 433) dL_law_433 ⟨by decide, by decide⟩ ?_
  refine tr_iadd (pc := 434) dL_law_434 ⟨by omega, by omega⟩ ?_
  refine tr_sald (pc := 435) dL_law_435 ⟨by decide, by decide⟩ (by omega) (by omega) (show _ = sc G (i + 2) from rfl) ?_
  refine tr_cVi2 (pc := 436) dL_law_436 mtX9_told lvL_53 rfl sg0 kc9 ⟨(Nat.le_of_ble_eq_true rfl), (Nat.le_of_ble_eq_true rfl)⟩ nlX9_told (Nat.le_of_ble_eq_true rfl) ⟨(Nat.le_of_ble_eq_true rfl), (Nat.le_of_ble_eq_true rfl)⟩ (sp_X9_told hG h1.1) (fun r436 M436 h436 => ?_)
  obtain ⟨hr436, f1⟩ := h436
  obtain rfl := hr436.symm
  have h2a := h2.up f1.hi
  refine tr_aload_n (pc := 439) dL_law_439 rfl (by decide) ?_
  refine tr_sload_n (pc := 440) dL_law_440 rfl ?_
  refine tr_iload_n (pc := 441) dL_law_441 rfl ?_
  refine tr_iconst (pc := 442) dL_law_442 ⟨by decide, by decide⟩ ?_
  refine tr_iadd (pc := 443) dL_law_443 ⟨by omega, by omega⟩ ?_
  refine tr_sald (pc := 444) dL_law_444 ⟨by decide, by decide⟩ (by omega) (by omega) (show _ = sc G (i + 1) from rfl) ?_
  refine tr_sload_n (pc := 445) dL_law_445 rfl ?_
  refine tr_iload_n (pc := 446) dL_law_446 rfl ?_
  refine tr_iconst (pc := 447) dL_law_447 ⟨by decide, by decide⟩ ?_
  refine tr_iadd (pc := 448) dL_law_448 ⟨by omega, by omega⟩ ?_
  refine tr_sald (pc := 449) dL_law_449 ⟨by decide, by decide⟩ (by omega) (by omega) (show _ = sc G (i + 2) from rfl) ?_
  refine tr_cVi2 (pc := 450) dL_law_450 mtX10_told lvL_56 rfl sg101 kc10 ⟨(Nat.le_of_ble_eq_true rfl), (Nat.le_of_ble_eq_true rfl)⟩ nlX10_told (Nat.le_of_ble_eq_true rfl) ⟨(Nat.le_of_ble_eq_true rfl), (Nat.le_of_ble_eq_true rfl)⟩ (sp_X10_told h2a.1 hw.1) (fun r450 M450 h450 => ?_)
  obtain ⟨hr450, f2⟩ := h450
  obtain rfl := hr450.symm
  refine tr_icmpeq (pc := 453) (tgt := 1490) dL_law_453 (by decide) (fun c453 => ?_) (fun c453 => absurd c453 (fun hh => hh rfl))
  exact hQ _ (jj_ask hw h1 h2a f1 f2)
theorem lc_in {nm : String} {G : tk_G} {M : tk_M} {i : Int} {Q : tk_V → tk_S → tk_M → Prop} (hG : gs_ok G) (hi : lw_at G i) (hJ : JJ M) (hQ : lw_go nm G i Q) : Ok G (FLn nm) 458 [xS 0, xR 0, xR 101, xI i] [] SF M 136 5328 Q := by
  obtain ⟨z, hw, h1, h2⟩ := hJ
  obtain ⟨i0, i1, i2⟩ := hi
  refine tr_aload_n (pc := 458) dL_law_458 rfl (by decide) ?_
  refine tr_sload_n (pc := 459) dL_law_459 rfl ?_
  refine tr_iload_n (pc := 460) dL_law_460 rfl ?_
  refine tr_iconst (pc := 461) dL_law_461 ⟨by decide, by decide⟩ ?_
  refine tr_iadd (pc := 462) dL_law_462 ⟨by omega, by omega⟩ ?_
  refine tr_sald (pc := 463) dL_law_463 ⟨by decide, by decide⟩ (by omega) (by omega) (show _ = sc G (i + 1) from rfl) ?_
  refine tr_sload_n (pc := 464) dL_law_464 rfl ?_
  refine tr_iload_n (pc := 465) dL_law_465 rfl ?_
  refine tr_iconst (pc := 466) dL_law_466 ⟨by decide, by decide⟩ ?_
  refine tr_iadd (pc := 467) dL_law_467 ⟨by omega, by omega⟩ ?_
  refine tr_sald (pc := 468) dL_law_468 ⟨by decide, by decide⟩ (by omega) (by omega) (show _ = sc G (i + 2) from rfl) ?_
  refine tr_sload_n (pc := 469) dL_law_469 rfl ?_
  refine tr_iload_n (pc := 470) dL_law_470 rfl ?_
  refine tr_iconst (pc := 471) dL_law_471 ⟨by decide, by decide⟩ ?_
  refine tr_iadd (pc := 472) dL_law_472 ⟨by omega, by omega⟩ ?_
  refine tr_sald (pc := 473) dL_law_473 ⟨by decide, by decide⟩ (by omega) (by omega) (show _ = sc G (i + 3) from rfl) ?_
  refine tr_sload_n (pc := 474) dL_law_474 rfl ?_
  refine tr_iload_n (pc := 475) dL_law_475 rfl ?_
  refine tr_iconst (pc := 476) dL_law_476 ⟨by decide, by decide⟩ ?_
  refine tr_iadd (pc := 477) dL_law_477 ⟨by omega, by omega⟩ ?_
  refine tr_sald (pc := 478) dL_law_478 ⟨by decide, by decide⟩ (by omega) (by omega) (show _ = sc G (i + 4) from rfl) ?_
  refine tr_cVi4 (pc := 479) dL_law_479 mtX9_in lvL_57 rfl sg0 kc9 ⟨(Nat.le_of_ble_eq_true rfl), (Nat.le_of_ble_eq_true rfl)⟩ nlX9_in (Nat.le_of_ble_eq_true rfl) ⟨(Nat.le_of_ble_eq_true rfl), (Nat.le_of_ble_eq_true rfl)⟩ (sp_X9_in hG h1.1) (fun r479 M479 h479 => ?_)
  obtain ⟨hr479, f1⟩ := h479
  obtain rfl := hr479.symm
  have h2a := h2.up f1.hi
  refine tr_aload_n (pc := 482) dL_law_482 rfl (by decide) ?_
  refine tr_sload_n (pc := 483) dL_law_483 rfl ?_
  refine tr_iload_n (pc := 484) dL_law_484 rfl ?_
  refine tr_iconst (pc := 485) dL_law_485 ⟨by decide, by decide⟩ ?_
  refine tr_iadd (pc := 486) dL_law_486 ⟨by omega, by omega⟩ ?_
  refine tr_sald (pc := 487) dL_law_487 ⟨by decide, by decide⟩ (by omega) (by omega) (show _ = sc G (i + 1) from rfl) ?_
  refine tr_sload_n (pc := 488) dL_law_488 rfl ?_
  refine tr_iload_n (pc := 489) dL_law_489 rfl ?_
  refine tr_iconst (pc := 490) dL_law_490 ⟨by decide, by decide⟩ ?_
  refine tr_iadd (pc := 491) dL_law_491 ⟨by omega, by omega⟩ ?_
  refine tr_sald (pc := 492) dL_law_492 ⟨by decide, by decide⟩ (by omega) (by omega) (show _ = sc G (i + 2) from rfl) ?_
  refine tr_sload_n (pc := 493) dL_law_493 rfl ?_
  refine tr_iload_n (pc := 494) dL_law_494 rfl ?_
  refine tr_iconst (pc := 495) dL_law_495 ⟨by decide, by decide⟩ ?_
  refine tr_iadd (pc := 496) dL_law_496 ⟨by omega, by omega⟩ ?_
  refine tr_sald (pc := 497) dL_law_497 ⟨by decide, by decide⟩ (by omega) (by omega) (show _ = sc G (i + 3) from rfl) ?_
  refine tr_sload_n (pc := 498) dL_law_498 rfl ?_
  refine tr_iload_n (pc := 499) dL_law_499 rfl ?_
  refine tr_iconst (pc := 500) dL_law_500 ⟨by decide, by decide⟩ ?_
  refine tr_iadd (pc := 501) dL_law_501 ⟨by omega, by omega⟩ ?_
  refine tr_sald (pc := 502) dL_law_502 ⟨by decide, by decide⟩ (by omega) (by omega) (show _ = sc G (i + 4) from rfl) ?_
  refine tr_cVi4 (pc := 503) dL_law_503 mtX10_in lvL_61 rfl sg101 kc10 ⟨(Nat.le_of_ble_eq_true rfl), (Nat.le_of_ble_eq_true rfl)⟩ nlX10_in (Nat.le_of_ble_eq_true rfl) ⟨(Nat.le_of_ble_eq_true rfl), (Nat.le_of_ble_eq_true rfl)⟩ (sp_X10_in h2a.1 hw.1) (fun r503 M503 h503 => ?_)
  obtain ⟨hr503, f2⟩ := h503
  obtain rfl := hr503.symm
  refine tr_icmpeq (pc := 506) (tgt := 1490) dL_law_506 (by decide) (fun c506 => ?_) (fun c506 => absurd c506 (fun hh => hh rfl))
  exact hQ _ (jj_ask hw h1 h2a f1 f2)
theorem lc_face {nm : String} {G : tk_G} {M : tk_M} {i : Int} {Q : tk_V → tk_S → tk_M → Prop} (hG : gs_ok G) (hi : lw_at G i) (hJ : JJ M) (hQ : lw_go nm G i Q) : Ok G (FLn nm) 511 [xS 0, xR 0, xR 101, xI i] [] SF M 136 5328 Q := by
  obtain ⟨z, hw, h1, h2⟩ := hJ
  obtain ⟨i0, i1, i2⟩ := hi
  refine tr_aload_n (pc := 511) dL_law_511 rfl (by decide) ?_
  refine tr_sload_n (pc := 512) dL_law_512 rfl ?_
  refine tr_iload_n (pc := 513) dL_law_513 rfl ?_
  refine tr_iconst (pc := 514) dL_law_514 ⟨by decide, by decide⟩ ?_
  refine tr_iadd (pc := 515) dL_law_515 ⟨by omega, by omega⟩ ?_
  refine tr_sald (pc := 516) dL_law_516 ⟨by decide, by decide⟩ (by omega) (by omega) (show _ = sc G (i + 1) from rfl) ?_
  refine tr_sload_n (pc := 517) dL_law_517 rfl ?_
  refine tr_iload_n (pc := 518) dL_law_518 rfl ?_
  refine tr_iconst (pc := 519) dL_law_519 ⟨by decide, by decide⟩ ?_
  refine tr_iadd (pc := 520) dL_law_520 ⟨by omega, by omega⟩ ?_
  refine tr_sald (pc := 521) dL_law_521 ⟨by decide, by decide⟩ (by omega) (by omega) (show _ = sc G (i + 2) from rfl) ?_
  refine tr_sload_n (pc := 522) dL_law_522 rfl ?_
  refine tr_iload_n (pc := 523) dL_law_523 rfl ?_
  refine tr_iconst (pc := 524) dL_law_524 ⟨by decide, by decide⟩ ?_
  refine tr_iadd (pc := 525) dL_law_525 ⟨by omega, by omega⟩ ?_
  refine tr_sald (pc := 526) dL_law_526 ⟨by decide, by decide⟩ (by omega) (by omega) (show _ = sc G (i + 3) from rfl) ?_
  refine tr_cVi3 (pc := 527) dL_law_527 mtX9_face lvL_62 rfl sg0 kc9 ⟨(Nat.le_of_ble_eq_true rfl), (Nat.le_of_ble_eq_true rfl)⟩ nlX9_face (Nat.le_of_ble_eq_true rfl) ⟨(Nat.le_of_ble_eq_true rfl), (Nat.le_of_ble_eq_true rfl)⟩ (sp_X9_face hG h1.1) (fun r527 M527 h527 => ?_)
  obtain ⟨hr527, f1⟩ := h527
  obtain rfl := hr527.symm
  have h2a := h2.up f1.hi
  refine tr_aload_n (pc := 530) dL_law_530 rfl (by decide) ?_
  refine tr_sload_n (pc := 531) dL_law_531 rfl ?_
  refine tr_iload_n (pc := 532) dL_law_532 rfl ?_
  refine tr_iconst (pc := 533) dL_law_533 ⟨by decide, by decide⟩ ?_
  refine tr_iadd (pc := 534) dL_law_534 ⟨by omega, by omega⟩ ?_
  refine tr_sald (pc := 535) dL_law_535 ⟨by decide, by decide⟩ (by omega) (by omega) (show _ = sc G (i + 1) from rfl) ?_
  refine tr_sload_n (pc := 536) dL_law_536 rfl ?_
  refine tr_iload_n (pc := 537) dL_law_537 rfl ?_
  refine tr_iconst (pc := 538) dL_law_538 ⟨by decide, by decide⟩ ?_
  refine tr_iadd (pc := 539) dL_law_539 ⟨by omega, by omega⟩ ?_
  refine tr_sald (pc := 540) dL_law_540 ⟨by decide, by decide⟩ (by omega) (by omega) (show _ = sc G (i + 2) from rfl) ?_
  refine tr_sload_n (pc := 541) dL_law_541 rfl ?_
  refine tr_iload_n (pc := 542) dL_law_542 rfl ?_
  refine tr_iconst (pc := 543) dL_law_543 ⟨by decide, by decide⟩ ?_
  refine tr_iadd (pc := 544) dL_law_544 ⟨by omega, by omega⟩ ?_
  refine tr_sald (pc := 545) dL_law_545 ⟨by decide, by decide⟩ (by omega) (by omega) (show _ = sc G (i + 3) from rfl) ?_
  refine tr_cVi3 (pc := 546) dL_law_546 mtX10_face lvL_65 rfl sg101 kc10 ⟨(Nat.le_of_ble_eq_true rfl), (Nat.le_of_ble_eq_true rfl)⟩ nlX10_face (Nat.le_of_ble_eq_true rfl) ⟨(Nat.le_of_ble_eq_true rfl), (Nat.le_of_ble_eq_true rfl)⟩ (sp_X10_face h2a.1 hw.1) (fun r546 M546 h546 => ?_)
  obtain ⟨hr546, f2⟩ := h546
  obtain rfl := hr546.symm
  refine tr_icmpeq (pc := 549) (tgt := 1490) dL_law_549 (by decide) (fun c549 => ?_) (fun c549 => absurd c549 (fun hh => hh rfl))
  exact hQ _ (jj_ask hw h1 h2a f1 f2)
theorem lc_held {nm : String} {G : tk_G} {M : tk_M} {i : Int} {Q : tk_V → tk_S → tk_M → Prop} (hG : gs_ok G) (hi : lw_at G i) (hJ : JJ M) (hQ : lw_go nm G i Q) : Ok G (FLn nm) 554 [xS 0, xR 0, xR 101, xI i] [] SF M 136 5328 Q := by
  obtain ⟨z, hw, h1, h2⟩ := hJ
  obtain ⟨i0, i1, i2⟩ := hi
  refine tr_aload_n (pc := 554) dL_law_554 rfl (by decide) ?_
  refine tr_sload_n (pc := 555) dL_law_555 rfl ?_
  refine tr_iload_n (pc := 556) dL_law_556 rfl ?_
  refine tr_iconst (pc := 557) dL_law_557 ⟨by decide, by decide⟩ ?_
  refine tr_iadd (pc := 558) dL_law_558 ⟨by omega, by omega⟩ ?_
  refine tr_sald (pc := 559) dL_law_559 ⟨by decide, by decide⟩ (by omega) (by omega) (show _ = sc G (i + 1) from rfl) ?_
  refine tr_sload_n (pc := 560) dL_law_560 rfl ?_
  refine tr_iload_n (pc := 561) dL_law_561 rfl ?_
  refine tr_iconst (pc := 562) dL_law_562 ⟨by decide, by decide⟩ ?_
  refine tr_iadd (pc := 563) dL_law_563 ⟨by omega, by omega⟩ ?_
  refine tr_sald (pc := 564) dL_law_564 ⟨by decide, by decide⟩ (by omega) (by omega) (show _ = sc G (i + 2) from rfl) ?_
  refine tr_sload_n (pc := 565) dL_law_565 rfl ?_
  refine tr_iload_n (pc := 566) dL_law_566 rfl ?_
  refine tr_iconst (pc := 567) dL_law_567 ⟨by decide, by decide⟩ ?_
  refine tr_iadd (pc := 568) dL_law_568 ⟨by omega, by omega⟩ ?_
  refine tr_sald (pc := 569) dL_law_569 ⟨by decide, by decide⟩ (by omega) (by omega) (show _ = sc G (i + 3) from rfl) ?_
  refine tr_sload_n (pc := 570) dL_law_570 rfl ?_
  refine tr_iload_n (pc := 571) dL_law_571 rfl ?_
  refine tr_iconst (pc := 572) dL_law_572 ⟨by decide, by decide⟩ ?_
  refine tr_iadd (pc := 573) dL_law_573 ⟨by omega, by omega⟩ ?_
  refine tr_sald (pc := 574) dL_law_574 ⟨by decide, by decide⟩ (by omega) (by omega) (show _ = sc G (i + 4) from rfl) ?_
  refine tr_sload_n (pc := 575) dL_law_575 rfl ?_
  refine tr_iload_n (pc := 576) dL_law_576 rfl ?_
  refine tr_iconst (pc := 577) dL_law_577 ⟨by decide, by decide⟩ ?_
  refine tr_iadd (pc := 578) dL_law_578 ⟨by omega, by omega⟩ ?_
  refine tr_sald (pc := 579) dL_law_579 ⟨by decide, by decide⟩ (by omega) (by omega) (show _ = sc G (i + 5) from rfl) ?_
  refine tr_cVi5 (pc := 580) dL_law_580 mtX9_held lvL_66 rfl sg0 kc9 ⟨(Nat.le_of_ble_eq_true rfl), (Nat.le_of_ble_eq_true rfl)⟩ nlX9_held (Nat.le_of_ble_eq_true rfl) ⟨(Nat.le_of_ble_eq_true rfl), (Nat.le_of_ble_eq_true rfl)⟩ (sp_X9_held hG h1.1) (fun r580 M580 h580 => ?_)
  obtain ⟨hr580, f1⟩ := h580
  obtain rfl := hr580.symm
  have h2a := h2.up f1.hi
  refine tr_aload_n (pc := 583) dL_law_583 rfl (by decide) ?_
  refine tr_sload_n (pc := 584) dL_law_584 rfl ?_
  refine tr_iload_n (pc := 585) dL_law_585 rfl ?_
  refine tr_iconst (pc := 586) dL_law_586 ⟨by decide, by decide⟩ ?_
  refine tr_iadd (pc := 587) dL_law_587 ⟨by omega, by omega⟩ ?_
  refine tr_sald (pc := 588) dL_law_588 ⟨by decide, by decide⟩ (by omega) (by omega) (show _ = sc G (i + 1) from rfl) ?_
  refine tr_sload_n (pc := 589) dL_law_589 rfl ?_
  refine tr_iload_n (pc := 590) dL_law_590 rfl ?_
  refine tr_iconst (pc := 591) dL_law_591 ⟨by decide, by decide⟩ ?_
  refine tr_iadd (pc := 592) dL_law_592 ⟨by omega, by omega⟩ ?_
  refine tr_sald (pc := 593) dL_law_593 ⟨by decide, by decide⟩ (by omega) (by omega) (show _ = sc G (i + 2) from rfl) ?_
  refine tr_sload_n (pc := 594) dL_law_594 rfl ?_
  refine tr_iload_n (pc := 595) dL_law_595 rfl ?_
  refine tr_iconst (pc := 596) dL_law_596 ⟨by decide, by decide⟩ ?_
  refine tr_iadd (pc := 597) dL_law_597 ⟨by omega, by omega⟩ ?_
  refine tr_sald (pc := 598) dL_law_598 ⟨by decide, by decide⟩ (by omega) (by omega) (show _ = sc G (i + 3) from rfl) ?_
  refine tr_sload_n (pc := 599) dL_law_599 rfl ?_
  refine tr_iload_n (pc := 600) dL_law_600 rfl ?_
  refine tr_iconst (pc := 601) dL_law_601 ⟨by decide, by decide⟩ ?_
  refine tr_iadd (pc := 602) dL_law_602 ⟨by omega, by omega⟩ ?_
  refine tr_sald (pc := 603) dL_law_603 ⟨by decide, by decide⟩ (by omega) (by omega) (show _ = sc G (i + 4) from rfl) ?_
  refine tr_sload_n (pc := 604) dL_law_604 rfl ?_
  refine tr_iload_n (pc := 605) dL_law_605 rfl ?_
  refine tr_iconst (pc := 606) dL_law_606 ⟨by decide, by decide⟩ ?_
  refine tr_iadd (pc := 607) dL_law_607 ⟨by omega, by omega⟩ ?_
  refine tr_sald (pc := 608) dL_law_608 ⟨by decide, by decide⟩ (by omega) (by omega) (show _ = sc G (i + 5) from rfl) ?_
  refine tr_cVi5 (pc := 609) dL_law_609 mtX10_held lvL_70 rfl sg101 kc10 ⟨(Nat.le_of_ble_eq_true rfl), (Nat.le_of_ble_eq_true rfl)⟩ nlX10_held (Nat.le_of_ble_eq_true rfl) ⟨(Nat.le_of_ble_eq_true rfl), (Nat.le_of_ble_eq_true rfl)⟩ (sp_X10_held h2a.1 hw.1) (fun r609 M609 h609 => ?_)
  obtain ⟨hr609, f2⟩ := h609
  obtain rfl := hr609.symm
  refine tr_icmpeq (pc := 612) (tgt := 1490) dL_law_612 (by decide) (fun c612 => ?_) (fun c612 => absurd c612 (fun hh => hh rfl))
  exact hQ _ (jj_ask hw h1 h2a f1 f2)
theorem lc_reason {nm : String} {G : tk_G} {M : tk_M} {i : Int} {Q : tk_V → tk_S → tk_M → Prop} (hG : gs_ok G) (hi : lw_at G i) (hJ : JJ M) (hQ : lw_go nm G i Q) : Ok G (FLn nm) 617 [xS 0, xR 0, xR 101, xI i] [] SF M 136 5328 Q := by
  obtain ⟨z, hw, h1, h2⟩ := hJ
  obtain ⟨i0, i1, i2⟩ := hi
  refine tr_aload_n (pc := 617) dL_law_617 rfl (by decide) ?_
  refine tr_sload_n (pc := 618) dL_law_618 rfl ?_
  refine tr_iload_n (pc := 619) dL_law_619 rfl ?_
  refine tr_iconst (pc := 620) dL_law_620 ⟨by decide, by decide⟩ ?_
  refine tr_iadd (pc := 621) dL_law_621 ⟨by omega, by omega⟩ ?_
  refine tr_sald (pc := 622) dL_law_622 ⟨by decide, by decide⟩ (by omega) (by omega) (show _ = sc G (i + 1) from rfl) ?_
  refine tr_sload_n (pc := 623) dL_law_623 rfl ?_
  refine tr_iload_n (pc := 624) dL_law_624 rfl ?_
  refine tr_iconst (pc := 625) dL_law_625 ⟨by decide, by decide⟩ ?_
  refine tr_iadd (pc := 626) dL_law_626 ⟨by omega, by omega⟩ ?_
  refine tr_sald (pc := 627) dL_law_627 ⟨by decide, by decide⟩ (by omega) (by omega) (show _ = sc G (i + 2) from rfl) ?_
  refine tr_sload_n (pc := 628) dL_law_628 rfl ?_
  refine tr_iload_n (pc := 629) dL_law_629 rfl ?_
  refine tr_iconst (pc := 630) dL_law_630 ⟨by decide, by decide⟩ ?_
  refine tr_iadd (pc := 631) dL_law_631 ⟨by omega, by omega⟩ ?_
  refine tr_sald (pc := 632) dL_law_632 ⟨by decide, by decide⟩ (by omega) (by omega) (show _ = sc G (i + 3) from rfl) ?_
  refine tr_sload_n (pc := 633) dL_law_633 rfl ?_
  refine tr_iload_n (pc := 634) dL_law_634 rfl ?_
  refine tr_iconst (pc := 635) dL_law_635 ⟨by decide, by decide⟩ ?_
  refine tr_iadd (pc := 636) dL_law_636 ⟨by omega, by omega⟩ ?_
  refine tr_sald (pc := 637) dL_law_637 ⟨by decide, by decide⟩ (by omega) (by omega) (show _ = sc G (i + 4) from rfl) ?_
  refine tr_sload_n (pc := 638) dL_law_638 rfl ?_
  refine tr_iload_n (pc := 639) dL_law_639 rfl ?_
  refine tr_iconst (pc := 640) dL_law_640 ⟨by decide, by decide⟩ ?_
  refine tr_iadd (pc := 641) dL_law_641 ⟨by omega, by omega⟩ ?_
  refine tr_sald (pc := 642) dL_law_642 ⟨by decide, by decide⟩ (by omega) (by omega) (show _ = sc G (i + 5) from rfl) ?_
  refine tr_sload_n (pc := 643) dL_law_643 rfl ?_
  refine tr_iload_n (pc := 644) dL_law_644 rfl ?_
  refine tr_bipush (pc := 645) dL_law_645 ⟨by decide, ⟨by decide, by decide⟩⟩ ?_
  refine tr_iadd (pc := 647) dL_law_647 ⟨by omega, by omega⟩ ?_
  refine tr_sald (pc := 648) dL_law_648 ⟨by decide, by decide⟩ (by omega) (by omega) (show _ = sc G (i + 6) from rfl) ?_
  refine tr_cVi6 (pc := 649) dL_law_649 mtX9_reason lvL_71 rfl sg0 kc9 ⟨(Nat.le_of_ble_eq_true rfl), (Nat.le_of_ble_eq_true rfl)⟩ nlX9_reason (Nat.le_of_ble_eq_true rfl) ⟨(Nat.le_of_ble_eq_true rfl), (Nat.le_of_ble_eq_true rfl)⟩ (sp_X9_reason hG h1.1) (fun r649 M649 h649 => ?_)
  obtain ⟨hr649, f1⟩ := h649
  obtain rfl := hr649.symm
  have h2a := h2.up f1.hi
  refine tr_aload_n (pc := 652) dL_law_652 rfl (by decide) ?_
  refine tr_sload_n (pc := 653) dL_law_653 rfl ?_
  refine tr_iload_n (pc := 654) dL_law_654 rfl ?_
  refine tr_iconst (pc := 655) dL_law_655 ⟨by decide, by decide⟩ ?_
  refine tr_iadd (pc := 656) dL_law_656 ⟨by omega, by omega⟩ ?_
  refine tr_sald (pc := 657) dL_law_657 ⟨by decide, by decide⟩ (by omega) (by omega) (show _ = sc G (i + 1) from rfl) ?_
  refine tr_sload_n (pc := 658) dL_law_658 rfl ?_
  refine tr_iload_n (pc := 659) dL_law_659 rfl ?_
  refine tr_iconst (pc := 660) dL_law_660 ⟨by decide, by decide⟩ ?_
  refine tr_iadd (pc := 661) dL_law_661 ⟨by omega, by omega⟩ ?_
  refine tr_sald (pc := 662) dL_law_662 ⟨by decide, by decide⟩ (by omega) (by omega) (show _ = sc G (i + 2) from rfl) ?_
  refine tr_sload_n (pc := 663) dL_law_663 rfl ?_
  refine tr_iload_n (pc := 664) dL_law_664 rfl ?_
  refine tr_iconst (pc := 665) dL_law_665 ⟨by decide, by decide⟩ ?_
  refine tr_iadd (pc := 666) dL_law_666 ⟨by omega, by omega⟩ ?_
  refine tr_sald (pc := 667) dL_law_667 ⟨by decide, by decide⟩ (by omega) (by omega) (show _ = sc G (i + 3) from rfl) ?_
  refine tr_sload_n (pc := 668) dL_law_668 rfl ?_
  refine tr_iload_n (pc := 669) dL_law_669 rfl ?_
  refine tr_iconst (pc := 670) dL_law_670 ⟨by decide, by decide⟩ ?_
  refine tr_iadd (pc := 671) dL_law_671 ⟨by omega, by omega⟩ ?_
  refine tr_sald (pc := 672) dL_law_672 ⟨by decide, by decide⟩ (by omega) (by omega) (show _ = sc G (i + 4) from rfl) ?_
  refine tr_sload_n (pc := 673) dL_law_673 rfl ?_
  refine tr_iload_n (pc := 674) dL_law_674 rfl ?_
  refine tr_iconst (pc := 675) dL_law_675 ⟨by decide, by decide⟩ ?_
  refine tr_iadd (pc := 676) dL_law_676 ⟨by omega, by omega⟩ ?_
  refine tr_sald (pc := 677) dL_law_677 ⟨by decide, by decide⟩ (by omega) (by omega) (show _ = sc G (i + 5) from rfl) ?_
  refine tr_sload_n (pc := 678) dL_law_678 rfl ?_
  refine tr_iload_n (pc := 679) dL_law_679 rfl ?_
  refine tr_bipush (pc := 680) dL_law_680 ⟨by decide, ⟨by decide, by decide⟩⟩ ?_
  refine tr_iadd (pc := 682) dL_law_682 ⟨by omega, by omega⟩ ?_
  refine tr_sald (pc := 683) dL_law_683 ⟨by decide, by decide⟩ (by omega) (by omega) (show _ = sc G (i + 6) from rfl) ?_
  refine tr_cVi6 (pc := 684) dL_law_684 mtX10_reason lvL_75 rfl sg101 kc10 ⟨(Nat.le_of_ble_eq_true rfl), (Nat.le_of_ble_eq_true rfl)⟩ nlX10_reason (Nat.le_of_ble_eq_true rfl) ⟨(Nat.le_of_ble_eq_true rfl), (Nat.le_of_ble_eq_true rfl)⟩ (sp_X10_reason h2a.1 hw.1) (fun r684 M684 h684 => ?_)
  obtain ⟨hr684, f2⟩ := h684
  obtain rfl := hr684.symm
  refine tr_icmpeq (pc := 687) (tgt := 1490) dL_law_687 (by decide) (fun c687 => ?_) (fun c687 => absurd c687 (fun hh => hh rfl))
  exact hQ _ (jj_ask hw h1 h2a f1 f2)
theorem lc_jump {nm : String} {G : tk_G} {M : tk_M} {i : Int} {Q : tk_V → tk_S → tk_M → Prop} (hG : gs_ok G) (hi : lw_at G i) (hJ : JJ M) (hQ : lw_go nm G i Q) : Ok G (FLn nm) 692 [xS 0, xR 0, xR 101, xI i] [] SF M 136 5328 Q := by
  obtain ⟨z, hw, h1, h2⟩ := hJ
  obtain ⟨i0, i1, i2⟩ := hi
  refine tr_aload_n (pc := 692) dL_law_692 rfl (by decide) ?_
  refine tr_sload_n (pc := 693) dL_law_693 rfl ?_
  refine tr_iload_n (pc := 694) dL_law_694 rfl ?_
  refine tr_iconst (pc := 695) dL_law_695 ⟨by decide, by decide⟩ ?_
  refine tr_iadd (pc := 696) dL_law_696 ⟨by omega, by omega⟩ ?_
  refine tr_sald (pc := 697) dL_law_697 ⟨by decide, by decide⟩ (by omega) (by omega) (show _ = sc G (i + 1) from rfl) ?_
  refine tr_sload_n (pc := 698) dL_law_698 rfl ?_
  refine tr_iload_n (pc := 699) dL_law_699 rfl ?_
  refine tr_iconst (pc := 700) dL_law_700 ⟨by decide, by decide⟩ ?_
  refine tr_iadd (pc := 701) dL_law_701 ⟨by omega, by omega⟩ ?_
  refine tr_sald (pc := 702) dL_law_702 ⟨by decide, by decide⟩ (by omega) (by omega) (show _ = sc G (i + 2) from rfl) ?_
  refine tr_sload_n (pc := 703) dL_law_703 rfl ?_
  refine tr_iload_n (pc := 704) dL_law_704 rfl ?_
  refine tr_iconst (pc := 705) dL_law_705 ⟨by decide, by decide⟩ ?_
  refine tr_iadd (pc := 706) dL_law_706 ⟨by omega, by omega⟩ ?_
  refine tr_sald (pc := 707) dL_law_707 ⟨by decide, by decide⟩ (by omega) (by omega) (show _ = sc G (i + 3) from rfl) ?_
  refine tr_sload_n (pc := 708) dL_law_708 rfl ?_
  refine tr_iload_n (pc := 709) dL_law_709 rfl ?_
  refine tr_iconst (pc := 710) dL_law_710 ⟨by decide, by decide⟩ ?_
  refine tr_iadd (pc := 711) dL_law_711 ⟨by omega, by omega⟩ ?_
  refine tr_sald (pc := 712) dL_law_712 ⟨by decide, by decide⟩ (by omega) (by omega) (show _ = sc G (i + 4) from rfl) ?_
  refine tr_cVl4 (pc := 713) dL_law_713 mtX9_jump lvL_76 rfl sg0 kc9 ⟨(Nat.le_of_ble_eq_true rfl), (Nat.le_of_ble_eq_true rfl)⟩ nlX9_jump (Nat.le_of_ble_eq_true rfl) ⟨(Nat.le_of_ble_eq_true rfl), (Nat.le_of_ble_eq_true rfl)⟩ (sp_X9_jump hG h1.1) (fun r713 M713 h713 => ?_)
  obtain ⟨hr713, f1⟩ := h713
  obtain rfl := hr713.symm
  have h2a := h2.up f1.hi
  refine tr_aload_n (pc := 716) dL_law_716 rfl (by decide) ?_
  refine tr_sload_n (pc := 717) dL_law_717 rfl ?_
  refine tr_iload_n (pc := 718) dL_law_718 rfl ?_
  refine tr_iconst (pc := 719) dL_law_719 ⟨by decide, by decide⟩ ?_
  refine tr_iadd (pc := 720) dL_law_720 ⟨by omega, by omega⟩ ?_
  refine tr_sald (pc := 721) dL_law_721 ⟨by decide, by decide⟩ (by omega) (by omega) (show _ = sc G (i + 1) from rfl) ?_
  refine tr_sload_n (pc := 722) dL_law_722 rfl ?_
  refine tr_iload_n (pc := 723) dL_law_723 rfl ?_
  refine tr_iconst (pc := 724) dL_law_724 ⟨by decide, by decide⟩ ?_
  refine tr_iadd (pc := 725) dL_law_725 ⟨by omega, by omega⟩ ?_
  refine tr_sald (pc := 726) dL_law_726 ⟨by decide, by decide⟩ (by omega) (by omega) (show _ = sc G (i + 2) from rfl) ?_
  refine tr_sload_n (pc := 727) dL_law_727 rfl ?_
  refine tr_iload_n (pc := 728) dL_law_728 rfl ?_
  refine tr_iconst (pc := 729) dL_law_729 ⟨by decide, by decide⟩ ?_
  refine tr_iadd (pc := 730) dL_law_730 ⟨by omega, by omega⟩ ?_
  refine tr_sald (pc := 731) dL_law_731 ⟨by decide, by decide⟩ (by omega) (by omega) (show _ = sc G (i + 3) from rfl) ?_
  refine tr_sload_n (pc := 732) dL_law_732 rfl ?_
  refine tr_iload_n (pc := 733) dL_law_733 rfl ?_
  refine tr_iconst (pc := 734) dL_law_734 ⟨by decide, by decide⟩ ?_
  refine tr_iadd (pc := 735) dL_law_735 ⟨by omega, by omega⟩ ?_
  refine tr_sald (pc := 736) dL_law_736 ⟨by decide, by decide⟩ (by omega) (by omega) (show _ = sc G (i + 4) from rfl) ?_
  refine tr_cVl4 (pc := 737) dL_law_737 mtX10_jump lvL_80 rfl sg101 kc10 ⟨(Nat.le_of_ble_eq_true rfl), (Nat.le_of_ble_eq_true rfl)⟩ nlX10_jump (Nat.le_of_ble_eq_true rfl) ⟨(Nat.le_of_ble_eq_true rfl), (Nat.le_of_ble_eq_true rfl)⟩ (sp_X10_jump h2a.1 hw.1) (fun r737 M737 h737 => ?_)
  obtain ⟨hr737, f2⟩ := h737
  obtain rfl := hr737.symm
  refine tr_lceq (pc := 740) (tgt := 1490) dL_law_740 dL_law_741 (by decide) (fun c740 => ?_) (fun c740 => absurd c740 (fun hh => hh rfl))
  exact hQ _ (jj_ask hw h1 h2a f1 f2)
theorem lc_jumps {nm : String} {G : tk_G} {M : tk_M} {i : Int} {Q : tk_V → tk_S → tk_M → Prop} (hG : gs_ok G) (hi : lw_at G i) (hJ : JJ M) (hQ : lw_go nm G i Q) : Ok G (FLn nm) 746 [xS 0, xR 0, xR 101, xI i] [] SF M 136 5328 Q := by
  obtain ⟨z, hw, h1, h2⟩ := hJ
  obtain ⟨i0, i1, i2⟩ := hi
  refine tr_aload_n (pc := 746) dL_law_746 rfl (by decide) ?_
  refine tr_sload_n (pc := 747) dL_law_747 rfl ?_
  refine tr_iload_n (pc := 748) dL_law_748 rfl ?_
  refine tr_iconst (pc := 749) dL_law_749 ⟨by decide, by decide⟩ ?_
  refine tr_iadd (pc := 750) dL_law_750 ⟨by omega, by omega⟩ ?_
  refine tr_sald (pc := 751) dL_law_751 ⟨by decide, by decide⟩ (by omega) (by omega) (show _ = sc G (i + 1) from rfl) ?_
  refine tr_sload_n (pc := 752) dL_law_752 rfl ?_
  refine tr_iload_n (pc := 753) dL_law_753 rfl ?_
  refine tr_iconst (pc := 754) dL_law_754 ⟨by decide, by decide⟩ ?_
  refine tr_iadd (pc := 755) dL_law_755 ⟨by omega, by omega⟩ ?_
  refine tr_sald (pc := 756) dL_law_756 ⟨by decide, by decide⟩ (by omega) (by omega) (show _ = sc G (i + 2) from rfl) ?_
  refine tr_sload_n (pc := 757) dL_law_757 rfl ?_
  refine tr_iload_n (pc := 758) dL_law_758 rfl ?_
  refine tr_iconst (pc := 759) dL_law_759 ⟨by decide, by decide⟩ ?_
  refine tr_iadd (pc := 760) dL_law_760 ⟨by omega, by omega⟩ ?_
  refine tr_sald (pc := 761) dL_law_761 ⟨by decide, by decide⟩ (by omega) (by omega) (show _ = sc G (i + 3) from rfl) ?_
  refine tr_cVl3 (pc := 762) dL_law_762 mtX9_jumps lvL_81 rfl sg0 kc9 ⟨(Nat.le_of_ble_eq_true rfl), (Nat.le_of_ble_eq_true rfl)⟩ nlX9_jumps (Nat.le_of_ble_eq_true rfl) ⟨(Nat.le_of_ble_eq_true rfl), (Nat.le_of_ble_eq_true rfl)⟩ (sp_X9_jumps hG h1.1) (fun r762 M762 h762 => ?_)
  obtain ⟨hr762, f1⟩ := h762
  obtain rfl := hr762.symm
  have h2a := h2.up f1.hi
  refine tr_aload_n (pc := 765) dL_law_765 rfl (by decide) ?_
  refine tr_sload_n (pc := 766) dL_law_766 rfl ?_
  refine tr_iload_n (pc := 767) dL_law_767 rfl ?_
  refine tr_iconst (pc := 768) dL_law_768 ⟨by decide, by decide⟩ ?_
  refine tr_iadd (pc := 769) dL_law_769 ⟨by omega, by omega⟩ ?_
  refine tr_sald (pc := 770) dL_law_770 ⟨by decide, by decide⟩ (by omega) (by omega) (show _ = sc G (i + 1) from rfl) ?_
  refine tr_sload_n (pc := 771) dL_law_771 rfl ?_
  refine tr_iload_n (pc := 772) dL_law_772 rfl ?_
  refine tr_iconst (pc := 773) dL_law_773 ⟨by decide, by decide⟩ ?_
  refine tr_iadd (pc := 774) dL_law_774 ⟨by omega, by omega⟩ ?_
  refine tr_sald (pc := 775) dL_law_775 ⟨by decide, by decide⟩ (by omega) (by omega) (show _ = sc G (i + 2) from rfl) ?_
  refine tr_sload_n (pc := 776) dL_law_776 rfl ?_
  refine tr_iload_n (pc := 777) dL_law_777 rfl ?_
  refine tr_iconst (pc := 778) dL_law_778 ⟨by decide, by decide⟩ ?_
  refine tr_iadd (pc := 779) dL_law_779 ⟨by omega, by omega⟩ ?_
  refine tr_sald (pc := 780) dL_law_780 ⟨by decide, by decide⟩ (by omega) (by omega) (show _ = sc G (i + 3) from rfl) ?_
  refine tr_cVl3 (pc := 781) dL_law_781 mtX10_jumps lvL_85 rfl sg101 kc10 ⟨(Nat.le_of_ble_eq_true rfl), (Nat.le_of_ble_eq_true rfl)⟩ nlX10_jumps (Nat.le_of_ble_eq_true rfl) ⟨(Nat.le_of_ble_eq_true rfl), (Nat.le_of_ble_eq_true rfl)⟩ (sp_X10_jumps h2a.1 hw.1) (fun r781 M781 h781 => ?_)
  obtain ⟨hr781, f2⟩ := h781
  obtain rfl := hr781.symm
  refine tr_lceq (pc := 784) (tgt := 1490) dL_law_784 dL_law_785 (by decide) (fun c784 => ?_) (fun c784 => absurd c784 (fun hh => hh rfl))
  exact hQ _ (jj_ask hw h1 h2a f1 f2)
theorem lc_lacks {nm : String} {G : tk_G} {M : tk_M} {i : Int} {Q : tk_V → tk_S → tk_M → Prop} (hG : gs_ok G) (hi : lw_at G i) (hJ : JJ M) (hQ : lw_go nm G i Q) : Ok G (FLn nm) 790 [xS 0, xR 0, xR 101, xI i] [] SF M 136 5328 Q := by
  obtain ⟨z, hw, h1, h2⟩ := hJ
  obtain ⟨i0, i1, i2⟩ := hi
  refine tr_aload_n (pc := 790) dL_law_790 rfl (by decide) ?_
  refine tr_sload_n (pc := 791) dL_law_791 rfl ?_
  refine tr_iload_n (pc := 792) dL_law_792 rfl ?_
  refine tr_iconst (pc := 793) dL_law_793 ⟨by decide, by decide⟩ ?_
  refine tr_iadd (pc := 794) dL_law_794 ⟨by omega, by omega⟩ ?_
  refine tr_sald (pc := 795) dL_law_795 ⟨by decide, by decide⟩ (by omega) (by omega) (show _ = sc G (i + 1) from rfl) ?_
  refine tr_sload_n (pc := 796) dL_law_796 rfl ?_
  refine tr_iload_n (pc := 797) dL_law_797 rfl ?_
  refine tr_iconst (pc := 798) dL_law_798 ⟨by decide, by decide⟩ ?_
  refine tr_iadd (pc := 799) dL_law_799 ⟨by omega, by omega⟩ ?_
  refine tr_sald (pc := 800) dL_law_800 ⟨by decide, by decide⟩ (by omega) (by omega) (show _ = sc G (i + 2) from rfl) ?_
  refine tr_sload_n (pc := 801) dL_law_801 rfl ?_
  refine tr_iload_n (pc := 802) dL_law_802 rfl ?_
  refine tr_iconst (pc := 803) dL_law_803 ⟨by decide, by decide⟩ ?_
  refine tr_iadd (pc := 804) dL_law_804 ⟨by omega, by omega⟩ ?_
  refine tr_sald (pc := 805) dL_law_805 ⟨by decide, by decide⟩ (by omega) (by omega) (show _ = sc G (i + 3) from rfl) ?_
  refine tr_cVi3 (pc := 806) dL_law_806 mtX9_lacks lvL_86 rfl sg0 kc9 ⟨(Nat.le_of_ble_eq_true rfl), (Nat.le_of_ble_eq_true rfl)⟩ nlX9_lacks (Nat.le_of_ble_eq_true rfl) ⟨(Nat.le_of_ble_eq_true rfl), (Nat.le_of_ble_eq_true rfl)⟩ (sp_X9_lacks hG h1.1) (fun r806 M806 h806 => ?_)
  obtain ⟨hr806, f1⟩ := h806
  obtain rfl := hr806.symm
  have h2a := h2.up f1.hi
  refine tr_aload_n (pc := 809) dL_law_809 rfl (by decide) ?_
  refine tr_sload_n (pc := 810) dL_law_810 rfl ?_
  refine tr_iload_n (pc := 811) dL_law_811 rfl ?_
  refine tr_iconst (pc := 812) dL_law_812 ⟨by decide, by decide⟩ ?_
  refine tr_iadd (pc := 813) dL_law_813 ⟨by omega, by omega⟩ ?_
  refine tr_sald (pc := 814) dL_law_814 ⟨by decide, by decide⟩ (by omega) (by omega) (show _ = sc G (i + 1) from rfl) ?_
  refine tr_sload_n (pc := 815) dL_law_815 rfl ?_
  refine tr_iload_n (pc := 816) dL_law_816 rfl ?_
  refine tr_iconst (pc := 817) dL_law_817 ⟨by decide, by decide⟩ ?_
  refine tr_iadd (pc := 818) dL_law_818 ⟨by omega, by omega⟩ ?_
  refine tr_sald (pc := 819) dL_law_819 ⟨by decide, by decide⟩ (by omega) (by omega) (show _ = sc G (i + 2) from rfl) ?_
  refine tr_sload_n (pc := 820) dL_law_820 rfl ?_
  refine tr_iload_n (pc := 821) dL_law_821 rfl ?_
  refine tr_iconst (pc := 822) dL_law_822 ⟨by decide, by decide⟩ ?_
  refine tr_iadd (pc := 823) dL_law_823 ⟨by omega, by omega⟩ ?_
  refine tr_sald (pc := 824) dL_law_824 ⟨by decide, by decide⟩ (by omega) (by omega) (show _ = sc G (i + 3) from rfl) ?_
  refine tr_cVi3 (pc := 825) dL_law_825 mtX10_lacks lvL_89 rfl sg101 kc10 ⟨(Nat.le_of_ble_eq_true rfl), (Nat.le_of_ble_eq_true rfl)⟩ nlX10_lacks (Nat.le_of_ble_eq_true rfl) ⟨(Nat.le_of_ble_eq_true rfl), (Nat.le_of_ble_eq_true rfl)⟩ (sp_X10_lacks h2a.1 hw.1) (fun r825 M825 h825 => ?_)
  obtain ⟨hr825, f2⟩ := h825
  obtain rfl := hr825.symm
  refine tr_icmpeq (pc := 828) (tgt := 1490) dL_law_828 (by decide) (fun c828 => ?_) (fun c828 => absurd c828 (fun hh => hh rfl))
  exact hQ _ (jj_ask hw h1 h2a f1 f2)
theorem lc_height {nm : String} {G : tk_G} {M : tk_M} {i : Int} {Q : tk_V → tk_S → tk_M → Prop} (hG : gs_ok G) (hi : lw_at G i) (hJ : JJ M) (hQ : lw_go nm G i Q) : Ok G (FLn nm) 833 [xS 0, xR 0, xR 101, xI i] [] SF M 136 5328 Q := by
  obtain ⟨z, hw, h1, h2⟩ := hJ
  obtain ⟨i0, i1, i2⟩ := hi
  refine tr_aload_n (pc := 833) dL_law_833 rfl (by decide) ?_
  refine tr_sload_n (pc := 834) dL_law_834 rfl ?_
  refine tr_iload_n (pc := 835) dL_law_835 rfl ?_
  refine tr_iconst (pc := 836) dL_law_836 ⟨by decide, by decide⟩ ?_
  refine tr_iadd (pc := 837) dL_law_837 ⟨by omega, by omega⟩ ?_
  refine tr_sald (pc := 838) dL_law_838 ⟨by decide, by decide⟩ (by omega) (by omega) (show _ = sc G (i + 1) from rfl) ?_
  refine tr_sload_n (pc := 839) dL_law_839 rfl ?_
  refine tr_iload_n (pc := 840) dL_law_840 rfl ?_
  refine tr_iconst (pc := 841) dL_law_841 ⟨by decide, by decide⟩ ?_
  refine tr_iadd (pc := 842) dL_law_842 ⟨by omega, by omega⟩ ?_
  refine tr_sald (pc := 843) dL_law_843 ⟨by decide, by decide⟩ (by omega) (by omega) (show _ = sc G (i + 2) from rfl) ?_
  refine tr_sload_n (pc := 844) dL_law_844 rfl ?_
  refine tr_iload_n (pc := 845) dL_law_845 rfl ?_
  refine tr_iconst (pc := 846) dL_law_846 ⟨by decide, by decide⟩ ?_
  refine tr_iadd (pc := 847) dL_law_847 ⟨by omega, by omega⟩ ?_
  refine tr_sald (pc := 848) dL_law_848 ⟨by decide, by decide⟩ (by omega) (by omega) (show _ = sc G (i + 3) from rfl) ?_
  refine tr_cVi3 (pc := 849) dL_law_849 mtX9_height lvL_90 rfl sg0 kc9 ⟨(Nat.le_of_ble_eq_true rfl), (Nat.le_of_ble_eq_true rfl)⟩ nlX9_height (Nat.le_of_ble_eq_true rfl) ⟨(Nat.le_of_ble_eq_true rfl), (Nat.le_of_ble_eq_true rfl)⟩ (sp_X9_height h1.1) (fun r849 M849 h849 => ?_)
  obtain ⟨hr849, f1⟩ := h849
  obtain rfl := hr849.symm
  have h2a := h2.up f1.hi
  refine tr_aload_n (pc := 852) dL_law_852 rfl (by decide) ?_
  refine tr_sload_n (pc := 853) dL_law_853 rfl ?_
  refine tr_iload_n (pc := 854) dL_law_854 rfl ?_
  refine tr_iconst (pc := 855) dL_law_855 ⟨by decide, by decide⟩ ?_
  refine tr_iadd (pc := 856) dL_law_856 ⟨by omega, by omega⟩ ?_
  refine tr_sald (pc := 857) dL_law_857 ⟨by decide, by decide⟩ (by omega) (by omega) (show _ = sc G (i + 1) from rfl) ?_
  refine tr_sload_n (pc := 858) dL_law_858 rfl ?_
  refine tr_iload_n (pc := 859) dL_law_859 rfl ?_
  refine tr_iconst (pc := 860) dL_law_860 ⟨by decide, by decide⟩ ?_
  refine tr_iadd (pc := 861) dL_law_861 ⟨by omega, by omega⟩ ?_
  refine tr_sald (pc := 862) dL_law_862 ⟨by decide, by decide⟩ (by omega) (by omega) (show _ = sc G (i + 2) from rfl) ?_
  refine tr_sload_n (pc := 863) dL_law_863 rfl ?_
  refine tr_iload_n (pc := 864) dL_law_864 rfl ?_
  refine tr_iconst (pc := 865) dL_law_865 ⟨by decide, by decide⟩ ?_
  refine tr_iadd (pc := 866) dL_law_866 ⟨by omega, by omega⟩ ?_
  refine tr_sald (pc := 867) dL_law_867 ⟨by decide, by decide⟩ (by omega) (by omega) (show _ = sc G (i + 3) from rfl) ?_
  refine tr_cVi3 (pc := 868) dL_law_868 mtX10_height lvL_93 rfl sg101 kc10 ⟨(Nat.le_of_ble_eq_true rfl), (Nat.le_of_ble_eq_true rfl)⟩ nlX10_height (Nat.le_of_ble_eq_true rfl) ⟨(Nat.le_of_ble_eq_true rfl), (Nat.le_of_ble_eq_true rfl)⟩ (sp_X10_height h2a.1) (fun r868 M868 h868 => ?_)
  obtain ⟨hr868, f2⟩ := h868
  obtain rfl := hr868.symm
  refine tr_icmpeq (pc := 871) (tgt := 1490) dL_law_871 (by decide) (fun c871 => ?_) (fun c871 => absurd c871 (fun hh => hh rfl))
  exact hQ _ (jj_ask hw h1 h2a f1 f2)
theorem lc_reduces {nm : String} {G : tk_G} {M : tk_M} {i : Int} {Q : tk_V → tk_S → tk_M → Prop} (hG : gs_ok G) (hi : lw_at G i) (hJ : JJ M) (hQ : lw_go nm G i Q) : Ok G (FLn nm) 876 [xS 0, xR 0, xR 101, xI i] [] SF M 136 5328 Q := by
  obtain ⟨z, hw, h1, h2⟩ := hJ
  obtain ⟨i0, i1, i2⟩ := hi
  refine tr_aload_n (pc := 876) dL_law_876 rfl (by decide) ?_
  refine tr_sload_n (pc := 877) dL_law_877 rfl ?_
  refine tr_iload_n (pc := 878) dL_law_878 rfl ?_
  refine tr_iconst (pc := 879) dL_law_879 ⟨by decide, by decide⟩ ?_
  refine tr_iadd (pc := 880) dL_law_880 ⟨by omega, by omega⟩ ?_
  refine tr_sald (pc := 881) dL_law_881 ⟨by decide, by decide⟩ (by omega) (by omega) (show _ = sc G (i + 1) from rfl) ?_
  refine tr_cVi1 (pc := 882) dL_law_882 mtX9_reduces lvL_94 rfl sg0 kc9 ⟨(Nat.le_of_ble_eq_true rfl), (Nat.le_of_ble_eq_true rfl)⟩ nlX9_reduces (Nat.le_of_ble_eq_true rfl) ⟨(Nat.le_of_ble_eq_true rfl), (Nat.le_of_ble_eq_true rfl)⟩ (sp_X9_reduces hG h1.1) (fun r882 M882 h882 => ?_)
  obtain ⟨hr882, f1⟩ := h882
  obtain rfl := hr882.symm
  have h2a := h2.up f1.hi
  refine tr_aload_n (pc := 885) dL_law_885 rfl (by decide) ?_
  refine tr_sload_n (pc := 886) dL_law_886 rfl ?_
  refine tr_iload_n (pc := 887) dL_law_887 rfl ?_
  refine tr_iconst (pc := 888) dL_law_888 ⟨by decide, by decide⟩ ?_
  refine tr_iadd (pc := 889) dL_law_889 ⟨by omega, by omega⟩ ?_
  refine tr_sald (pc := 890) dL_law_890 ⟨by decide, by decide⟩ (by omega) (by omega) (show _ = sc G (i + 1) from rfl) ?_
  refine tr_cVi1 (pc := 891) dL_law_891 mtX10_reduces lvL_97 rfl sg101 kc10 ⟨(Nat.le_of_ble_eq_true rfl), (Nat.le_of_ble_eq_true rfl)⟩ nlX10_reduces (Nat.le_of_ble_eq_true rfl) ⟨(Nat.le_of_ble_eq_true rfl), (Nat.le_of_ble_eq_true rfl)⟩ (sp_X10_reduces h2a.1 hw.1) (fun r891 M891 h891 => ?_)
  obtain ⟨hr891, f2⟩ := h891
  obtain rfl := hr891.symm
  refine tr_icmpeq (pc := 894) (tgt := 1490) dL_law_894 (by decide) (fun c894 => ?_) (fun c894 => absurd c894 (fun hh => hh rfl))
  exact hQ _ (jj_ask hw h1 h2a f1 f2)
theorem lc_see {nm : String} {G : tk_G} {M : tk_M} {i : Int} {Q : tk_V → tk_S → tk_M → Prop} (hG : gs_ok G) (hi : lw_at G i) (hJ : JJ M) (hQ : lw_go nm G i Q) : Ok G (FLn nm) 899 [xS 0, xR 0, xR 101, xI i] [] SF M 136 5328 Q := by
  obtain ⟨z, hw, h1, h2⟩ := hJ
  obtain ⟨i0, i1, i2⟩ := hi
  refine tr_aload_n (pc := 899) dL_law_899 rfl (by decide) ?_
  refine tr_sload_n (pc := 900) dL_law_900 rfl ?_
  refine tr_iload_n (pc := 901) dL_law_901 rfl ?_
  refine tr_iconst (pc := 902) dL_law_902 ⟨by decide, by decide⟩ ?_
  refine tr_iadd (pc := 903) dL_law_903 ⟨by omega, by omega⟩ ?_
  refine tr_sald (pc := 904) dL_law_904 ⟨by decide, by decide⟩ (by omega) (by omega) (show _ = sc G (i + 1) from rfl) ?_
  refine tr_sload_n (pc := 905) dL_law_905 rfl ?_
  refine tr_iload_n (pc := 906) dL_law_906 rfl ?_
  refine tr_iconst (pc := 907) dL_law_907 ⟨by decide, by decide⟩ ?_
  refine tr_iadd (pc := 908) dL_law_908 ⟨by omega, by omega⟩ ?_
  refine tr_sald (pc := 909) dL_law_909 ⟨by decide, by decide⟩ (by omega) (by omega) (show _ = sc G (i + 2) from rfl) ?_
  refine tr_sload_n (pc := 910) dL_law_910 rfl ?_
  refine tr_iload_n (pc := 911) dL_law_911 rfl ?_
  refine tr_iconst (pc := 912) dL_law_912 ⟨by decide, by decide⟩ ?_
  refine tr_iadd (pc := 913) dL_law_913 ⟨by omega, by omega⟩ ?_
  refine tr_sald (pc := 914) dL_law_914 ⟨by decide, by decide⟩ (by omega) (by omega) (show _ = sc G (i + 3) from rfl) ?_
  refine tr_cVi3 (pc := 915) dL_law_915 mtX9_see lvL_98 rfl sg0 kc9 ⟨(Nat.le_of_ble_eq_true rfl), (Nat.le_of_ble_eq_true rfl)⟩ nlX9_see (Nat.le_of_ble_eq_true rfl) ⟨(Nat.le_of_ble_eq_true rfl), (Nat.le_of_ble_eq_true rfl)⟩ (sp_X9_see h1.2.1.1) (fun r915 M915 h915 => ?_)
  obtain ⟨hr915, C1, f1⟩ := h915
  obtain rfl := hr915.symm
  have h2a := h2.up (fun c hc => f1 c (by omega))
  refine tr_aload_n (pc := 918) dL_law_918 rfl (by decide) ?_
  refine tr_sload_n (pc := 919) dL_law_919 rfl ?_
  refine tr_iload_n (pc := 920) dL_law_920 rfl ?_
  refine tr_iconst (pc := 921) dL_law_921 ⟨by decide, by decide⟩ ?_
  refine tr_iadd (pc := 922) dL_law_922 ⟨by omega, by omega⟩ ?_
  refine tr_sald (pc := 923) dL_law_923 ⟨by decide, by decide⟩ (by omega) (by omega) (show _ = sc G (i + 1) from rfl) ?_
  refine tr_sload_n (pc := 924) dL_law_924 rfl ?_
  refine tr_iload_n (pc := 925) dL_law_925 rfl ?_
  refine tr_iconst (pc := 926) dL_law_926 ⟨by decide, by decide⟩ ?_
  refine tr_iadd (pc := 927) dL_law_927 ⟨by omega, by omega⟩ ?_
  refine tr_sald (pc := 928) dL_law_928 ⟨by decide, by decide⟩ (by omega) (by omega) (show _ = sc G (i + 2) from rfl) ?_
  refine tr_sload_n (pc := 929) dL_law_929 rfl ?_
  refine tr_iload_n (pc := 930) dL_law_930 rfl ?_
  refine tr_iconst (pc := 931) dL_law_931 ⟨by decide, by decide⟩ ?_
  refine tr_iadd (pc := 932) dL_law_932 ⟨by omega, by omega⟩ ?_
  refine tr_sald (pc := 933) dL_law_933 ⟨by decide, by decide⟩ (by omega) (by omega) (show _ = sc G (i + 3) from rfl) ?_
  refine tr_cVi3 (pc := 934) dL_law_934 mtX10_see lvL_101 rfl sg101 kc10 ⟨(Nat.le_of_ble_eq_true rfl), (Nat.le_of_ble_eq_true rfl)⟩ nlX10_see (Nat.le_of_ble_eq_true rfl) ⟨(Nat.le_of_ble_eq_true rfl), (Nat.le_of_ble_eq_true rfl)⟩ (sp_X10_see h2a.2.1.1) (fun r934 M934 h934 => ?_)
  obtain ⟨hr934, C2, f2⟩ := h934
  obtain rfl := hr934.symm
  refine tr_icmpeq (pc := 937) (tgt := 1490) dL_law_937 (by decide) (fun c937 => ?_) (fun c937 => absurd c937 (fun hh => hh rfl))
  exact hQ _ (jj_see hw h1 h2a (see_ok hw.2.1.1 _ _ _) C1 f1 C2 f2)
theorem lc_fits {nm : String} {G : tk_G} {M : tk_M} {i : Int} {Q : tk_V → tk_S → tk_M → Prop} (hG : gs_ok G) (hi : lw_at G i) (hJ : JJ M) (hQ : lw_go nm G i Q) : Ok G (FLn nm) 942 [xS 0, xR 0, xR 101, xI i] [] SF M 136 5328 Q := by
  obtain ⟨z, hw, h1, h2⟩ := hJ
  obtain ⟨i0, i1, i2⟩ := hi
  refine tr_aload_n (pc := 942) dL_law_942 rfl (by decide) ?_
  refine tr_sload_n (pc := 943) dL_law_943 rfl ?_
  refine tr_iload_n (pc := 944) dL_law_944 rfl ?_
  refine tr_iconst (pc := 945) dL_law_945 ⟨by decide, by decide⟩ ?_
  refine tr_iadd (pc := 946) dL_law_946 ⟨by omega, by omega⟩ ?_
  refine tr_sald (pc := 947) dL_law_947 ⟨by decide, by decide⟩ (by omega) (by omega) (show _ = sc G (i + 1) from rfl) ?_
  refine tr_sload_n (pc := 948) dL_law_948 rfl ?_
  refine tr_iload_n (pc := 949) dL_law_949 rfl ?_
  refine tr_iconst (pc := 950) dL_law_950 ⟨by decide, by decide⟩ ?_
  refine tr_iadd (pc := 951) dL_law_951 ⟨by omega, by omega⟩ ?_
  refine tr_sald (pc := 952) dL_law_952 ⟨by decide, by decide⟩ (by omega) (by omega) (show _ = sc G (i + 2) from rfl) ?_
  refine tr_sload_n (pc := 953) dL_law_953 rfl ?_
  refine tr_iload_n (pc := 954) dL_law_954 rfl ?_
  refine tr_iconst (pc := 955) dL_law_955 ⟨by decide, by decide⟩ ?_
  refine tr_iadd (pc := 956) dL_law_956 ⟨by omega, by omega⟩ ?_
  refine tr_sald (pc := 957) dL_law_957 ⟨by decide, by decide⟩ (by omega) (by omega) (show _ = sc G (i + 3) from rfl) ?_
  refine tr_sload_n (pc := 958) dL_law_958 rfl ?_
  refine tr_iload_n (pc := 959) dL_law_959 rfl ?_
  refine tr_iconst (pc := 960) dL_law_960 ⟨by decide, by decide⟩ ?_
  refine tr_iadd (pc := 961) dL_law_961 ⟨by omega, by omega⟩ ?_
  refine tr_sald (pc := 962) dL_law_962 ⟨by decide, by decide⟩ (by omega) (by omega) (show _ = sc G (i + 4) from rfl) ?_
  refine tr_cVi4 (pc := 963) dL_law_963 mtX9_fits lvL_102 rfl sg0 kc9 ⟨(Nat.le_of_ble_eq_true rfl), (Nat.le_of_ble_eq_true rfl)⟩ nlX9_fits (Nat.le_of_ble_eq_true rfl) ⟨(Nat.le_of_ble_eq_true rfl), (Nat.le_of_ble_eq_true rfl)⟩ (sp_X9_fits hG h1.1 h1.2.1.1 hw.2.1.1) (fun r963 M963 h963 => ?_)
  obtain ⟨hr963, f1⟩ := h963
  obtain rfl := hr963.symm
  have h2a := h2.up f1.hi
  refine tr_aload_n (pc := 966) dL_law_966 rfl (by decide) ?_
  refine tr_sload_n (pc := 967) dL_law_967 rfl ?_
  refine tr_iload_n (pc := 968) dL_law_968 rfl ?_
  refine tr_iconst (pc := 969) dL_law_969 ⟨by decide, by decide⟩ ?_
  refine tr_iadd (pc := 970) dL_law_970 ⟨by omega, by omega⟩ ?_
  refine tr_sald (pc := 971) dL_law_971 ⟨by decide, by decide⟩ (by omega) (by omega) (show _ = sc G (i + 1) from rfl) ?_
  refine tr_sload_n (pc := 972) dL_law_972 rfl ?_
  refine tr_iload_n (pc := 973) dL_law_973 rfl ?_
  refine tr_iconst (pc := 974) dL_law_974 ⟨by decide, by decide⟩ ?_
  refine tr_iadd (pc := 975) dL_law_975 ⟨by omega, by omega⟩ ?_
  refine tr_sald (pc := 976) dL_law_976 ⟨by decide, by decide⟩ (by omega) (by omega) (show _ = sc G (i + 2) from rfl) ?_
  refine tr_sload_n (pc := 977) dL_law_977 rfl ?_
  refine tr_iload_n (pc := 978) dL_law_978 rfl ?_
  refine tr_iconst (pc := 979) dL_law_979 ⟨by decide, by decide⟩ ?_
  refine tr_iadd (pc := 980) dL_law_980 ⟨by omega, by omega⟩ ?_
  refine tr_sald (pc := 981) dL_law_981 ⟨by decide, by decide⟩ (by omega) (by omega) (show _ = sc G (i + 3) from rfl) ?_
  refine tr_sload_n (pc := 982) dL_law_982 rfl ?_
  refine tr_iload_n (pc := 983) dL_law_983 rfl ?_
  refine tr_iconst (pc := 984) dL_law_984 ⟨by decide, by decide⟩ ?_
  refine tr_iadd (pc := 985) dL_law_985 ⟨by omega, by omega⟩ ?_
  refine tr_sald (pc := 986) dL_law_986 ⟨by decide, by decide⟩ (by omega) (by omega) (show _ = sc G (i + 4) from rfl) ?_
  refine tr_cVi4 (pc := 987) dL_law_987 mtX10_fits lvL_105 rfl sg101 kc10 ⟨(Nat.le_of_ble_eq_true rfl), (Nat.le_of_ble_eq_true rfl)⟩ nlX10_fits (Nat.le_of_ble_eq_true rfl) ⟨(Nat.le_of_ble_eq_true rfl), (Nat.le_of_ble_eq_true rfl)⟩ (sp_X10_fits h2a.1 hw.1 h2a.2.1.1 hw.2.1.1) (fun r987 M987 h987 => ?_)
  obtain ⟨hr987, f2⟩ := h987
  obtain rfl := hr987.symm
  refine tr_icmpeq (pc := 990) (tgt := 1490) dL_law_990 (by decide) (fun c990 => ?_) (fun c990 => absurd c990 (fun hh => hh rfl))
  exact hQ _ (jj_ask hw h1 h2a f1 f2)
theorem lc_odds {nm : String} {G : tk_G} {M : tk_M} {i : Int} {Q : tk_V → tk_S → tk_M → Prop} (hG : gs_ok G) (hi : lw_at G i) (hJ : JJ M) (hQ : lw_go nm G i Q) : Ok G (FLn nm) 995 [xS 0, xR 0, xR 101, xI i] [] SF M 136 5328 Q := by
  obtain ⟨z, hw, h1, h2⟩ := hJ
  obtain ⟨i0, i1, i2⟩ := hi
  refine tr_aload_n (pc := 995) dL_law_995 rfl (by decide) ?_
  refine tr_sload_n (pc := 996) dL_law_996 rfl ?_
  refine tr_iload_n (pc := 997) dL_law_997 rfl ?_
  refine tr_iconst (pc := 998) dL_law_998 ⟨by decide, by decide⟩ ?_
  refine tr_iadd (pc := 999) dL_law_999 ⟨by omega, by omega⟩ ?_
  refine tr_sald (pc := 1000) dL_law_1000 ⟨by decide, by decide⟩ (by omega) (by omega) (show _ = sc G (i + 1) from rfl) ?_
  refine tr_sload_n (pc := 1001) dL_law_1001 rfl ?_
  refine tr_iload_n (pc := 1002) dL_law_1002 rfl ?_
  refine tr_iconst (pc := 1003) dL_law_1003 ⟨by decide, by decide⟩ ?_
  refine tr_iadd (pc := 1004) dL_law_1004 ⟨by omega, by omega⟩ ?_
  refine tr_sald (pc := 1005) dL_law_1005 ⟨by decide, by decide⟩ (by omega) (by omega) (show _ = sc G (i + 2) from rfl) ?_
  refine tr_sload_n (pc := 1006) dL_law_1006 rfl ?_
  refine tr_iload_n (pc := 1007) dL_law_1007 rfl ?_
  refine tr_iconst (pc := 1008) dL_law_1008 ⟨by decide, by decide⟩ ?_
  refine tr_iadd (pc := 1009) dL_law_1009 ⟨by omega, by omega⟩ ?_
  refine tr_sald (pc := 1010) dL_law_1010 ⟨by decide, by decide⟩ (by omega) (by omega) (show _ = sc G (i + 3) from rfl) ?_
  refine tr_sload_n (pc := 1011) dL_law_1011 rfl ?_
  refine tr_iload_n (pc := 1012) dL_law_1012 rfl ?_
  refine tr_iconst (pc := 1013) dL_law_1013 ⟨by decide, by decide⟩ ?_
  refine tr_iadd (pc := 1014) dL_law_1014 ⟨by omega, by omega⟩ ?_
  refine tr_sald (pc := 1015) dL_law_1015 ⟨by decide, by decide⟩ (by omega) (by omega) (show _ = sc G (i + 4) from rfl) ?_
  refine tr_cVl4 (pc := 1016) dL_law_1016 mtX9_odds lvL_106 rfl sg0 kc9 ⟨(Nat.le_of_ble_eq_true rfl), (Nat.le_of_ble_eq_true rfl)⟩ nlX9_odds (Nat.le_of_ble_eq_true rfl) ⟨(Nat.le_of_ble_eq_true rfl), (Nat.le_of_ble_eq_true rfl)⟩ (sp_X9_odds hG h1.1) (fun r1016 M1016 h1016 => ?_)
  obtain ⟨hr1016, f1⟩ := h1016
  obtain rfl := hr1016.symm
  have h2a := h2.up f1.hi
  refine tr_aload_n (pc := 1019) dL_law_1019 rfl (by decide) ?_
  refine tr_sload_n (pc := 1020) dL_law_1020 rfl ?_
  refine tr_iload_n (pc := 1021) dL_law_1021 rfl ?_
  refine tr_iconst (pc := 1022) dL_law_1022 ⟨by decide, by decide⟩ ?_
  refine tr_iadd (pc := 1023) dL_law_1023 ⟨by omega, by omega⟩ ?_
  refine tr_sald (pc := 1024) dL_law_1024 ⟨by decide, by decide⟩ (by omega) (by omega) (show _ = sc G (i + 1) from rfl) ?_
  refine tr_sload_n (pc := 1025) dL_law_1025 rfl ?_
  refine tr_iload_n (pc := 1026) dL_law_1026 rfl ?_
  refine tr_iconst (pc := 1027) dL_law_1027 ⟨by decide, by decide⟩ ?_
  refine tr_iadd (pc := 1028) dL_law_1028 ⟨by omega, by omega⟩ ?_
  refine tr_sald (pc := 1029) dL_law_1029 ⟨by decide, by decide⟩ (by omega) (by omega) (show _ = sc G (i + 2) from rfl) ?_
  refine tr_sload_n (pc := 1030) dL_law_1030 rfl ?_
  refine tr_iload_n (pc := 1031) dL_law_1031 rfl ?_
  refine tr_iconst (pc := 1032) dL_law_1032 ⟨by decide, by decide⟩ ?_
  refine tr_iadd (pc := 1033) dL_law_1033 ⟨by omega, by omega⟩ ?_
  refine tr_sald (pc := 1034) dL_law_1034 ⟨by decide, by decide⟩ (by omega) (by omega) (show _ = sc G (i + 3) from rfl) ?_
  refine tr_sload_n (pc := 1035) dL_law_1035 rfl ?_
  refine tr_iload_n (pc := 1036) dL_law_1036 rfl ?_
  refine tr_iconst (pc := 1037) dL_law_1037 ⟨by decide, by decide⟩ ?_
  refine tr_iadd (pc := 1038) dL_law_1038 ⟨by omega, by omega⟩ ?_
  refine tr_sald (pc := 1039) dL_law_1039 ⟨by decide, by decide⟩ (by omega) (by omega) (show _ = sc G (i + 4) from rfl) ?_
  refine tr_cVl4 (pc := 1040) dL_law_1040 mtX10_odds lvL_109 rfl sg101 kc10 ⟨(Nat.le_of_ble_eq_true rfl), (Nat.le_of_ble_eq_true rfl)⟩ nlX10_odds (Nat.le_of_ble_eq_true rfl) ⟨(Nat.le_of_ble_eq_true rfl), (Nat.le_of_ble_eq_true rfl)⟩ (sp_X10_odds h2a.1 hw.1) (fun r1040 M1040 h1040 => ?_)
  obtain ⟨hr1040, f2⟩ := h1040
  obtain rfl := hr1040.symm
  refine tr_lceq (pc := 1043) (tgt := 1490) dL_law_1043 dL_law_1044 (by decide) (fun c1043 => ?_) (fun c1043 => absurd c1043 (fun hh => hh rfl))
  exact hQ _ (jj_ask hw h1 h2a f1 f2)
theorem lc_mean {nm : String} {G : tk_G} {M : tk_M} {i : Int} {Q : tk_V → tk_S → tk_M → Prop} (hG : gs_ok G) (hi : lw_at G i) (hJ : JJ M) (hQ : lw_go nm G i Q) : Ok G (FLn nm) 1049 [xS 0, xR 0, xR 101, xI i] [] SF M 136 5328 Q := by
  obtain ⟨z, hw, h1, h2⟩ := hJ
  obtain ⟨i0, i1, i2⟩ := hi
  refine tr_aload_n (pc := 1049) dL_law_1049 rfl (by decide) ?_
  refine tr_sload_n (pc := 1050) dL_law_1050 rfl ?_
  refine tr_iload_n (pc := 1051) dL_law_1051 rfl ?_
  refine tr_iconst (pc := 1052) dL_law_1052 ⟨by decide, by decide⟩ ?_
  refine tr_iadd (pc := 1053) dL_law_1053 ⟨by omega, by omega⟩ ?_
  refine tr_sald (pc := 1054) dL_law_1054 ⟨by decide, by decide⟩ (by omega) (by omega) (show _ = sc G (i + 1) from rfl) ?_
  refine tr_sload_n (pc := 1055) dL_law_1055 rfl ?_
  refine tr_iload_n (pc := 1056) dL_law_1056 rfl ?_
  refine tr_iconst (pc := 1057) dL_law_1057 ⟨by decide, by decide⟩ ?_
  refine tr_iadd (pc := 1058) dL_law_1058 ⟨by omega, by omega⟩ ?_
  refine tr_sald (pc := 1059) dL_law_1059 ⟨by decide, by decide⟩ (by omega) (by omega) (show _ = sc G (i + 2) from rfl) ?_
  refine tr_cVl2 (pc := 1060) dL_law_1060 mtX9_mean lvL_110 rfl sg0 kc9 ⟨(Nat.le_of_ble_eq_true rfl), (Nat.le_of_ble_eq_true rfl)⟩ nlX9_mean (Nat.le_of_ble_eq_true rfl) ⟨(Nat.le_of_ble_eq_true rfl), (Nat.le_of_ble_eq_true rfl)⟩ (sp_X9_mean hG h1.1) (fun r1060 M1060 h1060 => ?_)
  obtain ⟨hr1060, f1⟩ := h1060
  obtain rfl := hr1060.symm
  have h2a := h2.up f1.hi
  refine tr_aload_n (pc := 1063) dL_law_1063 rfl (by decide) ?_
  refine tr_sload_n (pc := 1064) dL_law_1064 rfl ?_
  refine tr_iload_n (pc := 1065) dL_law_1065 rfl ?_
  refine tr_iconst (pc := 1066) dL_law_1066 ⟨by decide, by decide⟩ ?_
  refine tr_iadd (pc := 1067) dL_law_1067 ⟨by omega, by omega⟩ ?_
  refine tr_sald (pc := 1068) dL_law_1068 ⟨by decide, by decide⟩ (by omega) (by omega) (show _ = sc G (i + 1) from rfl) ?_
  refine tr_sload_n (pc := 1069) dL_law_1069 rfl ?_
  refine tr_iload_n (pc := 1070) dL_law_1070 rfl ?_
  refine tr_iconst (pc := 1071) dL_law_1071 ⟨by decide, by decide⟩ ?_
  refine tr_iadd (pc := 1072) dL_law_1072 ⟨by omega, by omega⟩ ?_
  refine tr_sald (pc := 1073) dL_law_1073 ⟨by decide, by decide⟩ (by omega) (by omega) (show _ = sc G (i + 2) from rfl) ?_
  refine tr_cVl2 (pc := 1074) dL_law_1074 mtX10_mean lvL_114 rfl sg101 kc10 ⟨(Nat.le_of_ble_eq_true rfl), (Nat.le_of_ble_eq_true rfl)⟩ nlX10_mean (Nat.le_of_ble_eq_true rfl) ⟨(Nat.le_of_ble_eq_true rfl), (Nat.le_of_ble_eq_true rfl)⟩ (sp_X10_mean h2a.1) (fun r1074 M1074 h1074 => ?_)
  obtain ⟨hr1074, f2⟩ := h1074
  obtain rfl := hr1074.symm
  refine tr_lceq (pc := 1077) (tgt := 1490) dL_law_1077 dL_law_1078 (by decide) (fun c1077 => ?_) (fun c1077 => absurd c1077 (fun hh => hh rfl))
  exact hQ _ (jj_ask hw h1 h2a f1 f2)
theorem lc_event {nm : String} {G : tk_G} {M : tk_M} {i : Int} {Q : tk_V → tk_S → tk_M → Prop} (hG : gs_ok G) (hi : lw_at G i) (hJ : JJ M) (hQ : lw_go nm G i Q) : Ok G (FLn nm) 1083 [xS 0, xR 0, xR 101, xI i] [] SF M 136 5328 Q := by
  obtain ⟨z, hw, h1, h2⟩ := hJ
  obtain ⟨i0, i1, i2⟩ := hi
  refine tr_aload_n (pc := 1083) dL_law_1083 rfl (by decide) ?_
  refine tr_sload_n (pc := 1084) dL_law_1084 rfl ?_
  refine tr_iload_n (pc := 1085) dL_law_1085 rfl ?_
  refine tr_iconst (pc := 1086) dL_law_1086 ⟨by decide, by decide⟩ ?_
  refine tr_iadd (pc := 1087) dL_law_1087 ⟨by omega, by omega⟩ ?_
  refine tr_sald (pc := 1088) dL_law_1088 ⟨by decide, by decide⟩ (by omega) (by omega) (show _ = sc G (i + 1) from rfl) ?_
  refine tr_sload_n (pc := 1089) dL_law_1089 rfl ?_
  refine tr_iload_n (pc := 1090) dL_law_1090 rfl ?_
  refine tr_iconst (pc := 1091) dL_law_1091 ⟨by decide, by decide⟩ ?_
  refine tr_iadd (pc := 1092) dL_law_1092 ⟨by omega, by omega⟩ ?_
  refine tr_sald (pc := 1093) dL_law_1093 ⟨by decide, by decide⟩ (by omega) (by omega) (show _ = sc G (i + 2) from rfl) ?_
  refine tr_cVi2 (pc := 1094) dL_law_1094 mtX9_event lvL_115 rfl sg0 kc9 ⟨(Nat.le_of_ble_eq_true rfl), (Nat.le_of_ble_eq_true rfl)⟩ nlX9_event (Nat.le_of_ble_eq_true rfl) ⟨(Nat.le_of_ble_eq_true rfl), (Nat.le_of_ble_eq_true rfl)⟩ (sp_X9_event h1.2.1.2.1) (fun r1094 M1094 h1094 => ?_)
  obtain ⟨hr1094, C1, f1⟩ := h1094
  obtain rfl := hr1094.symm
  have h2a := h2.up (fun c hc => f1 c (by omega))
  refine tr_aload_n (pc := 1097) dL_law_1097 rfl (by decide) ?_
  refine tr_sload_n (pc := 1098) dL_law_1098 rfl ?_
  refine tr_iload_n (pc := 1099) dL_law_1099 rfl ?_
  refine tr_iconst (pc := 1100) dL_law_1100 ⟨by decide, by decide⟩ ?_
  refine tr_iadd (pc := 1101) dL_law_1101 ⟨by omega, by omega⟩ ?_
  refine tr_sald (pc := 1102) dL_law_1102 ⟨by decide, by decide⟩ (by omega) (by omega) (show _ = sc G (i + 1) from rfl) ?_
  refine tr_sload_n (pc := 1103) dL_law_1103 rfl ?_
  refine tr_iload_n (pc := 1104) dL_law_1104 rfl ?_
  refine tr_iconst (pc := 1105) dL_law_1105 ⟨by decide, by decide⟩ ?_
  refine tr_iadd (pc := 1106) dL_law_1106 ⟨by omega, by omega⟩ ?_
  refine tr_sald (pc := 1107) dL_law_1107 ⟨by decide, by decide⟩ (by omega) (by omega) (show _ = sc G (i + 2) from rfl) ?_
  refine tr_cVi2 (pc := 1108) dL_law_1108 mtX10_event lvL_118 rfl sg101 kc10 ⟨(Nat.le_of_ble_eq_true rfl), (Nat.le_of_ble_eq_true rfl)⟩ nlX10_event (Nat.le_of_ble_eq_true rfl) ⟨(Nat.le_of_ble_eq_true rfl), (Nat.le_of_ble_eq_true rfl)⟩ (sp_X10_event h2a.2.1.2.1) (fun r1108 M1108 h1108 => ?_)
  obtain ⟨hr1108, C2, f2⟩ := h1108
  obtain rfl := hr1108.symm
  refine tr_icmpeq (pc := 1111) (tgt := 1490) dL_law_1111 (by decide) (fun c1111 => ?_) (fun c1111 => absurd c1111 (fun hh => hh rfl))
  exact hQ _ (jj_event hw h1 h2a (event_ok hw.2.1.2.1 _ _) C1 f1 C2 f2)
theorem lc_after {nm : String} {G : tk_G} {M : tk_M} {i : Int} {Q : tk_V → tk_S → tk_M → Prop} (hG : gs_ok G) (hi : lw_at G i) (hJ : JJ M) (hQ : lw_go nm G i Q) : Ok G (FLn nm) 1116 [xS 0, xR 0, xR 101, xI i] [] SF M 136 5328 Q := by
  obtain ⟨z, hw, h1, h2⟩ := hJ
  obtain ⟨i0, i1, i2⟩ := hi
  refine tr_aload_n (pc := 1116) dL_law_1116 rfl (by decide) ?_
  refine tr_sload_n (pc := 1117) dL_law_1117 rfl ?_
  refine tr_iload_n (pc := 1118) dL_law_1118 rfl ?_
  refine tr_iconst (pc := 1119) dL_law_1119 ⟨by decide, by decide⟩ ?_
  refine tr_iadd (pc := 1120) dL_law_1120 ⟨by omega, by omega⟩ ?_
  refine tr_sald (pc := 1121) dL_law_1121 ⟨by decide, by decide⟩ (by omega) (by omega) (show _ = sc G (i + 1) from rfl) ?_
  refine tr_cVi1 (pc := 1122) dL_law_1122 mtX9_after lvL_119 rfl sg0 kc9 ⟨(Nat.le_of_ble_eq_true rfl), (Nat.le_of_ble_eq_true rfl)⟩ nlX9_after (Nat.le_of_ble_eq_true rfl) ⟨(Nat.le_of_ble_eq_true rfl), (Nat.le_of_ble_eq_true rfl)⟩ (sp_X9_after hG h1.1 h1.2.1.2.1 hw.2.1.2.1) (fun r1122 M1122 h1122 => ?_)
  obtain ⟨hr1122, f1⟩ := h1122
  obtain rfl := hr1122.symm
  have h2a := h2.up f1.hi
  refine tr_aload_n (pc := 1125) dL_law_1125 rfl (by decide) ?_
  refine tr_sload_n (pc := 1126) dL_law_1126 rfl ?_
  refine tr_iload_n (pc := 1127) dL_law_1127 rfl ?_
  refine tr_iconst (pc := 1128) dL_law_1128 ⟨by decide, by decide⟩ ?_
  refine tr_iadd (pc := 1129) dL_law_1129 ⟨by omega, by omega⟩ ?_
  refine tr_sald (pc := 1130) dL_law_1130 ⟨by decide, by decide⟩ (by omega) (by omega) (show _ = sc G (i + 1) from rfl) ?_
  refine tr_cVi1 (pc := 1131) dL_law_1131 mtX10_after lvL_122 rfl sg101 kc10 ⟨(Nat.le_of_ble_eq_true rfl), (Nat.le_of_ble_eq_true rfl)⟩ nlX10_after (Nat.le_of_ble_eq_true rfl) ⟨(Nat.le_of_ble_eq_true rfl), (Nat.le_of_ble_eq_true rfl)⟩ (sp_X10_after h2a.1 hw.1 h2a.2.1.2.1 hw.2.1.2.1) (fun r1131 M1131 h1131 => ?_)
  obtain ⟨hr1131, f2⟩ := h1131
  obtain rfl := hr1131.symm
  refine tr_icmpeq (pc := 1134) (tgt := 1490) dL_law_1134 (by decide) (fun c1134 => ?_) (fun c1134 => absurd c1134 (fun hh => hh rfl))
  exact hQ _ (jj_ask hw h1 h2a f1 f2)
theorem lc_book {nm : String} {G : tk_G} {M : tk_M} {i : Int} {Q : tk_V → tk_S → tk_M → Prop} (hG : gs_ok G) (hi : lw_at G i) (hJ : JJ M) (hQ : lw_go nm G i Q) : Ok G (FLn nm) 1139 [xS 0, xR 0, xR 101, xI i] [] SF M 136 5328 Q := by
  obtain ⟨z, hw, h1, h2⟩ := hJ
  obtain ⟨i0, i1, i2⟩ := hi
  refine tr_aload_n (pc := 1139) dL_law_1139 rfl (by decide) ?_
  refine tr_sload_n (pc := 1140) dL_law_1140 rfl ?_
  refine tr_iload_n (pc := 1141) dL_law_1141 rfl ?_
  refine tr_iconst (pc := 1142) dL_law_1142 ⟨by decide, by decide⟩ ?_
  refine tr_iadd (pc := 1143) dL_law_1143 ⟨by omega, by omega⟩ ?_
  refine tr_sald (pc := 1144) dL_law_1144 ⟨by decide, by decide⟩ (by omega) (by omega) (show _ = sc G (i + 1) from rfl) ?_
  refine tr_sload_n (pc := 1145) dL_law_1145 rfl ?_
  refine tr_iload_n (pc := 1146) dL_law_1146 rfl ?_
  refine tr_iconst (pc := 1147) dL_law_1147 ⟨by decide, by decide⟩ ?_
  refine tr_iadd (pc := 1148) dL_law_1148 ⟨by omega, by omega⟩ ?_
  refine tr_sald (pc := 1149) dL_law_1149 ⟨by decide, by decide⟩ (by omega) (by omega) (show _ = sc G (i + 2) from rfl) ?_
  refine tr_cVi2 (pc := 1150) dL_law_1150 mtX9_book lvL_123 rfl sg0 kc9 ⟨(Nat.le_of_ble_eq_true rfl), (Nat.le_of_ble_eq_true rfl)⟩ nlX9_book (Nat.le_of_ble_eq_true rfl) ⟨(Nat.le_of_ble_eq_true rfl), (Nat.le_of_ble_eq_true rfl)⟩ (sp_X9_book h1.2.1.2.2) (fun r1150 M1150 h1150 => ?_)
  obtain ⟨hr1150, C1, f1⟩ := h1150
  obtain rfl := hr1150.symm
  have h2a := h2.up (fun c hc => f1 c (by omega))
  refine tr_aload_n (pc := 1153) dL_law_1153 rfl (by decide) ?_
  refine tr_sload_n (pc := 1154) dL_law_1154 rfl ?_
  refine tr_iload_n (pc := 1155) dL_law_1155 rfl ?_
  refine tr_iconst (pc := 1156) dL_law_1156 ⟨by decide, by decide⟩ ?_
  refine tr_iadd (pc := 1157) dL_law_1157 ⟨by omega, by omega⟩ ?_
  refine tr_sald (pc := 1158) dL_law_1158 ⟨by decide, by decide⟩ (by omega) (by omega) (show _ = sc G (i + 1) from rfl) ?_
  refine tr_sload_n (pc := 1159) dL_law_1159 rfl ?_
  refine tr_iload_n (pc := 1160) dL_law_1160 rfl ?_
  refine tr_iconst (pc := 1161) dL_law_1161 ⟨by decide, by decide⟩ ?_
  refine tr_iadd (pc := 1162) dL_law_1162 ⟨by omega, by omega⟩ ?_
  refine tr_sald (pc := 1163) dL_law_1163 ⟨by decide, by decide⟩ (by omega) (by omega) (show _ = sc G (i + 2) from rfl) ?_
  refine tr_cVi2 (pc := 1164) dL_law_1164 mtX10_book lvL_126 rfl sg101 kc10 ⟨(Nat.le_of_ble_eq_true rfl), (Nat.le_of_ble_eq_true rfl)⟩ nlX10_book (Nat.le_of_ble_eq_true rfl) ⟨(Nat.le_of_ble_eq_true rfl), (Nat.le_of_ble_eq_true rfl)⟩ (sp_X10_book h2a.2.1.2.2) (fun r1164 M1164 h1164 => ?_)
  obtain ⟨hr1164, C2, f2⟩ := h1164
  obtain rfl := hr1164.symm
  refine tr_icmpeq (pc := 1167) (tgt := 1490) dL_law_1167 (by decide) (fun c1167 => ?_) (fun c1167 => absurd c1167 (fun hh => hh rfl))
  exact hQ _ (jj_book hw h1 h2a (book_ok hw.2.1.2.2 _ _) C1 f1 C2 f2)
theorem lc_looked {nm : String} {G : tk_G} {M : tk_M} {i : Int} {Q : tk_V → tk_S → tk_M → Prop} (hG : gs_ok G) (hi : lw_at G i) (hJ : JJ M) (hQ : lw_go nm G i Q) : Ok G (FLn nm) 1172 [xS 0, xR 0, xR 101, xI i] [] SF M 136 5328 Q := by
  obtain ⟨z, hw, h1, h2⟩ := hJ
  obtain ⟨i0, i1, i2⟩ := hi
  refine tr_aload_n (pc := 1172) dL_law_1172 rfl (by decide) ?_
  refine tr_cVi0 (pc := 1173) dL_law_1173 mtX9_looked lvL_127 rfl sg0 kc9 ⟨(Nat.le_of_ble_eq_true rfl), (Nat.le_of_ble_eq_true rfl)⟩ nlX9_looked (Nat.le_of_ble_eq_true rfl) ⟨(Nat.le_of_ble_eq_true rfl), (Nat.le_of_ble_eq_true rfl)⟩ (sp_X9_looked h1.1 h1.2.1.2.2 hw.2.1.2.2) (fun r1173 M1173 h1173 => ?_)
  obtain ⟨hr1173, hM1173⟩ := h1173
  obtain rfl := hr1173.symm
  obtain rfl := hM1173.symm
  refine tr_aload_n (pc := 1176) dL_law_1176 rfl (by decide) ?_
  refine tr_cVi0 (pc := 1177) dL_law_1177 mtX10_looked lvL_130 rfl sg101 kc10 ⟨(Nat.le_of_ble_eq_true rfl), (Nat.le_of_ble_eq_true rfl)⟩ nlX10_looked (Nat.le_of_ble_eq_true rfl) ⟨(Nat.le_of_ble_eq_true rfl), (Nat.le_of_ble_eq_true rfl)⟩ (sp_X10_looked h2.1 h2.2.1.2.2 hw.2.1.2.2) (fun r1177 M1177 h1177 => ?_)
  obtain ⟨hr1177, hM1177⟩ := h1177
  obtain rfl := hr1177.symm
  obtain rfl := hM1177.symm
  refine tr_icmpeq (pc := 1180) (tgt := 1490) dL_law_1180 (by decide) (fun c1180 => ?_) (fun c1180 => absurd c1180 (fun hh => hh rfl))
  exact hQ _ ⟨z, hw, h1, h2⟩
theorem lc_judge {nm : String} {G : tk_G} {M : tk_M} {i : Int} {Q : tk_V → tk_S → tk_M → Prop} (hG : gs_ok G) (hi : lw_at G i) (hJ : JJ M) (hQ : lw_go nm G i Q) : Ok G (FLn nm) 1185 [xS 0, xR 0, xR 101, xI i] [] SF M 136 5328 Q := by
  obtain ⟨z, hw, h1, h2⟩ := hJ
  obtain ⟨i0, i1, i2⟩ := hi
  refine tr_aload_n (pc := 1185) dL_law_1185 rfl (by decide) ?_
  refine tr_sload_n (pc := 1186) dL_law_1186 rfl ?_
  refine tr_iload_n (pc := 1187) dL_law_1187 rfl ?_
  refine tr_iconst (pc := 1188) dL_law_1188 ⟨by decide, by decide⟩ ?_
  refine tr_iadd (pc := 1189) dL_law_1189 ⟨by omega, by omega⟩ ?_
  refine tr_sald (pc := 1190) dL_law_1190 ⟨by decide, by decide⟩ (by omega) (by omega) (show _ = sc G (i + 1) from rfl) ?_
  refine tr_sload_n (pc := 1191) dL_law_1191 rfl ?_
  refine tr_iload_n (pc := 1192) dL_law_1192 rfl ?_
  refine tr_iconst (pc := 1193) dL_law_1193 ⟨by decide, by decide⟩ ?_
  refine tr_iadd (pc := 1194) dL_law_1194 ⟨by omega, by omega⟩ ?_
  refine tr_sald (pc := 1195) dL_law_1195 ⟨by decide, by decide⟩ (by omega) (by omega) (show _ = sc G (i + 2) from rfl) ?_
  refine tr_sload_n (pc := 1196) dL_law_1196 rfl ?_
  refine tr_iload_n (pc := 1197) dL_law_1197 rfl ?_
  refine tr_iconst (pc := 1198) dL_law_1198 ⟨by decide, by decide⟩ ?_
  refine tr_iadd (pc := 1199) dL_law_1199 ⟨by omega, by omega⟩ ?_
  refine tr_sald (pc := 1200) dL_law_1200 ⟨by decide, by decide⟩ (by omega) (by omega) (show _ = sc G (i + 3) from rfl) ?_
  refine tr_cVi3 (pc := 1201) dL_law_1201 mtX9_judge lvL_131 rfl sg0 kc9 ⟨(Nat.le_of_ble_eq_true rfl), (Nat.le_of_ble_eq_true rfl)⟩ nlX9_judge (Nat.le_of_ble_eq_true rfl) ⟨(Nat.le_of_ble_eq_true rfl), (Nat.le_of_ble_eq_true rfl)⟩ (sp_X9_judge h1.1 (h1.2.2.2.2.ok hw.2.2.2.2)) (fun r1201 M1201 h1201 => ?_)
  obtain ⟨hr1201, hM1201⟩ := h1201
  obtain rfl := hr1201.symm
  obtain rfl := hM1201.symm
  refine tr_aload_n (pc := 1204) dL_law_1204 rfl (by decide) ?_
  refine tr_sload_n (pc := 1205) dL_law_1205 rfl ?_
  refine tr_iload_n (pc := 1206) dL_law_1206 rfl ?_
  refine tr_iconst (pc := 1207) dL_law_1207 ⟨by decide, by decide⟩ ?_
  refine tr_iadd (pc := 1208) dL_law_1208 ⟨by omega, by omega⟩ ?_
  refine tr_sald (pc := 1209) dL_law_1209 ⟨by decide, by decide⟩ (by omega) (by omega) (show _ = sc G (i + 1) from rfl) ?_
  refine tr_sload_n (pc := 1210) dL_law_1210 rfl ?_
  refine tr_iload_n (pc := 1211) dL_law_1211 rfl ?_
  refine tr_iconst (pc := 1212) dL_law_1212 ⟨by decide, by decide⟩ ?_
  refine tr_iadd (pc := 1213) dL_law_1213 ⟨by omega, by omega⟩ ?_
  refine tr_sald (pc := 1214) dL_law_1214 ⟨by decide, by decide⟩ (by omega) (by omega) (show _ = sc G (i + 2) from rfl) ?_
  refine tr_sload_n (pc := 1215) dL_law_1215 rfl ?_
  refine tr_iload_n (pc := 1216) dL_law_1216 rfl ?_
  refine tr_iconst (pc := 1217) dL_law_1217 ⟨by decide, by decide⟩ ?_
  refine tr_iadd (pc := 1218) dL_law_1218 ⟨by omega, by omega⟩ ?_
  refine tr_sald (pc := 1219) dL_law_1219 ⟨by decide, by decide⟩ (by omega) (by omega) (show _ = sc G (i + 3) from rfl) ?_
  refine tr_cVi3 (pc := 1220) dL_law_1220 mtX10_judge lvL_134 rfl sg101 kc10 ⟨(Nat.le_of_ble_eq_true rfl), (Nat.le_of_ble_eq_true rfl)⟩ nlX10_judge (Nat.le_of_ble_eq_true rfl) ⟨(Nat.le_of_ble_eq_true rfl), (Nat.le_of_ble_eq_true rfl)⟩ (sp_X10_judge h2.1 (h2.2.2.2.2.ok hw.2.2.2.2)) (fun r1220 M1220 h1220 => ?_)
  obtain ⟨hr1220, f2⟩ := h1220
  obtain rfl := hr1220.symm
  refine tr_icmpeq (pc := 1223) (tgt := 1490) dL_law_1223 (by decide) (fun c1223 => ?_) (fun c1223 => absurd c1223 (fun hh => hh (jj_judge h1 h2 _)))
  exact hQ _ ⟨z, hw, h1.up (fun c hc => f2.1 c (by omega)), h2.ask f2⟩
theorem lc_image {nm : String} {G : tk_G} {M : tk_M} {i : Int} {Q : tk_V → tk_S → tk_M → Prop} (hG : gs_ok G) (hi : lw_at G i) (hJ : JJ M) (hQ : lw_go nm G i Q) : Ok G (FLn nm) 1228 [xS 0, xR 0, xR 101, xI i] [] SF M 136 5328 Q := by
  obtain ⟨z, hw, h1, h2⟩ := hJ
  obtain ⟨i0, i1, i2⟩ := hi
  refine tr_aload_n (pc := 1228) dL_law_1228 rfl (by decide) ?_
  refine tr_cVi0 (pc := 1229) dL_law_1229 mtX9_image lvL_135 rfl sg0 kc9 ⟨(Nat.le_of_ble_eq_true rfl), (Nat.le_of_ble_eq_true rfl)⟩ nlX9_image (Nat.le_of_ble_eq_true rfl) ⟨(Nat.le_of_ble_eq_true rfl), (Nat.le_of_ble_eq_true rfl)⟩ (sp_X9_image h1.now h1.2.2.1.1) (fun r1229 M1229 h1229 => ?_)
  obtain ⟨hr1229, c1⟩ := h1229
  obtain rfl := hr1229.symm
  have h2a := h2.up (fun c hc => c1.2.2 c (by omega) (by omega))
  refine tr_aload_n (pc := 1232) dL_law_1232 rfl (by decide) ?_
  refine tr_cVi0 (pc := 1233) dL_law_1233 mtX10_image lvL_138 rfl sg101 kc10 ⟨(Nat.le_of_ble_eq_true rfl), (Nat.le_of_ble_eq_true rfl)⟩ nlX10_image (Nat.le_of_ble_eq_true rfl) ⟨(Nat.le_of_ble_eq_true rfl), (Nat.le_of_ble_eq_true rfl)⟩ (sp_X10_image h2a.1.1 h2a.1.2.1 h2a.2.1.1 h2a.2.1.2.1 h2a.2.1.2.2) (fun r1233 M1233 h1233 => ?_)
  obtain ⟨hr1233, c2⟩ := h1233
  obtain rfl := hr1233.symm
  refine tr_icmpeq (pc := 1236) (tgt := 1490) dL_law_1236 (by decide) (fun c1236 => ?_) (fun c1236 => absurd c1236 (fun hh => hh rfl))
  exact hQ _ (jj_image hw h1 h2a c1 c2)
theorem lc_undo {nm : String} {G : tk_G} {M : tk_M} {i : Int} {Q : tk_V → tk_S → tk_M → Prop} (hG : gs_ok G) (hi : lw_at G i) (hJ : JJ M) (hQ : lw_go nm G i Q) : Ok G (FLn nm) 1241 [xS 0, xR 0, xR 101, xI i] [] SF M 136 5328 Q := by
  obtain ⟨z, hw, h1, h2⟩ := hJ
  obtain ⟨i0, i1, i2⟩ := hi
  refine tr_aload_n (pc := 1241) dL_law_1241 rfl (by decide) ?_
  refine tr_cVi0 (pc := 1242) dL_law_1242 mtX9_undo lvL_139 rfl sg0 kc9 ⟨(Nat.le_of_ble_eq_true rfl), (Nat.le_of_ble_eq_true rfl)⟩ nlX9_undo (Nat.le_of_ble_eq_true rfl) ⟨(Nat.le_of_ble_eq_true rfl), (Nat.le_of_ble_eq_true rfl)⟩ (sp_X9_undo h1.now h1.2.2.1.1 h1.1.2.2 (by rw [h1.2.2.1.2]; exact hw.2.2.1.2)) (fun r1242 M1242 h1242 => ?_)
  have h2a : JR M1242 z := h2.up (fun c hc => by
    rcases h1242 with A | A
    · rw [A.2.2]
    · exact A.2.2.2.2 c (by omega) (by omega))
  refine tr_aload_n (pc := 1245) dL_law_1245 rfl (by decide) ?_
  refine tr_cVi0 (pc := 1246) dL_law_1246 mtX10_undo lvL_142 rfl sg101 kc10 ⟨(Nat.le_of_ble_eq_true rfl), (Nat.le_of_ble_eq_true rfl)⟩ nlX10_undo (Nat.le_of_ble_eq_true rfl) ⟨(Nat.le_of_ble_eq_true rfl), (Nat.le_of_ble_eq_true rfl)⟩ (sp_X10_undo h2a.2.2.1.1 (by rw [h2a.2.2.1.2]; exact hw.2.2.1.2)) (fun r1246 M1246 h1246 => ?_)
  obtain ⟨e, hJ⟩ := jj_undo hw h1 h2 h1242 h1246
  refine tr_icmpeq (pc := 1249) (tgt := 1490) dL_law_1249 (by decide) (fun c1249 => ?_) (fun c1249 => absurd c1249 (fun hh => hh e))
  exact hQ _ hJ
theorem lc_count {nm : String} {G : tk_G} {M : tk_M} {i : Int} {Q : tk_V → tk_S → tk_M → Prop} (hG : gs_ok G) (hi : lw_at G i) (hJ : JJ M) (hQ : lw_go nm G i Q) : Ok G (FLn nm) 1254 [xS 0, xR 0, xR 101, xI i] [] SF M 136 5328 Q := by
  obtain ⟨z, hw, h1, h2⟩ := hJ
  obtain ⟨i0, i1, i2⟩ := hi
  refine tr_aload_n (pc := 1254) dL_law_1254 rfl (by decide) ?_
  refine tr_sload_n (pc := 1255) dL_law_1255 rfl ?_
  refine tr_iload_n (pc := 1256) dL_law_1256 rfl ?_
  refine tr_iconst (pc := 1257) dL_law_1257 ⟨by decide, by decide⟩ ?_
  refine tr_iadd (pc := 1258) dL_law_1258 ⟨by omega, by omega⟩ ?_
  refine tr_sald (pc := 1259) dL_law_1259 ⟨by decide, by decide⟩ (by omega) (by omega) (show _ = sc G (i + 1) from rfl) ?_
  refine tr_cVi1 (pc := 1260) dL_law_1260 mtX9_count lvL_143 rfl sg0 kc9 ⟨(Nat.le_of_ble_eq_true rfl), (Nat.le_of_ble_eq_true rfl)⟩ nlX9_count (Nat.le_of_ble_eq_true rfl) ⟨(Nat.le_of_ble_eq_true rfl), (Nat.le_of_ble_eq_true rfl)⟩ (sp_X9_count) (fun r1260 M1260 h1260 => ?_)
  obtain ⟨hr1260, hM1260⟩ := h1260
  obtain rfl := hr1260.symm
  obtain rfl := hM1260.symm
  refine tr_aload_n (pc := 1263) dL_law_1263 rfl (by decide) ?_
  refine tr_sload_n (pc := 1264) dL_law_1264 rfl ?_
  refine tr_iload_n (pc := 1265) dL_law_1265 rfl ?_
  refine tr_iconst (pc := 1266) dL_law_1266 ⟨by decide, by decide⟩ ?_
  refine tr_iadd (pc := 1267) dL_law_1267 ⟨by omega, by omega⟩ ?_
  refine tr_sald (pc := 1268) dL_law_1268 ⟨by decide, by decide⟩ (by omega) (by omega) (show _ = sc G (i + 1) from rfl) ?_
  refine tr_cVi1 (pc := 1269) dL_law_1269 mtX10_count lvL_146 rfl sg101 kc10 ⟨(Nat.le_of_ble_eq_true rfl), (Nat.le_of_ble_eq_true rfl)⟩ nlX10_count (Nat.le_of_ble_eq_true rfl) ⟨(Nat.le_of_ble_eq_true rfl), (Nat.le_of_ble_eq_true rfl)⟩ (sp_X10_count) (fun r1269 M1269 h1269 => ?_)
  obtain ⟨hr1269, hM1269⟩ := h1269
  obtain rfl := hr1269.symm
  obtain rfl := hM1269.symm
  refine tr_icmpeq (pc := 1272) (tgt := 1490) dL_law_1272 (by decide) (fun c1272 => ?_) (fun c1272 => absurd c1272 (fun hh => hh (jj_count h1 h2 _)))
  exact hQ _ ⟨z, hw, h1, h2⟩
theorem lc_tape {nm : String} {G : tk_G} {M : tk_M} {i : Int} {Q : tk_V → tk_S → tk_M → Prop} (hG : gs_ok G) (hi : lw_at G i) (hJ : JJ M) (hQ : lw_go nm G i Q) : Ok G (FLn nm) 1277 [xS 0, xR 0, xR 101, xI i] [] SF M 136 5328 Q := by
  obtain ⟨z, hw, h1, h2⟩ := hJ
  obtain ⟨i0, i1, i2⟩ := hi
  refine tr_aload_n (pc := 1277) dL_law_1277 rfl (by decide) ?_
  refine tr_sload_n (pc := 1278) dL_law_1278 rfl ?_
  refine tr_iload_n (pc := 1279) dL_law_1279 rfl ?_
  refine tr_iconst (pc := 1280) dL_law_1280 ⟨by decide, by decide⟩ ?_
  refine tr_iadd (pc := 1281) dL_law_1281 ⟨by omega, by omega⟩ ?_
  refine tr_sald (pc := 1282) dL_law_1282 ⟨by decide, by decide⟩ (by omega) (by omega) (show _ = sc G (i + 1) from rfl) ?_
  refine tr_sload_n (pc := 1283) dL_law_1283 rfl ?_
  refine tr_iload_n (pc := 1284) dL_law_1284 rfl ?_
  refine tr_iconst (pc := 1285) dL_law_1285 ⟨by decide, by decide⟩ ?_
  refine tr_iadd (pc := 1286) dL_law_1286 ⟨by omega, by omega⟩ ?_
  refine tr_sald (pc := 1287) dL_law_1287 ⟨by decide, by decide⟩ (by omega) (by omega) (show _ = sc G (i + 2) from rfl) ?_
  refine tr_sload_n (pc := 1288) dL_law_1288 rfl ?_
  refine tr_iload_n (pc := 1289) dL_law_1289 rfl ?_
  refine tr_iconst (pc := 1290) dL_law_1290 ⟨by decide, by decide⟩ ?_
  refine tr_iadd (pc := 1291) dL_law_1291 ⟨by omega, by omega⟩ ?_
  refine tr_sald (pc := 1292) dL_law_1292 ⟨by decide, by decide⟩ (by omega) (by omega) (show _ = sc G (i + 3) from rfl) ?_
  refine tr_cVi3 (pc := 1293) dL_law_1293 mtX9_tape lvL_147 rfl sg0 kc9 ⟨(Nat.le_of_ble_eq_true rfl), (Nat.le_of_ble_eq_true rfl)⟩ nlX9_tape (Nat.le_of_ble_eq_true rfl) ⟨(Nat.le_of_ble_eq_true rfl), (Nat.le_of_ble_eq_true rfl)⟩ (sp_X9_tape) (fun r1293 M1293 h1293 => ?_)
  have h2a : JR M1293 z := h2.up (hi_tape h1293)
  refine tr_aload_n (pc := 1296) dL_law_1296 rfl (by decide) ?_
  refine tr_sload_n (pc := 1297) dL_law_1297 rfl ?_
  refine tr_iload_n (pc := 1298) dL_law_1298 rfl ?_
  refine tr_iconst (pc := 1299) dL_law_1299 ⟨by decide, by decide⟩ ?_
  refine tr_iadd (pc := 1300) dL_law_1300 ⟨by omega, by omega⟩ ?_
  refine tr_sald (pc := 1301) dL_law_1301 ⟨by decide, by decide⟩ (by omega) (by omega) (show _ = sc G (i + 1) from rfl) ?_
  refine tr_sload_n (pc := 1302) dL_law_1302 rfl ?_
  refine tr_iload_n (pc := 1303) dL_law_1303 rfl ?_
  refine tr_iconst (pc := 1304) dL_law_1304 ⟨by decide, by decide⟩ ?_
  refine tr_iadd (pc := 1305) dL_law_1305 ⟨by omega, by omega⟩ ?_
  refine tr_sald (pc := 1306) dL_law_1306 ⟨by decide, by decide⟩ (by omega) (by omega) (show _ = sc G (i + 2) from rfl) ?_
  refine tr_sload_n (pc := 1307) dL_law_1307 rfl ?_
  refine tr_iload_n (pc := 1308) dL_law_1308 rfl ?_
  refine tr_iconst (pc := 1309) dL_law_1309 ⟨by decide, by decide⟩ ?_
  refine tr_iadd (pc := 1310) dL_law_1310 ⟨by omega, by omega⟩ ?_
  refine tr_sald (pc := 1311) dL_law_1311 ⟨by decide, by decide⟩ (by omega) (by omega) (show _ = sc G (i + 3) from rfl) ?_
  refine tr_cVi3 (pc := 1312) dL_law_1312 mtX10_tape lvL_150 rfl sg101 kc10 ⟨(Nat.le_of_ble_eq_true rfl), (Nat.le_of_ble_eq_true rfl)⟩ nlX10_tape (Nat.le_of_ble_eq_true rfl) ⟨(Nat.le_of_ble_eq_true rfl), (Nat.le_of_ble_eq_true rfl)⟩ (sp_X10_tape) (fun r1312 M1312 h1312 => ?_)
  obtain ⟨e, hJ⟩ := jj_tape hw h1 h2a h1293 h1312
  refine tr_icmpeq (pc := 1315) (tgt := 1490) dL_law_1315 (by decide) (fun c1315 => ?_) (fun c1315 => absurd c1315 (fun hh => hh e))
  exact hQ _ hJ
theorem lc_item {nm : String} {G : tk_G} {M : tk_M} {i : Int} {Q : tk_V → tk_S → tk_M → Prop} (hG : gs_ok G) (hi : lw_at G i) (hJ : JJ M) (hQ : lw_go nm G i Q) : Ok G (FLn nm) 1320 [xS 0, xR 0, xR 101, xI i] [] SF M 136 5328 Q := by
  obtain ⟨z, hw, h1, h2⟩ := hJ
  obtain ⟨i0, i1, i2⟩ := hi
  refine tr_aload_n (pc := 1320) dL_law_1320 rfl (by decide) ?_
  refine tr_sload_n (pc := 1321) dL_law_1321 rfl ?_
  refine tr_iload_n (pc := 1322) dL_law_1322 rfl ?_
  refine tr_iconst (pc := 1323) dL_law_1323 ⟨by decide, by decide⟩ ?_
  refine tr_iadd (pc := 1324) dL_law_1324 ⟨by omega, by omega⟩ ?_
  refine tr_sald (pc := 1325) dL_law_1325 ⟨by decide, by decide⟩ (by omega) (by omega) (show _ = sc G (i + 1) from rfl) ?_
  refine tr_sload_n (pc := 1326) dL_law_1326 rfl ?_
  refine tr_iload_n (pc := 1327) dL_law_1327 rfl ?_
  refine tr_iconst (pc := 1328) dL_law_1328 ⟨by decide, by decide⟩ ?_
  refine tr_iadd (pc := 1329) dL_law_1329 ⟨by omega, by omega⟩ ?_
  refine tr_sald (pc := 1330) dL_law_1330 ⟨by decide, by decide⟩ (by omega) (by omega) (show _ = sc G (i + 2) from rfl) ?_
  refine tr_sload_n (pc := 1331) dL_law_1331 rfl ?_
  refine tr_iload_n (pc := 1332) dL_law_1332 rfl ?_
  refine tr_iconst (pc := 1333) dL_law_1333 ⟨by decide, by decide⟩ ?_
  refine tr_iadd (pc := 1334) dL_law_1334 ⟨by omega, by omega⟩ ?_
  refine tr_sald (pc := 1335) dL_law_1335 ⟨by decide, by decide⟩ (by omega) (by omega) (show _ = sc G (i + 3) from rfl) ?_
  refine tr_i2l (pc := 1336) dL_law_1336 ?_
  refine tr_bipush (pc := 1337) dL_law_1337 ⟨by decide, ⟨by decide, by decide⟩⟩ ?_
  refine tr_lshl (pc := 1339) dL_law_1339 ?_
  refine tr_sload_n (pc := 1340) dL_law_1340 rfl ?_
  refine tr_iload_n (pc := 1341) dL_law_1341 rfl ?_
  refine tr_iconst (pc := 1342) dL_law_1342 ⟨by decide, by decide⟩ ?_
  refine tr_iadd (pc := 1343) dL_law_1343 ⟨by omega, by omega⟩ ?_
  refine tr_sald (pc := 1344) dL_law_1344 ⟨by decide, by decide⟩ (by omega) (by omega) (show _ = sc G (i + 4) from rfl) ?_
  refine tr_i2l (pc := 1345) dL_law_1345 ?_
  refine tr_ldc2 (pc := 1346) dL_law_1346 knL_151 ⟨by decide, by decide⟩ ?_
  refine tr_land (pc := 1349) dL_law_1349 ?_
  refine tr_lor (pc := 1350) dL_law_1350 ?_
  refine tr_cVi3 (pc := 1351) dL_law_1351 mtX9_item lvL_153 rfl sg0 kc9 ⟨(Nat.le_of_ble_eq_true rfl), (Nat.le_of_ble_eq_true rfl)⟩ nlX9_item (Nat.le_of_ble_eq_true rfl) ⟨(Nat.le_of_ble_eq_true rfl), (Nat.le_of_ble_eq_true rfl)⟩ (sp_X9_item (h1.2.2.2.2.ok hw.2.2.2.2)) (fun r1351 M1351 h1351 => ?_)
  have h2a : JR M1351 z := h2.up (hi_item h1351)
  refine tr_aload_n (pc := 1354) dL_law_1354 rfl (by decide) ?_
  refine tr_sload_n (pc := 1355) dL_law_1355 rfl ?_
  refine tr_iload_n (pc := 1356) dL_law_1356 rfl ?_
  refine tr_iconst (pc := 1357) dL_law_1357 ⟨by decide, by decide⟩ ?_
  refine tr_iadd (pc := 1358) dL_law_1358 ⟨by omega, by omega⟩ ?_
  refine tr_sald (pc := 1359) dL_law_1359 ⟨by decide, by decide⟩ (by omega) (by omega) (show _ = sc G (i + 1) from rfl) ?_
  refine tr_sload_n (pc := 1360) dL_law_1360 rfl ?_
  refine tr_iload_n (pc := 1361) dL_law_1361 rfl ?_
  refine tr_iconst (pc := 1362) dL_law_1362 ⟨by decide, by decide⟩ ?_
  refine tr_iadd (pc := 1363) dL_law_1363 ⟨by omega, by omega⟩ ?_
  refine tr_sald (pc := 1364) dL_law_1364 ⟨by decide, by decide⟩ (by omega) (by omega) (show _ = sc G (i + 2) from rfl) ?_
  refine tr_sload_n (pc := 1365) dL_law_1365 rfl ?_
  refine tr_iload_n (pc := 1366) dL_law_1366 rfl ?_
  refine tr_iconst (pc := 1367) dL_law_1367 ⟨by decide, by decide⟩ ?_
  refine tr_iadd (pc := 1368) dL_law_1368 ⟨by omega, by omega⟩ ?_
  refine tr_sald (pc := 1369) dL_law_1369 ⟨by decide, by decide⟩ (by omega) (by omega) (show _ = sc G (i + 3) from rfl) ?_
  refine tr_i2l (pc := 1370) dL_law_1370 ?_
  refine tr_bipush (pc := 1371) dL_law_1371 ⟨by decide, ⟨by decide, by decide⟩⟩ ?_
  refine tr_lshl (pc := 1373) dL_law_1373 ?_
  refine tr_sload_n (pc := 1374) dL_law_1374 rfl ?_
  refine tr_iload_n (pc := 1375) dL_law_1375 rfl ?_
  refine tr_iconst (pc := 1376) dL_law_1376 ⟨by decide, by decide⟩ ?_
  refine tr_iadd (pc := 1377) dL_law_1377 ⟨by omega, by omega⟩ ?_
  refine tr_sald (pc := 1378) dL_law_1378 ⟨by decide, by decide⟩ (by omega) (by omega) (show _ = sc G (i + 4) from rfl) ?_
  refine tr_i2l (pc := 1379) dL_law_1379 ?_
  refine tr_ldc2 (pc := 1380) dL_law_1380 knL_151 ⟨by decide, by decide⟩ ?_
  refine tr_land (pc := 1383) dL_law_1383 ?_
  refine tr_lor (pc := 1384) dL_law_1384 ?_
  refine tr_cVi3 (pc := 1385) dL_law_1385 mtX10_item lvL_157 rfl sg101 kc10 ⟨(Nat.le_of_ble_eq_true rfl), (Nat.le_of_ble_eq_true rfl)⟩ nlX10_item (Nat.le_of_ble_eq_true rfl) ⟨(Nat.le_of_ble_eq_true rfl), (Nat.le_of_ble_eq_true rfl)⟩ (sp_X10_item (h2a.2.2.2.2.ok hw.2.2.2.2)) (fun r1385 M1385 h1385 => ?_)
  obtain ⟨e, hJ⟩ := jj_item hw h1 h2a h1351 h1385
  refine tr_icmpeq (pc := 1388) (tgt := 1490) dL_law_1388 (by decide) (fun c1388 => ?_) (fun c1388 => absurd c1388 (fun hh => hh e))
  exact hQ _ hJ
theorem lc_peek {nm : String} {G : tk_G} {M : tk_M} {i : Int} {Q : tk_V → tk_S → tk_M → Prop} (hG : gs_ok G) (hi : lw_at G i) (hJ : JJ M) (hQ : lw_go nm G i Q) : Ok G (FLn nm) 1393 [xS 0, xR 0, xR 101, xI i] [] SF M 136 5328 Q := by
  obtain ⟨z, hw, h1, h2⟩ := hJ
  obtain ⟨i0, i1, i2⟩ := hi
  refine tr_aload_n (pc := 1393) dL_law_1393 rfl (by decide) ?_
  refine tr_sload_n (pc := 1394) dL_law_1394 rfl ?_
  refine tr_iload_n (pc := 1395) dL_law_1395 rfl ?_
  refine tr_iconst (pc := 1396) dL_law_1396 ⟨by decide, by decide⟩ ?_
  refine tr_iadd (pc := 1397) dL_law_1397 ⟨by omega, by omega⟩ ?_
  refine tr_sald (pc := 1398) dL_law_1398 ⟨by decide, by decide⟩ (by omega) (by omega) (show _ = sc G (i + 1) from rfl) ?_
  refine tr_sload_n (pc := 1399) dL_law_1399 rfl ?_
  refine tr_iload_n (pc := 1400) dL_law_1400 rfl ?_
  refine tr_iconst (pc := 1401) dL_law_1401 ⟨by decide, by decide⟩ ?_
  refine tr_iadd (pc := 1402) dL_law_1402 ⟨by omega, by omega⟩ ?_
  refine tr_sald (pc := 1403) dL_law_1403 ⟨by decide, by decide⟩ (by omega) (by omega) (show _ = sc G (i + 2) from rfl) ?_
  refine tr_cVl2 (pc := 1404) dL_law_1404 mtX9_peek lvL_158 rfl sg0 kc9 ⟨(Nat.le_of_ble_eq_true rfl), (Nat.le_of_ble_eq_true rfl)⟩ nlX9_peek (Nat.le_of_ble_eq_true rfl) ⟨(Nat.le_of_ble_eq_true rfl), (Nat.le_of_ble_eq_true rfl)⟩ (sp_X9_peek (h1.2.2.2.2.ok hw.2.2.2.2)) (fun r1404 M1404 h1404 => ?_)
  obtain ⟨hr1404, hM1404⟩ := h1404
  obtain rfl := hr1404.symm
  obtain rfl := hM1404.symm
  refine tr_aload_n (pc := 1407) dL_law_1407 rfl (by decide) ?_
  refine tr_sload_n (pc := 1408) dL_law_1408 rfl ?_
  refine tr_iload_n (pc := 1409) dL_law_1409 rfl ?_
  refine tr_iconst (pc := 1410) dL_law_1410 ⟨by decide, by decide⟩ ?_
  refine tr_iadd (pc := 1411) dL_law_1411 ⟨by omega, by omega⟩ ?_
  refine tr_sald (pc := 1412) dL_law_1412 ⟨by decide, by decide⟩ (by omega) (by omega) (show _ = sc G (i + 1) from rfl) ?_
  refine tr_sload_n (pc := 1413) dL_law_1413 rfl ?_
  refine tr_iload_n (pc := 1414) dL_law_1414 rfl ?_
  refine tr_iconst (pc := 1415) dL_law_1415 ⟨by decide, by decide⟩ ?_
  refine tr_iadd (pc := 1416) dL_law_1416 ⟨by omega, by omega⟩ ?_
  refine tr_sald (pc := 1417) dL_law_1417 ⟨by decide, by decide⟩ (by omega) (by omega) (show _ = sc G (i + 2) from rfl) ?_
  refine tr_cVl2 (pc := 1418) dL_law_1418 mtX10_peek lvL_161 rfl sg101 kc10 ⟨(Nat.le_of_ble_eq_true rfl), (Nat.le_of_ble_eq_true rfl)⟩ nlX10_peek (Nat.le_of_ble_eq_true rfl) ⟨(Nat.le_of_ble_eq_true rfl), (Nat.le_of_ble_eq_true rfl)⟩ (sp_X10_peek (h2.2.2.2.2.ok hw.2.2.2.2)) (fun r1418 M1418 h1418 => ?_)
  obtain ⟨hr1418, hM1418⟩ := h1418
  obtain rfl := hr1418.symm
  obtain rfl := hM1418.symm
  refine tr_lceq (pc := 1421) (tgt := 1490) dL_law_1421 dL_law_1422 (by decide) (fun c1421 => ?_) (fun c1421 => absurd c1421 (fun hh => hh (jj_peek h1 h2)))
  exact hQ _ ⟨z, hw, h1, h2⟩
theorem lc_shift {nm : String} {G : tk_G} {M : tk_M} {i : Int} {Q : tk_V → tk_S → tk_M → Prop} (hG : gs_ok G) (hi : lw_at G i) (hJ : JJ M) (hQ : lw_go nm G i Q) : Ok G (FLn nm) 1427 [xS 0, xR 0, xR 101, xI i] [] SF M 136 5328 Q := by
  obtain ⟨z, hw, h1, h2⟩ := hJ
  obtain ⟨i0, i1, i2⟩ := hi
  refine tr_aload_n (pc := 1427) dL_law_1427 rfl (by decide) ?_
  refine tr_sload_n (pc := 1428) dL_law_1428 rfl ?_
  refine tr_iload_n (pc := 1429) dL_law_1429 rfl ?_
  refine tr_iconst (pc := 1430) dL_law_1430 ⟨by decide, by decide⟩ ?_
  refine tr_iadd (pc := 1431) dL_law_1431 ⟨by omega, by omega⟩ ?_
  refine tr_sald (pc := 1432) dL_law_1432 ⟨by decide, by decide⟩ (by omega) (by omega) (show _ = sc G (i + 1) from rfl) ?_
  refine tr_sload_n (pc := 1433) dL_law_1433 rfl ?_
  refine tr_iload_n (pc := 1434) dL_law_1434 rfl ?_
  refine tr_iconst (pc := 1435) dL_law_1435 ⟨by decide, by decide⟩ ?_
  refine tr_iadd (pc := 1436) dL_law_1436 ⟨by omega, by omega⟩ ?_
  refine tr_sald (pc := 1437) dL_law_1437 ⟨by decide, by decide⟩ (by omega) (by omega) (show _ = sc G (i + 2) from rfl) ?_
  refine tr_sload_n (pc := 1438) dL_law_1438 rfl ?_
  refine tr_iload_n (pc := 1439) dL_law_1439 rfl ?_
  refine tr_iconst (pc := 1440) dL_law_1440 ⟨by decide, by decide⟩ ?_
  refine tr_iadd (pc := 1441) dL_law_1441 ⟨by omega, by omega⟩ ?_
  refine tr_sald (pc := 1442) dL_law_1442 ⟨by decide, by decide⟩ (by omega) (by omega) (show _ = sc G (i + 3) from rfl) ?_
  refine tr_sload_n (pc := 1443) dL_law_1443 rfl ?_
  refine tr_iload_n (pc := 1444) dL_law_1444 rfl ?_
  refine tr_iconst (pc := 1445) dL_law_1445 ⟨by decide, by decide⟩ ?_
  refine tr_iadd (pc := 1446) dL_law_1446 ⟨by omega, by omega⟩ ?_
  refine tr_sald (pc := 1447) dL_law_1447 ⟨by decide, by decide⟩ (by omega) (by omega) (show _ = sc G (i + 4) from rfl) ?_
  refine tr_sload_n (pc := 1448) dL_law_1448 rfl ?_
  refine tr_iload_n (pc := 1449) dL_law_1449 rfl ?_
  refine tr_iconst (pc := 1450) dL_law_1450 ⟨by decide, by decide⟩ ?_
  refine tr_iadd (pc := 1451) dL_law_1451 ⟨by omega, by omega⟩ ?_
  refine tr_sald (pc := 1452) dL_law_1452 ⟨by decide, by decide⟩ (by omega) (by omega) (show _ = sc G (i + 5) from rfl) ?_
  refine tr_cVi5 (pc := 1453) dL_law_1453 mtX9_shift lvL_162 rfl sg0 kc9 ⟨(Nat.le_of_ble_eq_true rfl), (Nat.le_of_ble_eq_true rfl)⟩ nlX9_shift (Nat.le_of_ble_eq_true rfl) ⟨(Nat.le_of_ble_eq_true rfl), (Nat.le_of_ble_eq_true rfl)⟩ (sp_X9_shift (h1.2.2.2.2.ok hw.2.2.2.2)) (fun r1453 M1453 h1453 => ?_)
  have h2a : JR M1453 z := h2.up (hi_shift h1453)
  refine tr_aload_n (pc := 1456) dL_law_1456 rfl (by decide) ?_
  refine tr_sload_n (pc := 1457) dL_law_1457 rfl ?_
  refine tr_iload_n (pc := 1458) dL_law_1458 rfl ?_
  refine tr_iconst (pc := 1459) dL_law_1459 ⟨by decide, by decide⟩ ?_
  refine tr_iadd (pc := 1460) dL_law_1460 ⟨by omega, by omega⟩ ?_
  refine tr_sald (pc := 1461) dL_law_1461 ⟨by decide, by decide⟩ (by omega) (by omega) (show _ = sc G (i + 1) from rfl) ?_
  refine tr_sload_n (pc := 1462) dL_law_1462 rfl ?_
  refine tr_iload_n (pc := 1463) dL_law_1463 rfl ?_
  refine tr_iconst (pc := 1464) dL_law_1464 ⟨by decide, by decide⟩ ?_
  refine tr_iadd (pc := 1465) dL_law_1465 ⟨by omega, by omega⟩ ?_
  refine tr_sald (pc := 1466) dL_law_1466 ⟨by decide, by decide⟩ (by omega) (by omega) (show _ = sc G (i + 2) from rfl) ?_
  refine tr_sload_n (pc := 1467) dL_law_1467 rfl ?_
  refine tr_iload_n (pc := 1468) dL_law_1468 rfl ?_
  refine tr_iconst (pc := 1469) dL_law_1469 ⟨by decide, by decide⟩ ?_
  refine tr_iadd (pc := 1470) dL_law_1470 ⟨by omega, by omega⟩ ?_
  refine tr_sald (pc := 1471) dL_law_1471 ⟨by decide, by decide⟩ (by omega) (by omega) (show _ = sc G (i + 3) from rfl) ?_
  refine tr_sload_n (pc := 1472) dL_law_1472 rfl ?_
  refine tr_iload_n (pc := 1473) dL_law_1473 rfl ?_
  refine tr_iconst (pc := 1474) dL_law_1474 ⟨by decide, by decide⟩ ?_
  refine tr_iadd (pc := 1475) dL_law_1475 ⟨by omega, by omega⟩ ?_
  refine tr_sald (pc := 1476) dL_law_1476 ⟨by decide, by decide⟩ (by omega) (by omega) (show _ = sc G (i + 4) from rfl) ?_
  refine tr_sload_n (pc := 1477) dL_law_1477 rfl ?_
  refine tr_iload_n (pc := 1478) dL_law_1478 rfl ?_
  refine tr_iconst (pc := 1479) dL_law_1479 ⟨by decide, by decide⟩ ?_
  refine tr_iadd (pc := 1480) dL_law_1480 ⟨by omega, by omega⟩ ?_
  refine tr_sald (pc := 1481) dL_law_1481 ⟨by decide, by decide⟩ (by omega) (by omega) (show _ = sc G (i + 5) from rfl) ?_
  refine tr_cVi5 (pc := 1482) dL_law_1482 mtX10_shift lvL_165 rfl sg101 kc10 ⟨(Nat.le_of_ble_eq_true rfl), (Nat.le_of_ble_eq_true rfl)⟩ nlX10_shift (Nat.le_of_ble_eq_true rfl) ⟨(Nat.le_of_ble_eq_true rfl), (Nat.le_of_ble_eq_true rfl)⟩ (sp_X10_shift (h2a.2.2.2.2.ok hw.2.2.2.2)) (fun r1482 M1482 h1482 => ?_)
  obtain ⟨e, hJ⟩ := jj_shift hw h1 h2a h1453 h1482
  refine tr_icmpeq (pc := 1485) (tgt := 1490) dL_law_1485 (by decide) (fun c1485 => ?_) (fun c1485 => absurd c1485 (fun hh => hh e))
  exact hQ _ hJ
