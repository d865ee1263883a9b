/-! THE LAW: its turns, printed by wip/whole/gen/law2.py -/
theorem lc_rf (x : Int) : lc x x = 0 := by unfold lc; rw [if_neg (by omega), if_pos rfl]
abbrev M_Lw (nm : String) : MD := (⟨"RiverRoadLaw", nm, "([I)Z"⟩, code, 4, (Option.some FieldType.boolean))
theorem hU_e {hA : MH} {τ τ2 : SM} (e : hM τ = hM τ2) : hU hA τ = hU hA τ2 := by unfold hU; rw [e]
theorem fc_cong {ps qs : Nat → Int} {n : Nat} {x y : Int} (h : ∀ s, s < n → ps s = qs s) (g : firstClash ps n x y) : firstClash qs n x y := by
  rcases g with ⟨h1, h2⟩ | ⟨i, j, h1, h2, h3, h4⟩
  · exact Or.inl ⟨fun i j c => h1 i j ((clash_cong h).mpr c), h2⟩
  · exact Or.inr ⟨i, j, (clash_cong h).mp h1, h2, h3, fun i2 j2 c => h4 i2 j2 ((clash_cong h).mpr c)⟩
theorem clash_one {S : SS} {h : MH} (hI : CI S h) {p w : Int} {x y : Int × SS} (hx : sp_clash S p w x) (hy : sp_clash S p w y) : x = y := by
  unfold sp_clash at hx hy
  split at hx
  · rename_i c; rw [if_pos c] at hy
    obtain ⟨gs, gt, tr, en, fs, fp, hB, hcc⟩ := hI
    rcases cth_cases (hcc.2.2.2.2 p.toNat (by omega)) with ⟨hS, -⟩ | ⟨kd, n, s, sb, a, hS, -, hth⟩
    · rw [hS] at hx hy; exact hx.trans hy.symm
    · rw [hS] at hx hy
      simp only at hx hy
      split at hx
      · rename_i c2; rw [if_pos c2] at hy
        obtain ⟨ps, u, v, h1, h2, rfl⟩ := hx
        obtain ⟨ps2, u2, v2, g1, g2, rfl⟩ := hy
        obtain ⟨rfl, rfl⟩ := firstClash_one (fc_cong (pos_one (wf_strip hth.1 c2) h1 g1) h2) g2
        rfl
      · rename_i c2; rw [if_neg c2] at hy; exact hx.trans hy.symm
  · rename_i c; rw [if_neg c] at hy; exact hx.trans hy.symm
set_option maxRecDepth 20000 in
theorem lw_sheet (nm : String) (g : GS) (hL : g.2.1 ≤ 3072) (Q : QT) (m i : Nat) (hi : i + 6 ≤ g.2.1) (S : SS) (hA : MH) (σ : SM) (sz : Nat) (hI : CI S hA) (hR : RI S σ) (hsz : 37 ≤ sz) (kk : ∀ (S2 : SS) (h2 : MH) (τ : SM) (s2 : Nat), CI S2 h2 → RI S2 τ → 37 ≤ s2 → VL g (M_Lw nm) 13 1189 [some (vS 0), some (vR 0), some (vR 8), some (vI (i : Int))] [] (hU h2 τ) s2 (6 * m) (131 * m) Q) : VL g (M_Lw nm) 13 168 [some (vS 0), some (vR 0), some (vR 8), some (vI (i : Int))] [] (hU hA σ) sz (6 * (m + 1)) (131 * (m + 1)) Q := by
  refine VL.aload_n (pc := 168) 1 d_Law_168 rfl rfl ?_
  refine VL.aload_n (pc := 169) 0 d_Law_169 rfl rfl ?_
  refine VL.iload_n (pc := 170) 3 d_Law_170 rfl rfl ?_
  refine VL.iconst (pc := 171) d_Law_171 ⟨by decide, by decide⟩ ?_
  refine VL.iadd (pc := 172) d_Law_172 ⟨by omega, by omega⟩ ?_
  refine VL.sld (pc := 173) d_Law_173 (by omega) (by omega) ?_
  refine VL.aload_n (pc := 174) 0 d_Law_174 rfl rfl ?_
  refine VL.iload_n (pc := 175) 3 d_Law_175 rfl rfl ?_
  refine VL.iconst (pc := 176) d_Law_176 ⟨by decide, by decide⟩ ?_
  refine VL.iadd (pc := 177) d_Law_177 ⟨by omega, by omega⟩ ?_
  refine VL.sld (pc := 178) d_Law_178 (by omega) (by omega) ?_
  refine VL.aload_n (pc := 179) 0 d_Law_179 rfl rfl ?_
  refine VL.iload_n (pc := 180) 3 d_Law_180 rfl rfl ?_
  refine VL.iconst (pc := 181) d_Law_181 ⟨by decide, by decide⟩ ?_
  refine VL.iadd (pc := 182) d_Law_182 ⟨by omega, by omega⟩ ?_
  refine VL.sld (pc := 183) d_Law_183 (by omega) (by omega) ?_
  refine VL.cA (pc := 184) (kc2 := 6 * m) (ks2 := 131 * m) [vI (scv g ((i : Int) + 1)), vI (scv g ((i : Int) + 2)), vI (scv g ((i : Int) + 3))] ml_Law_13 hI (cs_RR_sheet S hA hI (scv g ((i : Int) + 1)) (scv g ((i : Int) + 2)) (scv g ((i : Int) + 3)) sz hsz) rfl hsz d_Law_184 (Nat.le_of_ble_eq_true rfl) (Nat.le_of_ble_eq_true rfl) (by omega) (by omega) gQCI ?_
  rintro _ h2 s2 ⟨hs2, rfl, hI2⟩
  dsimp only [Option.toList, List.cons_append, List.nil_append]
  refine VL.aload_n (pc := 187) 2 d_Law_187 rfl rfl ?_
  refine VL.aload_n (pc := 188) 0 d_Law_188 rfl rfl ?_
  refine VL.iload_n (pc := 189) 3 d_Law_189 rfl rfl ?_
  refine VL.iconst (pc := 190) d_Law_190 ⟨by decide, by decide⟩ ?_
  refine VL.iadd (pc := 191) d_Law_191 ⟨by omega, by omega⟩ ?_
  refine VL.sld (pc := 192) d_Law_192 (by omega) (by omega) ?_
  refine VL.aload_n (pc := 193) 0 d_Law_193 rfl rfl ?_
  refine VL.iload_n (pc := 194) 3 d_Law_194 rfl rfl ?_
  refine VL.iconst (pc := 195) d_Law_195 ⟨by decide, by decide⟩ ?_
  refine VL.iadd (pc := 196) d_Law_196 ⟨by omega, by omega⟩ ?_
  refine VL.sld (pc := 197) d_Law_197 (by omega) (by omega) ?_
  refine VL.aload_n (pc := 198) 0 d_Law_198 rfl rfl ?_
  refine VL.iload_n (pc := 199) 3 d_Law_199 rfl rfl ?_
  refine VL.iconst (pc := 200) d_Law_200 ⟨by decide, by decide⟩ ?_
  refine VL.iadd (pc := 201) d_Law_201 ⟨by omega, by omega⟩ ?_
  refine VL.sld (pc := 202) d_Law_202 (by omega) (by omega) ?_
  refine VL.cB (pc := 203) (kc2 := 6 * m) (ks2 := 131 * m) [vI (scv g ((i : Int) + 1)), vI (scv g ((i : Int) + 2)), vI (scv g ((i : Int) + 3))] ml_Law_17 hI2.gap (cs_Mo_sheet S σ hR (scv g ((i : Int) + 1)) (scv g ((i : Int) + 2)) (scv g ((i : Int) + 3)) s2) rfl d_Law_203 (Nat.le_of_ble_eq_true rfl) (Nat.le_of_ble_eq_true rfl) (Nat.le_refl _) (Nat.le_refl _) gQS ?_
  rintro _ τ0 _ ⟨rfl, rfl, τ, he, hR2⟩
  dsimp only [Option.toList, List.cons_append, List.nil_append]
  rw [hU_e he]
  refine VL.icmp_eq (tgt := 1189) (pc := 206) d_Law_206 (by decide) (fun _ => ?_) (fun c9 => absurd rfl c9)
  exact kk _ _ _ _ hI2 hR2 (by omega)
set_option maxRecDepth 20000 in
theorem lw_set (nm : String) (g : GS) (hL : g.2.1 ≤ 3072) (Q : QT) (m i : Nat) (hi : i + 6 ≤ g.2.1) (S : SS) (hA : MH) (σ : SM) (sz : Nat) (hI : CI S hA) (hR : RI S σ) (hsz : 37 ≤ sz) (kk : ∀ (S2 : SS) (h2 : MH) (τ : SM) (s2 : Nat), CI S2 h2 → RI S2 τ → 37 ≤ s2 → VL g (M_Lw nm) 13 1189 [some (vS 0), some (vR 0), some (vR 8), some (vI (i : Int))] [] (hU h2 τ) s2 (6 * m) (131 * m) Q) : VL g (M_Lw nm) 13 211 [some (vS 0), some (vR 0), some (vR 8), some (vI (i : Int))] [] (hU hA σ) sz (6 * (m + 1)) (131 * (m + 1)) Q := by
  refine VL.aload_n (pc := 211) 1 d_Law_211 rfl rfl ?_
  refine VL.aload_n (pc := 212) 0 d_Law_212 rfl rfl ?_
  refine VL.iload_n (pc := 213) 3 d_Law_213 rfl rfl ?_
  refine VL.iconst (pc := 214) d_Law_214 ⟨by decide, by decide⟩ ?_
  refine VL.iadd (pc := 215) d_Law_215 ⟨by omega, by omega⟩ ?_
  refine VL.sld (pc := 216) d_Law_216 (by omega) (by omega) ?_
  refine VL.aload_n (pc := 217) 0 d_Law_217 rfl rfl ?_
  refine VL.iload_n (pc := 218) 3 d_Law_218 rfl rfl ?_
  refine VL.iconst (pc := 219) d_Law_219 ⟨by decide, by decide⟩ ?_
  refine VL.iadd (pc := 220) d_Law_220 ⟨by omega, by omega⟩ ?_
  refine VL.sld (pc := 221) d_Law_221 (by omega) (by omega) ?_
  refine VL.aload_n (pc := 222) 0 d_Law_222 rfl rfl ?_
  refine VL.iload_n (pc := 223) 3 d_Law_223 rfl rfl ?_
  refine VL.iconst (pc := 224) d_Law_224 ⟨by decide, by decide⟩ ?_
  refine VL.iadd (pc := 225) d_Law_225 ⟨by omega, by omega⟩ ?_
  refine VL.sld (pc := 226) d_Law_226 (by omega) (by omega) ?_
  refine VL.cA (pc := 227) (kc2 := 6 * m) (ks2 := 131 * m) [vI (scv g ((i : Int) + 1)), vI (scv g ((i : Int) + 2)), vI (scv g ((i : Int) + 3))] ml_Law_18 hI (cs_RR_set S hA hI (scv g ((i : Int) + 1)) (scv g ((i : Int) + 2)) (scv g ((i : Int) + 3)) sz hsz) rfl hsz d_Law_227 (Nat.le_of_ble_eq_true rfl) (Nat.le_of_ble_eq_true rfl) (by omega) (by omega) gQCI ?_
  rintro _ h2 s2 ⟨hs2, rfl, hI2⟩
  dsimp only [Option.toList, List.cons_append, List.nil_append]
  refine VL.aload_n (pc := 230) 2 d_Law_230 rfl rfl ?_
  refine VL.aload_n (pc := 231) 0 d_Law_231 rfl rfl ?_
  refine VL.iload_n (pc := 232) 3 d_Law_232 rfl rfl ?_
  refine VL.iconst (pc := 233) d_Law_233 ⟨by decide, by decide⟩ ?_
  refine VL.iadd (pc := 234) d_Law_234 ⟨by omega, by omega⟩ ?_
  refine VL.sld (pc := 235) d_Law_235 (by omega) (by omega) ?_
  refine VL.aload_n (pc := 236) 0 d_Law_236 rfl rfl ?_
  refine VL.iload_n (pc := 237) 3 d_Law_237 rfl rfl ?_
  refine VL.iconst (pc := 238) d_Law_238 ⟨by decide, by decide⟩ ?_
  refine VL.iadd (pc := 239) d_Law_239 ⟨by omega, by omega⟩ ?_
  refine VL.sld (pc := 240) d_Law_240 (by omega) (by omega) ?_
  refine VL.aload_n (pc := 241) 0 d_Law_241 rfl rfl ?_
  refine VL.iload_n (pc := 242) 3 d_Law_242 rfl rfl ?_
  refine VL.iconst (pc := 243) d_Law_243 ⟨by decide, by decide⟩ ?_
  refine VL.iadd (pc := 244) d_Law_244 ⟨by omega, by omega⟩ ?_
  refine VL.sld (pc := 245) d_Law_245 (by omega) (by omega) ?_
  refine VL.cB (pc := 246) (kc2 := 6 * m) (ks2 := 131 * m) [vI (scv g ((i : Int) + 1)), vI (scv g ((i : Int) + 2)), vI (scv g ((i : Int) + 3))] ml_Law_21 hI2.gap (cs_Mo_set S σ hR (scv g ((i : Int) + 1)) (scv g ((i : Int) + 2)) (scv g ((i : Int) + 3)) s2) rfl d_Law_246 (Nat.le_of_ble_eq_true rfl) (Nat.le_of_ble_eq_true rfl) (Nat.le_refl _) (Nat.le_refl _) gQS ?_
  rintro _ τ0 _ ⟨rfl, rfl, τ, he, hR2⟩
  dsimp only [Option.toList, List.cons_append, List.nil_append]
  rw [hU_e he]
  refine VL.icmp_eq (tgt := 1189) (pc := 249) d_Law_249 (by decide) (fun _ => ?_) (fun c9 => absurd rfl c9)
  exact kk _ _ _ _ hI2 hR2 (by omega)
set_option maxRecDepth 20000 in
theorem lw_copy (nm : String) (g : GS) (hL : g.2.1 ≤ 3072) (Q : QT) (m i : Nat) (hi : i + 6 ≤ g.2.1) (S : SS) (hA : MH) (σ : SM) (sz : Nat) (hI : CI S hA) (hR : RI S σ) (hsz : 37 ≤ sz) (kk : ∀ (S2 : SS) (h2 : MH) (τ : SM) (s2 : Nat), CI S2 h2 → RI S2 τ → 37 ≤ s2 → VL g (M_Lw nm) 13 1189 [some (vS 0), some (vR 0), some (vR 8), some (vI (i : Int))] [] (hU h2 τ) s2 (6 * m) (131 * m) Q) : VL g (M_Lw nm) 13 254 [some (vS 0), some (vR 0), some (vR 8), some (vI (i : Int))] [] (hU hA σ) sz (6 * (m + 1)) (131 * (m + 1)) Q := by
  refine VL.aload_n (pc := 254) 1 d_Law_254 rfl rfl ?_
  refine VL.aload_n (pc := 255) 0 d_Law_255 rfl rfl ?_
  refine VL.iload_n (pc := 256) 3 d_Law_256 rfl rfl ?_
  refine VL.iconst (pc := 257) d_Law_257 ⟨by decide, by decide⟩ ?_
  refine VL.iadd (pc := 258) d_Law_258 ⟨by omega, by omega⟩ ?_
  refine VL.sld (pc := 259) d_Law_259 (by omega) (by omega) ?_
  refine VL.aload_n (pc := 260) 0 d_Law_260 rfl rfl ?_
  refine VL.iload_n (pc := 261) 3 d_Law_261 rfl rfl ?_
  refine VL.iconst (pc := 262) d_Law_262 ⟨by decide, by decide⟩ ?_
  refine VL.iadd (pc := 263) d_Law_263 ⟨by omega, by omega⟩ ?_
  refine VL.sld (pc := 264) d_Law_264 (by omega) (by omega) ?_
  refine VL.aload_n (pc := 265) 0 d_Law_265 rfl rfl ?_
  refine VL.iload_n (pc := 266) 3 d_Law_266 rfl rfl ?_
  refine VL.iconst (pc := 267) d_Law_267 ⟨by decide, by decide⟩ ?_
  refine VL.iadd (pc := 268) d_Law_268 ⟨by omega, by omega⟩ ?_
  refine VL.sld (pc := 269) d_Law_269 (by omega) (by omega) ?_
  refine VL.aload_n (pc := 270) 0 d_Law_270 rfl rfl ?_
  refine VL.iload_n (pc := 271) 3 d_Law_271 rfl rfl ?_
  refine VL.iconst (pc := 272) d_Law_272 ⟨by decide, by decide⟩ ?_
  refine VL.iadd (pc := 273) d_Law_273 ⟨by omega, by omega⟩ ?_
  refine VL.sld (pc := 274) d_Law_274 (by omega) (by omega) ?_
  refine VL.aload_n (pc := 275) 0 d_Law_275 rfl rfl ?_
  refine VL.iload_n (pc := 276) 3 d_Law_276 rfl rfl ?_
  refine VL.iconst (pc := 277) d_Law_277 ⟨by decide, by decide⟩ ?_
  refine VL.iadd (pc := 278) d_Law_278 ⟨by omega, by omega⟩ ?_
  refine VL.sld (pc := 279) d_Law_279 (by omega) (by omega) ?_
  refine VL.cA (pc := 280) (kc2 := 6 * m) (ks2 := 131 * m) [vI (scv g ((i : Int) + 1)), vI (scv g ((i : Int) + 2)), vI (scv g ((i : Int) + 3)), vI (scv g ((i : Int) + 4)), vI (scv g ((i : Int) + 5))] ml_Law_22 hI (cs_RR_copy S hA hI (scv g ((i : Int) + 1)) (scv g ((i : Int) + 2)) (scv g ((i : Int) + 3)) (scv g ((i : Int) + 4)) (scv g ((i : Int) + 5)) sz hsz) rfl hsz d_Law_280 (Nat.le_of_ble_eq_true rfl) (Nat.le_of_ble_eq_true rfl) (by omega) (by omega) gQCI ?_
  rintro _ h2 s2 ⟨hs2, rfl, hI2⟩
  dsimp only [Option.toList, List.cons_append, List.nil_append]
  refine VL.aload_n (pc := 283) 2 d_Law_283 rfl rfl ?_
  refine VL.aload_n (pc := 284) 0 d_Law_284 rfl rfl ?_
  refine VL.iload_n (pc := 285) 3 d_Law_285 rfl rfl ?_
  refine VL.iconst (pc := 286) d_Law_286 ⟨by decide, by decide⟩ ?_
  refine VL.iadd (pc := 287) d_Law_287 ⟨by omega, by omega⟩ ?_
  refine VL.sld (pc := 288) d_Law_288 (by omega) (by omega) ?_
  refine VL.aload_n (pc := 289) 0 d_Law_289 rfl rfl ?_
  refine VL.iload_n (pc := 290) 3 d_Law_290 rfl rfl ?_
  refine VL.iconst (pc := 291) d_Law_291 ⟨by decide, by decide⟩ ?_
  refine VL.iadd (pc := 292) d_Law_292 ⟨by omega, by omega⟩ ?_
  refine VL.sld (pc := 293) d_Law_293 (by omega) (by omega) ?_
  refine VL.aload_n (pc := 294) 0 d_Law_294 rfl rfl ?_
  refine VL.iload_n (pc := 295) 3 d_Law_295 rfl rfl ?_
  refine VL.iconst (pc := 296) d_Law_296 ⟨by decide, by decide⟩ ?_
  refine VL.iadd (pc := 297) d_Law_297 ⟨by omega, by omega⟩ ?_
  refine VL.sld (pc := 298) d_Law_298 (by omega) (by omega) ?_
  refine VL.aload_n (pc := 299) 0 d_Law_299 rfl rfl ?_
  refine VL.iload_n (pc := 300) 3 d_Law_300 rfl rfl ?_
  refine VL.iconst (pc := 301) d_Law_301 ⟨by decide, by decide⟩ ?_
  refine VL.iadd (pc := 302) d_Law_302 ⟨by omega, by omega⟩ ?_
  refine VL.sld (pc := 303) d_Law_303 (by omega) (by omega) ?_
  refine VL.aload_n (pc := 304) 0 d_Law_304 rfl rfl ?_
  refine VL.iload_n (pc := 305) 3 d_Law_305 rfl rfl ?_
  refine VL.iconst (pc := 306) d_Law_306 ⟨by decide, by decide⟩ ?_
  refine VL.iadd (pc := 307) d_Law_307 ⟨by omega, by omega⟩ ?_
  refine VL.sld (pc := 308) d_Law_308 (by omega) (by omega) ?_
  refine VL.cB (pc := 309) (kc2 := 6 * m) (ks2 := 131 * m) [vI (scv g ((i : Int) + 1)), vI (scv g ((i : Int) + 2)), vI (scv g ((i : Int) + 3)), vI (scv g ((i : Int) + 4)), vI (scv g ((i : Int) + 5))] ml_Law_26 hI2.gap (cs_Mo_copy S σ hR (scv g ((i : Int) + 1)) (scv g ((i : Int) + 2)) (scv g ((i : Int) + 3)) (scv g ((i : Int) + 4)) (scv g ((i : Int) + 5)) s2) rfl d_Law_309 (Nat.le_of_ble_eq_true rfl) (Nat.le_of_ble_eq_true rfl) (Nat.le_refl _) (Nat.le_refl _) gQS ?_
  rintro _ τ0 _ ⟨rfl, rfl, τ, he, hR2⟩
  dsimp only [Option.toList, List.cons_append, List.nil_append]
  rw [hU_e he]
  refine VL.icmp_eq (tgt := 1189) (pc := 312) d_Law_312 (by decide) (fun _ => ?_) (fun c9 => absurd rfl c9)
  exact kk _ _ _ _ hI2 hR2 (by omega)
set_option maxRecDepth 20000 in
theorem lw_drop (nm : String) (g : GS) (hL : g.2.1 ≤ 3072) (Q : QT) (m i : Nat) (hi : i + 6 ≤ g.2.1) (S : SS) (hA : MH) (σ : SM) (sz : Nat) (hI : CI S hA) (hR : RI S σ) (hsz : 37 ≤ sz) (kk : ∀ (S2 : SS) (h2 : MH) (τ : SM) (s2 : Nat), CI S2 h2 → RI S2 τ → 37 ≤ s2 → VL g (M_Lw nm) 13 1189 [some (vS 0), some (vR 0), some (vR 8), some (vI (i : Int))] [] (hU h2 τ) s2 (6 * m) (131 * m) Q) : VL g (M_Lw nm) 13 317 [some (vS 0), some (vR 0), some (vR 8), some (vI (i : Int))] [] (hU hA σ) sz (6 * (m + 1)) (131 * (m + 1)) Q := by
  refine VL.aload_n (pc := 317) 1 d_Law_317 rfl rfl ?_
  refine VL.aload_n (pc := 318) 0 d_Law_318 rfl rfl ?_
  refine VL.iload_n (pc := 319) 3 d_Law_319 rfl rfl ?_
  refine VL.iconst (pc := 320) d_Law_320 ⟨by decide, by decide⟩ ?_
  refine VL.iadd (pc := 321) d_Law_321 ⟨by omega, by omega⟩ ?_
  refine VL.sld (pc := 322) d_Law_322 (by omega) (by omega) ?_
  refine VL.cA (pc := 323) (kc2 := 6 * m) (ks2 := 131 * m) [vI (scv g ((i : Int) + 1))] ml_Law_27 hI (cs_RR_drop S hA hI (scv g ((i : Int) + 1)) sz hsz) rfl hsz d_Law_323 (Nat.le_of_ble_eq_true rfl) (Nat.le_of_ble_eq_true rfl) (by omega) (by omega) gQCI ?_
  rintro _ h2 s2 ⟨hs2, rfl, hI2⟩
  dsimp only [Option.toList, List.cons_append, List.nil_append]
  refine VL.aload_n (pc := 326) 2 d_Law_326 rfl rfl ?_
  refine VL.aload_n (pc := 327) 0 d_Law_327 rfl rfl ?_
  refine VL.iload_n (pc := 328) 3 d_Law_328 rfl rfl ?_
  refine VL.iconst (pc := 329) d_Law_329 ⟨by decide, by decide⟩ ?_
  refine VL.iadd (pc := 330) d_Law_330 ⟨by omega, by omega⟩ ?_
  refine VL.sld (pc := 331) d_Law_331 (by omega) (by omega) ?_
  refine VL.cB (pc := 332) (kc2 := 6 * m) (ks2 := 131 * m) [vI (scv g ((i : Int) + 1))] ml_Law_31 hI2.gap (cs_Mo_drop S σ hR (scv g ((i : Int) + 1)) s2) rfl d_Law_332 (Nat.le_of_ble_eq_true rfl) (Nat.le_of_ble_eq_true rfl) (Nat.le_refl _) (Nat.le_refl _) gQS ?_
  rintro _ τ0 _ ⟨rfl, rfl, τ, he, hR2⟩
  dsimp only [Option.toList, List.cons_append, List.nil_append]
  rw [hU_e he]
  refine VL.icmp_eq (tgt := 1189) (pc := 335) d_Law_335 (by decide) (fun _ => ?_) (fun c9 => absurd rfl c9)
  exact kk _ _ _ _ hI2 hR2 (by omega)
set_option maxRecDepth 20000 in
theorem lw_row (nm : String) (g : GS) (hL : g.2.1 ≤ 3072) (Q : QT) (m i : Nat) (hi : i + 6 ≤ g.2.1) (S : SS) (hA : MH) (σ : SM) (sz : Nat) (hI : CI S hA) (hR : RI S σ) (hsz : 37 ≤ sz) (kk : ∀ (S2 : SS) (h2 : MH) (τ : SM) (s2 : Nat), CI S2 h2 → RI S2 τ → 37 ≤ s2 → VL g (M_Lw nm) 13 1189 [some (vS 0), some (vR 0), some (vR 8), some (vI (i : Int))] [] (hU h2 τ) s2 (6 * m) (131 * m) Q) : VL g (M_Lw nm) 13 340 [some (vS 0), some (vR 0), some (vR 8), some (vI (i : Int))] [] (hU hA σ) sz (6 * (m + 1)) (131 * (m + 1)) Q := by
  refine VL.aload_n (pc := 340) 1 d_Law_340 rfl rfl ?_
  refine VL.aload_n (pc := 341) 0 d_Law_341 rfl rfl ?_
  refine VL.iload_n (pc := 342) 3 d_Law_342 rfl rfl ?_
  refine VL.iconst (pc := 343) d_Law_343 ⟨by decide, by decide⟩ ?_
  refine VL.iadd (pc := 344) d_Law_344 ⟨by omega, by omega⟩ ?_
  refine VL.sld (pc := 345) d_Law_345 (by omega) (by omega) ?_
  refine VL.aload_n (pc := 346) 0 d_Law_346 rfl rfl ?_
  refine VL.iload_n (pc := 347) 3 d_Law_347 rfl rfl ?_
  refine VL.iconst (pc := 348) d_Law_348 ⟨by decide, by decide⟩ ?_
  refine VL.iadd (pc := 349) d_Law_349 ⟨by omega, by omega⟩ ?_
  refine VL.sld (pc := 350) d_Law_350 (by omega) (by omega) ?_
  refine VL.aload_n (pc := 351) 0 d_Law_351 rfl rfl ?_
  refine VL.iload_n (pc := 352) 3 d_Law_352 rfl rfl ?_
  refine VL.iconst (pc := 353) d_Law_353 ⟨by decide, by decide⟩ ?_
  refine VL.iadd (pc := 354) d_Law_354 ⟨by omega, by omega⟩ ?_
  refine VL.sld (pc := 355) d_Law_355 (by omega) (by omega) ?_
  refine VL.aload_n (pc := 356) 0 d_Law_356 rfl rfl ?_
  refine VL.iload_n (pc := 357) 3 d_Law_357 rfl rfl ?_
  refine VL.iconst (pc := 358) d_Law_358 ⟨by decide, by decide⟩ ?_
  refine VL.iadd (pc := 359) d_Law_359 ⟨by omega, by omega⟩ ?_
  refine VL.sld (pc := 360) d_Law_360 (by omega) (by omega) ?_
  refine VL.cA (pc := 361) (kc2 := 6 * m) (ks2 := 131 * m) [vI (scv g ((i : Int) + 1)), vI (scv g ((i : Int) + 2)), vI (scv g ((i : Int) + 3)), vI (scv g ((i : Int) + 4))] ml_Law_32 hI (cs_RR_row S hA hI (scv g ((i : Int) + 1)) (scv g ((i : Int) + 2)) (scv g ((i : Int) + 3)) (scv g ((i : Int) + 4)) sz hsz) rfl hsz d_Law_361 (Nat.le_of_ble_eq_true rfl) (Nat.le_of_ble_eq_true rfl) (by omega) (by omega) gQCI ?_
  rintro _ h2 s2 ⟨hs2, rfl, hI2⟩
  dsimp only [Option.toList, List.cons_append, List.nil_append]
  refine VL.aload_n (pc := 364) 2 d_Law_364 rfl rfl ?_
  refine VL.aload_n (pc := 365) 0 d_Law_365 rfl rfl ?_
  refine VL.iload_n (pc := 366) 3 d_Law_366 rfl rfl ?_
  refine VL.iconst (pc := 367) d_Law_367 ⟨by decide, by decide⟩ ?_
  refine VL.iadd (pc := 368) d_Law_368 ⟨by omega, by omega⟩ ?_
  refine VL.sld (pc := 369) d_Law_369 (by omega) (by omega) ?_
  refine VL.aload_n (pc := 370) 0 d_Law_370 rfl rfl ?_
  refine VL.iload_n (pc := 371) 3 d_Law_371 rfl rfl ?_
  refine VL.iconst (pc := 372) d_Law_372 ⟨by decide, by decide⟩ ?_
  refine VL.iadd (pc := 373) d_Law_373 ⟨by omega, by omega⟩ ?_
  refine VL.sld (pc := 374) d_Law_374 (by omega) (by omega) ?_
  refine VL.aload_n (pc := 375) 0 d_Law_375 rfl rfl ?_
  refine VL.iload_n (pc := 376) 3 d_Law_376 rfl rfl ?_
  refine VL.iconst (pc := 377) d_Law_377 ⟨by decide, by decide⟩ ?_
  refine VL.iadd (pc := 378) d_Law_378 ⟨by omega, by omega⟩ ?_
  refine VL.sld (pc := 379) d_Law_379 (by omega) (by omega) ?_
  refine VL.aload_n (pc := 380) 0 d_Law_380 rfl rfl ?_
  refine VL.iload_n (pc := 381) 3 d_Law_381 rfl rfl ?_
  refine VL.iconst (pc := 382) d_Law_382 ⟨by decide, by decide⟩ ?_
  refine VL.iadd (pc := 383) d_Law_383 ⟨by omega, by omega⟩ ?_
  refine VL.sld (pc := 384) d_Law_384 (by omega) (by omega) ?_
  refine VL.cB (pc := 385) (kc2 := 6 * m) (ks2 := 131 * m) [vI (scv g ((i : Int) + 1)), vI (scv g ((i : Int) + 2)), vI (scv g ((i : Int) + 3)), vI (scv g ((i : Int) + 4))] ml_Law_36 hI2.gap (cs_Mo_row S σ hR (scv g ((i : Int) + 1)) (scv g ((i : Int) + 2)) (scv g ((i : Int) + 3)) (scv g ((i : Int) + 4)) s2) rfl d_Law_385 (Nat.le_of_ble_eq_true rfl) (Nat.le_of_ble_eq_true rfl) (Nat.le_refl _) (Nat.le_refl _) gQS ?_
  rintro _ τ0 _ ⟨rfl, rfl, τ, he, hR2⟩
  dsimp only [Option.toList, List.cons_append, List.nil_append]
  rw [hU_e he]
  refine VL.icmp_eq (tgt := 1189) (pc := 388) d_Law_388 (by decide) (fun _ => ?_) (fun c9 => absurd rfl c9)
  exact kk _ _ _ _ hI2 hR2 (by omega)
set_option maxRecDepth 20000 in
theorem lw_land (nm : String) (g : GS) (hL : g.2.1 ≤ 3072) (Q : QT) (m i : Nat) (hi : i + 6 ≤ g.2.1) (S : SS) (hA : MH) (σ : SM) (sz : Nat) (hI : CI S hA) (hR : RI S σ) (hsz : 37 ≤ sz) (kk : ∀ (S2 : SS) (h2 : MH) (τ : SM) (s2 : Nat), CI S2 h2 → RI S2 τ → 37 ≤ s2 → VL g (M_Lw nm) 13 1189 [some (vS 0), some (vR 0), some (vR 8), some (vI (i : Int))] [] (hU h2 τ) s2 (6 * m) (131 * m) Q) : VL g (M_Lw nm) 13 393 [some (vS 0), some (vR 0), some (vR 8), some (vI (i : Int))] [] (hU hA σ) sz (6 * (m + 1)) (131 * (m + 1)) Q := by
  refine VL.aload_n (pc := 393) 1 d_Law_393 rfl rfl ?_
  refine VL.aload_n (pc := 394) 0 d_Law_394 rfl rfl ?_
  refine VL.iload_n (pc := 395) 3 d_Law_395 rfl rfl ?_
  refine VL.iconst (pc := 396) d_Law_396 ⟨by decide, by decide⟩ ?_
  refine VL.iadd (pc := 397) d_Law_397 ⟨by omega, by omega⟩ ?_
  refine VL.sld (pc := 398) d_Law_398 (by omega) (by omega) ?_
  refine VL.aload_n (pc := 399) 0 d_Law_399 rfl rfl ?_
  refine VL.iload_n (pc := 400) 3 d_Law_400 rfl rfl ?_
  refine VL.iconst (pc := 401) d_Law_401 ⟨by decide, by decide⟩ ?_
  refine VL.iadd (pc := 402) d_Law_402 ⟨by omega, by omega⟩ ?_
  refine VL.sld (pc := 403) d_Law_403 (by omega) (by omega) ?_
  refine VL.aload_n (pc := 404) 0 d_Law_404 rfl rfl ?_
  refine VL.iload_n (pc := 405) 3 d_Law_405 rfl rfl ?_
  refine VL.iconst (pc := 406) d_Law_406 ⟨by decide, by decide⟩ ?_
  refine VL.iadd (pc := 407) d_Law_407 ⟨by omega, by omega⟩ ?_
  refine VL.sld (pc := 408) d_Law_408 (by omega) (by omega) ?_
  refine VL.cA (pc := 409) (kc2 := 6 * m) (ks2 := 131 * m) [vI (scv g ((i : Int) + 1)), vI (scv g ((i : Int) + 2)), vI (scv g ((i : Int) + 3))] ml_Law_37 hI (cs_RR_land S hA hI (scv g ((i : Int) + 1)) (scv g ((i : Int) + 2)) (scv g ((i : Int) + 3)) sz hsz) rfl hsz d_Law_409 (Nat.le_of_ble_eq_true rfl) (Nat.le_of_ble_eq_true rfl) (by omega) (by omega) gQCI ?_
  rintro _ h2 s2 ⟨hs2, rfl, hI2⟩
  dsimp only [Option.toList, List.cons_append, List.nil_append]
  refine VL.aload_n (pc := 412) 2 d_Law_412 rfl rfl ?_
  refine VL.aload_n (pc := 413) 0 d_Law_413 rfl rfl ?_
  refine VL.iload_n (pc := 414) 3 d_Law_414 rfl rfl ?_
  refine VL.iconst (pc := 415) d_Law_415 ⟨by decide, by decide⟩ ?_
  refine VL.iadd (pc := 416) d_Law_416 ⟨by omega, by omega⟩ ?_
  refine VL.sld (pc := 417) d_Law_417 (by omega) (by omega) ?_
  refine VL.aload_n (pc := 418) 0 d_Law_418 rfl rfl ?_
  refine VL.iload_n (pc := 419) 3 d_Law_419 rfl rfl ?_
  refine VL.iconst (pc := 420) d_Law_420 ⟨by decide, by decide⟩ ?_
  refine VL.iadd (pc := 421) d_Law_421 ⟨by omega, by omega⟩ ?_
  refine VL.sld (pc := 422) d_Law_422 (by omega) (by omega) ?_
  refine VL.aload_n (pc := 423) 0 d_Law_423 rfl rfl ?_
  refine VL.iload_n (pc := 424) 3 d_Law_424 rfl rfl ?_
  refine VL.iconst (pc := 425) d_Law_425 ⟨by decide, by decide⟩ ?_
  refine VL.iadd (pc := 426) d_Law_426 ⟨by omega, by omega⟩ ?_
  refine VL.sld (pc := 427) d_Law_427 (by omega) (by omega) ?_
  refine VL.cB (pc := 428) (kc2 := 6 * m) (ks2 := 131 * m) [vI (scv g ((i : Int) + 1)), vI (scv g ((i : Int) + 2)), vI (scv g ((i : Int) + 3))] ml_Law_40 hI2.gap (cs_Mo_land S σ hR (scv g ((i : Int) + 1)) (scv g ((i : Int) + 2)) (scv g ((i : Int) + 3)) s2) rfl d_Law_428 (Nat.le_of_ble_eq_true rfl) (Nat.le_of_ble_eq_true rfl) (Nat.le_refl _) (Nat.le_refl _) gQS ?_
  rintro _ τ0 _ ⟨rfl, rfl, τ, he, hR2⟩
  dsimp only [Option.toList, List.cons_append, List.nil_append]
  rw [hU_e he]
  refine VL.icmp_eq (tgt := 1189) (pc := 431) d_Law_431 (by decide) (fun _ => ?_) (fun c9 => absurd rfl c9)
  exact kk _ _ _ _ hI2 hR2 (by omega)
set_option maxRecDepth 20000 in
theorem lw_strip (nm : String) (g : GS) (hL : g.2.1 ≤ 3072) (Q : QT) (m i : Nat) (hi : i + 6 ≤ g.2.1) (S : SS) (hA : MH) (σ : SM) (sz : Nat) (hI : CI S hA) (hR : RI S σ) (hsz : 37 ≤ sz) (kk : ∀ (S2 : SS) (h2 : MH) (τ : SM) (s2 : Nat), CI S2 h2 → RI S2 τ → 37 ≤ s2 → VL g (M_Lw nm) 13 1189 [some (vS 0), some (vR 0), some (vR 8), some (vI (i : Int))] [] (hU h2 τ) s2 (6 * m) (131 * m) Q) : VL g (M_Lw nm) 13 436 [some (vS 0), some (vR 0), some (vR 8), some (vI (i : Int))] [] (hU hA σ) sz (6 * (m + 1)) (131 * (m + 1)) Q := by
  refine VL.aload_n (pc := 436) 1 d_Law_436 rfl rfl ?_
  refine VL.aload_n (pc := 437) 0 d_Law_437 rfl rfl ?_
  refine VL.iload_n (pc := 438) 3 d_Law_438 rfl rfl ?_
  refine VL.iconst (pc := 439) d_Law_439 ⟨by decide, by decide⟩ ?_
  refine VL.iadd (pc := 440) d_Law_440 ⟨by omega, by omega⟩ ?_
  refine VL.sld (pc := 441) d_Law_441 (by omega) (by omega) ?_
  refine VL.aload_n (pc := 442) 0 d_Law_442 rfl rfl ?_
  refine VL.iload_n (pc := 443) 3 d_Law_443 rfl rfl ?_
  refine VL.iconst (pc := 444) d_Law_444 ⟨by decide, by decide⟩ ?_
  refine VL.iadd (pc := 445) d_Law_445 ⟨by omega, by omega⟩ ?_
  refine VL.sld (pc := 446) d_Law_446 (by omega) (by omega) ?_
  refine VL.aload_n (pc := 447) 0 d_Law_447 rfl rfl ?_
  refine VL.iload_n (pc := 448) 3 d_Law_448 rfl rfl ?_
  refine VL.iconst (pc := 449) d_Law_449 ⟨by decide, by decide⟩ ?_
  refine VL.iadd (pc := 450) d_Law_450 ⟨by omega, by omega⟩ ?_
  refine VL.sld (pc := 451) d_Law_451 (by omega) (by omega) ?_
  refine VL.aload_n (pc := 452) 0 d_Law_452 rfl rfl ?_
  refine VL.iload_n (pc := 453) 3 d_Law_453 rfl rfl ?_
  refine VL.iconst (pc := 454) d_Law_454 ⟨by decide, by decide⟩ ?_
  refine VL.iadd (pc := 455) d_Law_455 ⟨by omega, by omega⟩ ?_
  refine VL.sld (pc := 456) d_Law_456 (by omega) (by omega) ?_
  refine VL.cA (pc := 457) (kc2 := 6 * m) (ks2 := 131 * m) [vI (scv g ((i : Int) + 1)), vI (scv g ((i : Int) + 2)), vI (scv g ((i : Int) + 3)), vI (scv g ((i : Int) + 4))] ml_Law_41 hI (cs_RR_strip S hA hI (scv g ((i : Int) + 1)) (scv g ((i : Int) + 2)) (scv g ((i : Int) + 3)) (scv g ((i : Int) + 4)) sz hsz) rfl hsz d_Law_457 (Nat.le_of_ble_eq_true rfl) (Nat.le_of_ble_eq_true rfl) (by omega) (by omega) gQCX ?_
  rintro _ h2 s2 ⟨hs2, x, hx, rfl, hI2⟩
  dsimp only [Option.toList, List.cons_append, List.nil_append]
  refine VL.aload_n (pc := 460) 2 d_Law_460 rfl rfl ?_
  refine VL.aload_n (pc := 461) 0 d_Law_461 rfl rfl ?_
  refine VL.iload_n (pc := 462) 3 d_Law_462 rfl rfl ?_
  refine VL.iconst (pc := 463) d_Law_463 ⟨by decide, by decide⟩ ?_
  refine VL.iadd (pc := 464) d_Law_464 ⟨by omega, by omega⟩ ?_
  refine VL.sld (pc := 465) d_Law_465 (by omega) (by omega) ?_
  refine VL.aload_n (pc := 466) 0 d_Law_466 rfl rfl ?_
  refine VL.iload_n (pc := 467) 3 d_Law_467 rfl rfl ?_
  refine VL.iconst (pc := 468) d_Law_468 ⟨by decide, by decide⟩ ?_
  refine VL.iadd (pc := 469) d_Law_469 ⟨by omega, by omega⟩ ?_
  refine VL.sld (pc := 470) d_Law_470 (by omega) (by omega) ?_
  refine VL.aload_n (pc := 471) 0 d_Law_471 rfl rfl ?_
  refine VL.iload_n (pc := 472) 3 d_Law_472 rfl rfl ?_
  refine VL.iconst (pc := 473) d_Law_473 ⟨by decide, by decide⟩ ?_
  refine VL.iadd (pc := 474) d_Law_474 ⟨by omega, by omega⟩ ?_
  refine VL.sld (pc := 475) d_Law_475 (by omega) (by omega) ?_
  refine VL.aload_n (pc := 476) 0 d_Law_476 rfl rfl ?_
  refine VL.iload_n (pc := 477) 3 d_Law_477 rfl rfl ?_
  refine VL.iconst (pc := 478) d_Law_478 ⟨by decide, by decide⟩ ?_
  refine VL.iadd (pc := 479) d_Law_479 ⟨by omega, by omega⟩ ?_
  refine VL.sld (pc := 480) d_Law_480 (by omega) (by omega) ?_
  refine VL.cB (pc := 481) (kc2 := 6 * m) (ks2 := 131 * m) [vI (scv g ((i : Int) + 1)), vI (scv g ((i : Int) + 2)), vI (scv g ((i : Int) + 3)), vI (scv g ((i : Int) + 4))] ml_Law_44 hI2.gap (cs_Mo_strip S σ hR (scv g ((i : Int) + 1)) (scv g ((i : Int) + 2)) (scv g ((i : Int) + 3)) (scv g ((i : Int) + 4)) s2) rfl d_Law_481 (Nat.le_of_ble_eq_true rfl) (Nat.le_of_ble_eq_true rfl) (Nat.le_refl _) (Nat.le_refl _) gQX ?_
  rintro _ τ0 _ ⟨rfl, y, hy, rfl, τ, he, hR2⟩
  dsimp only [Option.toList, List.cons_append, List.nil_append]
  obtain rfl := strip_one hx hy
  rw [hU_e he]
  refine VL.icmp_eq (tgt := 1189) (pc := 484) d_Law_484 (by decide) (fun _ => ?_) (fun c9 => absurd rfl c9)
  exact kk _ _ _ _ hI2 hR2 (by omega)
set_option maxRecDepth 20000 in
theorem lw_nth (nm : String) (g : GS) (hL : g.2.1 ≤ 3072) (Q : QT) (m i : Nat) (hi : i + 6 ≤ g.2.1) (S : SS) (hA : MH) (σ : SM) (sz : Nat) (hI : CI S hA) (hR : RI S σ) (hsz : 37 ≤ sz) (kk : ∀ (S2 : SS) (h2 : MH) (τ : SM) (s2 : Nat), CI S2 h2 → RI S2 τ → 37 ≤ s2 → VL g (M_Lw nm) 13 1189 [some (vS 0), some (vR 0), some (vR 8), some (vI (i : Int))] [] (hU h2 τ) s2 (6 * m) (131 * m) Q) : VL g (M_Lw nm) 13 489 [some (vS 0), some (vR 0), some (vR 8), some (vI (i : Int))] [] (hU hA σ) sz (6 * (m + 1)) (131 * (m + 1)) Q := by
  refine VL.aload_n (pc := 489) 1 d_Law_489 rfl rfl ?_
  refine VL.aload_n (pc := 490) 0 d_Law_490 rfl rfl ?_
  refine VL.iload_n (pc := 491) 3 d_Law_491 rfl rfl ?_
  refine VL.iconst (pc := 492) d_Law_492 ⟨by decide, by decide⟩ ?_
  refine VL.iadd (pc := 493) d_Law_493 ⟨by omega, by omega⟩ ?_
  refine VL.sld (pc := 494) d_Law_494 (by omega) (by omega) ?_
  refine VL.aload_n (pc := 495) 0 d_Law_495 rfl rfl ?_
  refine VL.iload_n (pc := 496) 3 d_Law_496 rfl rfl ?_
  refine VL.iconst (pc := 497) d_Law_497 ⟨by decide, by decide⟩ ?_
  refine VL.iadd (pc := 498) d_Law_498 ⟨by omega, by omega⟩ ?_
  refine VL.sld (pc := 499) d_Law_499 (by omega) (by omega) ?_
  refine VL.aload_n (pc := 500) 0 d_Law_500 rfl rfl ?_
  refine VL.iload_n (pc := 501) 3 d_Law_501 rfl rfl ?_
  refine VL.iconst (pc := 502) d_Law_502 ⟨by decide, by decide⟩ ?_
  refine VL.iadd (pc := 503) d_Law_503 ⟨by omega, by omega⟩ ?_
  refine VL.sld (pc := 504) d_Law_504 (by omega) (by omega) ?_
  refine VL.cA (pc := 505) (kc2 := 6 * m) (ks2 := 131 * m) [vI (scv g ((i : Int) + 1)), vI (scv g ((i : Int) + 2)), vI (scv g ((i : Int) + 3))] ml_Law_45 hI (cs_RR_nth S hA hI (scv g ((i : Int) + 1)) (scv g ((i : Int) + 2)) (scv g ((i : Int) + 3)) sz hsz) rfl hsz d_Law_505 (Nat.le_of_ble_eq_true rfl) (Nat.le_of_ble_eq_true rfl) (by omega) (by omega) gQCI ?_
  rintro _ h2 s2 ⟨hs2, rfl, hI2⟩
  dsimp only [Option.toList, List.cons_append, List.nil_append]
  refine VL.aload_n (pc := 508) 2 d_Law_508 rfl rfl ?_
  refine VL.aload_n (pc := 509) 0 d_Law_509 rfl rfl ?_
  refine VL.iload_n (pc := 510) 3 d_Law_510 rfl rfl ?_
  refine VL.iconst (pc := 511) d_Law_511 ⟨by decide, by decide⟩ ?_
  refine VL.iadd (pc := 512) d_Law_512 ⟨by omega, by omega⟩ ?_
  refine VL.sld (pc := 513) d_Law_513 (by omega) (by omega) ?_
  refine VL.aload_n (pc := 514) 0 d_Law_514 rfl rfl ?_
  refine VL.iload_n (pc := 515) 3 d_Law_515 rfl rfl ?_
  refine VL.iconst (pc := 516) d_Law_516 ⟨by decide, by decide⟩ ?_
  refine VL.iadd (pc := 517) d_Law_517 ⟨by omega, by omega⟩ ?_
  refine VL.sld (pc := 518) d_Law_518 (by omega) (by omega) ?_
  refine VL.aload_n (pc := 519) 0 d_Law_519 rfl rfl ?_
  refine VL.iload_n (pc := 520) 3 d_Law_520 rfl rfl ?_
  refine VL.iconst (pc := 521) d_Law_521 ⟨by decide, by decide⟩ ?_
  refine VL.iadd (pc := 522) d_Law_522 ⟨by omega, by omega⟩ ?_
  refine VL.sld (pc := 523) d_Law_523 (by omega) (by omega) ?_
  refine VL.cB (pc := 524) (kc2 := 6 * m) (ks2 := 131 * m) [vI (scv g ((i : Int) + 1)), vI (scv g ((i : Int) + 2)), vI (scv g ((i : Int) + 3))] ml_Law_48 hI2.gap (cs_Mo_nth S σ hR (scv g ((i : Int) + 1)) (scv g ((i : Int) + 2)) (scv g ((i : Int) + 3)) s2) rfl d_Law_524 (Nat.le_of_ble_eq_true rfl) (Nat.le_of_ble_eq_true rfl) (Nat.le_refl _) (Nat.le_refl _) gQS ?_
  rintro _ τ0 _ ⟨rfl, rfl, τ, he, hR2⟩
  dsimp only [Option.toList, List.cons_append, List.nil_append]
  rw [hU_e he]
  refine VL.icmp_eq (tgt := 1189) (pc := 527) d_Law_527 (by decide) (fun _ => ?_) (fun c9 => absurd rfl c9)
  exact kk _ _ _ _ hI2 hR2 (by omega)
set_option maxRecDepth 20000 in
theorem lw_turn (nm : String) (g : GS) (hL : g.2.1 ≤ 3072) (Q : QT) (m i : Nat) (hi : i + 6 ≤ g.2.1) (S : SS) (hA : MH) (σ : SM) (sz : Nat) (hI : CI S hA) (hR : RI S σ) (hsz : 37 ≤ sz) (kk : ∀ (S2 : SS) (h2 : MH) (τ : SM) (s2 : Nat), CI S2 h2 → RI S2 τ → 37 ≤ s2 → VL g (M_Lw nm) 13 1189 [some (vS 0), some (vR 0), some (vR 8), some (vI (i : Int))] [] (hU h2 τ) s2 (6 * m) (131 * m) Q) : VL g (M_Lw nm) 13 532 [some (vS 0), some (vR 0), some (vR 8), some (vI (i : Int))] [] (hU hA σ) sz (6 * (m + 1)) (131 * (m + 1)) Q := by
  refine VL.aload_n (pc := 532) 1 d_Law_532 rfl rfl ?_
  refine VL.aload_n (pc := 533) 0 d_Law_533 rfl rfl ?_
  refine VL.iload_n (pc := 534) 3 d_Law_534 rfl rfl ?_
  refine VL.iconst (pc := 535) d_Law_535 ⟨by decide, by decide⟩ ?_
  refine VL.iadd (pc := 536) d_Law_536 ⟨by omega, by omega⟩ ?_
  refine VL.sld (pc := 537) d_Law_537 (by omega) (by omega) ?_
  refine VL.aload_n (pc := 538) 0 d_Law_538 rfl rfl ?_
  refine VL.iload_n (pc := 539) 3 d_Law_539 rfl rfl ?_
  refine VL.iconst (pc := 540) d_Law_540 ⟨by decide, by decide⟩ ?_
  refine VL.iadd (pc := 541) d_Law_541 ⟨by omega, by omega⟩ ?_
  refine VL.sld (pc := 542) d_Law_542 (by omega) (by omega) ?_
  refine VL.cA (pc := 543) (kc2 := 6 * m) (ks2 := 131 * m) [vI (scv g ((i : Int) + 1)), vI (scv g ((i : Int) + 2))] ml_Law_49 hI (cs_RR_turn S hA hI (scv g ((i : Int) + 1)) (scv g ((i : Int) + 2)) sz hsz) rfl hsz d_Law_543 (Nat.le_of_ble_eq_true rfl) (Nat.le_of_ble_eq_true rfl) (by omega) (by omega) gQCI ?_
  rintro _ h2 s2 ⟨hs2, rfl, hI2⟩
  dsimp only [Option.toList, List.cons_append, List.nil_append]
  refine VL.aload_n (pc := 546) 2 d_Law_546 rfl rfl ?_
  refine VL.aload_n (pc := 547) 0 d_Law_547 rfl rfl ?_
  refine VL.iload_n (pc := 548) 3 d_Law_548 rfl rfl ?_
  refine VL.iconst (pc := 549) d_Law_549 ⟨by decide, by decide⟩ ?_
  refine VL.iadd (pc := 550) d_Law_550 ⟨by omega, by omega⟩ ?_
  refine VL.sld (pc := 551) d_Law_551 (by omega) (by omega) ?_
  refine VL.aload_n (pc := 552) 0 d_Law_552 rfl rfl ?_
  refine VL.iload_n (pc := 553) 3 d_Law_553 rfl rfl ?_
  refine VL.iconst (pc := 554) d_Law_554 ⟨by decide, by decide⟩ ?_
  refine VL.iadd (pc := 555) d_Law_555 ⟨by omega, by omega⟩ ?_
  refine VL.sld (pc := 556) d_Law_556 (by omega) (by omega) ?_
  refine VL.cB (pc := 557) (kc2 := 6 * m) (ks2 := 131 * m) [vI (scv g ((i : Int) + 1)), vI (scv g ((i : Int) + 2))] ml_Law_53 hI2.gap (cs_Mo_turn S σ hR (scv g ((i : Int) + 1)) (scv g ((i : Int) + 2)) s2) rfl d_Law_557 (Nat.le_of_ble_eq_true rfl) (Nat.le_of_ble_eq_true rfl) (Nat.le_refl _) (Nat.le_refl _) gQS ?_
  rintro _ τ0 _ ⟨rfl, rfl, τ, he, hR2⟩
  dsimp only [Option.toList, List.cons_append, List.nil_append]
  rw [hU_e he]
  refine VL.icmp_eq (tgt := 1189) (pc := 560) d_Law_560 (by decide) (fun _ => ?_) (fun c9 => absurd rfl c9)
  exact kk _ _ _ _ hI2 hR2 (by omega)
set_option maxRecDepth 20000 in
theorem lw_mirror (nm : String) (g : GS) (hL : g.2.1 ≤ 3072) (Q : QT) (m i : Nat) (hi : i + 6 ≤ g.2.1) (S : SS) (hA : MH) (σ : SM) (sz : Nat) (hI : CI S hA) (hR : RI S σ) (hsz : 37 ≤ sz) (kk : ∀ (S2 : SS) (h2 : MH) (τ : SM) (s2 : Nat), CI S2 h2 → RI S2 τ → 37 ≤ s2 → VL g (M_Lw nm) 13 1189 [some (vS 0), some (vR 0), some (vR 8), some (vI (i : Int))] [] (hU h2 τ) s2 (6 * m) (131 * m) Q) : VL g (M_Lw nm) 13 565 [some (vS 0), some (vR 0), some (vR 8), some (vI (i : Int))] [] (hU hA σ) sz (6 * (m + 1)) (131 * (m + 1)) Q := by
  refine VL.aload_n (pc := 565) 1 d_Law_565 rfl rfl ?_
  refine VL.aload_n (pc := 566) 0 d_Law_566 rfl rfl ?_
  refine VL.iload_n (pc := 567) 3 d_Law_567 rfl rfl ?_
  refine VL.iconst (pc := 568) d_Law_568 ⟨by decide, by decide⟩ ?_
  refine VL.iadd (pc := 569) d_Law_569 ⟨by omega, by omega⟩ ?_
  refine VL.sld (pc := 570) d_Law_570 (by omega) (by omega) ?_
  refine VL.aload_n (pc := 571) 0 d_Law_571 rfl rfl ?_
  refine VL.iload_n (pc := 572) 3 d_Law_572 rfl rfl ?_
  refine VL.iconst (pc := 573) d_Law_573 ⟨by decide, by decide⟩ ?_
  refine VL.iadd (pc := 574) d_Law_574 ⟨by omega, by omega⟩ ?_
  refine VL.sld (pc := 575) d_Law_575 (by omega) (by omega) ?_
  refine VL.cA (pc := 576) (kc2 := 6 * m) (ks2 := 131 * m) [vI (scv g ((i : Int) + 1)), vI (scv g ((i : Int) + 2))] ml_Law_54 hI (cs_RR_mirror S hA hI (scv g ((i : Int) + 1)) (scv g ((i : Int) + 2)) sz hsz) rfl hsz d_Law_576 (Nat.le_of_ble_eq_true rfl) (Nat.le_of_ble_eq_true rfl) (by omega) (by omega) gQCI ?_
  rintro _ h2 s2 ⟨hs2, rfl, hI2⟩
  dsimp only [Option.toList, List.cons_append, List.nil_append]
  refine VL.aload_n (pc := 579) 2 d_Law_579 rfl rfl ?_
  refine VL.aload_n (pc := 580) 0 d_Law_580 rfl rfl ?_
  refine VL.iload_n (pc := 581) 3 d_Law_581 rfl rfl ?_
  refine VL.iconst (pc := 582) d_Law_582 ⟨by decide, by decide⟩ ?_
  refine VL.iadd (pc := 583) d_Law_583 ⟨by omega, by omega⟩ ?_
  refine VL.sld (pc := 584) d_Law_584 (by omega) (by omega) ?_
  refine VL.aload_n (pc := 585) 0 d_Law_585 rfl rfl ?_
  refine VL.iload_n (pc := 586) 3 d_Law_586 rfl rfl ?_
  refine VL.iconst (pc := 587) d_Law_587 ⟨by decide, by decide⟩ ?_
  refine VL.iadd (pc := 588) d_Law_588 ⟨by omega, by omega⟩ ?_
  refine VL.sld (pc := 589) d_Law_589 (by omega) (by omega) ?_
  refine VL.cB (pc := 590) (kc2 := 6 * m) (ks2 := 131 * m) [vI (scv g ((i : Int) + 1)), vI (scv g ((i : Int) + 2))] ml_Law_57 hI2.gap (cs_Mo_mirror S σ hR (scv g ((i : Int) + 1)) (scv g ((i : Int) + 2)) s2) rfl d_Law_590 (Nat.le_of_ble_eq_true rfl) (Nat.le_of_ble_eq_true rfl) (Nat.le_refl _) (Nat.le_refl _) gQS ?_
  rintro _ τ0 _ ⟨rfl, rfl, τ, he, hR2⟩
  dsimp only [Option.toList, List.cons_append, List.nil_append]
  rw [hU_e he]
  refine VL.icmp_eq (tgt := 1189) (pc := 593) d_Law_593 (by decide) (fun _ => ?_) (fun c9 => absurd rfl c9)
  exact kk _ _ _ _ hI2 hR2 (by omega)
set_option maxRecDepth 20000 in
theorem lw_clear (nm : String) (g : GS) (hL : g.2.1 ≤ 3072) (Q : QT) (m i : Nat) (hi : i + 6 ≤ g.2.1) (S : SS) (hA : MH) (σ : SM) (sz : Nat) (hI : CI S hA) (hR : RI S σ) (hsz : 37 ≤ sz) (kk : ∀ (S2 : SS) (h2 : MH) (τ : SM) (s2 : Nat), CI S2 h2 → RI S2 τ → 37 ≤ s2 → VL g (M_Lw nm) 13 1189 [some (vS 0), some (vR 0), some (vR 8), some (vI (i : Int))] [] (hU h2 τ) s2 (6 * m) (131 * m) Q) : VL g (M_Lw nm) 13 598 [some (vS 0), some (vR 0), some (vR 8), some (vI (i : Int))] [] (hU hA σ) sz (6 * (m + 1)) (131 * (m + 1)) Q := by
  refine VL.aload_n (pc := 598) 1 d_Law_598 rfl rfl ?_
  refine VL.aload_n (pc := 599) 0 d_Law_599 rfl rfl ?_
  refine VL.iload_n (pc := 600) 3 d_Law_600 rfl rfl ?_
  refine VL.iconst (pc := 601) d_Law_601 ⟨by decide, by decide⟩ ?_
  refine VL.iadd (pc := 602) d_Law_602 ⟨by omega, by omega⟩ ?_
  refine VL.sld (pc := 603) d_Law_603 (by omega) (by omega) ?_
  refine VL.cA (pc := 604) (kc2 := 6 * m) (ks2 := 131 * m) [vI (scv g ((i : Int) + 1))] ml_Law_58 hI (cs_RR_clear S hA hI (scv g ((i : Int) + 1)) sz hsz) rfl hsz d_Law_604 (Nat.le_of_ble_eq_true rfl) (Nat.le_of_ble_eq_true rfl) (by omega) (by omega) gQCI ?_
  rintro _ h2 s2 ⟨hs2, rfl, hI2⟩
  dsimp only [Option.toList, List.cons_append, List.nil_append]
  refine VL.aload_n (pc := 607) 2 d_Law_607 rfl rfl ?_
  refine VL.aload_n (pc := 608) 0 d_Law_608 rfl rfl ?_
  refine VL.iload_n (pc := 609) 3 d_Law_609 rfl rfl ?_
  refine VL.iconst (pc := 610) d_Law_610 ⟨by decide, by decide⟩ ?_
  refine VL.iadd (pc := 611) d_Law_611 ⟨by omega, by omega⟩ ?_
  refine VL.sld (pc := 612) d_Law_612 (by omega) (by omega) ?_
  refine VL.cB (pc := 613) (kc2 := 6 * m) (ks2 := 131 * m) [vI (scv g ((i : Int) + 1))] ml_Law_61 hI2.gap (cs_Mo_clear S σ hR (scv g ((i : Int) + 1)) s2) rfl d_Law_613 (Nat.le_of_ble_eq_true rfl) (Nat.le_of_ble_eq_true rfl) (Nat.le_refl _) (Nat.le_refl _) gQS ?_
  rintro _ τ0 _ ⟨rfl, rfl, τ, he, hR2⟩
  dsimp only [Option.toList, List.cons_append, List.nil_append]
  rw [hU_e he]
  refine VL.icmp_eq (tgt := 1189) (pc := 616) d_Law_616 (by decide) (fun _ => ?_) (fun c9 => absurd rfl c9)
  exact kk _ _ _ _ hI2 hR2 (by omega)
set_option maxRecDepth 20000 in
theorem lw_kind (nm : String) (g : GS) (hL : g.2.1 ≤ 3072) (Q : QT) (m i : Nat) (hi : i + 6 ≤ g.2.1) (S : SS) (hA : MH) (σ : SM) (sz : Nat) (hI : CI S hA) (hR : RI S σ) (hsz : 37 ≤ sz) (kk : ∀ (S2 : SS) (h2 : MH) (τ : SM) (s2 : Nat), CI S2 h2 → RI S2 τ → 37 ≤ s2 → VL g (M_Lw nm) 13 1189 [some (vS 0), some (vR 0), some (vR 8), some (vI (i : Int))] [] (hU h2 τ) s2 (6 * m) (131 * m) Q) : VL g (M_Lw nm) 13 621 [some (vS 0), some (vR 0), some (vR 8), some (vI (i : Int))] [] (hU hA σ) sz (6 * (m + 1)) (131 * (m + 1)) Q := by
  refine VL.aload_n (pc := 621) 1 d_Law_621 rfl rfl ?_
  refine VL.aload_n (pc := 622) 0 d_Law_622 rfl rfl ?_
  refine VL.iload_n (pc := 623) 3 d_Law_623 rfl rfl ?_
  refine VL.iconst (pc := 624) d_Law_624 ⟨by decide, by decide⟩ ?_
  refine VL.iadd (pc := 625) d_Law_625 ⟨by omega, by omega⟩ ?_
  refine VL.sld (pc := 626) d_Law_626 (by omega) (by omega) ?_
  refine VL.cA (pc := 627) (kc2 := 6 * m) (ks2 := 131 * m) [vI (scv g ((i : Int) + 1))] ml_Law_62 hI (cs_RR_kind S hA hI (scv g ((i : Int) + 1)) sz hsz) rfl hsz d_Law_627 (Nat.le_of_ble_eq_true rfl) (Nat.le_of_ble_eq_true rfl) (by omega) (by omega) gQCI ?_
  rintro _ h2 s2 ⟨hs2, rfl, hI2⟩
  dsimp only [Option.toList, List.cons_append, List.nil_append]
  refine VL.aload_n (pc := 630) 2 d_Law_630 rfl rfl ?_
  refine VL.aload_n (pc := 631) 0 d_Law_631 rfl rfl ?_
  refine VL.iload_n (pc := 632) 3 d_Law_632 rfl rfl ?_
  refine VL.iconst (pc := 633) d_Law_633 ⟨by decide, by decide⟩ ?_
  refine VL.iadd (pc := 634) d_Law_634 ⟨by omega, by omega⟩ ?_
  refine VL.sld (pc := 635) d_Law_635 (by omega) (by omega) ?_
  refine VL.cB (pc := 636) (kc2 := 6 * m) (ks2 := 131 * m) [vI (scv g ((i : Int) + 1))] ml_Law_65 hI2.gap (cs_Mo_kind S σ hR (scv g ((i : Int) + 1)) s2) rfl d_Law_636 (Nat.le_of_ble_eq_true rfl) (Nat.le_of_ble_eq_true rfl) (Nat.le_refl _) (Nat.le_refl _) gQS ?_
  rintro _ τ0 _ ⟨rfl, rfl, τ, he, hR2⟩
  dsimp only [Option.toList, List.cons_append, List.nil_append]
  rw [hU_e he]
  refine VL.icmp_eq (tgt := 1189) (pc := 639) d_Law_639 (by decide) (fun _ => ?_) (fun c9 => absurd rfl c9)
  exact kk _ _ _ _ hI2 hR2 (by omega)
set_option maxRecDepth 20000 in
theorem lw_is (nm : String) (g : GS) (hL : g.2.1 ≤ 3072) (Q : QT) (m i : Nat) (hi : i + 6 ≤ g.2.1) (S : SS) (hA : MH) (σ : SM) (sz : Nat) (hI : CI S hA) (hR : RI S σ) (hsz : 37 ≤ sz) (kk : ∀ (S2 : SS) (h2 : MH) (τ : SM) (s2 : Nat), CI S2 h2 → RI S2 τ → 37 ≤ s2 → VL g (M_Lw nm) 13 1189 [some (vS 0), some (vR 0), some (vR 8), some (vI (i : Int))] [] (hU h2 τ) s2 (6 * m) (131 * m) Q) : VL g (M_Lw nm) 13 644 [some (vS 0), some (vR 0), some (vR 8), some (vI (i : Int))] [] (hU hA σ) sz (6 * (m + 1)) (131 * (m + 1)) Q := by
  refine VL.aload_n (pc := 644) 1 d_Law_644 rfl rfl ?_
  refine VL.aload_n (pc := 645) 0 d_Law_645 rfl rfl ?_
  refine VL.iload_n (pc := 646) 3 d_Law_646 rfl rfl ?_
  refine VL.iconst (pc := 647) d_Law_647 ⟨by decide, by decide⟩ ?_
  refine VL.iadd (pc := 648) d_Law_648 ⟨by omega, by omega⟩ ?_
  refine VL.sld (pc := 649) d_Law_649 (by omega) (by omega) ?_
  refine VL.aload_n (pc := 650) 0 d_Law_650 rfl rfl ?_
  refine VL.iload_n (pc := 651) 3 d_Law_651 rfl rfl ?_
  refine VL.iconst (pc := 652) d_Law_652 ⟨by decide, by decide⟩ ?_
  refine VL.iadd (pc := 653) d_Law_653 ⟨by omega, by omega⟩ ?_
  refine VL.sld (pc := 654) d_Law_654 (by omega) (by omega) ?_
  refine VL.cA (pc := 655) (kc2 := 6 * m) (ks2 := 131 * m) [vI (scv g ((i : Int) + 1)), vI (scv g ((i : Int) + 2))] ml_Law_66 hI (cs_RR_is S hA hI (scv g ((i : Int) + 1)) (scv g ((i : Int) + 2)) sz hsz) rfl hsz d_Law_655 (Nat.le_of_ble_eq_true rfl) (Nat.le_of_ble_eq_true rfl) (by omega) (by omega) gQCI ?_
  rintro _ h2 s2 ⟨hs2, rfl, hI2⟩
  dsimp only [Option.toList, List.cons_append, List.nil_append]
  refine VL.aload_n (pc := 658) 2 d_Law_658 rfl rfl ?_
  refine VL.aload_n (pc := 659) 0 d_Law_659 rfl rfl ?_
  refine VL.iload_n (pc := 660) 3 d_Law_660 rfl rfl ?_
  refine VL.iconst (pc := 661) d_Law_661 ⟨by decide, by decide⟩ ?_
  refine VL.iadd (pc := 662) d_Law_662 ⟨by omega, by omega⟩ ?_
  refine VL.sld (pc := 663) d_Law_663 (by omega) (by omega) ?_
  refine VL.aload_n (pc := 664) 0 d_Law_664 rfl rfl ?_
  refine VL.iload_n (pc := 665) 3 d_Law_665 rfl rfl ?_
  refine VL.iconst (pc := 666) d_Law_666 ⟨by decide, by decide⟩ ?_
  refine VL.iadd (pc := 667) d_Law_667 ⟨by omega, by omega⟩ ?_
  refine VL.sld (pc := 668) d_Law_668 (by omega) (by omega) ?_
  refine VL.cB (pc := 669) (kc2 := 6 * m) (ks2 := 131 * m) [vI (scv g ((i : Int) + 1)), vI (scv g ((i : Int) + 2))] ml_Law_69 hI2.gap (cs_Mo_is S σ hR (scv g ((i : Int) + 1)) (scv g ((i : Int) + 2)) s2) rfl d_Law_669 (Nat.le_of_ble_eq_true rfl) (Nat.le_of_ble_eq_true rfl) (Nat.le_refl _) (Nat.le_refl _) gQS ?_
  rintro _ τ0 _ ⟨rfl, rfl, τ, he, hR2⟩
  dsimp only [Option.toList, List.cons_append, List.nil_append]
  rw [hU_e he]
  refine VL.icmp_eq (tgt := 1189) (pc := 672) d_Law_672 (by decide) (fun _ => ?_) (fun c9 => absurd rfl c9)
  exact kk _ _ _ _ hI2 hR2 (by omega)
set_option maxRecDepth 20000 in
theorem lw_as (nm : String) (g : GS) (hL : g.2.1 ≤ 3072) (Q : QT) (m i : Nat) (hi : i + 6 ≤ g.2.1) (S : SS) (hA : MH) (σ : SM) (sz : Nat) (hI : CI S hA) (hR : RI S σ) (hsz : 37 ≤ sz) (kk : ∀ (S2 : SS) (h2 : MH) (τ : SM) (s2 : Nat), CI S2 h2 → RI S2 τ → 37 ≤ s2 → VL g (M_Lw nm) 13 1189 [some (vS 0), some (vR 0), some (vR 8), some (vI (i : Int))] [] (hU h2 τ) s2 (6 * m) (131 * m) Q) : VL g (M_Lw nm) 13 677 [some (vS 0), some (vR 0), some (vR 8), some (vI (i : Int))] [] (hU hA σ) sz (6 * (m + 1)) (131 * (m + 1)) Q := by
  refine VL.aload_n (pc := 677) 1 d_Law_677 rfl rfl ?_
  refine VL.aload_n (pc := 678) 0 d_Law_678 rfl rfl ?_
  refine VL.iload_n (pc := 679) 3 d_Law_679 rfl rfl ?_
  refine VL.iconst (pc := 680) d_Law_680 ⟨by decide, by decide⟩ ?_
  refine VL.iadd (pc := 681) d_Law_681 ⟨by omega, by omega⟩ ?_
  refine VL.sld (pc := 682) d_Law_682 (by omega) (by omega) ?_
  refine VL.aload_n (pc := 683) 0 d_Law_683 rfl rfl ?_
  refine VL.iload_n (pc := 684) 3 d_Law_684 rfl rfl ?_
  refine VL.iconst (pc := 685) d_Law_685 ⟨by decide, by decide⟩ ?_
  refine VL.iadd (pc := 686) d_Law_686 ⟨by omega, by omega⟩ ?_
  refine VL.sld (pc := 687) d_Law_687 (by omega) (by omega) ?_
  refine VL.cA (pc := 688) (kc2 := 6 * m) (ks2 := 131 * m) [vI (scv g ((i : Int) + 1)), vI (scv g ((i : Int) + 2))] ml_Law_70 hI (cs_RR_as S hA hI (scv g ((i : Int) + 1)) (scv g ((i : Int) + 2)) sz hsz) rfl hsz d_Law_688 (Nat.le_of_ble_eq_true rfl) (Nat.le_of_ble_eq_true rfl) (by omega) (by omega) gQCI ?_
  rintro _ h2 s2 ⟨hs2, rfl, hI2⟩
  dsimp only [Option.toList, List.cons_append, List.nil_append]
  refine VL.aload_n (pc := 691) 2 d_Law_691 rfl rfl ?_
  refine VL.aload_n (pc := 692) 0 d_Law_692 rfl rfl ?_
  refine VL.iload_n (pc := 693) 3 d_Law_693 rfl rfl ?_
  refine VL.iconst (pc := 694) d_Law_694 ⟨by decide, by decide⟩ ?_
  refine VL.iadd (pc := 695) d_Law_695 ⟨by omega, by omega⟩ ?_
  refine VL.sld (pc := 696) d_Law_696 (by omega) (by omega) ?_
  refine VL.aload_n (pc := 697) 0 d_Law_697 rfl rfl ?_
  refine VL.iload_n (pc := 698) 3 d_Law_698 rfl rfl ?_
  refine VL.iconst (pc := 699) d_Law_699 ⟨by decide, by decide⟩ ?_
  refine VL.iadd (pc := 700) d_Law_700 ⟨by omega, by omega⟩ ?_
  refine VL.sld (pc := 701) d_Law_701 (by omega) (by omega) ?_
  refine VL.cB (pc := 702) (kc2 := 6 * m) (ks2 := 131 * m) [vI (scv g ((i : Int) + 1)), vI (scv g ((i : Int) + 2))] ml_Law_73 hI2.gap (cs_Mo_as S σ hR (scv g ((i : Int) + 1)) (scv g ((i : Int) + 2)) s2) rfl d_Law_702 (Nat.le_of_ble_eq_true rfl) (Nat.le_of_ble_eq_true rfl) (Nat.le_refl _) (Nat.le_refl _) gQS ?_
  rintro _ τ0 _ ⟨rfl, rfl, τ, he, hR2⟩
  dsimp only [Option.toList, List.cons_append, List.nil_append]
  rw [hU_e he]
  refine VL.icmp_eq (tgt := 1189) (pc := 705) d_Law_705 (by decide) (fun _ => ?_) (fun c9 => absurd rfl c9)
  exact kk _ _ _ _ hI2 hR2 (by omega)
set_option maxRecDepth 20000 in
theorem lw_ask (nm : String) (g : GS) (hL : g.2.1 ≤ 3072) (Q : QT) (m i : Nat) (hi : i + 6 ≤ g.2.1) (S : SS) (hA : MH) (σ : SM) (sz : Nat) (hI : CI S hA) (hR : RI S σ) (hsz : 37 ≤ sz) (kk : ∀ (S2 : SS) (h2 : MH) (τ : SM) (s2 : Nat), CI S2 h2 → RI S2 τ → 37 ≤ s2 → VL g (M_Lw nm) 13 1189 [some (vS 0), some (vR 0), some (vR 8), some (vI (i : Int))] [] (hU h2 τ) s2 (6 * m) (131 * m) Q) : VL g (M_Lw nm) 13 710 [some (vS 0), some (vR 0), some (vR 8), some (vI (i : Int))] [] (hU hA σ) sz (6 * (m + 1)) (131 * (m + 1)) Q := by
  refine VL.aload_n (pc := 710) 1 d_Law_710 rfl rfl ?_
  refine VL.aload_n (pc := 711) 0 d_Law_711 rfl rfl ?_
  refine VL.iload_n (pc := 712) 3 d_Law_712 rfl rfl ?_
  refine VL.iconst (pc := 713) d_Law_713 ⟨by decide, by decide⟩ ?_
  refine VL.iadd (pc := 714) d_Law_714 ⟨by omega, by omega⟩ ?_
  refine VL.sld (pc := 715) d_Law_715 (by omega) (by omega) ?_
  refine VL.aload_n (pc := 716) 0 d_Law_716 rfl rfl ?_
  refine VL.iload_n (pc := 717) 3 d_Law_717 rfl rfl ?_
  refine VL.iconst (pc := 718) d_Law_718 ⟨by decide, by decide⟩ ?_
  refine VL.iadd (pc := 719) d_Law_719 ⟨by omega, by omega⟩ ?_
  refine VL.sld (pc := 720) d_Law_720 (by omega) (by omega) ?_
  refine VL.cA (pc := 721) (kc2 := 6 * m) (ks2 := 131 * m) [vI (scv g ((i : Int) + 1)), vI (scv g ((i : Int) + 2))] ml_Law_74 hI (cs_RR_ask S hA hI (scv g ((i : Int) + 1)) (scv g ((i : Int) + 2)) sz hsz) rfl hsz d_Law_721 (Nat.le_of_ble_eq_true rfl) (Nat.le_of_ble_eq_true rfl) (by omega) (by omega) gQCI ?_
  rintro _ h2 s2 ⟨hs2, rfl, hI2⟩
  dsimp only [Option.toList, List.cons_append, List.nil_append]
  refine VL.aload_n (pc := 724) 2 d_Law_724 rfl rfl ?_
  refine VL.aload_n (pc := 725) 0 d_Law_725 rfl rfl ?_
  refine VL.iload_n (pc := 726) 3 d_Law_726 rfl rfl ?_
  refine VL.iconst (pc := 727) d_Law_727 ⟨by decide, by decide⟩ ?_
  refine VL.iadd (pc := 728) d_Law_728 ⟨by omega, by omega⟩ ?_
  refine VL.sld (pc := 729) d_Law_729 (by omega) (by omega) ?_
  refine VL.aload_n (pc := 730) 0 d_Law_730 rfl rfl ?_
  refine VL.iload_n (pc := 731) 3 d_Law_731 rfl rfl ?_
  refine VL.iconst (pc := 732) d_Law_732 ⟨by decide, by decide⟩ ?_
  refine VL.iadd (pc := 733) d_Law_733 ⟨by omega, by omega⟩ ?_
  refine VL.sld (pc := 734) d_Law_734 (by omega) (by omega) ?_
  refine VL.cB (pc := 735) (kc2 := 6 * m) (ks2 := 131 * m) [vI (scv g ((i : Int) + 1)), vI (scv g ((i : Int) + 2))] ml_Law_77 hI2.gap (cs_Mo_ask S σ hR (scv g ((i : Int) + 1)) (scv g ((i : Int) + 2)) s2) rfl d_Law_735 (Nat.le_of_ble_eq_true rfl) (Nat.le_of_ble_eq_true rfl) (Nat.le_refl _) (Nat.le_refl _) gQS ?_
  rintro _ τ0 _ ⟨rfl, rfl, τ, he, hR2⟩
  dsimp only [Option.toList, List.cons_append, List.nil_append]
  rw [hU_e he]
  refine VL.icmp_eq (tgt := 1189) (pc := 738) d_Law_738 (by decide) (fun _ => ?_) (fun c9 => absurd rfl c9)
  exact kk _ _ _ _ hI2 hR2 (by omega)
set_option maxRecDepth 20000 in
theorem lw_trace (nm : String) (g : GS) (hL : g.2.1 ≤ 3072) (Q : QT) (m i : Nat) (hi : i + 6 ≤ g.2.1) (S : SS) (hA : MH) (σ : SM) (sz : Nat) (hI : CI S hA) (hR : RI S σ) (hsz : 37 ≤ sz) (kk : ∀ (S2 : SS) (h2 : MH) (τ : SM) (s2 : Nat), CI S2 h2 → RI S2 τ → 37 ≤ s2 → VL g (M_Lw nm) 13 1189 [some (vS 0), some (vR 0), some (vR 8), some (vI (i : Int))] [] (hU h2 τ) s2 (6 * m) (131 * m) Q) : VL g (M_Lw nm) 13 743 [some (vS 0), some (vR 0), some (vR 8), some (vI (i : Int))] [] (hU hA σ) sz (6 * (m + 1)) (131 * (m + 1)) Q := by
  refine VL.aload_n (pc := 743) 1 d_Law_743 rfl rfl ?_
  refine VL.aload_n (pc := 744) 0 d_Law_744 rfl rfl ?_
  refine VL.iload_n (pc := 745) 3 d_Law_745 rfl rfl ?_
  refine VL.iconst (pc := 746) d_Law_746 ⟨by decide, by decide⟩ ?_
  refine VL.iadd (pc := 747) d_Law_747 ⟨by omega, by omega⟩ ?_
  refine VL.sld (pc := 748) d_Law_748 (by omega) (by omega) ?_
  refine VL.cA (pc := 749) (kc2 := 6 * m) (ks2 := 131 * m) [vI (scv g ((i : Int) + 1))] ml_Law_78 hI (cs_RR_trace S hA hI (scv g ((i : Int) + 1)) sz hsz) rfl hsz d_Law_749 (Nat.le_of_ble_eq_true rfl) (Nat.le_of_ble_eq_true rfl) (by omega) (by omega) gQCI ?_
  rintro _ h2 s2 ⟨hs2, rfl, hI2⟩
  dsimp only [Option.toList, List.cons_append, List.nil_append]
  refine VL.aload_n (pc := 752) 2 d_Law_752 rfl rfl ?_
  refine VL.aload_n (pc := 753) 0 d_Law_753 rfl rfl ?_
  refine VL.iload_n (pc := 754) 3 d_Law_754 rfl rfl ?_
  refine VL.iconst (pc := 755) d_Law_755 ⟨by decide, by decide⟩ ?_
  refine VL.iadd (pc := 756) d_Law_756 ⟨by omega, by omega⟩ ?_
  refine VL.sld (pc := 757) d_Law_757 (by omega) (by omega) ?_
  refine VL.cB (pc := 758) (kc2 := 6 * m) (ks2 := 131 * m) [vI (scv g ((i : Int) + 1))] ml_Law_81 hI2.gap (cs_Mo_trace S σ hR (scv g ((i : Int) + 1)) s2) rfl d_Law_758 (Nat.le_of_ble_eq_true rfl) (Nat.le_of_ble_eq_true rfl) (Nat.le_refl _) (Nat.le_refl _) gQS ?_
  rintro _ τ0 _ ⟨rfl, rfl, τ, he, hR2⟩
  dsimp only [Option.toList, List.cons_append, List.nil_append]
  rw [hU_e he]
  refine VL.icmp_eq (tgt := 1189) (pc := 761) d_Law_761 (by decide) (fun _ => ?_) (fun c9 => absurd rfl c9)
  exact kk _ _ _ _ hI2 hR2 (by omega)
set_option maxRecDepth 20000 in
theorem lw_sign (nm : String) (g : GS) (hL : g.2.1 ≤ 3072) (Q : QT) (m i : Nat) (hi : i + 6 ≤ g.2.1) (S : SS) (hA : MH) (σ : SM) (sz : Nat) (hI : CI S hA) (hR : RI S σ) (hsz : 37 ≤ sz) (kk : ∀ (S2 : SS) (h2 : MH) (τ : SM) (s2 : Nat), CI S2 h2 → RI S2 τ → 37 ≤ s2 → VL g (M_Lw nm) 13 1189 [some (vS 0), some (vR 0), some (vR 8), some (vI (i : Int))] [] (hU h2 τ) s2 (6 * m) (131 * m) Q) : VL g (M_Lw nm) 13 766 [some (vS 0), some (vR 0), some (vR 8), some (vI (i : Int))] [] (hU hA σ) sz (6 * (m + 1)) (131 * (m + 1)) Q := by
  refine VL.aload_n (pc := 766) 1 d_Law_766 rfl rfl ?_
  refine VL.aload_n (pc := 767) 0 d_Law_767 rfl rfl ?_
  refine VL.iload_n (pc := 768) 3 d_Law_768 rfl rfl ?_
  refine VL.iconst (pc := 769) d_Law_769 ⟨by decide, by decide⟩ ?_
  refine VL.iadd (pc := 770) d_Law_770 ⟨by omega, by omega⟩ ?_
  refine VL.sld (pc := 771) d_Law_771 (by omega) (by omega) ?_
  refine VL.aload_n (pc := 772) 0 d_Law_772 rfl rfl ?_
  refine VL.iload_n (pc := 773) 3 d_Law_773 rfl rfl ?_
  refine VL.iconst (pc := 774) d_Law_774 ⟨by decide, by decide⟩ ?_
  refine VL.iadd (pc := 775) d_Law_775 ⟨by omega, by omega⟩ ?_
  refine VL.sld (pc := 776) d_Law_776 (by omega) (by omega) ?_
  refine VL.cA (pc := 777) (kc2 := 6 * m) (ks2 := 131 * m) [vI (scv g ((i : Int) + 1)), vI (scv g ((i : Int) + 2))] ml_Law_82 hI (cs_RR_sign S hA hI (scv g ((i : Int) + 1)) (scv g ((i : Int) + 2)) sz hsz) rfl hsz d_Law_777 (Nat.le_of_ble_eq_true rfl) (Nat.le_of_ble_eq_true rfl) (by omega) (by omega) gQCI ?_
  rintro _ h2 s2 ⟨hs2, rfl, hI2⟩
  dsimp only [Option.toList, List.cons_append, List.nil_append]
  refine VL.aload_n (pc := 780) 2 d_Law_780 rfl rfl ?_
  refine VL.aload_n (pc := 781) 0 d_Law_781 rfl rfl ?_
  refine VL.iload_n (pc := 782) 3 d_Law_782 rfl rfl ?_
  refine VL.iconst (pc := 783) d_Law_783 ⟨by decide, by decide⟩ ?_
  refine VL.iadd (pc := 784) d_Law_784 ⟨by omega, by omega⟩ ?_
  refine VL.sld (pc := 785) d_Law_785 (by omega) (by omega) ?_
  refine VL.aload_n (pc := 786) 0 d_Law_786 rfl rfl ?_
  refine VL.iload_n (pc := 787) 3 d_Law_787 rfl rfl ?_
  refine VL.iconst (pc := 788) d_Law_788 ⟨by decide, by decide⟩ ?_
  refine VL.iadd (pc := 789) d_Law_789 ⟨by omega, by omega⟩ ?_
  refine VL.sld (pc := 790) d_Law_790 (by omega) (by omega) ?_
  refine VL.cB (pc := 791) (kc2 := 6 * m) (ks2 := 131 * m) [vI (scv g ((i : Int) + 1)), vI (scv g ((i : Int) + 2))] ml_Law_85 hI2.gap (cs_Mo_sign S σ hR (scv g ((i : Int) + 1)) (scv g ((i : Int) + 2)) s2) rfl d_Law_791 (Nat.le_of_ble_eq_true rfl) (Nat.le_of_ble_eq_true rfl) (Nat.le_refl _) (Nat.le_refl _) gQS ?_
  rintro _ τ0 _ ⟨rfl, rfl, τ, he, hR2⟩
  dsimp only [Option.toList, List.cons_append, List.nil_append]
  rw [hU_e he]
  refine VL.icmp_eq (tgt := 1189) (pc := 794) d_Law_794 (by decide) (fun _ => ?_) (fun c9 => absurd rfl c9)
  exact kk _ _ _ _ hI2 hR2 (by omega)
set_option maxRecDepth 20000 in
theorem lw_joined (nm : String) (g : GS) (hL : g.2.1 ≤ 3072) (Q : QT) (m i : Nat) (hi : i + 6 ≤ g.2.1) (S : SS) (hA : MH) (σ : SM) (sz : Nat) (hI : CI S hA) (hR : RI S σ) (hsz : 37 ≤ sz) (kk : ∀ (S2 : SS) (h2 : MH) (τ : SM) (s2 : Nat), CI S2 h2 → RI S2 τ → 37 ≤ s2 → VL g (M_Lw nm) 13 1189 [some (vS 0), some (vR 0), some (vR 8), some (vI (i : Int))] [] (hU h2 τ) s2 (6 * m) (131 * m) Q) : VL g (M_Lw nm) 13 799 [some (vS 0), some (vR 0), some (vR 8), some (vI (i : Int))] [] (hU hA σ) sz (6 * (m + 1)) (131 * (m + 1)) Q := by
  refine VL.aload_n (pc := 799) 1 d_Law_799 rfl rfl ?_
  refine VL.aload_n (pc := 800) 0 d_Law_800 rfl rfl ?_
  refine VL.iload_n (pc := 801) 3 d_Law_801 rfl rfl ?_
  refine VL.iconst (pc := 802) d_Law_802 ⟨by decide, by decide⟩ ?_
  refine VL.iadd (pc := 803) d_Law_803 ⟨by omega, by omega⟩ ?_
  refine VL.sld (pc := 804) d_Law_804 (by omega) (by omega) ?_
  refine VL.aload_n (pc := 805) 0 d_Law_805 rfl rfl ?_
  refine VL.iload_n (pc := 806) 3 d_Law_806 rfl rfl ?_
  refine VL.iconst (pc := 807) d_Law_807 ⟨by decide, by decide⟩ ?_
  refine VL.iadd (pc := 808) d_Law_808 ⟨by omega, by omega⟩ ?_
  refine VL.sld (pc := 809) d_Law_809 (by omega) (by omega) ?_
  refine VL.cA (pc := 810) (kc2 := 6 * m) (ks2 := 131 * m) [vI (scv g ((i : Int) + 1)), vI (scv g ((i : Int) + 2))] ml_Law_86 hI (cs_RR_joined S hA hI (scv g ((i : Int) + 1)) (scv g ((i : Int) + 2)) sz hsz) rfl hsz d_Law_810 (Nat.le_of_ble_eq_true rfl) (Nat.le_of_ble_eq_true rfl) (by omega) (by omega) gQCI ?_
  rintro _ h2 s2 ⟨hs2, rfl, hI2⟩
  dsimp only [Option.toList, List.cons_append, List.nil_append]
  refine VL.aload_n (pc := 813) 2 d_Law_813 rfl rfl ?_
  refine VL.aload_n (pc := 814) 0 d_Law_814 rfl rfl ?_
  refine VL.iload_n (pc := 815) 3 d_Law_815 rfl rfl ?_
  refine VL.iconst (pc := 816) d_Law_816 ⟨by decide, by decide⟩ ?_
  refine VL.iadd (pc := 817) d_Law_817 ⟨by omega, by omega⟩ ?_
  refine VL.sld (pc := 818) d_Law_818 (by omega) (by omega) ?_
  refine VL.aload_n (pc := 819) 0 d_Law_819 rfl rfl ?_
  refine VL.iload_n (pc := 820) 3 d_Law_820 rfl rfl ?_
  refine VL.iconst (pc := 821) d_Law_821 ⟨by decide, by decide⟩ ?_
  refine VL.iadd (pc := 822) d_Law_822 ⟨by omega, by omega⟩ ?_
  refine VL.sld (pc := 823) d_Law_823 (by omega) (by omega) ?_
  refine VL.cB (pc := 824) (kc2 := 6 * m) (ks2 := 131 * m) [vI (scv g ((i : Int) + 1)), vI (scv g ((i : Int) + 2))] ml_Law_89 hI2.gap (cs_Mo_joined S σ hR (scv g ((i : Int) + 1)) (scv g ((i : Int) + 2)) s2) rfl d_Law_824 (Nat.le_of_ble_eq_true rfl) (Nat.le_of_ble_eq_true rfl) (Nat.le_refl _) (Nat.le_refl _) gQS ?_
  rintro _ τ0 _ ⟨rfl, rfl, τ, he, hR2⟩
  dsimp only [Option.toList, List.cons_append, List.nil_append]
  rw [hU_e he]
  refine VL.icmp_eq (tgt := 1189) (pc := 827) d_Law_827 (by decide) (fun _ => ?_) (fun c9 => absurd rfl c9)
  exact kk _ _ _ _ hI2 hR2 (by omega)
set_option maxRecDepth 20000 in
theorem lw_rank (nm : String) (g : GS) (hL : g.2.1 ≤ 3072) (Q : QT) (m i : Nat) (hi : i + 6 ≤ g.2.1) (S : SS) (hA : MH) (σ : SM) (sz : Nat) (hI : CI S hA) (hR : RI S σ) (hsz : 37 ≤ sz) (kk : ∀ (S2 : SS) (h2 : MH) (τ : SM) (s2 : Nat), CI S2 h2 → RI S2 τ → 37 ≤ s2 → VL g (M_Lw nm) 13 1189 [some (vS 0), some (vR 0), some (vR 8), some (vI (i : Int))] [] (hU h2 τ) s2 (6 * m) (131 * m) Q) : VL g (M_Lw nm) 13 832 [some (vS 0), some (vR 0), some (vR 8), some (vI (i : Int))] [] (hU hA σ) sz (6 * (m + 1)) (131 * (m + 1)) Q := by
  refine VL.aload_n (pc := 832) 1 d_Law_832 rfl rfl ?_
  refine VL.aload_n (pc := 833) 0 d_Law_833 rfl rfl ?_
  refine VL.iload_n (pc := 834) 3 d_Law_834 rfl rfl ?_
  refine VL.iconst (pc := 835) d_Law_835 ⟨by decide, by decide⟩ ?_
  refine VL.iadd (pc := 836) d_Law_836 ⟨by omega, by omega⟩ ?_
  refine VL.sld (pc := 837) d_Law_837 (by omega) (by omega) ?_
  refine VL.cA (pc := 838) (kc2 := 6 * m) (ks2 := 131 * m) [vI (scv g ((i : Int) + 1))] ml_Law_90 hI (cs_RR_rank S hA hI (scv g ((i : Int) + 1)) sz hsz) rfl hsz d_Law_838 (Nat.le_of_ble_eq_true rfl) (Nat.le_of_ble_eq_true rfl) (by omega) (by omega) gQCI ?_
  rintro _ h2 s2 ⟨hs2, rfl, hI2⟩
  dsimp only [Option.toList, List.cons_append, List.nil_append]
  refine VL.aload_n (pc := 841) 2 d_Law_841 rfl rfl ?_
  refine VL.aload_n (pc := 842) 0 d_Law_842 rfl rfl ?_
  refine VL.iload_n (pc := 843) 3 d_Law_843 rfl rfl ?_
  refine VL.iconst (pc := 844) d_Law_844 ⟨by decide, by decide⟩ ?_
  refine VL.iadd (pc := 845) d_Law_845 ⟨by omega, by omega⟩ ?_
  refine VL.sld (pc := 846) d_Law_846 (by omega) (by omega) ?_
  refine VL.cB (pc := 847) (kc2 := 6 * m) (ks2 := 131 * m) [vI (scv g ((i : Int) + 1))] ml_Law_93 hI2.gap (cs_Mo_rank S σ hR (scv g ((i : Int) + 1)) s2) rfl d_Law_847 (Nat.le_of_ble_eq_true rfl) (Nat.le_of_ble_eq_true rfl) (Nat.le_refl _) (Nat.le_refl _) gQS ?_
  rintro _ τ0 _ ⟨rfl, rfl, τ, he, hR2⟩
  dsimp only [Option.toList, List.cons_append, List.nil_append]
  rw [hU_e he]
  refine VL.icmp_eq (tgt := 1189) (pc := 850) d_Law_850 (by decide) (fun _ => ?_) (fun c9 => absurd rfl c9)
  exact kk _ _ _ _ hI2 hR2 (by omega)
set_option maxRecDepth 20000 in
theorem lw_loops (nm : String) (g : GS) (hL : g.2.1 ≤ 3072) (Q : QT) (m i : Nat) (hi : i + 6 ≤ g.2.1) (S : SS) (hA : MH) (σ : SM) (sz : Nat) (hI : CI S hA) (hR : RI S σ) (hsz : 37 ≤ sz) (kk : ∀ (S2 : SS) (h2 : MH) (τ : SM) (s2 : Nat), CI S2 h2 → RI S2 τ → 37 ≤ s2 → VL g (M_Lw nm) 13 1189 [some (vS 0), some (vR 0), some (vR 8), some (vI (i : Int))] [] (hU h2 τ) s2 (6 * m) (131 * m) Q) : VL g (M_Lw nm) 13 855 [some (vS 0), some (vR 0), some (vR 8), some (vI (i : Int))] [] (hU hA σ) sz (6 * (m + 1)) (131 * (m + 1)) Q := by
  refine VL.aload_n (pc := 855) 1 d_Law_855 rfl rfl ?_
  refine VL.aload_n (pc := 856) 0 d_Law_856 rfl rfl ?_
  refine VL.iload_n (pc := 857) 3 d_Law_857 rfl rfl ?_
  refine VL.iconst (pc := 858) d_Law_858 ⟨by decide, by decide⟩ ?_
  refine VL.iadd (pc := 859) d_Law_859 ⟨by omega, by omega⟩ ?_
  refine VL.sld (pc := 860) d_Law_860 (by omega) (by omega) ?_
  refine VL.aload_n (pc := 861) 0 d_Law_861 rfl rfl ?_
  refine VL.iload_n (pc := 862) 3 d_Law_862 rfl rfl ?_
  refine VL.iconst (pc := 863) d_Law_863 ⟨by decide, by decide⟩ ?_
  refine VL.iadd (pc := 864) d_Law_864 ⟨by omega, by omega⟩ ?_
  refine VL.sld (pc := 865) d_Law_865 (by omega) (by omega) ?_
  refine VL.cA (pc := 866) (kc2 := 6 * m) (ks2 := 131 * m) [vI (scv g ((i : Int) + 1)), vI (scv g ((i : Int) + 2))] ml_Law_94 hI (cs_RR_loops S hA hI (scv g ((i : Int) + 1)) (scv g ((i : Int) + 2)) sz hsz) rfl hsz d_Law_866 (Nat.le_of_ble_eq_true rfl) (Nat.le_of_ble_eq_true rfl) (by omega) (by omega) gQCI ?_
  rintro _ h2 s2 ⟨hs2, rfl, hI2⟩
  dsimp only [Option.toList, List.cons_append, List.nil_append]
  refine VL.aload_n (pc := 869) 2 d_Law_869 rfl rfl ?_
  refine VL.aload_n (pc := 870) 0 d_Law_870 rfl rfl ?_
  refine VL.iload_n (pc := 871) 3 d_Law_871 rfl rfl ?_
  refine VL.iconst (pc := 872) d_Law_872 ⟨by decide, by decide⟩ ?_
  refine VL.iadd (pc := 873) d_Law_873 ⟨by omega, by omega⟩ ?_
  refine VL.sld (pc := 874) d_Law_874 (by omega) (by omega) ?_
  refine VL.aload_n (pc := 875) 0 d_Law_875 rfl rfl ?_
  refine VL.iload_n (pc := 876) 3 d_Law_876 rfl rfl ?_
  refine VL.iconst (pc := 877) d_Law_877 ⟨by decide, by decide⟩ ?_
  refine VL.iadd (pc := 878) d_Law_878 ⟨by omega, by omega⟩ ?_
  refine VL.sld (pc := 879) d_Law_879 (by omega) (by omega) ?_
  refine VL.cB (pc := 880) (kc2 := 6 * m) (ks2 := 131 * m) [vI (scv g ((i : Int) + 1)), vI (scv g ((i : Int) + 2))] ml_Law_97 hI2.gap (cs_Mo_loops S σ hR (scv g ((i : Int) + 1)) (scv g ((i : Int) + 2)) s2) rfl d_Law_880 (Nat.le_of_ble_eq_true rfl) (Nat.le_of_ble_eq_true rfl) (Nat.le_refl _) (Nat.le_refl _) gQS ?_
  rintro _ τ0 _ ⟨rfl, rfl, τ, he, hR2⟩
  dsimp only [Option.toList, List.cons_append, List.nil_append]
  rw [hU_e he]
  refine VL.icmp_eq (tgt := 1189) (pc := 883) d_Law_883 (by decide) (fun _ => ?_) (fun c9 => absurd rfl c9)
  exact kk _ _ _ _ hI2 hR2 (by omega)
set_option maxRecDepth 20000 in
theorem lw_way (nm : String) (g : GS) (hL : g.2.1 ≤ 3072) (Q : QT) (m i : Nat) (hi : i + 6 ≤ g.2.1) (S : SS) (hA : MH) (σ : SM) (sz : Nat) (hI : CI S hA) (hR : RI S σ) (hsz : 37 ≤ sz) (kk : ∀ (S2 : SS) (h2 : MH) (τ : SM) (s2 : Nat), CI S2 h2 → RI S2 τ → 37 ≤ s2 → VL g (M_Lw nm) 13 1189 [some (vS 0), some (vR 0), some (vR 8), some (vI (i : Int))] [] (hU h2 τ) s2 (6 * m) (131 * m) Q) : VL g (M_Lw nm) 13 888 [some (vS 0), some (vR 0), some (vR 8), some (vI (i : Int))] [] (hU hA σ) sz (6 * (m + 1)) (131 * (m + 1)) Q := by
  refine VL.aload_n (pc := 888) 1 d_Law_888 rfl rfl ?_
  refine VL.aload_n (pc := 889) 0 d_Law_889 rfl rfl ?_
  refine VL.iload_n (pc := 890) 3 d_Law_890 rfl rfl ?_
  refine VL.iconst (pc := 891) d_Law_891 ⟨by decide, by decide⟩ ?_
  refine VL.iadd (pc := 892) d_Law_892 ⟨by omega, by omega⟩ ?_
  refine VL.sld (pc := 893) d_Law_893 (by omega) (by omega) ?_
  refine VL.aload_n (pc := 894) 0 d_Law_894 rfl rfl ?_
  refine VL.iload_n (pc := 895) 3 d_Law_895 rfl rfl ?_
  refine VL.iconst (pc := 896) d_Law_896 ⟨by decide, by decide⟩ ?_
  refine VL.iadd (pc := 897) d_Law_897 ⟨by omega, by omega⟩ ?_
  refine VL.sld (pc := 898) d_Law_898 (by omega) (by omega) ?_
  refine VL.aload_n (pc := 899) 0 d_Law_899 rfl rfl ?_
  refine VL.iload_n (pc := 900) 3 d_Law_900 rfl rfl ?_
  refine VL.iconst (pc := 901) d_Law_901 ⟨by decide, by decide⟩ ?_
  refine VL.iadd (pc := 902) d_Law_902 ⟨by omega, by omega⟩ ?_
  refine VL.sld (pc := 903) d_Law_903 (by omega) (by omega) ?_
  refine VL.cA (pc := 904) (kc2 := 6 * m) (ks2 := 131 * m) [vI (scv g ((i : Int) + 1)), vI (scv g ((i : Int) + 2)), vI (scv g ((i : Int) + 3))] ml_Law_98 hI (cs_RR_way S hA hI (scv g ((i : Int) + 1)) (scv g ((i : Int) + 2)) (scv g ((i : Int) + 3)) sz hsz) rfl hsz d_Law_904 (Nat.le_of_ble_eq_true rfl) (Nat.le_of_ble_eq_true rfl) (by omega) (by omega) gQCI ?_
  rintro _ h2 s2 ⟨hs2, rfl, hI2⟩
  dsimp only [Option.toList, List.cons_append, List.nil_append]
  refine VL.aload_n (pc := 907) 2 d_Law_907 rfl rfl ?_
  refine VL.aload_n (pc := 908) 0 d_Law_908 rfl rfl ?_
  refine VL.iload_n (pc := 909) 3 d_Law_909 rfl rfl ?_
  refine VL.iconst (pc := 910) d_Law_910 ⟨by decide, by decide⟩ ?_
  refine VL.iadd (pc := 911) d_Law_911 ⟨by omega, by omega⟩ ?_
  refine VL.sld (pc := 912) d_Law_912 (by omega) (by omega) ?_
  refine VL.aload_n (pc := 913) 0 d_Law_913 rfl rfl ?_
  refine VL.iload_n (pc := 914) 3 d_Law_914 rfl rfl ?_
  refine VL.iconst (pc := 915) d_Law_915 ⟨by decide, by decide⟩ ?_
  refine VL.iadd (pc := 916) d_Law_916 ⟨by omega, by omega⟩ ?_
  refine VL.sld (pc := 917) d_Law_917 (by omega) (by omega) ?_
  refine VL.aload_n (pc := 918) 0 d_Law_918 rfl rfl ?_
  refine VL.iload_n (pc := 919) 3 d_Law_919 rfl rfl ?_
  refine VL.iconst (pc := 920) d_Law_920 ⟨by decide, by decide⟩ ?_
  refine VL.iadd (pc := 921) d_Law_921 ⟨by omega, by omega⟩ ?_
  refine VL.sld (pc := 922) d_Law_922 (by omega) (by omega) ?_
  refine VL.cB (pc := 923) (kc2 := 6 * m) (ks2 := 131 * m) [vI (scv g ((i : Int) + 1)), vI (scv g ((i : Int) + 2)), vI (scv g ((i : Int) + 3))] ml_Law_101 hI2.gap (cs_Mo_way S σ hR (scv g ((i : Int) + 1)) (scv g ((i : Int) + 2)) (scv g ((i : Int) + 3)) s2) rfl d_Law_923 (Nat.le_of_ble_eq_true rfl) (Nat.le_of_ble_eq_true rfl) (Nat.le_refl _) (Nat.le_refl _) gQS ?_
  rintro _ τ0 _ ⟨rfl, rfl, τ, he, hR2⟩
  dsimp only [Option.toList, List.cons_append, List.nil_append]
  rw [hU_e he]
  refine VL.icmp_eq (tgt := 1189) (pc := 926) d_Law_926 (by decide) (fun _ => ?_) (fun c9 => absurd rfl c9)
  exact kk _ _ _ _ hI2 hR2 (by omega)
set_option maxRecDepth 20000 in
theorem lw_lands (nm : String) (g : GS) (hL : g.2.1 ≤ 3072) (Q : QT) (m i : Nat) (hi : i + 6 ≤ g.2.1) (S : SS) (hA : MH) (σ : SM) (sz : Nat) (hI : CI S hA) (hR : RI S σ) (hsz : 37 ≤ sz) (kk : ∀ (S2 : SS) (h2 : MH) (τ : SM) (s2 : Nat), CI S2 h2 → RI S2 τ → 37 ≤ s2 → VL g (M_Lw nm) 13 1189 [some (vS 0), some (vR 0), some (vR 8), some (vI (i : Int))] [] (hU h2 τ) s2 (6 * m) (131 * m) Q) : VL g (M_Lw nm) 13 931 [some (vS 0), some (vR 0), some (vR 8), some (vI (i : Int))] [] (hU hA σ) sz (6 * (m + 1)) (131 * (m + 1)) Q := by
  refine VL.aload_n (pc := 931) 1 d_Law_931 rfl rfl ?_
  refine VL.aload_n (pc := 932) 0 d_Law_932 rfl rfl ?_
  refine VL.iload_n (pc := 933) 3 d_Law_933 rfl rfl ?_
  refine VL.iconst (pc := 934) d_Law_934 ⟨by decide, by decide⟩ ?_
  refine VL.iadd (pc := 935) d_Law_935 ⟨by omega, by omega⟩ ?_
  refine VL.sld (pc := 936) d_Law_936 (by omega) (by omega) ?_
  refine VL.aload_n (pc := 937) 0 d_Law_937 rfl rfl ?_
  refine VL.iload_n (pc := 938) 3 d_Law_938 rfl rfl ?_
  refine VL.iconst (pc := 939) d_Law_939 ⟨by decide, by decide⟩ ?_
  refine VL.iadd (pc := 940) d_Law_940 ⟨by omega, by omega⟩ ?_
  refine VL.sld (pc := 941) d_Law_941 (by omega) (by omega) ?_
  refine VL.cA (pc := 942) (kc2 := 6 * m) (ks2 := 131 * m) [vI (scv g ((i : Int) + 1)), vI (scv g ((i : Int) + 2))] ml_Law_102 hI (cs_RR_lands S hA hI (scv g ((i : Int) + 1)) (scv g ((i : Int) + 2)) sz hsz) rfl hsz d_Law_942 (Nat.le_of_ble_eq_true rfl) (Nat.le_of_ble_eq_true rfl) (by omega) (by omega) gQCI ?_
  rintro _ h2 s2 ⟨hs2, rfl, hI2⟩
  dsimp only [Option.toList, List.cons_append, List.nil_append]
  refine VL.aload_n (pc := 945) 2 d_Law_945 rfl rfl ?_
  refine VL.aload_n (pc := 946) 0 d_Law_946 rfl rfl ?_
  refine VL.iload_n (pc := 947) 3 d_Law_947 rfl rfl ?_
  refine VL.iconst (pc := 948) d_Law_948 ⟨by decide, by decide⟩ ?_
  refine VL.iadd (pc := 949) d_Law_949 ⟨by omega, by omega⟩ ?_
  refine VL.sld (pc := 950) d_Law_950 (by omega) (by omega) ?_
  refine VL.aload_n (pc := 951) 0 d_Law_951 rfl rfl ?_
  refine VL.iload_n (pc := 952) 3 d_Law_952 rfl rfl ?_
  refine VL.iconst (pc := 953) d_Law_953 ⟨by decide, by decide⟩ ?_
  refine VL.iadd (pc := 954) d_Law_954 ⟨by omega, by omega⟩ ?_
  refine VL.sld (pc := 955) d_Law_955 (by omega) (by omega) ?_
  refine VL.cB (pc := 956) (kc2 := 6 * m) (ks2 := 131 * m) [vI (scv g ((i : Int) + 1)), vI (scv g ((i : Int) + 2))] ml_Law_105 hI2.gap (cs_Mo_lands S σ hR (scv g ((i : Int) + 1)) (scv g ((i : Int) + 2)) s2) rfl d_Law_956 (Nat.le_of_ble_eq_true rfl) (Nat.le_of_ble_eq_true rfl) (Nat.le_refl _) (Nat.le_refl _) gQS ?_
  rintro _ τ0 _ ⟨rfl, rfl, τ, he, hR2⟩
  dsimp only [Option.toList, List.cons_append, List.nil_append]
  rw [hU_e he]
  refine VL.icmp_eq (tgt := 1189) (pc := 959) d_Law_959 (by decide) (fun _ => ?_) (fun c9 => absurd rfl c9)
  exact kk _ _ _ _ hI2 hR2 (by omega)
set_option maxRecDepth 20000 in
theorem lw_unlike (nm : String) (g : GS) (hL : g.2.1 ≤ 3072) (Q : QT) (m i : Nat) (hi : i + 6 ≤ g.2.1) (S : SS) (hA : MH) (σ : SM) (sz : Nat) (hI : CI S hA) (hR : RI S σ) (hsz : 37 ≤ sz) (kk : ∀ (S2 : SS) (h2 : MH) (τ : SM) (s2 : Nat), CI S2 h2 → RI S2 τ → 37 ≤ s2 → VL g (M_Lw nm) 13 1189 [some (vS 0), some (vR 0), some (vR 8), some (vI (i : Int))] [] (hU h2 τ) s2 (6 * m) (131 * m) Q) : VL g (M_Lw nm) 13 964 [some (vS 0), some (vR 0), some (vR 8), some (vI (i : Int))] [] (hU hA σ) sz (6 * (m + 1)) (131 * (m + 1)) Q := by
  refine VL.aload_n (pc := 964) 1 d_Law_964 rfl rfl ?_
  refine VL.aload_n (pc := 965) 0 d_Law_965 rfl rfl ?_
  refine VL.iload_n (pc := 966) 3 d_Law_966 rfl rfl ?_
  refine VL.iconst (pc := 967) d_Law_967 ⟨by decide, by decide⟩ ?_
  refine VL.iadd (pc := 968) d_Law_968 ⟨by omega, by omega⟩ ?_
  refine VL.sld (pc := 969) d_Law_969 (by omega) (by omega) ?_
  refine VL.cA (pc := 970) (kc2 := 6 * m) (ks2 := 131 * m) [vI (scv g ((i : Int) + 1))] ml_Law_106 hI (cs_RR_unlike S hA hI (scv g ((i : Int) + 1)) sz hsz) rfl hsz d_Law_970 (Nat.le_of_ble_eq_true rfl) (Nat.le_of_ble_eq_true rfl) (by omega) (by omega) gQCI ?_
  rintro _ h2 s2 ⟨hs2, rfl, hI2⟩
  dsimp only [Option.toList, List.cons_append, List.nil_append]
  refine VL.aload_n (pc := 973) 2 d_Law_973 rfl rfl ?_
  refine VL.aload_n (pc := 974) 0 d_Law_974 rfl rfl ?_
  refine VL.iload_n (pc := 975) 3 d_Law_975 rfl rfl ?_
  refine VL.iconst (pc := 976) d_Law_976 ⟨by decide, by decide⟩ ?_
  refine VL.iadd (pc := 977) d_Law_977 ⟨by omega, by omega⟩ ?_
  refine VL.sld (pc := 978) d_Law_978 (by omega) (by omega) ?_
  refine VL.cB (pc := 979) (kc2 := 6 * m) (ks2 := 131 * m) [vI (scv g ((i : Int) + 1))] ml_Law_109 hI2.gap (cs_Mo_unlike S σ hR (scv g ((i : Int) + 1)) s2) rfl d_Law_979 (Nat.le_of_ble_eq_true rfl) (Nat.le_of_ble_eq_true rfl) (Nat.le_refl _) (Nat.le_refl _) gQS ?_
  rintro _ τ0 _ ⟨rfl, rfl, τ, he, hR2⟩
  dsimp only [Option.toList, List.cons_append, List.nil_append]
  rw [hU_e he]
  refine VL.icmp_eq (tgt := 1189) (pc := 982) d_Law_982 (by decide) (fun _ => ?_) (fun c9 => absurd rfl c9)
  exact kk _ _ _ _ hI2 hR2 (by omega)
set_option maxRecDepth 20000 in
theorem lw_sum (nm : String) (g : GS) (hL : g.2.1 ≤ 3072) (Q : QT) (m i : Nat) (hi : i + 6 ≤ g.2.1) (S : SS) (hA : MH) (σ : SM) (sz : Nat) (hI : CI S hA) (hR : RI S σ) (hsz : 37 ≤ sz) (kk : ∀ (S2 : SS) (h2 : MH) (τ : SM) (s2 : Nat), CI S2 h2 → RI S2 τ → 37 ≤ s2 → VL g (M_Lw nm) 13 1189 [some (vS 0), some (vR 0), some (vR 8), some (vI (i : Int))] [] (hU h2 τ) s2 (6 * m) (131 * m) Q) : VL g (M_Lw nm) 13 987 [some (vS 0), some (vR 0), some (vR 8), some (vI (i : Int))] [] (hU hA σ) sz (6 * (m + 1)) (131 * (m + 1)) Q := by
  refine VL.aload_n (pc := 987) 1 d_Law_987 rfl rfl ?_
  refine VL.aload_n (pc := 988) 0 d_Law_988 rfl rfl ?_
  refine VL.iload_n (pc := 989) 3 d_Law_989 rfl rfl ?_
  refine VL.iconst (pc := 990) d_Law_990 ⟨by decide, by decide⟩ ?_
  refine VL.iadd (pc := 991) d_Law_991 ⟨by omega, by omega⟩ ?_
  refine VL.sld (pc := 992) d_Law_992 (by omega) (by omega) ?_
  refine VL.aload_n (pc := 993) 0 d_Law_993 rfl rfl ?_
  refine VL.iload_n (pc := 994) 3 d_Law_994 rfl rfl ?_
  refine VL.iconst (pc := 995) d_Law_995 ⟨by decide, by decide⟩ ?_
  refine VL.iadd (pc := 996) d_Law_996 ⟨by omega, by omega⟩ ?_
  refine VL.sld (pc := 997) d_Law_997 (by omega) (by omega) ?_
  refine VL.cA (pc := 998) (kc2 := 6 * m) (ks2 := 131 * m) [vI (scv g ((i : Int) + 1)), vI (scv g ((i : Int) + 2))] ml_Law_110 hI (cs_RR_sum S hA hI (scv g ((i : Int) + 1)) (scv g ((i : Int) + 2)) sz hsz) rfl hsz d_Law_998 (Nat.le_of_ble_eq_true rfl) (Nat.le_of_ble_eq_true rfl) (by omega) (by omega) gQCL ?_
  rintro _ h2 s2 ⟨hs2, rfl, hI2⟩
  dsimp only [Option.toList, List.cons_append, List.nil_append]
  refine VL.aload_n (pc := 1001) 2 d_Law_1001 rfl rfl ?_
  refine VL.aload_n (pc := 1002) 0 d_Law_1002 rfl rfl ?_
  refine VL.iload_n (pc := 1003) 3 d_Law_1003 rfl rfl ?_
  refine VL.iconst (pc := 1004) d_Law_1004 ⟨by decide, by decide⟩ ?_
  refine VL.iadd (pc := 1005) d_Law_1005 ⟨by omega, by omega⟩ ?_
  refine VL.sld (pc := 1006) d_Law_1006 (by omega) (by omega) ?_
  refine VL.aload_n (pc := 1007) 0 d_Law_1007 rfl rfl ?_
  refine VL.iload_n (pc := 1008) 3 d_Law_1008 rfl rfl ?_
  refine VL.iconst (pc := 1009) d_Law_1009 ⟨by decide, by decide⟩ ?_
  refine VL.iadd (pc := 1010) d_Law_1010 ⟨by omega, by omega⟩ ?_
  refine VL.sld (pc := 1011) d_Law_1011 (by omega) (by omega) ?_
  refine VL.cB (pc := 1012) (kc2 := 6 * m) (ks2 := 131 * m) [vI (scv g ((i : Int) + 1)), vI (scv g ((i : Int) + 2))] ml_Law_114 hI2.gap (cs_Mo_sum S σ hR (scv g ((i : Int) + 1)) (scv g ((i : Int) + 2)) s2) rfl d_Law_1012 (Nat.le_of_ble_eq_true rfl) (Nat.le_of_ble_eq_true rfl) (Nat.le_refl _) (Nat.le_refl _) gQSL ?_
  rintro _ τ0 _ ⟨rfl, rfl, τ, he, hR2⟩
  dsimp only [Option.toList, List.cons_append, List.nil_append]
  rw [hU_e he]
  refine VL.lcmp (pc := 1015) d_Law_1015 ?_
  refine VL.if_eq (tgt := 1189) (pc := 1016) d_Law_1016 (by decide) (fun _ => ?_) (fun c9 => absurd (lc_rf _) c9)
  exact kk _ _ _ _ hI2 hR2 (by omega)
set_option maxRecDepth 20000 in
theorem lw_stamp (nm : String) (g : GS) (hL : g.2.1 ≤ 3072) (Q : QT) (m i : Nat) (hi : i + 6 ≤ g.2.1) (S : SS) (hA : MH) (σ : SM) (sz : Nat) (hI : CI S hA) (hR : RI S σ) (hsz : 37 ≤ sz) (kk : ∀ (S2 : SS) (h2 : MH) (τ : SM) (s2 : Nat), CI S2 h2 → RI S2 τ → 37 ≤ s2 → VL g (M_Lw nm) 13 1189 [some (vS 0), some (vR 0), some (vR 8), some (vI (i : Int))] [] (hU h2 τ) s2 (6 * m) (131 * m) Q) : VL g (M_Lw nm) 13 1021 [some (vS 0), some (vR 0), some (vR 8), some (vI (i : Int))] [] (hU hA σ) sz (6 * (m + 1)) (131 * (m + 1)) Q := by
  refine VL.aload_n (pc := 1021) 1 d_Law_1021 rfl rfl ?_
  refine VL.aload_n (pc := 1022) 0 d_Law_1022 rfl rfl ?_
  refine VL.iload_n (pc := 1023) 3 d_Law_1023 rfl rfl ?_
  refine VL.iconst (pc := 1024) d_Law_1024 ⟨by decide, by decide⟩ ?_
  refine VL.iadd (pc := 1025) d_Law_1025 ⟨by omega, by omega⟩ ?_
  refine VL.sld (pc := 1026) d_Law_1026 (by omega) (by omega) ?_
  refine VL.aload_n (pc := 1027) 0 d_Law_1027 rfl rfl ?_
  refine VL.iload_n (pc := 1028) 3 d_Law_1028 rfl rfl ?_
  refine VL.iconst (pc := 1029) d_Law_1029 ⟨by decide, by decide⟩ ?_
  refine VL.iadd (pc := 1030) d_Law_1030 ⟨by omega, by omega⟩ ?_
  refine VL.sld (pc := 1031) d_Law_1031 (by omega) (by omega) ?_
  refine VL.cA (pc := 1032) (kc2 := 6 * m) (ks2 := 131 * m) [vI (scv g ((i : Int) + 1)), vI (scv g ((i : Int) + 2))] ml_Law_115 hI (cs_RR_stamp S hA hI (scv g ((i : Int) + 1)) (scv g ((i : Int) + 2)) sz hsz) rfl hsz d_Law_1032 (Nat.le_of_ble_eq_true rfl) (Nat.le_of_ble_eq_true rfl) (by omega) (by omega) gQCI ?_
  rintro _ h2 s2 ⟨hs2, rfl, hI2⟩
  dsimp only [Option.toList, List.cons_append, List.nil_append]
  refine VL.aload_n (pc := 1035) 2 d_Law_1035 rfl rfl ?_
  refine VL.aload_n (pc := 1036) 0 d_Law_1036 rfl rfl ?_
  refine VL.iload_n (pc := 1037) 3 d_Law_1037 rfl rfl ?_
  refine VL.iconst (pc := 1038) d_Law_1038 ⟨by decide, by decide⟩ ?_
  refine VL.iadd (pc := 1039) d_Law_1039 ⟨by omega, by omega⟩ ?_
  refine VL.sld (pc := 1040) d_Law_1040 (by omega) (by omega) ?_
  refine VL.aload_n (pc := 1041) 0 d_Law_1041 rfl rfl ?_
  refine VL.iload_n (pc := 1042) 3 d_Law_1042 rfl rfl ?_
  refine VL.iconst (pc := 1043) d_Law_1043 ⟨by decide, by decide⟩ ?_
  refine VL.iadd (pc := 1044) d_Law_1044 ⟨by omega, by omega⟩ ?_
  refine VL.sld (pc := 1045) d_Law_1045 (by omega) (by omega) ?_
  refine VL.cB (pc := 1046) (kc2 := 6 * m) (ks2 := 131 * m) [vI (scv g ((i : Int) + 1)), vI (scv g ((i : Int) + 2))] ml_Law_118 hI2.gap (cs_Mo_stamp S σ hR (scv g ((i : Int) + 1)) (scv g ((i : Int) + 2)) s2) rfl d_Law_1046 (Nat.le_of_ble_eq_true rfl) (Nat.le_of_ble_eq_true rfl) (Nat.le_refl _) (Nat.le_refl _) gQS ?_
  rintro _ τ0 _ ⟨rfl, rfl, τ, he, hR2⟩
  dsimp only [Option.toList, List.cons_append, List.nil_append]
  rw [hU_e he]
  refine VL.icmp_eq (tgt := 1189) (pc := 1049) d_Law_1049 (by decide) (fun _ => ?_) (fun c9 => absurd rfl c9)
  exact kk _ _ _ _ hI2 hR2 (by omega)
set_option maxRecDepth 20000 in
theorem lw_clash (nm : String) (g : GS) (hL : g.2.1 ≤ 3072) (Q : QT) (m i : Nat) (hi : i + 6 ≤ g.2.1) (S : SS) (hA : MH) (σ : SM) (sz : Nat) (hI : CI S hA) (hR : RI S σ) (hsz : 37 ≤ sz) (kk : ∀ (S2 : SS) (h2 : MH) (τ : SM) (s2 : Nat), CI S2 h2 → RI S2 τ → 37 ≤ s2 → VL g (M_Lw nm) 13 1189 [some (vS 0), some (vR 0), some (vR 8), some (vI (i : Int))] [] (hU h2 τ) s2 (6 * m) (131 * m) Q) : VL g (M_Lw nm) 13 1054 [some (vS 0), some (vR 0), some (vR 8), some (vI (i : Int))] [] (hU hA σ) sz (6 * (m + 1)) (131 * (m + 1)) Q := by
  refine VL.aload_n (pc := 1054) 1 d_Law_1054 rfl rfl ?_
  refine VL.aload_n (pc := 1055) 0 d_Law_1055 rfl rfl ?_
  refine VL.iload_n (pc := 1056) 3 d_Law_1056 rfl rfl ?_
  refine VL.iconst (pc := 1057) d_Law_1057 ⟨by decide, by decide⟩ ?_
  refine VL.iadd (pc := 1058) d_Law_1058 ⟨by omega, by omega⟩ ?_
  refine VL.sld (pc := 1059) d_Law_1059 (by omega) (by omega) ?_
  refine VL.aload_n (pc := 1060) 0 d_Law_1060 rfl rfl ?_
  refine VL.iload_n (pc := 1061) 3 d_Law_1061 rfl rfl ?_
  refine VL.iconst (pc := 1062) d_Law_1062 ⟨by decide, by decide⟩ ?_
  refine VL.iadd (pc := 1063) d_Law_1063 ⟨by omega, by omega⟩ ?_
  refine VL.sld (pc := 1064) d_Law_1064 (by omega) (by omega) ?_
  refine VL.cA (pc := 1065) (kc2 := 6 * m) (ks2 := 131 * m) [vI (scv g ((i : Int) + 1)), vI (scv g ((i : Int) + 2))] ml_Law_119 hI (cs_RR_clash S hA hI (scv g ((i : Int) + 1)) (scv g ((i : Int) + 2)) sz hsz) rfl hsz d_Law_1065 (Nat.le_of_ble_eq_true rfl) (Nat.le_of_ble_eq_true rfl) (by omega) (by omega) gQCX ?_
  rintro _ h2 s2 ⟨hs2, x, hx, rfl, hI2⟩
  dsimp only [Option.toList, List.cons_append, List.nil_append]
  refine VL.aload_n (pc := 1068) 2 d_Law_1068 rfl rfl ?_
  refine VL.aload_n (pc := 1069) 0 d_Law_1069 rfl rfl ?_
  refine VL.iload_n (pc := 1070) 3 d_Law_1070 rfl rfl ?_
  refine VL.iconst (pc := 1071) d_Law_1071 ⟨by decide, by decide⟩ ?_
  refine VL.iadd (pc := 1072) d_Law_1072 ⟨by omega, by omega⟩ ?_
  refine VL.sld (pc := 1073) d_Law_1073 (by omega) (by omega) ?_
  refine VL.aload_n (pc := 1074) 0 d_Law_1074 rfl rfl ?_
  refine VL.iload_n (pc := 1075) 3 d_Law_1075 rfl rfl ?_
  refine VL.iconst (pc := 1076) d_Law_1076 ⟨by decide, by decide⟩ ?_
  refine VL.iadd (pc := 1077) d_Law_1077 ⟨by omega, by omega⟩ ?_
  refine VL.sld (pc := 1078) d_Law_1078 (by omega) (by omega) ?_
  refine VL.cB (pc := 1079) (kc2 := 6 * m) (ks2 := 131 * m) [vI (scv g ((i : Int) + 1)), vI (scv g ((i : Int) + 2))] ml_Law_122 hI2.gap (cs_Mo_clash S σ hR (scv g ((i : Int) + 1)) (scv g ((i : Int) + 2)) s2) rfl d_Law_1079 (Nat.le_of_ble_eq_true rfl) (Nat.le_of_ble_eq_true rfl) (Nat.le_refl _) (Nat.le_refl _) gQX ?_
  rintro _ τ0 _ ⟨rfl, y, hy, rfl, τ, he, hR2⟩
  dsimp only [Option.toList, List.cons_append, List.nil_append]
  obtain rfl := clash_one hI hx hy
  rw [hU_e he]
  refine VL.icmp_eq (tgt := 1189) (pc := 1082) d_Law_1082 (by decide) (fun _ => ?_) (fun c9 => absurd rfl c9)
  exact kk _ _ _ _ hI2 hR2 (by omega)
set_option maxRecDepth 20000 in
theorem lw_folds (nm : String) (g : GS) (hL : g.2.1 ≤ 3072) (Q : QT) (m i : Nat) (hi : i + 6 ≤ g.2.1) (S : SS) (hA : MH) (σ : SM) (sz : Nat) (hI : CI S hA) (hR : RI S σ) (hsz : 37 ≤ sz) (kk : ∀ (S2 : SS) (h2 : MH) (τ : SM) (s2 : Nat), CI S2 h2 → RI S2 τ → 37 ≤ s2 → VL g (M_Lw nm) 13 1189 [some (vS 0), some (vR 0), some (vR 8), some (vI (i : Int))] [] (hU h2 τ) s2 (6 * m) (131 * m) Q) : VL g (M_Lw nm) 13 1087 [some (vS 0), some (vR 0), some (vR 8), some (vI (i : Int))] [] (hU hA σ) sz (6 * (m + 1)) (131 * (m + 1)) Q := by
  refine VL.aload_n (pc := 1087) 1 d_Law_1087 rfl rfl ?_
  refine VL.aload_n (pc := 1088) 0 d_Law_1088 rfl rfl ?_
  refine VL.iload_n (pc := 1089) 3 d_Law_1089 rfl rfl ?_
  refine VL.iconst (pc := 1090) d_Law_1090 ⟨by decide, by decide⟩ ?_
  refine VL.iadd (pc := 1091) d_Law_1091 ⟨by omega, by omega⟩ ?_
  refine VL.sld (pc := 1092) d_Law_1092 (by omega) (by omega) ?_
  refine VL.cA (pc := 1093) (kc2 := 6 * m) (ks2 := 131 * m) [vI (scv g ((i : Int) + 1))] ml_Law_123 hI (cs_RR_folds S hA hI (scv g ((i : Int) + 1)) sz hsz) rfl hsz d_Law_1093 (Nat.le_of_ble_eq_true rfl) (Nat.le_of_ble_eq_true rfl) (by omega) (by omega) gQCI ?_
  rintro _ h2 s2 ⟨hs2, rfl, hI2⟩
  dsimp only [Option.toList, List.cons_append, List.nil_append]
  refine VL.aload_n (pc := 1096) 2 d_Law_1096 rfl rfl ?_
  refine VL.aload_n (pc := 1097) 0 d_Law_1097 rfl rfl ?_
  refine VL.iload_n (pc := 1098) 3 d_Law_1098 rfl rfl ?_
  refine VL.iconst (pc := 1099) d_Law_1099 ⟨by decide, by decide⟩ ?_
  refine VL.iadd (pc := 1100) d_Law_1100 ⟨by omega, by omega⟩ ?_
  refine VL.sld (pc := 1101) d_Law_1101 (by omega) (by omega) ?_
  refine VL.cB (pc := 1102) (kc2 := 6 * m) (ks2 := 131 * m) [vI (scv g ((i : Int) + 1))] ml_Law_126 hI2.gap (cs_Mo_folds S σ hR (scv g ((i : Int) + 1)) s2) rfl d_Law_1102 (Nat.le_of_ble_eq_true rfl) (Nat.le_of_ble_eq_true rfl) (Nat.le_refl _) (Nat.le_refl _) gQS ?_
  rintro _ τ0 _ ⟨rfl, rfl, τ, he, hR2⟩
  dsimp only [Option.toList, List.cons_append, List.nil_append]
  rw [hU_e he]
  refine VL.icmp_eq (tgt := 1189) (pc := 1105) d_Law_1105 (by decide) (fun _ => ?_) (fun c9 => absurd rfl c9)
  exact kk _ _ _ _ hI2 hR2 (by omega)
set_option maxRecDepth 20000 in
theorem lw_nthFold (nm : String) (g : GS) (hL : g.2.1 ≤ 3072) (Q : QT) (m i : Nat) (hi : i + 6 ≤ g.2.1) (S : SS) (hA : MH) (σ : SM) (sz : Nat) (hI : CI S hA) (hR : RI S σ) (hsz : 37 ≤ sz) (kk : ∀ (S2 : SS) (h2 : MH) (τ : SM) (s2 : Nat), CI S2 h2 → RI S2 τ → 37 ≤ s2 → VL g (M_Lw nm) 13 1189 [some (vS 0), some (vR 0), some (vR 8), some (vI (i : Int))] [] (hU h2 τ) s2 (6 * m) (131 * m) Q) : VL g (M_Lw nm) 13 1110 [some (vS 0), some (vR 0), some (vR 8), some (vI (i : Int))] [] (hU hA σ) sz (6 * (m + 1)) (131 * (m + 1)) Q := by
  refine VL.aload_n (pc := 1110) 1 d_Law_1110 rfl rfl ?_
  refine VL.aload_n (pc := 1111) 0 d_Law_1111 rfl rfl ?_
  refine VL.iload_n (pc := 1112) 3 d_Law_1112 rfl rfl ?_
  refine VL.iconst (pc := 1113) d_Law_1113 ⟨by decide, by decide⟩ ?_
  refine VL.iadd (pc := 1114) d_Law_1114 ⟨by omega, by omega⟩ ?_
  refine VL.sld (pc := 1115) d_Law_1115 (by omega) (by omega) ?_
  refine VL.aload_n (pc := 1116) 0 d_Law_1116 rfl rfl ?_
  refine VL.iload_n (pc := 1117) 3 d_Law_1117 rfl rfl ?_
  refine VL.iconst (pc := 1118) d_Law_1118 ⟨by decide, by decide⟩ ?_
  refine VL.iadd (pc := 1119) d_Law_1119 ⟨by omega, by omega⟩ ?_
  refine VL.sld (pc := 1120) d_Law_1120 (by omega) (by omega) ?_
  refine VL.aload_n (pc := 1121) 0 d_Law_1121 rfl rfl ?_
  refine VL.iload_n (pc := 1122) 3 d_Law_1122 rfl rfl ?_
  refine VL.iconst (pc := 1123) d_Law_1123 ⟨by decide, by decide⟩ ?_
  refine VL.iadd (pc := 1124) d_Law_1124 ⟨by omega, by omega⟩ ?_
  refine VL.sld (pc := 1125) d_Law_1125 (by omega) (by omega) ?_
  refine VL.cA (pc := 1126) (kc2 := 6 * m) (ks2 := 131 * m) [vI (scv g ((i : Int) + 1)), vI (scv g ((i : Int) + 2)), vI (scv g ((i : Int) + 3))] ml_Law_127 hI (cs_RR_nthFold S hA hI (scv g ((i : Int) + 1)) (scv g ((i : Int) + 2)) (scv g ((i : Int) + 3)) sz hsz) rfl hsz d_Law_1126 (Nat.le_of_ble_eq_true rfl) (Nat.le_of_ble_eq_true rfl) (by omega) (by omega) gQCI ?_
  rintro _ h2 s2 ⟨hs2, rfl, hI2⟩
  dsimp only [Option.toList, List.cons_append, List.nil_append]
  refine VL.aload_n (pc := 1129) 2 d_Law_1129 rfl rfl ?_
  refine VL.aload_n (pc := 1130) 0 d_Law_1130 rfl rfl ?_
  refine VL.iload_n (pc := 1131) 3 d_Law_1131 rfl rfl ?_
  refine VL.iconst (pc := 1132) d_Law_1132 ⟨by decide, by decide⟩ ?_
  refine VL.iadd (pc := 1133) d_Law_1133 ⟨by omega, by omega⟩ ?_
  refine VL.sld (pc := 1134) d_Law_1134 (by omega) (by omega) ?_
  refine VL.aload_n (pc := 1135) 0 d_Law_1135 rfl rfl ?_
  refine VL.iload_n (pc := 1136) 3 d_Law_1136 rfl rfl ?_
  refine VL.iconst (pc := 1137) d_Law_1137 ⟨by decide, by decide⟩ ?_
  refine VL.iadd (pc := 1138) d_Law_1138 ⟨by omega, by omega⟩ ?_
  refine VL.sld (pc := 1139) d_Law_1139 (by omega) (by omega) ?_
  refine VL.aload_n (pc := 1140) 0 d_Law_1140 rfl rfl ?_
  refine VL.iload_n (pc := 1141) 3 d_Law_1141 rfl rfl ?_
  refine VL.iconst (pc := 1142) d_Law_1142 ⟨by decide, by decide⟩ ?_
  refine VL.iadd (pc := 1143) d_Law_1143 ⟨by omega, by omega⟩ ?_
  refine VL.sld (pc := 1144) d_Law_1144 (by omega) (by omega) ?_
  refine VL.cB (pc := 1145) (kc2 := 6 * m) (ks2 := 131 * m) [vI (scv g ((i : Int) + 1)), vI (scv g ((i : Int) + 2)), vI (scv g ((i : Int) + 3))] ml_Law_130 hI2.gap (cs_Mo_nthFold S σ hR (scv g ((i : Int) + 1)) (scv g ((i : Int) + 2)) (scv g ((i : Int) + 3)) s2) rfl d_Law_1145 (Nat.le_of_ble_eq_true rfl) (Nat.le_of_ble_eq_true rfl) (Nat.le_refl _) (Nat.le_refl _) gQS ?_
  rintro _ τ0 _ ⟨rfl, rfl, τ, he, hR2⟩
  dsimp only [Option.toList, List.cons_append, List.nil_append]
  rw [hU_e he]
  refine VL.icmp_eq (tgt := 1189) (pc := 1148) d_Law_1148 (by decide) (fun _ => ?_) (fun c9 => absurd rfl c9)
  exact kk _ _ _ _ hI2 hR2 (by omega)
set_option maxRecDepth 20000 in
theorem lw_count (nm : String) (g : GS) (hL : g.2.1 ≤ 3072) (Q : QT) (m i : Nat) (hi : i + 6 ≤ g.2.1) (S : SS) (hA : MH) (σ : SM) (sz : Nat) (hI : CI S hA) (hR : RI S σ) (hsz : 37 ≤ sz) (kk : ∀ (S2 : SS) (h2 : MH) (τ : SM) (s2 : Nat), CI S2 h2 → RI S2 τ → 37 ≤ s2 → VL g (M_Lw nm) 13 1189 [some (vS 0), some (vR 0), some (vR 8), some (vI (i : Int))] [] (hU h2 τ) s2 (6 * m) (131 * m) Q) : VL g (M_Lw nm) 13 1153 [some (vS 0), some (vR 0), some (vR 8), some (vI (i : Int))] [] (hU hA σ) sz (6 * (m + 1)) (131 * (m + 1)) Q := by
  refine VL.aload_n (pc := 1153) 1 d_Law_1153 rfl rfl ?_
  refine VL.aload_n (pc := 1154) 0 d_Law_1154 rfl rfl ?_
  refine VL.iload_n (pc := 1155) 3 d_Law_1155 rfl rfl ?_
  refine VL.iconst (pc := 1156) d_Law_1156 ⟨by decide, by decide⟩ ?_
  refine VL.iadd (pc := 1157) d_Law_1157 ⟨by omega, by omega⟩ ?_
  refine VL.sld (pc := 1158) d_Law_1158 (by omega) (by omega) ?_
  refine VL.cA (pc := 1159) (kc2 := 6 * m) (ks2 := 131 * m) [vI (scv g ((i : Int) + 1))] ml_Law_131 hI (cs_RR_count S hA hI (scv g ((i : Int) + 1)) sz hsz) rfl hsz d_Law_1159 (Nat.le_of_ble_eq_true rfl) (Nat.le_of_ble_eq_true rfl) (by omega) (by omega) gQCI ?_
  rintro _ h2 s2 ⟨hs2, rfl, hI2⟩
  dsimp only [Option.toList, List.cons_append, List.nil_append]
  refine VL.aload_n (pc := 1162) 2 d_Law_1162 rfl rfl ?_
  refine VL.aload_n (pc := 1163) 0 d_Law_1163 rfl rfl ?_
  refine VL.iload_n (pc := 1164) 3 d_Law_1164 rfl rfl ?_
  refine VL.iconst (pc := 1165) d_Law_1165 ⟨by decide, by decide⟩ ?_
  refine VL.iadd (pc := 1166) d_Law_1166 ⟨by omega, by omega⟩ ?_
  refine VL.sld (pc := 1167) d_Law_1167 (by omega) (by omega) ?_
  refine VL.cB (pc := 1168) (kc2 := 6 * m) (ks2 := 131 * m) [vI (scv g ((i : Int) + 1))] ml_Law_134 hI2.gap (cs_Mo_count S σ hR (scv g ((i : Int) + 1)) s2) rfl d_Law_1168 (Nat.le_of_ble_eq_true rfl) (Nat.le_of_ble_eq_true rfl) (Nat.le_refl _) (Nat.le_refl _) gQS ?_
  rintro _ τ0 _ ⟨rfl, rfl, τ, he, hR2⟩
  dsimp only [Option.toList, List.cons_append, List.nil_append]
  rw [hU_e he]
  refine VL.icmp_eq (tgt := 1189) (pc := 1171) d_Law_1171 (by decide) (fun _ => ?_) (fun c9 => absurd rfl c9)
  exact kk _ _ _ _ hI2 hR2 (by omega)
set_option maxRecDepth 20000 in
theorem lw_status (nm : String) (g : GS) (hL : g.2.1 ≤ 3072) (Q : QT) (m i : Nat) (hi : i + 6 ≤ g.2.1) (S : SS) (hA : MH) (σ : SM) (sz : Nat) (hI : CI S hA) (hR : RI S σ) (hsz : 37 ≤ sz) (kk : ∀ (S2 : SS) (h2 : MH) (τ : SM) (s2 : Nat), CI S2 h2 → RI S2 τ → 37 ≤ s2 → VL g (M_Lw nm) 13 1189 [some (vS 0), some (vR 0), some (vR 8), some (vI (i : Int))] [] (hU h2 τ) s2 (6 * m) (131 * m) Q) : VL g (M_Lw nm) 13 1176 [some (vS 0), some (vR 0), some (vR 8), some (vI (i : Int))] [] (hU hA σ) sz (6 * (m + 1)) (131 * (m + 1)) Q := by
  refine VL.aload_n (pc := 1176) 1 d_Law_1176 rfl rfl ?_
  refine VL.cA (pc := 1177) (kc2 := 6 * m) (ks2 := 131 * m) [] ml_Law_135 hI (cs_RR_status S hA hI  sz hsz) rfl hsz d_Law_1177 (Nat.le_of_ble_eq_true rfl) (Nat.le_of_ble_eq_true rfl) (by omega) (by omega) gQCI ?_
  rintro _ h2 s2 ⟨hs2, rfl, hI2⟩
  dsimp only [Option.toList, List.cons_append, List.nil_append]
  refine VL.aload_n (pc := 1180) 2 d_Law_1180 rfl rfl ?_
  refine VL.cB (pc := 1181) (kc2 := 6 * m) (ks2 := 131 * m) [] ml_Law_139 hI2.gap (cs_Mo_status S σ hR  s2) rfl d_Law_1181 (Nat.le_of_ble_eq_true rfl) (Nat.le_of_ble_eq_true rfl) (Nat.le_refl _) (Nat.le_refl _) gQS ?_
  rintro _ τ0 _ ⟨rfl, rfl, τ, he, hR2⟩
  dsimp only [Option.toList, List.cons_append, List.nil_append]
  rw [hU_e he]
  refine VL.icmp_eq (tgt := 1189) (pc := 1184) d_Law_1184 (by decide) (fun _ => ?_) (fun c9 => absurd rfl c9)
  exact kk _ _ _ _ hI2 hR2 (by omega)
theorem and31 (x : Int) : ∃ z : Int, (0 ≤ z ∧ z < 32) ∧ (i32 x → i32 31 → Int32.ofInt x &&& Int32.ofInt 31 = Int32.ofInt z ∧ i32 z) := by
  refine ⟨(((x % 4294967296).toNat % 32 : Nat) : Int), by omega, fun _ _ => ⟨?_, n32 (by omega)⟩⟩
  have hN : (x % 4294967296).toNat < 4294967296 := by omega
  have e : Int32.ofInt x = Int32.ofInt (((x % 4294967296).toNat : Nat) : Int) := by
    rw [bm_eq x, bm_eq (((x % 4294967296).toNat : Nat) : Int)]
    have e3 : (x % ((4294967296 : Nat) : Int)).bmod 4294967296 = x.bmod 4294967296 := by simp only [Int.emod_bmod]
    rw [show (((x % 4294967296).toNat : Nat) : Int) = x % ((4294967296 : Nat) : Int) by omega, e3]
  rw [e, oI_n, oI_n, pk_andN (m := Int32.ofInt 31) (by omega) 5 rfl]
set_option maxRecDepth 20000 in
theorem lp_law (nm : String) (g : GS) (hL : g.2.1 ≤ 3072) (Q : QT) (hQ : ∀ h sz, Q (some (vI 1)) h sz) : ∀ (m i : Nat) (S : SS) (hA : MH) (σ : SM) (sz : Nat), g.2.1 < i + 6 * m + 6 → i ≤ 4000 → CI S hA → RI S σ → 37 ≤ sz → VL g (M_Lw nm) 13 18 [some (vS 0), some (vR 0), some (vR 8), some (vI (i : Int))] [] (hU hA σ) sz (6 * m) (131 * m) Q := by
  intro m
  induction m with
  | zero =>
    intro i S hA σ sz hm hi4 hI hR hsz
    refine VL.iload_n (pc := 18) 3 d_Law_18 rfl rfl ?_
    refine VL.aload_n (pc := 19) 0 d_Law_19 rfl rfl ?_
    refine VL.slen (pc := 20) hL d_Law_20 ?_
    refine VL.bipush (pc := 21) d_Law_21 ⟨by decide, by decide⟩ ?_
    refine VL.isub (pc := 23) d_Law_23 ⟨by omega, by omega⟩ ?_
    refine VL.icmp_gt (tgt := 1195) (pc := 24) d_Law_24 (by decide) (fun c9 => ?_) (fun c9 => ?_)
    · refine VL.iconst (pc := 1195) d_Law_1195 ⟨by decide, by decide⟩ ?_
      exact VL.ret (pc := 1196) (r := some (vI 1)) d_Law_1196 (Or.inr ⟨rfl, Or.inr rfl⟩) rfl (hQ _ _)
    · exact absurd c9 (by omega)
  | succ m ih =>
    intro i S hA σ sz hm hi4 hI hR hsz
    refine VL.iload_n (pc := 18) 3 d_Law_18 rfl rfl ?_
    refine VL.aload_n (pc := 19) 0 d_Law_19 rfl rfl ?_
    refine VL.slen (pc := 20) hL d_Law_20 ?_
    refine VL.bipush (pc := 21) d_Law_21 ⟨by decide, by decide⟩ ?_
    refine VL.isub (pc := 23) d_Law_23 ⟨by omega, by omega⟩ ?_
    refine VL.icmp_gt (tgt := 1195) (pc := 24) d_Law_24 (by decide) (fun c9 => ?_) (fun c9 => ?_)
    · refine VL.iconst (pc := 1195) d_Law_1195 ⟨by decide, by decide⟩ ?_
      exact VL.ret (pc := 1196) (r := some (vI 1)) d_Law_1196 (Or.inr ⟨rfl, Or.inr rfl⟩) rfl (hQ _ _)
    refine VL.aload_n (pc := 27) 0 d_Law_27 rfl rfl ?_
    refine VL.iload_n (pc := 28) 3 d_Law_28 rfl rfl ?_
    refine VL.sld (pc := 29) d_Law_29 (by omega) (by omega) ?_
    refine VL.bipush (pc := 30) d_Law_30 ⟨by decide, by decide⟩ ?_
    obtain ⟨z, hz, hand⟩ := and31 (scv g (i : Int))
    refine VL.iand (pc := 32) z d_Law_32 hand ?_
    have kk : ∀ (S2 : SS) (h2 : MH) (τ : SM) (s2 : Nat), CI S2 h2 → RI S2 τ → 37 ≤ s2 → VL g (M_Lw nm) 13 1189 [some (vS 0), some (vR 0), some (vR 8), some (vI (i : Int))] [] (hU h2 τ) s2 (6 * m) (131 * m) Q := by
      intro S2 h2 τ s2 hI2 hR2 hs2
      refine VL.iinc (pc := 1189) d_Law_1189 rfl ⟨by omega, by omega⟩ (Nat.le_of_ble_eq_true rfl) rfl ?_
      dsimp only [put]
      refine VL.goto (tgt := 18) (pc := 1192) d_Law_1192 (by decide) ?_
      rw [show (i : Int) + 6 = ((i + 6 : Nat) : Int) by omega]
      exact ih (i + 6) S2 h2 τ s2 (by omega) (by omega) hI2 hR2 hs2
    have hzz : z = 0 ∨ z = 1 ∨ z = 2 ∨ z = 3 ∨ z = 4 ∨ z = 5 ∨ z = 6 ∨ z = 7 ∨ z = 8 ∨ z = 9 ∨ z = 10 ∨ z = 11 ∨ z = 12 ∨ z = 13 ∨ z = 14 ∨ z = 15 ∨ z = 16 ∨ z = 17 ∨ z = 18 ∨ z = 19 ∨ z = 20 ∨ z = 21 ∨ z = 22 ∨ z = 23 ∨ z = 24 ∨ z = 25 ∨ z = 26 ∨ z = 27 ∨ z = 28 ∨ z = 29 ∨ 29 < z := by omega
    rcases hzz with rfl | rfl | rfl | rfl | rfl | rfl | rfl | rfl | rfl | rfl | rfl | rfl | rfl | rfl | rfl | rfl | rfl | rfl | rfl | rfl | rfl | rfl | rfl | rfl | rfl | rfl | rfl | rfl | rfl | rfl | hz9
    · refine VL.tswIn (tgt := 168) (off := 135) (pc := 33) d_Law_33 (by decide) (by decide) rfl (by decide) ?_
      exact lw_sheet nm g hL Q m i (by omega) S hA σ sz hI hR hsz kk
    · refine VL.tswIn (tgt := 211) (off := 178) (pc := 33) d_Law_33 (by decide) (by decide) rfl (by decide) ?_
      exact lw_set nm g hL Q m i (by omega) S hA σ sz hI hR hsz kk
    · refine VL.tswIn (tgt := 254) (off := 221) (pc := 33) d_Law_33 (by decide) (by decide) rfl (by decide) ?_
      exact lw_copy nm g hL Q m i (by omega) S hA σ sz hI hR hsz kk
    · refine VL.tswIn (tgt := 317) (off := 284) (pc := 33) d_Law_33 (by decide) (by decide) rfl (by decide) ?_
      exact lw_drop nm g hL Q m i (by omega) S hA σ sz hI hR hsz kk
    · refine VL.tswIn (tgt := 340) (off := 307) (pc := 33) d_Law_33 (by decide) (by decide) rfl (by decide) ?_
      exact lw_row nm g hL Q m i (by omega) S hA σ sz hI hR hsz kk
    · refine VL.tswIn (tgt := 393) (off := 360) (pc := 33) d_Law_33 (by decide) (by decide) rfl (by decide) ?_
      exact lw_land nm g hL Q m i (by omega) S hA σ sz hI hR hsz kk
    · refine VL.tswIn (tgt := 436) (off := 403) (pc := 33) d_Law_33 (by decide) (by decide) rfl (by decide) ?_
      exact lw_strip nm g hL Q m i (by omega) S hA σ sz hI hR hsz kk
    · refine VL.tswIn (tgt := 489) (off := 456) (pc := 33) d_Law_33 (by decide) (by decide) rfl (by decide) ?_
      exact lw_nth nm g hL Q m i (by omega) S hA σ sz hI hR hsz kk
    · refine VL.tswIn (tgt := 532) (off := 499) (pc := 33) d_Law_33 (by decide) (by decide) rfl (by decide) ?_
      exact lw_turn nm g hL Q m i (by omega) S hA σ sz hI hR hsz kk
    · refine VL.tswIn (tgt := 565) (off := 532) (pc := 33) d_Law_33 (by decide) (by decide) rfl (by decide) ?_
      exact lw_mirror nm g hL Q m i (by omega) S hA σ sz hI hR hsz kk
    · refine VL.tswIn (tgt := 598) (off := 565) (pc := 33) d_Law_33 (by decide) (by decide) rfl (by decide) ?_
      exact lw_clear nm g hL Q m i (by omega) S hA σ sz hI hR hsz kk
    · refine VL.tswIn (tgt := 621) (off := 588) (pc := 33) d_Law_33 (by decide) (by decide) rfl (by decide) ?_
      exact lw_kind nm g hL Q m i (by omega) S hA σ sz hI hR hsz kk
    · refine VL.tswIn (tgt := 644) (off := 611) (pc := 33) d_Law_33 (by decide) (by decide) rfl (by decide) ?_
      exact lw_is nm g hL Q m i (by omega) S hA σ sz hI hR hsz kk
    · refine VL.tswIn (tgt := 677) (off := 644) (pc := 33) d_Law_33 (by decide) (by decide) rfl (by decide) ?_
      exact lw_as nm g hL Q m i (by omega) S hA σ sz hI hR hsz kk
    · refine VL.tswIn (tgt := 710) (off := 677) (pc := 33) d_Law_33 (by decide) (by decide) rfl (by decide) ?_
      exact lw_ask nm g hL Q m i (by omega) S hA σ sz hI hR hsz kk
    · refine VL.tswIn (tgt := 743) (off := 710) (pc := 33) d_Law_33 (by decide) (by decide) rfl (by decide) ?_
      exact lw_trace nm g hL Q m i (by omega) S hA σ sz hI hR hsz kk
    · refine VL.tswIn (tgt := 766) (off := 733) (pc := 33) d_Law_33 (by decide) (by decide) rfl (by decide) ?_
      exact lw_sign nm g hL Q m i (by omega) S hA σ sz hI hR hsz kk
    · refine VL.tswIn (tgt := 799) (off := 766) (pc := 33) d_Law_33 (by decide) (by decide) rfl (by decide) ?_
      exact lw_joined nm g hL Q m i (by omega) S hA σ sz hI hR hsz kk
    · refine VL.tswIn (tgt := 832) (off := 799) (pc := 33) d_Law_33 (by decide) (by decide) rfl (by decide) ?_
      exact lw_rank nm g hL Q m i (by omega) S hA σ sz hI hR hsz kk
    · refine VL.tswIn (tgt := 855) (off := 822) (pc := 33) d_Law_33 (by decide) (by decide) rfl (by decide) ?_
      exact lw_loops nm g hL Q m i (by omega) S hA σ sz hI hR hsz kk
    · refine VL.tswIn (tgt := 888) (off := 855) (pc := 33) d_Law_33 (by decide) (by decide) rfl (by decide) ?_
      exact lw_way nm g hL Q m i (by omega) S hA σ sz hI hR hsz kk
    · refine VL.tswIn (tgt := 931) (off := 898) (pc := 33) d_Law_33 (by decide) (by decide) rfl (by decide) ?_
      exact lw_lands nm g hL Q m i (by omega) S hA σ sz hI hR hsz kk
    · refine VL.tswIn (tgt := 964) (off := 931) (pc := 33) d_Law_33 (by decide) (by decide) rfl (by decide) ?_
      exact lw_unlike nm g hL Q m i (by omega) S hA σ sz hI hR hsz kk
    · refine VL.tswIn (tgt := 987) (off := 954) (pc := 33) d_Law_33 (by decide) (by decide) rfl (by decide) ?_
      exact lw_sum nm g hL Q m i (by omega) S hA σ sz hI hR hsz kk
    · refine VL.tswIn (tgt := 1021) (off := 988) (pc := 33) d_Law_33 (by decide) (by decide) rfl (by decide) ?_
      exact lw_stamp nm g hL Q m i (by omega) S hA σ sz hI hR hsz kk
    · refine VL.tswIn (tgt := 1054) (off := 1021) (pc := 33) d_Law_33 (by decide) (by decide) rfl (by decide) ?_
      exact lw_clash nm g hL Q m i (by omega) S hA σ sz hI hR hsz kk
    · refine VL.tswIn (tgt := 1087) (off := 1054) (pc := 33) d_Law_33 (by decide) (by decide) rfl (by decide) ?_
      exact lw_folds nm g hL Q m i (by omega) S hA σ sz hI hR hsz kk
    · refine VL.tswIn (tgt := 1110) (off := 1077) (pc := 33) d_Law_33 (by decide) (by decide) rfl (by decide) ?_
      exact lw_nthFold nm g hL Q m i (by omega) S hA σ sz hI hR hsz kk
    · refine VL.tswIn (tgt := 1153) (off := 1120) (pc := 33) d_Law_33 (by decide) (by decide) rfl (by decide) ?_
      exact lw_count nm g hL Q m i (by omega) S hA σ sz hI hR hsz kk
    · refine VL.tswIn (tgt := 1176) (off := 1143) (pc := 33) d_Law_33 (by decide) (by decide) rfl (by decide) ?_
      exact lw_status nm g hL Q m i (by omega) S hA σ sz hI hR hsz kk
    · refine VL.tswOut (tgt := 1189) (pc := 33) d_Law_33 (by omega) (by decide) ?_
      exact VL.less (by omega) (by omega) (kk S hA σ sz hI hR hsz)
