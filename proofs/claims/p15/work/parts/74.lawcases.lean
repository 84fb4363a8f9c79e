/-! ===== the law's cases ===== -/
theorem zl_eq {L : Nat} {xs : Nat → Int32} {b1 b : Nat} {V : Nat → Int → List Value → zq_S → zq_S → Prop} {pc : Nat} {i : Int} {st : List Value} {σ ρ : zq_S} (hV : zl_R L xs b1 b V) {x : Int32} (tgt : Nat) {off : Int} (d : decode code pc = .ok (.if_icmp .eq off, 3)) (ht : (pc : Int) + off = (tgt : Int)) (k : V tgt i st σ ρ) : V pc i (.int x :: .int x :: st) σ ρ := by
  obtain ⟨p, l, e, s, m, below, meth, c, D, cA, E, hb1, rfl⟩ := hV
  intro H locs lsA hH hl
  exact lv_icmp_eq E.1 E.2.1 d ht (fun _ => k H locs lsA hH hl) (fun h => absurd rfl h)
theorem zl_inL (v : Int64) : zq_inL v.toInt := by
  have h1 := Int64.le_toInt v
  have h2 := Int64.toInt_lt v
  exact ⟨h1, by omega⟩
theorem zl_case0 {L : Nat} {xs : Nat → Int32} {b1 b : Nat} {V : Nat → Int → List Value → zq_S → zq_S → Prop} {i : Int} {σ ρ : zq_S} (hV : zl_R L xs b1 b V) (hi : 0 ≤ i ∧ i + 6 ≤ (L : Int)) (hI : zl_I σ ρ) (hend : ∀ σ ρ, zl_I σ ρ → V 1311 i [] σ ρ) : V 204 i [] σ ρ := by
  obtain ⟨h1, h2, h3, hM, hO, hK, hU, hT, hW, ⟨ht, hT2, hT3⟩, hTN⟩ := hI
  refine zl_a1 (pc := 204) hV dL_law_204 ?_
  refine zl_arg (pc := 205) hV (k0 := 1) (by decide) hi dL_law_205 dL_law_206 dL_law_207 dL_law_208 dL_law_209 ?_
  refine zl_arg (pc := 210) hV (k0 := 2) (by decide) hi dL_law_210 dL_law_211 dL_law_212 dL_law_213 dL_law_214 ?_
  refine zl_arg (pc := 215) hV (k0 := 3) (by decide) hi dL_law_215 dL_law_216 dL_law_217 dL_law_218 dL_law_219 ?_
  refine zl_X (pc := 220) hV [ZI (zl_x xs (i + 1)), ZI (zl_x xs (i + 2)), ZI (zl_x xs (i + 3))] (c_X11_begin_3 (σ := σ) h1 (zl_x xs (i + 1)) (zl_x xs (i + 2)) (zl_x xs (i + 3)) (zl_xin _ _) (zl_xin _ _) (zl_xin _ _) h2) mL_13 dL_law_220 (by decide) (by decide) rfl (fun r σ1 hp => ?_)
  obtain ⟨v, rfl, -, g1, gF, gp, gw, g2⟩ := hp
  refine zl_pop (pc := 223) hV dL_law_223 ?_
  refine zl_a2 (pc := 224) hV dL_law_224 ?_
  refine zl_arg (pc := 225) hV (k0 := 1) (by decide) hi dL_law_225 dL_law_226 dL_law_227 dL_law_228 dL_law_229 ?_
  refine zl_arg (pc := 230) hV (k0 := 2) (by decide) hi dL_law_230 dL_law_231 dL_law_232 dL_law_233 dL_law_234 ?_
  refine zl_arg (pc := 235) hV (k0 := 3) (by decide) hi dL_law_235 dL_law_236 dL_law_237 dL_law_238 dL_law_239 ?_
  refine zl_M (pc := 240) hV [ZI (zl_x xs (i + 1)), ZI (zl_x xs (i + 2)), ZI (zl_x xs (i + 3))] (c_X12_begin4 (σ := ρ) h3 (zl_x xs (i + 1)) (zl_x xs (i + 2)) (zl_x xs (i + 3)) (zl_xin _ _) (zl_xin _ _) (zl_xin _ _) hM hO hK hU hT hW) mL_17 dL_law_240 (by decide) (Nat.le_of_ble_eq_true rfl) rfl (fun r ρ1 hp => ?_)
  obtain ⟨u, rfl, -, k3, hf, kp, kw, M1, O1, K1, U1, T1, W1⟩ := hp
  have hq := ht.1
  have hN : zu_tie σ1 ρ1 ∧ u = v := by
    by_cases hB : 2 ≤ zl_x xs (i + 1) ∧ zl_x xs (i + 1) ≤ 8 ∧ 1 ≤ zl_x xs (i + 2) ∧ zl_x xs (i + 2) ≤ 3 ∧ 6 ≤ zl_x xs (i + 3) ∧ zl_x xs (i + 3) ≤ 12
    · have c := gp.1 hB
      have r := kp.1 hB
      exact ⟨⟨⟨⟨by omega, by omega, by omega, by omega, by omega⟩, fun j j0 j3 => ⟨by rw [gF 277 j (zc_out_ar zc_s277 rfl), hf 38 j (by omega)]; exact (ht.2 j j0 j3).1, by rw [gF 278 j (zc_out_ar zc_s278 rfl), hf 39 j (by omega)]; exact (ht.2 j j0 j3).2⟩⟩, zu_T2_fr (gF 1 1 (zc_out_at zc_s1 rfl)) (fun j => gF 2 j (zc_out_ar zc_s2 rfl)) (hf 0 14 (by omega)) (fun j => hf 10 j (by omega)) hT2, zu_T3_0 hT3.2.1 (fun j => gF 10 j (zc_out_ar zc_s10 rfl)) (gF 3 5 (zc_out_at zc_s3 rfl)) (by omega) (by omega) (by omega) (by omega) (gw.1 hB).1 (by omega)⟩, by omega⟩
    · have es : σ1 = σ := funext (fun x => funext (fun i => gw.2 hB x i))
      have er : ρ1 = ρ := funext (fun x => funext (fun i => kw.2 hB x i))
      have c := gp.2 hB
      have r := kp.2 hB
      rw [es, er]
      exact ⟨⟨ht, hT2, hT3⟩, by omega⟩
  obtain ⟨hN, eqv⟩ := hN
  have tN : zu_TN σ1 ρ1 := (by by_cases hB : 2 ≤ zl_x xs (i + 1) ∧ zl_x xs (i + 1) ≤ 8 ∧ 1 ≤ zl_x xs (i + 2) ∧ zl_x xs (i + 2) ≤ 3 ∧ 6 ≤ zl_x xs (i + 3) ∧ zl_x xs (i + 3) ≤ 12; (have c := gp.1 hB; have r := kp.1 hB; exact zu_TN_0 (gF 134 0 (zc_out_at zc_s134 rfl)) hTN.1 (by omega)); exact (by have es : σ1 = σ := funext (fun x => funext (fun i => gw.2 hB x i)); have er : ρ1 = ρ := funext (fun x => funext (fun i => kw.2 hB x i)); first | (rw [es, er]; exact hTN) | (rw [es]; exact hTN) | (rw [er]; exact hTN)))
  refine zl_pop (pc := 243) hV dL_law_243 ?_
  refine zl_goto (pc := 244) hV 1311 dL_law_244 (by decide) ?_
  exact hend _ _ ⟨g1, g2, k3, M1, O1, K1, U1, T1, W1, hN, tN⟩
theorem zl_case1 {L : Nat} {xs : Nat → Int32} {b1 b : Nat} {V : Nat → Int → List Value → zq_S → zq_S → Prop} {i : Int} {σ ρ : zq_S} (hV : zl_R L xs b1 b V) (hi : 0 ≤ i ∧ i + 6 ≤ (L : Int)) (hI : zl_I σ ρ) (hend : ∀ σ ρ, zl_I σ ρ → V 1311 i [] σ ρ) : V 247 i [] σ ρ := by
  obtain ⟨h1, h2, h3, hM, hO, hK, hU, hT, hW, ⟨ht, hT2, hT3⟩, hTN⟩ := hI
  refine zl_a1 (pc := 247) hV dL_law_247 ?_
  refine zl_arg (pc := 248) hV (k0 := 1) (by decide) hi dL_law_248 dL_law_249 dL_law_250 dL_law_251 dL_law_252 ?_
  refine zl_long (pc := 253) (y := 0) hV _ dL_law_253 ?_
  refine zl_shl (pc := 254) hV dL_law_254 dL_law_256 ?_
  refine zl_arg (pc := 257) hV (k0 := 2) (by decide) hi dL_law_257 dL_law_258 dL_law_259 dL_law_260 dL_law_261 ?_
  refine zl_long (pc := 262) (y := 0) hV _ dL_law_262 ?_
  refine zl_or (pc := 263) hV kL_18 dL_law_263 dL_law_266 dL_law_267 ?_
  refine zl_arg (pc := 268) hV (k0 := 3) (by decide) hi dL_law_268 dL_law_269 dL_law_270 dL_law_271 dL_law_272 ?_
  refine zl_X (pc := 273) hV [ZL _, ZI (zl_x xs (i + 3))] (c_X11_type_2 (σ := σ) h1 _ (zl_x xs (i + 3)) (zl_inL _) (zl_xin _ _) h2) mL_20 dL_law_273 (by decide) (by decide) rfl (fun r σ1 hp => ?_)
  obtain ⟨v, rfl, -, g1, gF, gp, gw, g2⟩ := hp
  refine zl_pop (pc := 276) hV dL_law_276 ?_
  refine zl_a2 (pc := 277) hV dL_law_277 ?_
  refine zl_arg (pc := 278) hV (k0 := 1) (by decide) hi dL_law_278 dL_law_279 dL_law_280 dL_law_281 dL_law_282 ?_
  refine zl_long (pc := 283) (y := 0) hV _ dL_law_283 ?_
  refine zl_shl (pc := 284) hV dL_law_284 dL_law_286 ?_
  refine zl_arg (pc := 287) hV (k0 := 2) (by decide) hi dL_law_287 dL_law_288 dL_law_289 dL_law_290 dL_law_291 ?_
  refine zl_long (pc := 292) (y := 0) hV _ dL_law_292 ?_
  refine zl_or (pc := 293) hV kL_18 dL_law_293 dL_law_296 dL_law_297 ?_
  refine zl_arg (pc := 298) hV (k0 := 3) (by decide) hi dL_law_298 dL_law_299 dL_law_300 dL_law_301 dL_law_302 ?_
  refine zl_M (pc := 303) hV [ZL _, ZI (zl_x xs (i + 3))] (c_X12_type2 (σ := ρ) h3 _ (zl_x xs (i + 3)) (zl_inL _) (zl_xin _ _)) mL_24 dL_law_303 (by decide) (Nat.le_of_ble_eq_true rfl) rfl (fun r ρ1 hp => ?_)
  obtain ⟨u, rfl, -, k3, hf, kp, kw⟩ := hp
  obtain ⟨eqv, t2⟩ := zu_T2_type hT2 gw kw
  have tN : zu_TN σ1 ρ1 := (by have o3 : ρ1 0 3 = ρ 0 3 := (hf 0 3 (by omega)); exact zu_TN_fr h3 hO (zs_gg_mk hT3) (gF 134 0 (zc_out_at zc_s134 rfl)) (Int.le_of_eq o3) (fun o o0 o1 => by have z3 := zx_g3 h3; have ka := zc_ga10 h1 zc_s10 o o0 (by omega); rw [show σ1 10 o = σ 10 o from (fun j => gF 10 j (zc_out_ar zc_s10 rfl)) o]; exact ⟨gF _ 15 (zc_out_at ka rfl), gF _ 16 (zc_out_at ka rfl)⟩) (fun o o0 o1 => ⟨hf 3 o (by omega), hf 4 o (by omega), hf 5 o (by omega), fun i _ _ => hf 6 i (by omega), hf 8 o (by omega), hf 9 o (by omega)⟩) hTN)
  refine zl_pop (pc := 306) hV dL_law_306 ?_
  refine zl_goto (pc := 307) hV 1311 dL_law_307 (by decide) ?_
  exact hend _ _ ⟨g1, g2, k3, (zx_M_fr (fun i => hf 18 i (by omega)) (hf 0 30 (by omega)) (hf 0 2 (by omega)) (hf 0 3 (by omega)) hM), (zx_O_fr (fun i => hf 2 i (by omega)) (fun i => hf 5 i (by omega)) (fun i => hf 6 i (by omega)) (hf 0 2 (by omega)) (hf 0 3 (by omega)) hO), (zx_K_fr (fun i => hf 14 i (by omega)) (hf 0 2 (by omega)) hK), (zx_U_fr (hf 0 36 (by omega)) (hf 0 37 (by omega)) (fun i => hf 21 i (by omega)) (fun i => hf 23 i (by omega)) (fun i => hf 24 i (by omega)) hU), (zx_TK_fr (fun i => hf 7 i (by omega)) (hf 0 3 (by omega)) hT), (zx_W_fr (fun i => hf 18 i (by omega)) (hf 0 30 (by omega)) (hf 0 2 (by omega)) (hf 0 3 (by omega)) (fun i => hf 2 i (by omega)) hW), ⟨(zt_fr ht (gF 3 0 (zc_out_at zc_s3 rfl)) (gF 3 1 (zc_out_at zc_s3 rfl)) (gF 3 2 (zc_out_at zc_s3 rfl)) (gF 140 12 (zc_out_at zc_s140 rfl)) (gF 255 4 (zc_out_at zc_s255 rfl)) (fun j => gF 277 j (zc_out_ar zc_s277 rfl)) (fun j => gF 278 j (zc_out_ar zc_s278 rfl)) (hf 0 0 (by omega)) (hf 0 1 (by omega)) (hf 0 2 (by omega)) (hf 0 29 (by omega)) (hf 0 35 (by omega)) (fun j => hf 38 j (by omega)) (fun j => hf 39 j (by omega))), t2, (zu_T3_same h3 hT3 ⟨(gF 3 3 (zc_out_at zc_s3 rfl)), (gF 3 5 (zc_out_at zc_s3 rfl)), (fun j => gF 10 j (zc_out_ar zc_s10 rfl)), (fun j => gF 11 j (zc_out_ar zc_s11 rfl))⟩ (by rw [gF 3 4 (zc_out_at zc_s3 rfl), hf 0 18 (by omega)]; exact hT3.1.2) (hf 0 3 (by omega)) (hf 0 0 (by omega)) (hf 0 1 (by omega)) (hf 0 2 (by omega)) (fun o o0 o1 => by have ka := zc_ga10 h1 zc_s10 o o0 (by have := zx_g3 h3; omega); exact ⟨⟨gF _ 0 (zc_out_at ka rfl), gF _ 1 (zc_out_at ka rfl), gF _ 2 (zc_out_at ka rfl), gF _ 4 (zc_out_at ka rfl), gF _ 5 (zc_out_at ka rfl), gF _ 6 (zc_out_at ka rfl), gF _ 11 (zc_out_at ka rfl), gF _ 12 (zc_out_at ka rfl), gF _ 13 (zc_out_at ka rfl)⟩, zu_cfk (fun i => gF _ i (zc_out_ar (zc_p4_1 ka) rfl)) (fun i => gF _ i (zc_out_ar (zc_p4_2 ka) rfl)) (fun i => gF _ i (zc_out_ar (zc_p4_3 ka) rfl)) (fun i => gF _ i (zc_out_ar (zc_p4_4 ka) rfl)) (fun i => gF _ i (zc_out_ar (zc_p4_5 ka) rfl))⟩) (fun o o0 o1 => ⟨hf 1 o (by omega), fun i _ _ => hf 2 i (by omega), hf 3 o (by omega), hf 4 o (by omega), hf 5 o (by omega), hf 7 o (by omega), fun i _ _ => hf 6 i (by omega)⟩))⟩, tN⟩
theorem zl_case2 {L : Nat} {xs : Nat → Int32} {b1 b : Nat} {V : Nat → Int → List Value → zq_S → zq_S → Prop} {i : Int} {σ ρ : zq_S} (hV : zl_R L xs b1 b V) (hi : 0 ≤ i ∧ i + 6 ≤ (L : Int)) (hI : zl_I σ ρ) (hend : ∀ σ ρ, zl_I σ ρ → V 1311 i [] σ ρ) : V 310 i [] σ ρ := by
  obtain ⟨h1, h2, h3, hM, hO, hK, hU, hT, hW, ⟨ht, hT2, hT3⟩, hTN⟩ := hI
  refine zl_a1 (pc := 310) hV dL_law_310 ?_
  refine zl_X (pc := 311) hV [] (c_X11_order_2 (σ := σ) h1 (σ 3 5) rfl (zc_g3_5 h1 zc_s3) (fun i i0 i1 => (hT3.2.1 i i0 i1).1) h2) mL_25 dL_law_311 (by decide) (by decide) rfl (fun r σ1 hp => ?_)
  obtain ⟨v, rfl, -, g1, gF, gO, gp, gw, g2⟩ := hp
  refine zl_pop (pc := 314) hV dL_law_314 ?_
  refine zl_a2 (pc := 315) hV dL_law_315 ?_
  refine zl_M (pc := 316) hV [] (c_X12_order4 (σ := ρ) h3  (fun i i0 i1 => by rw [← hT2.2 i]; exact (zc_ga2 h1 zc_s2 i).1) hM hO hT hW) mL_29 dL_law_316 (by decide) (Nat.le_of_ble_eq_true rfl) rfl (fun r ρ1 hp => ?_)
  obtain ⟨u, rfl, -, k3, hf, kp, kw, M1, O1, T1, W1⟩ := hp
  obtain ⟨eqv, t3⟩ := zu_T3_order h1 h3 k3 ⟨ht.1.1, ht.1.2.1, ht.1.2.2.1⟩ hT2 hT3 rfl (zc_g3_5 h1 zc_s3) gO gw kw.1 (hf 0 0 (by omega)) (hf 0 1 (by omega)) (hf 0 2 (by omega)) (fun o o0 o1 => ⟨hf 1 o (by omega), fun i _ _ => hf 2 i (by omega), hf 3 o (by omega), hf 4 o (by omega), hf 5 o (by omega), hf 7 o (by omega), fun i _ _ => hf 6 i (by omega)⟩)
  have t2 : zu_T2 σ1 ρ1 := ⟨by omega, fun i => by rw [gF 2 i (zc_out_ar zc_s2 rfl), hf 10 i (by omega)]; exact hT2.2 i⟩
  have tN : zu_TN σ1 ρ1 := zn_tell h1 h3 hO hT3 rfl (zc_g3_5 h1 zc_s3) gO (gF 134 0 (zc_out_at zc_s134 rfl)) (zn_oc gw) t3.1.1 kw.2 (fun o o0 o1 => ⟨hf 3 o (by omega), hf 4 o (by omega), hf 5 o (by omega), fun i _ _ => hf 6 i (by omega)⟩) hTN
  refine zl_pop (pc := 319) hV dL_law_319 ?_
  refine zl_goto (pc := 320) hV 1311 dL_law_320 (by decide) ?_
  exact hend _ _ ⟨g1, g2, k3, M1, O1, (zx_K_fr (fun i => hf 14 i (by omega)) (hf 0 2 (by omega)) hK), (zx_U_fr (hf 0 36 (by omega)) (hf 0 37 (by omega)) (fun i => hf 21 i (by omega)) (fun i => hf 23 i (by omega)) (fun i => hf 24 i (by omega)) hU), T1, W1, ⟨(zt_fr ht (gF 3 0 (zc_out_at zc_s3 rfl)) (gF 3 1 (zc_out_at zc_s3 rfl)) (gF 3 2 (zc_out_at zc_s3 rfl)) (gF 140 12 (zc_out_at zc_s140 rfl)) (gF 255 4 (zc_out_at zc_s255 rfl)) (fun j => gF 277 j (zc_out_ar zc_s277 rfl)) (fun j => gF 278 j (zc_out_ar zc_s278 rfl)) (hf 0 0 (by omega)) (hf 0 1 (by omega)) (hf 0 2 (by omega)) (hf 0 29 (by omega)) (hf 0 35 (by omega)) (fun j => hf 38 j (by omega)) (fun j => hf 39 j (by omega))), t2, t3⟩, tN⟩
theorem zl_case3 {L : Nat} {xs : Nat → Int32} {b1 b : Nat} {V : Nat → Int → List Value → zq_S → zq_S → Prop} {i : Int} {σ ρ : zq_S} (hV : zl_R L xs b1 b V) (hi : 0 ≤ i ∧ i + 6 ≤ (L : Int)) (hI : zl_I σ ρ) (hend : ∀ σ ρ, zl_I σ ρ → V 1311 i [] σ ρ) : V 323 i [] σ ρ := by
  obtain ⟨h1, h2, h3, hM, hO, hK, hU, hT, hW, ⟨ht, hT2, hT3⟩, hTN⟩ := hI
  refine zl_a1 (pc := 323) hV dL_law_323 ?_
  refine zl_X (pc := 324) hV [] (c_X11_shared (σ := σ) h1   h2) mL_30 dL_law_324 (by decide) (by decide) rfl (fun r σ1 hp => ?_)
  obtain ⟨rfl, v, rfl, -, gp⟩ := hp
  refine zl_pop (pc := 327) hV dL_law_327 ?_
  refine zl_a2 (pc := 328) hV dL_law_328 ?_
  refine zl_M (pc := 329) hV [] (c_X12_shared (σ := ρ) h3  ) mL_33 dL_law_329 (by decide) (Nat.le_of_ble_eq_true rfl) rfl (fun r ρ1 hp => ?_)
  obtain ⟨rfl, u, rfl, -, kp⟩ := hp
  have tN := hTN
  refine zl_pop (pc := 332) hV dL_law_332 ?_
  refine zl_goto (pc := 333) hV 1311 dL_law_333 (by decide) ?_
  exact hend _ _ ⟨h1, h2, h3, hM, hO, hK, hU, hT, hW, ⟨ht, hT2, hT3⟩, tN⟩
theorem zl_case4 {L : Nat} {xs : Nat → Int32} {b1 b : Nat} {V : Nat → Int → List Value → zq_S → zq_S → Prop} {i : Int} {σ ρ : zq_S} (hV : zl_R L xs b1 b V) (hi : 0 ≤ i ∧ i + 6 ≤ (L : Int)) (hI : zl_I σ ρ) (hend : ∀ σ ρ, zl_I σ ρ → V 1311 i [] σ ρ) : V 336 i [] σ ρ := by
  obtain ⟨h1, h2, h3, hM, hO, hK, hU, hT, hW, ⟨ht, hT2, hT3⟩, hTN⟩ := hI
  refine zl_a1 (pc := 336) hV dL_law_336 ?_
  refine zl_X (pc := 337) hV [] (c_X11_unorder_2 (σ := σ) h1   h2) mL_34 dL_law_337 (by decide) (by decide) rfl (fun r σ1 hp => ?_)
  obtain ⟨v, rfl, -, g1, gF, gp, gw, g2⟩ := hp
  refine zl_pop (pc := 340) hV dL_law_340 ?_
  refine zl_a2 (pc := 341) hV dL_law_341 ?_
  refine zl_M (pc := 342) hV [] (c_X12_unorder3 (σ := ρ) h3  hM hO hT hW) mL_37 dL_law_342 (by decide) (Nat.le_of_ble_eq_true rfl) rfl (fun r ρ1 hp => ?_)
  obtain ⟨u, rfl, -, k3, hf, kp, M1, O1, T1, W1⟩ := hp
  obtain ⟨eqv, t3⟩ := zu_T3_unorder h3 ht.1.2.2.1 hT3 gp gw kp (gF 3 4 (zc_out_at zc_s3 rfl)) (gF 3 5 (zc_out_at zc_s3 rfl)) (fun j => gF 10 j (zc_out_ar zc_s10 rfl)) (fun o o0 o1 => by have ka := zc_ga10 h1 zc_s10 o o0 o1; exact ⟨⟨gF _ 0 (zc_out_at ka rfl), gF _ 1 (zc_out_at ka rfl), gF _ 2 (zc_out_at ka rfl), gF _ 4 (zc_out_at ka rfl), gF _ 5 (zc_out_at ka rfl), gF _ 6 (zc_out_at ka rfl), gF _ 11 (zc_out_at ka rfl), gF _ 12 (zc_out_at ka rfl), gF _ 13 (zc_out_at ka rfl)⟩, zu_cfk (fun i => gF _ i (zc_out_ar (zc_p4_1 ka) rfl)) (fun i => gF _ i (zc_out_ar (zc_p4_2 ka) rfl)) (fun i => gF _ i (zc_out_ar (zc_p4_3 ka) rfl)) (fun i => gF _ i (zc_out_ar (zc_p4_4 ka) rfl)) (fun i => gF _ i (zc_out_ar (zc_p4_5 ka) rfl))⟩) (hf 0 18 (by omega)) (hf 0 0 (by omega)) (hf 0 1 (by omega)) (hf 0 2 (by omega)) (fun o o0 o1 => ⟨hf 1 o (by omega), fun i _ _ => hf 2 i (by omega), hf 3 o (by omega), hf 4 o (by omega), hf 5 o (by omega), hf 7 o (by omega), fun i _ _ => hf 6 i (by omega)⟩)
  have tN : zu_TN σ1 ρ1 := (by have o3 : ρ1 0 3 ≤ ρ 0 3 := (by have z3 := zx_g3 h3; omega); exact zu_TN_fr h3 hO (zs_gg_mk hT3) (gF 134 0 (zc_out_at zc_s134 rfl)) o3 (fun o o0 o1 => by have z3 := zx_g3 h3; have ka := zc_ga10 h1 zc_s10 o o0 (by omega); rw [show σ1 10 o = σ 10 o from (fun j => gF 10 j (zc_out_ar zc_s10 rfl)) o]; exact ⟨gF _ 15 (zc_out_at ka rfl), gF _ 16 (zc_out_at ka rfl)⟩) (fun o o0 o1 => ⟨hf 3 o (by omega), hf 4 o (by omega), hf 5 o (by omega), fun i _ _ => hf 6 i (by omega), hf 8 o (by omega), hf 9 o (by omega)⟩) hTN)
  refine zl_pop (pc := 345) hV dL_law_345 ?_
  refine zl_goto (pc := 346) hV 1311 dL_law_346 (by decide) ?_
  exact hend _ _ ⟨g1, g2, k3, M1, O1, (zx_K_fr (fun i => hf 14 i (by omega)) (hf 0 2 (by omega)) hK), (zx_U_fr (hf 0 36 (by omega)) (hf 0 37 (by omega)) (fun i => hf 21 i (by omega)) (fun i => hf 23 i (by omega)) (fun i => hf 24 i (by omega)) hU), T1, W1, ⟨(zt_fr ht (gF 3 0 (zc_out_at zc_s3 rfl)) (gF 3 1 (zc_out_at zc_s3 rfl)) (gF 3 2 (zc_out_at zc_s3 rfl)) (gF 140 12 (zc_out_at zc_s140 rfl)) (gF 255 4 (zc_out_at zc_s255 rfl)) (fun j => gF 277 j (zc_out_ar zc_s277 rfl)) (fun j => gF 278 j (zc_out_ar zc_s278 rfl)) (hf 0 0 (by omega)) (hf 0 1 (by omega)) (hf 0 2 (by omega)) (hf 0 29 (by omega)) (hf 0 35 (by omega)) (fun j => hf 38 j (by omega)) (fun j => hf 39 j (by omega))), (zu_T2_fr (gF 1 1 (zc_out_at zc_s1 rfl)) (fun j => gF 2 j (zc_out_ar zc_s2 rfl)) (hf 0 14 (by omega)) (fun j => hf 10 j (by omega)) hT2), t3⟩, tN⟩
theorem zl_case5 {L : Nat} {xs : Nat → Int32} {b1 b : Nat} {V : Nat → Int → List Value → zq_S → zq_S → Prop} {i : Int} {σ ρ : zq_S} (hV : zl_R L xs b1 b V) (hi : 0 ≤ i ∧ i + 6 ≤ (L : Int)) (hI : zl_I σ ρ) (hend : ∀ σ ρ, zl_I σ ρ → V 1311 i [] σ ρ) : V 349 i [] σ ρ := by
  obtain ⟨h1, h2, h3, hM, hO, hK, hU, hT, hW, ⟨ht, hT2, hT3⟩, hTN⟩ := hI
  refine zl_a1 (pc := 349) hV dL_law_349 ?_
  refine zl_arg (pc := 350) hV (k0 := 1) (by decide) hi dL_law_350 dL_law_351 dL_law_352 dL_law_353 dL_law_354 ?_
  refine zl_arg (pc := 355) hV (k0 := 2) (by decide) hi dL_law_355 dL_law_356 dL_law_357 dL_law_358 dL_law_359 ?_
  refine zl_X (pc := 360) hV [ZI (zl_x xs (i + 1)), ZI (zl_x xs (i + 2))] (c_X11_about (σ := σ) h1 (zl_x xs (i + 1)) (zl_x xs (i + 2)) (zl_xin _ _) (zl_xin _ _) h2) mL_38 dL_law_360 (by decide) (by decide) rfl (fun r σ1 hp => ?_)
  obtain ⟨rfl, v, rfl, -, gp⟩ := hp
  refine zl_pop (pc := 363) hV dL_law_363 ?_
  refine zl_a2 (pc := 364) hV dL_law_364 ?_
  refine zl_arg (pc := 365) hV (k0 := 1) (by decide) hi dL_law_365 dL_law_366 dL_law_367 dL_law_368 dL_law_369 ?_
  refine zl_arg (pc := 370) hV (k0 := 2) (by decide) hi dL_law_370 dL_law_371 dL_law_372 dL_law_373 dL_law_374 ?_
  refine zl_M (pc := 375) hV [ZI (zl_x xs (i + 1)), ZI (zl_x xs (i + 2))] (c_X12_about (σ := ρ) h3 (zl_x xs (i + 1)) (zl_x xs (i + 2)) (zl_xin _ _) (zl_xin _ _)) mL_42 dL_law_375 (by decide) (Nat.le_of_ble_eq_true rfl) rfl (fun r ρ1 hp => ?_)
  obtain ⟨rfl, u, rfl, -, kp⟩ := hp
  have tN := hTN
  refine zl_pop (pc := 378) hV dL_law_378 ?_
  refine zl_goto (pc := 379) hV 1311 dL_law_379 (by decide) ?_
  exact hend _ _ ⟨h1, h2, h3, hM, hO, hK, hU, hT, hW, ⟨ht, hT2, hT3⟩, tN⟩
theorem zl_case6 {L : Nat} {xs : Nat → Int32} {b1 b : Nat} {V : Nat → Int → List Value → zq_S → zq_S → Prop} {i : Int} {σ ρ : zq_S} (hV : zl_R L xs b1 b V) (hi : 0 ≤ i ∧ i + 6 ≤ (L : Int)) (hI : zl_I σ ρ) (hend : ∀ σ ρ, zl_I σ ρ → V 1311 i [] σ ρ) : V 382 i [] σ ρ := by
  obtain ⟨h1, h2, h3, hM, hO, hK, hU, hT, hW, ⟨ht, hT2, hT3⟩, hTN⟩ := hI
  refine zl_a1 (pc := 382) hV dL_law_382 ?_
  refine zl_arg (pc := 383) hV (k0 := 1) (by decide) hi dL_law_383 dL_law_384 dL_law_385 dL_law_386 dL_law_387 ?_
  refine zl_X (pc := 388) hV [ZI (zl_x xs (i + 1))] (c_X11_look (σ := σ) h1 (zl_x xs (i + 1)) (zl_xin _ _) h2) mL_43 dL_law_388 (by decide) (by decide) rfl (fun r σ1 hp => ?_)
  obtain ⟨rfl, v, rfl, -, gp⟩ := hp
  refine zl_pop (pc := 391) hV dL_law_391 ?_
  refine zl_a2 (pc := 392) hV dL_law_392 ?_
  refine zl_arg (pc := 393) hV (k0 := 1) (by decide) hi dL_law_393 dL_law_394 dL_law_395 dL_law_396 dL_law_397 ?_
  refine zl_M (pc := 398) hV [ZI (zl_x xs (i + 1))] (c_X12_lookW (σ := ρ) h3 (zl_x xs (i + 1)) (zl_xin _ _) hM hW) mL_47 dL_law_398 (by decide) (Nat.le_of_ble_eq_true rfl) rfl (fun r ρ1 hp => ?_)
  obtain ⟨u, rfl, -, k3, hf, kp, M1, W1⟩ := hp
  have tN : zu_TN σ1 ρ1 := (by have o3 : ρ1 0 3 = ρ 0 3 := (hf 0 3 (by omega)); exact zu_TN_fr h3 hO (zs_gg_mk hT3) rfl (Int.le_of_eq o3) (fun _ _ _ => ⟨rfl, rfl⟩) (fun o o0 o1 => ⟨hf 3 o (by omega), hf 4 o (by omega), hf 5 o (by omega), fun i _ _ => hf 6 i (by omega), hf 8 o (by omega), hf 9 o (by omega)⟩) hTN)
  refine zl_pop (pc := 401) hV dL_law_401 ?_
  refine zl_goto (pc := 402) hV 1311 dL_law_402 (by decide) ?_
  exact hend _ _ ⟨h1, h2, k3, M1, (zx_O_fr (fun i => hf 2 i (by omega)) (fun i => hf 5 i (by omega)) (fun i => hf 6 i (by omega)) (hf 0 2 (by omega)) (hf 0 3 (by omega)) hO), (zx_K_fr (fun i => hf 14 i (by omega)) (hf 0 2 (by omega)) hK), (zx_U_fr (hf 0 36 (by omega)) (hf 0 37 (by omega)) (fun i => hf 21 i (by omega)) (fun i => hf 23 i (by omega)) (fun i => hf 24 i (by omega)) hU), (zx_TK_fr (fun i => hf 7 i (by omega)) (hf 0 3 (by omega)) hT), W1, ⟨(zt_fr ht rfl rfl rfl rfl rfl (fun _ => rfl) (fun _ => rfl) (hf 0 0 (by omega)) (hf 0 1 (by omega)) (hf 0 2 (by omega)) (hf 0 29 (by omega)) (hf 0 35 (by omega)) (fun j => hf 38 j (by omega)) (fun j => hf 39 j (by omega))), (zu_T2_fr rfl (fun _ => rfl) (hf 0 14 (by omega)) (fun j => hf 10 j (by omega)) hT2), (zu_T3_same h3 hT3 ⟨rfl, rfl, (fun _ => rfl), (fun _ => rfl)⟩ (by rw [hf 0 18 (by omega)]; exact hT3.1.2) (hf 0 3 (by omega)) (hf 0 0 (by omega)) (hf 0 1 (by omega)) (hf 0 2 (by omega)) (fun o _ _ => zu_cf_rf _ _) (fun o o0 o1 => ⟨hf 1 o (by omega), fun i _ _ => hf 2 i (by omega), hf 3 o (by omega), hf 4 o (by omega), hf 5 o (by omega), hf 7 o (by omega), fun i _ _ => hf 6 i (by omega)⟩))⟩, tN⟩
theorem zl_case7 {L : Nat} {xs : Nat → Int32} {b1 b : Nat} {V : Nat → Int → List Value → zq_S → zq_S → Prop} {i : Int} {σ ρ : zq_S} (hV : zl_R L xs b1 b V) (hi : 0 ≤ i ∧ i + 6 ≤ (L : Int)) (hI : zl_I σ ρ) (hend : ∀ σ ρ, zl_I σ ρ → V 1311 i [] σ ρ) : V 405 i [] σ ρ := by
  obtain ⟨h1, h2, h3, hM, hO, hK, hU, hT, hW, ⟨ht, hT2, hT3⟩, hTN⟩ := hI
  refine zl_a1 (pc := 405) hV dL_law_405 ?_
  refine zl_arg (pc := 406) hV (k0 := 1) (by decide) hi dL_law_406 dL_law_407 dL_law_408 dL_law_409 dL_law_410 ?_
  refine zl_arg (pc := 411) hV (k0 := 2) (by decide) hi dL_law_411 dL_law_412 dL_law_413 dL_law_414 dL_law_415 ?_
  refine zl_X (pc := 416) hV [ZI (zl_x xs (i + 1)), ZI (zl_x xs (i + 2))] (c_X11_field (σ := σ) h1 (zl_x xs (i + 1)) (zl_x xs (i + 2)) (zl_xin _ _) (zl_xin _ _) h2) mL_48 dL_law_416 (by decide) (by decide) rfl (fun r σ1 hp => ?_)
  obtain ⟨rfl, v, rfl, -, gp⟩ := hp
  refine zl_pop (pc := 419) hV dL_law_419 ?_
  refine zl_a2 (pc := 420) hV dL_law_420 ?_
  refine zl_arg (pc := 421) hV (k0 := 1) (by decide) hi dL_law_421 dL_law_422 dL_law_423 dL_law_424 dL_law_425 ?_
  refine zl_arg (pc := 426) hV (k0 := 2) (by decide) hi dL_law_426 dL_law_427 dL_law_428 dL_law_429 dL_law_430 ?_
  refine zl_M (pc := 431) hV [ZI (zl_x xs (i + 1)), ZI (zl_x xs (i + 2))] (c_X12_field (σ := ρ) h3 (zl_x xs (i + 1)) (zl_x xs (i + 2)) (zl_xin _ _) (zl_xin _ _) hO) mL_51 dL_law_431 (by decide) (Nat.le_of_ble_eq_true rfl) rfl (fun r ρ1 hp => ?_)
  obtain ⟨rfl, u, rfl, -, kp⟩ := hp
  have tN := hTN
  refine zl_pop (pc := 434) hV dL_law_434 ?_
  refine zl_goto (pc := 435) hV 1311 dL_law_435 (by decide) ?_
  exact hend _ _ ⟨h1, h2, h3, hM, hO, hK, hU, hT, hW, ⟨ht, hT2, hT3⟩, tN⟩
theorem zl_case8 {L : Nat} {xs : Nat → Int32} {b1 b : Nat} {V : Nat → Int → List Value → zq_S → zq_S → Prop} {i : Int} {σ ρ : zq_S} (hV : zl_R L xs b1 b V) (hi : 0 ≤ i ∧ i + 6 ≤ (L : Int)) (hI : zl_I σ ρ) (hend : ∀ σ ρ, zl_I σ ρ → V 1311 i [] σ ρ) : V 438 i [] σ ρ := by
  obtain ⟨h1, h2, h3, hM, hO, hK, hU, hT, hW, ⟨ht, hT2, hT3⟩, hTN⟩ := hI
  refine zl_a1 (pc := 438) hV dL_law_438 ?_
  refine zl_X (pc := 439) hV [] (c_X11_holes (σ := σ) h1   h2) mL_52 dL_law_439 (by decide) (by decide) rfl (fun r σ1 hp => ?_)
  obtain ⟨rfl, v, rfl, -, gp⟩ := hp
  refine zl_pop (pc := 442) hV dL_law_442 ?_
  refine zl_a2 (pc := 443) hV dL_law_443 ?_
  refine zl_M (pc := 444) hV [] (c_X12_holesW (σ := ρ) h3  hM hW) mL_55 dL_law_444 (by decide) (Nat.le_of_ble_eq_true rfl) rfl (fun r ρ1 hp => ?_)
  obtain ⟨u, rfl, -, k3, hf, kp, M1, W1⟩ := hp
  have tN : zu_TN σ1 ρ1 := (by have o3 : ρ1 0 3 = ρ 0 3 := (hf 0 3 (by omega)); exact zu_TN_fr h3 hO (zs_gg_mk hT3) rfl (Int.le_of_eq o3) (fun _ _ _ => ⟨rfl, rfl⟩) (fun o o0 o1 => ⟨hf 3 o (by omega), hf 4 o (by omega), hf 5 o (by omega), fun i _ _ => hf 6 i (by omega), hf 8 o (by omega), hf 9 o (by omega)⟩) hTN)
  refine zl_pop (pc := 447) hV dL_law_447 ?_
  refine zl_goto (pc := 448) hV 1311 dL_law_448 (by decide) ?_
  exact hend _ _ ⟨h1, h2, k3, M1, (zx_O_fr (fun i => hf 2 i (by omega)) (fun i => hf 5 i (by omega)) (fun i => hf 6 i (by omega)) (hf 0 2 (by omega)) (hf 0 3 (by omega)) hO), (zx_K_fr (fun i => hf 14 i (by omega)) (hf 0 2 (by omega)) hK), (zx_U_fr (hf 0 36 (by omega)) (hf 0 37 (by omega)) (fun i => hf 21 i (by omega)) (fun i => hf 23 i (by omega)) (fun i => hf 24 i (by omega)) hU), (zx_TK_fr (fun i => hf 7 i (by omega)) (hf 0 3 (by omega)) hT), W1, ⟨(zt_fr ht rfl rfl rfl rfl rfl (fun _ => rfl) (fun _ => rfl) (hf 0 0 (by omega)) (hf 0 1 (by omega)) (hf 0 2 (by omega)) (hf 0 29 (by omega)) (hf 0 35 (by omega)) (fun j => hf 38 j (by omega)) (fun j => hf 39 j (by omega))), (zu_T2_fr rfl (fun _ => rfl) (hf 0 14 (by omega)) (fun j => hf 10 j (by omega)) hT2), (zu_T3_same h3 hT3 ⟨rfl, rfl, (fun _ => rfl), (fun _ => rfl)⟩ (by rw [hf 0 18 (by omega)]; exact hT3.1.2) (hf 0 3 (by omega)) (hf 0 0 (by omega)) (hf 0 1 (by omega)) (hf 0 2 (by omega)) (fun o _ _ => zu_cf_rf _ _) (fun o o0 o1 => ⟨hf 1 o (by omega), fun i _ _ => hf 2 i (by omega), hf 3 o (by omega), hf 4 o (by omega), hf 5 o (by omega), hf 7 o (by omega), fun i _ _ => hf 6 i (by omega)⟩))⟩, tN⟩
theorem zl_case9 {L : Nat} {xs : Nat → Int32} {b1 b : Nat} {V : Nat → Int → List Value → zq_S → zq_S → Prop} {i : Int} {σ ρ : zq_S} (hV : zl_R L xs b1 b V) (hi : 0 ≤ i ∧ i + 6 ≤ (L : Int)) (hI : zl_I σ ρ) (hend : ∀ σ ρ, zl_I σ ρ → V 1311 i [] σ ρ) : V 451 i [] σ ρ := by
  obtain ⟨h1, h2, h3, hM, hO, hK, hU, hT, hW, ⟨ht, hT2, hT3⟩, hTN⟩ := hI
  refine zl_a1 (pc := 451) hV dL_law_451 ?_
  refine zl_arg (pc := 452) hV (k0 := 1) (by decide) hi dL_law_452 dL_law_453 dL_law_454 dL_law_455 dL_law_456 ?_
  refine zl_X (pc := 457) hV [ZI (zl_x xs (i + 1))] (c_X11_hole (σ := σ) h1 (zl_x xs (i + 1)) (zl_xin _ _) h2) mL_56 dL_law_457 (by decide) (by decide) rfl (fun r σ1 hp => ?_)
  obtain ⟨rfl, v, rfl, -, gp⟩ := hp
  refine zl_pop (pc := 460) hV dL_law_460 ?_
  refine zl_a2 (pc := 461) hV dL_law_461 ?_
  refine zl_arg (pc := 462) hV (k0 := 1) (by decide) hi dL_law_462 dL_law_463 dL_law_464 dL_law_465 dL_law_466 ?_
  refine zl_M (pc := 467) hV [ZI (zl_x xs (i + 1))] (c_X12_holeW (σ := ρ) h3 (zl_x xs (i + 1)) (zl_xin _ _) hM hW) mL_59 dL_law_467 (by decide) (Nat.le_of_ble_eq_true rfl) rfl (fun r ρ1 hp => ?_)
  obtain ⟨u, rfl, -, k3, hf, kp, M1, W1⟩ := hp
  have tN : zu_TN σ1 ρ1 := (by have o3 : ρ1 0 3 = ρ 0 3 := (hf 0 3 (by omega)); exact zu_TN_fr h3 hO (zs_gg_mk hT3) rfl (Int.le_of_eq o3) (fun _ _ _ => ⟨rfl, rfl⟩) (fun o o0 o1 => ⟨hf 3 o (by omega), hf 4 o (by omega), hf 5 o (by omega), fun i _ _ => hf 6 i (by omega), hf 8 o (by omega), hf 9 o (by omega)⟩) hTN)
  refine zl_pop (pc := 470) hV dL_law_470 ?_
  refine zl_goto (pc := 471) hV 1311 dL_law_471 (by decide) ?_
  exact hend _ _ ⟨h1, h2, k3, M1, (zx_O_fr (fun i => hf 2 i (by omega)) (fun i => hf 5 i (by omega)) (fun i => hf 6 i (by omega)) (hf 0 2 (by omega)) (hf 0 3 (by omega)) hO), (zx_K_fr (fun i => hf 14 i (by omega)) (hf 0 2 (by omega)) hK), (zx_U_fr (hf 0 36 (by omega)) (hf 0 37 (by omega)) (fun i => hf 21 i (by omega)) (fun i => hf 23 i (by omega)) (fun i => hf 24 i (by omega)) hU), (zx_TK_fr (fun i => hf 7 i (by omega)) (hf 0 3 (by omega)) hT), W1, ⟨(zt_fr ht rfl rfl rfl rfl rfl (fun _ => rfl) (fun _ => rfl) (hf 0 0 (by omega)) (hf 0 1 (by omega)) (hf 0 2 (by omega)) (hf 0 29 (by omega)) (hf 0 35 (by omega)) (fun j => hf 38 j (by omega)) (fun j => hf 39 j (by omega))), (zu_T2_fr rfl (fun _ => rfl) (hf 0 14 (by omega)) (fun j => hf 10 j (by omega)) hT2), (zu_T3_same h3 hT3 ⟨rfl, rfl, (fun _ => rfl), (fun _ => rfl)⟩ (by rw [hf 0 18 (by omega)]; exact hT3.1.2) (hf 0 3 (by omega)) (hf 0 0 (by omega)) (hf 0 1 (by omega)) (hf 0 2 (by omega)) (fun o _ _ => zu_cf_rf _ _) (fun o o0 o1 => ⟨hf 1 o (by omega), fun i _ _ => hf 2 i (by omega), hf 3 o (by omega), hf 4 o (by omega), hf 5 o (by omega), hf 7 o (by omega), fun i _ _ => hf 6 i (by omega)⟩))⟩, tN⟩
theorem zl_case10 {L : Nat} {xs : Nat → Int32} {b1 b : Nat} {V : Nat → Int → List Value → zq_S → zq_S → Prop} {i : Int} {σ ρ : zq_S} (hV : zl_R L xs b1 b V) (hi : 0 ≤ i ∧ i + 6 ≤ (L : Int)) (hI : zl_I σ ρ) (hend : ∀ σ ρ, zl_I σ ρ → V 1311 i [] σ ρ) : V 474 i [] σ ρ := by
  obtain ⟨h1, h2, h3, hM, hO, hK, hU, hT, hW, ⟨ht, hT2, hT3⟩, hTN⟩ := hI
  refine zl_a1 (pc := 474) hV dL_law_474 ?_
  refine zl_arg (pc := 475) hV (k0 := 1) (by decide) hi dL_law_475 dL_law_476 dL_law_477 dL_law_478 dL_law_479 ?_
  refine zl_X (pc := 480) hV [ZI (zl_x xs (i + 1))] (c_X11_count (σ := σ) h1 (zl_x xs (i + 1)) (zl_xin _ _) h2) mL_60 dL_law_480 (by decide) (by decide) rfl (fun r σ1 hp => ?_)
  obtain ⟨rfl, v, rfl, -, gp⟩ := hp
  refine zl_pop (pc := 483) hV dL_law_483 ?_
  refine zl_a2 (pc := 484) hV dL_law_484 ?_
  refine zl_arg (pc := 485) hV (k0 := 1) (by decide) hi dL_law_485 dL_law_486 dL_law_487 dL_law_488 dL_law_489 ?_
  refine zl_M (pc := 490) hV [ZI (zl_x xs (i + 1))] (c_X12_count (σ := ρ) h3 (zl_x xs (i + 1)) (zl_xin _ _)) mL_63 dL_law_490 (by decide) (Nat.le_of_ble_eq_true rfl) rfl (fun r ρ1 hp => ?_)
  obtain ⟨rfl, u, rfl, -, kp⟩ := hp
  have tN := hTN
  refine zl_pop (pc := 493) hV dL_law_493 ?_
  refine zl_goto (pc := 494) hV 1311 dL_law_494 (by decide) ?_
  exact hend _ _ ⟨h1, h2, h3, hM, hO, hK, hU, hT, hW, ⟨ht, hT2, hT3⟩, tN⟩
theorem zl_case11 {L : Nat} {xs : Nat → Int32} {b1 b : Nat} {V : Nat → Int → List Value → zq_S → zq_S → Prop} {i : Int} {σ ρ : zq_S} (hV : zl_R L xs b1 b V) (hi : 0 ≤ i ∧ i + 6 ≤ (L : Int)) (hI : zl_I σ ρ) (hend : ∀ σ ρ, zl_I σ ρ → V 1311 i [] σ ρ) : V 497 i [] σ ρ := by
  obtain ⟨h1, h2, h3, hM, hO, hK, hU, hT, hW, ⟨ht, hT2, hT3⟩, hTN⟩ := hI
  refine zl_a1 (pc := 497) hV dL_law_497 ?_
  refine zl_arg (pc := 498) hV (k0 := 1) (by decide) hi dL_law_498 dL_law_499 dL_law_500 dL_law_501 dL_law_502 ?_
  refine zl_X (pc := 503) hV [ZI (zl_x xs (i + 1))] (c_X11_reads_2 (σ := σ) h1 (zl_x xs (i + 1)) (zl_xin _ _) (zn_OK_mk h1 h3 hO hT3 hTN) h2) mL_64 dL_law_503 (by decide) (by decide) rfl (fun r σ1 hp => ?_)
  obtain ⟨v, rfl, -, g1, gF, gp, gw, g2⟩ := hp
  refine zl_pop (pc := 506) hV dL_law_506 ?_
  refine zl_a2 (pc := 507) hV dL_law_507 ?_
  refine zl_arg (pc := 508) hV (k0 := 1) (by decide) hi dL_law_508 dL_law_509 dL_law_510 dL_law_511 dL_law_512 ?_
  refine zl_M (pc := 513) hV [ZI (zl_x xs (i + 1))] (c_X12_reads2 (σ := ρ) h3 (zl_x xs (i + 1)) (zl_xin _ _) (fun a b => (hTN.2 _ a b).2.1) (zs_gg_mk hT3) hO) mL_67 dL_law_513 (by decide) (Nat.le_of_ble_eq_true rfl) rfl (fun r ρ1 hp => ?_)
  obtain ⟨u, rfl, -, k3, hf, kp, kw, O1⟩ := hp
  obtain ⟨eN, tN⟩ : u = v ∧ zu_TN σ1 ρ1 := zn_readsL h1 h3 hO hT3 (gF 134 0 (zc_out_at zc_s134 rfl)) (fun j => gF 10 j (zc_out_ar zc_s10 rfl)) (fun q q0 q1 => gF _ 16 (zc_out_at (zc_ga10 h1 zc_s10 q q0 (by omega)) rfl)) (hf 0 3 (by omega)) (fun j => hf 3 j (by omega)) (fun j => hf 4 j (by omega)) (fun j => hf 5 j (by omega)) (fun j => hf 6 j (by omega)) (fun j => hf 9 j (by omega)) gw kw hTN
  refine zl_pop (pc := 516) hV dL_law_516 ?_
  refine zl_goto (pc := 517) hV 1311 dL_law_517 (by decide) ?_
  exact hend _ _ ⟨g1, g2, k3, (zx_M_fr (fun i => hf 18 i (by omega)) (hf 0 30 (by omega)) (hf 0 2 (by omega)) (hf 0 3 (by omega)) hM), O1, (zx_K_fr (fun i => hf 14 i (by omega)) (hf 0 2 (by omega)) hK), (zx_U_fr (hf 0 36 (by omega)) (hf 0 37 (by omega)) (fun i => hf 21 i (by omega)) (fun i => hf 23 i (by omega)) (fun i => hf 24 i (by omega)) hU), (zx_TK_fr (fun i => hf 7 i (by omega)) (hf 0 3 (by omega)) hT), (zx_W_fr (fun i => hf 18 i (by omega)) (hf 0 30 (by omega)) (hf 0 2 (by omega)) (hf 0 3 (by omega)) (fun i => hf 2 i (by omega)) hW), ⟨(zt_fr ht (gF 3 0 (zc_out_at zc_s3 rfl)) (gF 3 1 (zc_out_at zc_s3 rfl)) (gF 3 2 (zc_out_at zc_s3 rfl)) (gF 140 12 (zc_out_at zc_s140 rfl)) (gF 255 4 (zc_out_at zc_s255 rfl)) (fun j => gF 277 j (zc_out_ar zc_s277 rfl)) (fun j => gF 278 j (zc_out_ar zc_s278 rfl)) (hf 0 0 (by omega)) (hf 0 1 (by omega)) (hf 0 2 (by omega)) (hf 0 29 (by omega)) (hf 0 35 (by omega)) (fun j => hf 38 j (by omega)) (fun j => hf 39 j (by omega))), (zu_T2_fr (gF 1 1 (zc_out_at zc_s1 rfl)) (fun j => gF 2 j (zc_out_ar zc_s2 rfl)) (hf 0 14 (by omega)) (fun j => hf 10 j (by omega)) hT2), (zu_T3_same h3 hT3 ⟨(gF 3 3 (zc_out_at zc_s3 rfl)), (gF 3 5 (zc_out_at zc_s3 rfl)), (fun j => gF 10 j (zc_out_ar zc_s10 rfl)), (fun j => gF 11 j (zc_out_ar zc_s11 rfl))⟩ (by rw [gF 3 4 (zc_out_at zc_s3 rfl), hf 0 18 (by omega)]; exact hT3.1.2) (hf 0 3 (by omega)) (hf 0 0 (by omega)) (hf 0 1 (by omega)) (hf 0 2 (by omega)) (fun o o0 o1 => by have ka := zc_ga10 h1 zc_s10 o o0 (by have := zx_g3 h3; omega); exact ⟨⟨gF _ 0 (zc_out_at ka rfl), gF _ 1 (zc_out_at ka rfl), gF _ 2 (zc_out_at ka rfl), gF _ 4 (zc_out_at ka rfl), gF _ 5 (zc_out_at ka rfl), gF _ 6 (zc_out_at ka rfl), gF _ 11 (zc_out_at ka rfl), gF _ 12 (zc_out_at ka rfl), gF _ 13 (zc_out_at ka rfl)⟩, zu_cfk (fun i => gF _ i (zc_out_ar (zc_p4_1 ka) rfl)) (fun i => gF _ i (zc_out_ar (zc_p4_2 ka) rfl)) (fun i => gF _ i (zc_out_ar (zc_p4_3 ka) rfl)) (fun i => gF _ i (zc_out_ar (zc_p4_4 ka) rfl)) (fun i => gF _ i (zc_out_ar (zc_p4_5 ka) rfl))⟩) (fun o o0 o1 => ⟨hf 1 o (by omega), fun i _ _ => hf 2 i (by omega), hf 3 o (by omega), hf 4 o (by omega), hf 5 o (by omega), hf 7 o (by omega), fun i _ _ => hf 6 i (by omega)⟩))⟩, tN⟩
theorem zl_case12 {L : Nat} {xs : Nat → Int32} {b1 b : Nat} {V : Nat → Int → List Value → zq_S → zq_S → Prop} {i : Int} {σ ρ : zq_S} (hV : zl_R L xs b1 b V) (hi : 0 ≤ i ∧ i + 6 ≤ (L : Int)) (hI : zl_I σ ρ) (hend : ∀ σ ρ, zl_I σ ρ → V 1311 i [] σ ρ) : V 520 i [] σ ρ := by
  obtain ⟨h1, h2, h3, hM, hO, hK, hU, hT, hW, ⟨ht, hT2, hT3⟩, hTN⟩ := hI
  refine zl_a1 (pc := 520) hV dL_law_520 ?_
  refine zl_arg (pc := 521) hV (k0 := 1) (by decide) hi dL_law_521 dL_law_522 dL_law_523 dL_law_524 dL_law_525 ?_
  refine zl_X (pc := 526) hV [ZI (zl_x xs (i + 1))] (c_X11_writes_2 (σ := σ) h1 (zl_x xs (i + 1)) (zl_xin _ _) (zn_OK_mk h1 h3 hO hT3 hTN) h2) mL_68 dL_law_526 (by decide) (by decide) rfl (fun r σ1 hp => ?_)
  obtain ⟨v, rfl, -, g1, gF, gp, gw, g2⟩ := hp
  refine zl_pop (pc := 529) hV dL_law_529 ?_
  refine zl_a2 (pc := 530) hV dL_law_530 ?_
  refine zl_arg (pc := 531) hV (k0 := 1) (by decide) hi dL_law_531 dL_law_532 dL_law_533 dL_law_534 dL_law_535 ?_
  refine zl_M (pc := 536) hV [ZI (zl_x xs (i + 1))] (c_X12_writes2 (σ := ρ) h3 (zl_x xs (i + 1)) (zl_xin _ _) (fun a b => (hTN.2 _ a b).2.2) (zs_gg_mk hT3) hO) mL_71 dL_law_536 (by decide) (Nat.le_of_ble_eq_true rfl) rfl (fun r ρ1 hp => ?_)
  obtain ⟨u, rfl, -, k3, hf, kp, kw, O1⟩ := hp
  obtain ⟨eN, tN⟩ : u = v ∧ zu_TN σ1 ρ1 := zn_writesL h1 h3 hO hT3 (gF 134 0 (zc_out_at zc_s134 rfl)) (fun j => gF 10 j (zc_out_ar zc_s10 rfl)) (fun q q0 q1 => gF _ 15 (zc_out_at (zc_ga10 h1 zc_s10 q q0 (by omega)) rfl)) (hf 0 3 (by omega)) (fun j => hf 3 j (by omega)) (fun j => hf 4 j (by omega)) (fun j => hf 5 j (by omega)) (fun j => hf 6 j (by omega)) (fun j => hf 8 j (by omega)) gw kw hTN
  refine zl_pop (pc := 539) hV dL_law_539 ?_
  refine zl_goto (pc := 540) hV 1311 dL_law_540 (by decide) ?_
  exact hend _ _ ⟨g1, g2, k3, (zx_M_fr (fun i => hf 18 i (by omega)) (hf 0 30 (by omega)) (hf 0 2 (by omega)) (hf 0 3 (by omega)) hM), O1, (zx_K_fr (fun i => hf 14 i (by omega)) (hf 0 2 (by omega)) hK), (zx_U_fr (hf 0 36 (by omega)) (hf 0 37 (by omega)) (fun i => hf 21 i (by omega)) (fun i => hf 23 i (by omega)) (fun i => hf 24 i (by omega)) hU), (zx_TK_fr (fun i => hf 7 i (by omega)) (hf 0 3 (by omega)) hT), (zx_W_fr (fun i => hf 18 i (by omega)) (hf 0 30 (by omega)) (hf 0 2 (by omega)) (hf 0 3 (by omega)) (fun i => hf 2 i (by omega)) hW), ⟨(zt_fr ht (gF 3 0 (zc_out_at zc_s3 rfl)) (gF 3 1 (zc_out_at zc_s3 rfl)) (gF 3 2 (zc_out_at zc_s3 rfl)) (gF 140 12 (zc_out_at zc_s140 rfl)) (gF 255 4 (zc_out_at zc_s255 rfl)) (fun j => gF 277 j (zc_out_ar zc_s277 rfl)) (fun j => gF 278 j (zc_out_ar zc_s278 rfl)) (hf 0 0 (by omega)) (hf 0 1 (by omega)) (hf 0 2 (by omega)) (hf 0 29 (by omega)) (hf 0 35 (by omega)) (fun j => hf 38 j (by omega)) (fun j => hf 39 j (by omega))), (zu_T2_fr (gF 1 1 (zc_out_at zc_s1 rfl)) (fun j => gF 2 j (zc_out_ar zc_s2 rfl)) (hf 0 14 (by omega)) (fun j => hf 10 j (by omega)) hT2), (zu_T3_same h3 hT3 ⟨(gF 3 3 (zc_out_at zc_s3 rfl)), (gF 3 5 (zc_out_at zc_s3 rfl)), (fun j => gF 10 j (zc_out_ar zc_s10 rfl)), (fun j => gF 11 j (zc_out_ar zc_s11 rfl))⟩ (by rw [gF 3 4 (zc_out_at zc_s3 rfl), hf 0 18 (by omega)]; exact hT3.1.2) (hf 0 3 (by omega)) (hf 0 0 (by omega)) (hf 0 1 (by omega)) (hf 0 2 (by omega)) (fun o o0 o1 => by have ka := zc_ga10 h1 zc_s10 o o0 (by have := zx_g3 h3; omega); exact ⟨⟨gF _ 0 (zc_out_at ka rfl), gF _ 1 (zc_out_at ka rfl), gF _ 2 (zc_out_at ka rfl), gF _ 4 (zc_out_at ka rfl), gF _ 5 (zc_out_at ka rfl), gF _ 6 (zc_out_at ka rfl), gF _ 11 (zc_out_at ka rfl), gF _ 12 (zc_out_at ka rfl), gF _ 13 (zc_out_at ka rfl)⟩, zu_cfk (fun i => gF _ i (zc_out_ar (zc_p4_1 ka) rfl)) (fun i => gF _ i (zc_out_ar (zc_p4_2 ka) rfl)) (fun i => gF _ i (zc_out_ar (zc_p4_3 ka) rfl)) (fun i => gF _ i (zc_out_ar (zc_p4_4 ka) rfl)) (fun i => gF _ i (zc_out_ar (zc_p4_5 ka) rfl))⟩) (fun o o0 o1 => ⟨hf 1 o (by omega), fun i _ _ => hf 2 i (by omega), hf 3 o (by omega), hf 4 o (by omega), hf 5 o (by omega), hf 7 o (by omega), fun i _ _ => hf 6 i (by omega)⟩))⟩, tN⟩
theorem zl_case13 {L : Nat} {xs : Nat → Int32} {b1 b : Nat} {V : Nat → Int → List Value → zq_S → zq_S → Prop} {i : Int} {σ ρ : zq_S} (hV : zl_R L xs b1 b V) (hi : 0 ≤ i ∧ i + 6 ≤ (L : Int)) (hI : zl_I σ ρ) (hend : ∀ σ ρ, zl_I σ ρ → V 1311 i [] σ ρ) : V 543 i [] σ ρ := by
  obtain ⟨h1, h2, h3, hM, hO, hK, hU, hT, hW, ⟨ht, hT2, hT3⟩, hTN⟩ := hI
  refine zl_a1 (pc := 543) hV dL_law_543 ?_
  refine zl_arg (pc := 544) hV (k0 := 1) (by decide) hi dL_law_544 dL_law_545 dL_law_546 dL_law_547 dL_law_548 ?_
  refine zl_arg (pc := 549) hV (k0 := 2) (by decide) hi dL_law_549 dL_law_550 dL_law_551 dL_law_552 dL_law_553 ?_
  refine zl_X (pc := 554) hV [ZI (zl_x xs (i + 1)), ZI (zl_x xs (i + 2))] (c_X11_like_2 (σ := σ) h1 (zl_x xs (i + 1)) (zl_x xs (i + 2)) (zl_xin _ _) (zl_xin _ _) (zn_OK_mk h1 h3 hO hT3 hTN) h2) mL_72 dL_law_554 (by decide) (by decide) rfl (fun r σ1 hp => ?_)
  obtain ⟨v, rfl, -, g1, gF, gp, gw, g2⟩ := hp
  refine zl_a2 (pc := 557) hV dL_law_557 ?_
  refine zl_arg (pc := 558) hV (k0 := 1) (by decide) hi dL_law_558 dL_law_559 dL_law_560 dL_law_561 dL_law_562 ?_
  refine zl_arg (pc := 563) hV (k0 := 2) (by decide) hi dL_law_563 dL_law_564 dL_law_565 dL_law_566 dL_law_567 ?_
  refine zl_M (pc := 568) hV [ZI (zl_x xs (i + 1)), ZI (zl_x xs (i + 2))] (c_X12_like2 (σ := ρ) h3 (zl_x xs (i + 1)) (zl_x xs (i + 2)) (zl_xin _ _) (zl_xin _ _) (zs_gg_mk hT3) hO) mL_75 dL_law_568 (by decide) (Nat.le_of_ble_eq_true rfl) rfl (fun r ρ1 hp => ?_)
  obtain ⟨u, rfl, -, k3, hf, kp, kw, O1⟩ := hp
  have tN : zu_TN σ1 ρ1 := (by have o3 : ρ1 0 3 = ρ 0 3 := (hf 0 3 (by omega)); exact zu_TN_fr h3 hO (zs_gg_mk hT3) (gF 134 0 (zc_out_at zc_s134 rfl)) (Int.le_of_eq o3) (fun o o0 o1 => by have z3 := zx_g3 h3; have ka := zc_ga10 h1 zc_s10 o o0 (by omega); rw [show σ1 10 o = σ 10 o from (fun j => gF 10 j (zc_out_ar zc_s10 rfl)) o]; exact ⟨gF _ 15 (zc_out_at ka rfl), gF _ 16 (zc_out_at ka rfl)⟩) (fun o o0 o1 => ⟨hf 3 o (by omega), hf 4 o (by omega), hf 5 o (by omega), fun i _ _ => hf 6 i (by omega), hf 8 o (by omega), hf 9 o (by omega)⟩) hTN)
  obtain rfl : u = v := zn_likeL h3 hO hT3 gw kw
  refine zl_eq (pc := 571) hV 1311 dL_law_571 (by decide) ?_
  exact hend _ _ ⟨g1, g2, k3, (zx_M_fr (fun i => hf 18 i (by omega)) (hf 0 30 (by omega)) (hf 0 2 (by omega)) (hf 0 3 (by omega)) hM), O1, (zx_K_fr (fun i => hf 14 i (by omega)) (hf 0 2 (by omega)) hK), (zx_U_fr (hf 0 36 (by omega)) (hf 0 37 (by omega)) (fun i => hf 21 i (by omega)) (fun i => hf 23 i (by omega)) (fun i => hf 24 i (by omega)) hU), (zx_TK_fr (fun i => hf 7 i (by omega)) (hf 0 3 (by omega)) hT), (zx_W_fr (fun i => hf 18 i (by omega)) (hf 0 30 (by omega)) (hf 0 2 (by omega)) (hf 0 3 (by omega)) (fun i => hf 2 i (by omega)) hW), ⟨(zt_fr ht (gF 3 0 (zc_out_at zc_s3 rfl)) (gF 3 1 (zc_out_at zc_s3 rfl)) (gF 3 2 (zc_out_at zc_s3 rfl)) (gF 140 12 (zc_out_at zc_s140 rfl)) (gF 255 4 (zc_out_at zc_s255 rfl)) (fun j => gF 277 j (zc_out_ar zc_s277 rfl)) (fun j => gF 278 j (zc_out_ar zc_s278 rfl)) (hf 0 0 (by omega)) (hf 0 1 (by omega)) (hf 0 2 (by omega)) (hf 0 29 (by omega)) (hf 0 35 (by omega)) (fun j => hf 38 j (by omega)) (fun j => hf 39 j (by omega))), (zu_T2_fr (gF 1 1 (zc_out_at zc_s1 rfl)) (fun j => gF 2 j (zc_out_ar zc_s2 rfl)) (hf 0 14 (by omega)) (fun j => hf 10 j (by omega)) hT2), (zu_T3_same h3 hT3 ⟨(gF 3 3 (zc_out_at zc_s3 rfl)), (gF 3 5 (zc_out_at zc_s3 rfl)), (fun j => gF 10 j (zc_out_ar zc_s10 rfl)), (fun j => gF 11 j (zc_out_ar zc_s11 rfl))⟩ (by rw [gF 3 4 (zc_out_at zc_s3 rfl), hf 0 18 (by omega)]; exact hT3.1.2) (hf 0 3 (by omega)) (hf 0 0 (by omega)) (hf 0 1 (by omega)) (hf 0 2 (by omega)) (fun o o0 o1 => by have ka := zc_ga10 h1 zc_s10 o o0 (by have := zx_g3 h3; omega); exact ⟨⟨gF _ 0 (zc_out_at ka rfl), gF _ 1 (zc_out_at ka rfl), gF _ 2 (zc_out_at ka rfl), gF _ 4 (zc_out_at ka rfl), gF _ 5 (zc_out_at ka rfl), gF _ 6 (zc_out_at ka rfl), gF _ 11 (zc_out_at ka rfl), gF _ 12 (zc_out_at ka rfl), gF _ 13 (zc_out_at ka rfl)⟩, zu_cfk (fun i => gF _ i (zc_out_ar (zc_p4_1 ka) rfl)) (fun i => gF _ i (zc_out_ar (zc_p4_2 ka) rfl)) (fun i => gF _ i (zc_out_ar (zc_p4_3 ka) rfl)) (fun i => gF _ i (zc_out_ar (zc_p4_4 ka) rfl)) (fun i => gF _ i (zc_out_ar (zc_p4_5 ka) rfl))⟩) (fun o o0 o1 => ⟨hf 1 o (by omega), fun i _ _ => hf 2 i (by omega), hf 3 o (by omega), hf 4 o (by omega), hf 5 o (by omega), hf 7 o (by omega), fun i _ _ => hf 6 i (by omega)⟩))⟩, tN⟩
theorem zl_case14 {L : Nat} {xs : Nat → Int32} {b1 b : Nat} {V : Nat → Int → List Value → zq_S → zq_S → Prop} {i : Int} {σ ρ : zq_S} (hV : zl_R L xs b1 b V) (hi : 0 ≤ i ∧ i + 6 ≤ (L : Int)) (hI : zl_I σ ρ) (hend : ∀ σ ρ, zl_I σ ρ → V 1311 i [] σ ρ) : V 576 i [] σ ρ := by
  obtain ⟨h1, h2, h3, hM, hO, hK, hU, hT, hW, ⟨ht, hT2, hT3⟩, hTN⟩ := hI
  refine zl_a1 (pc := 576) hV dL_law_576 ?_
  refine zl_arg (pc := 577) hV (k0 := 1) (by decide) hi dL_law_577 dL_law_578 dL_law_579 dL_law_580 dL_law_581 ?_
  refine zl_arg (pc := 582) hV (k0 := 2) (by decide) hi dL_law_582 dL_law_583 dL_law_584 dL_law_585 dL_law_586 ?_
  refine zl_X (pc := 587) hV [ZI (zl_x xs (i + 1)), ZI (zl_x xs (i + 2))] (c_X11_put (σ := σ) h1 (zl_x xs (i + 1)) (zl_x xs (i + 2)) (zl_xin _ _) (zl_xin _ _) h2) mL_76 dL_law_587 (by decide) (by decide) rfl (fun r σ1 hp => ?_)
  obtain ⟨v, rfl, -, g1, gF, gp, g2⟩ := hp
  refine zl_pop (pc := 590) hV dL_law_590 ?_
  refine zl_a2 (pc := 591) hV dL_law_591 ?_
  refine zl_arg (pc := 592) hV (k0 := 1) (by decide) hi dL_law_592 dL_law_593 dL_law_594 dL_law_595 dL_law_596 ?_
  refine zl_arg (pc := 597) hV (k0 := 2) (by decide) hi dL_law_597 dL_law_598 dL_law_599 dL_law_600 dL_law_601 ?_
  refine zl_M (pc := 602) hV [ZI (zl_x xs (i + 1)), ZI (zl_x xs (i + 2))] (c_X12_put (σ := ρ) h3 (zl_x xs (i + 1)) (zl_x xs (i + 2)) (zl_xin _ _) (zl_xin _ _) hK) mL_79 dL_law_602 (by decide) (Nat.le_of_ble_eq_true rfl) rfl (fun r ρ1 hp => ?_)
  obtain ⟨u, rfl, -, k3, hf, kp, K1⟩ := hp
  have tN : zu_TN σ1 ρ1 := (by have o3 : ρ1 0 3 = ρ 0 3 := (hf 0 3 (by omega)); exact zu_TN_fr h3 hO (zs_gg_mk hT3) (gF 134 0 (zc_out_at zc_s134 rfl)) (Int.le_of_eq o3) (fun o o0 o1 => by have z3 := zx_g3 h3; have ka := zc_ga10 h1 zc_s10 o o0 (by omega); rw [show σ1 10 o = σ 10 o from (fun j => gF 10 j (zc_out_ar zc_s10 rfl)) o]; exact ⟨gF _ 15 (zc_out_at ka rfl), gF _ 16 (zc_out_at ka rfl)⟩) (fun o o0 o1 => ⟨hf 3 o (by omega), hf 4 o (by omega), hf 5 o (by omega), fun i _ _ => hf 6 i (by omega), hf 8 o (by omega), hf 9 o (by omega)⟩) hTN)
  refine zl_pop (pc := 605) hV dL_law_605 ?_
  refine zl_goto (pc := 606) hV 1311 dL_law_606 (by decide) ?_
  exact hend _ _ ⟨g1, g2, k3, (zx_M_fr (fun i => hf 18 i (by omega)) (hf 0 30 (by omega)) (hf 0 2 (by omega)) (hf 0 3 (by omega)) hM), (zx_O_fr (fun i => hf 2 i (by omega)) (fun i => hf 5 i (by omega)) (fun i => hf 6 i (by omega)) (hf 0 2 (by omega)) (hf 0 3 (by omega)) hO), K1, (zx_U_fr (hf 0 36 (by omega)) (hf 0 37 (by omega)) (fun i => hf 21 i (by omega)) (fun i => hf 23 i (by omega)) (fun i => hf 24 i (by omega)) hU), (zx_TK_fr (fun i => hf 7 i (by omega)) (hf 0 3 (by omega)) hT), (zx_W_fr (fun i => hf 18 i (by omega)) (hf 0 30 (by omega)) (hf 0 2 (by omega)) (hf 0 3 (by omega)) (fun i => hf 2 i (by omega)) hW), ⟨(zt_fr ht (gF 3 0 (zc_out_at zc_s3 rfl)) (gF 3 1 (zc_out_at zc_s3 rfl)) (gF 3 2 (zc_out_at zc_s3 rfl)) (gF 140 12 (zc_out_at zc_s140 rfl)) (gF 255 4 (zc_out_at zc_s255 rfl)) (fun j => gF 277 j (zc_out_ar zc_s277 rfl)) (fun j => gF 278 j (zc_out_ar zc_s278 rfl)) (hf 0 0 (by omega)) (hf 0 1 (by omega)) (hf 0 2 (by omega)) (hf 0 29 (by omega)) (hf 0 35 (by omega)) (fun j => hf 38 j (by omega)) (fun j => hf 39 j (by omega))), (zu_T2_fr (gF 1 1 (zc_out_at zc_s1 rfl)) (fun j => gF 2 j (zc_out_ar zc_s2 rfl)) (hf 0 14 (by omega)) (fun j => hf 10 j (by omega)) hT2), (zu_T3_same h3 hT3 ⟨(gF 3 3 (zc_out_at zc_s3 rfl)), (gF 3 5 (zc_out_at zc_s3 rfl)), (fun j => gF 10 j (zc_out_ar zc_s10 rfl)), (fun j => gF 11 j (zc_out_ar zc_s11 rfl))⟩ (by rw [gF 3 4 (zc_out_at zc_s3 rfl), hf 0 18 (by omega)]; exact hT3.1.2) (hf 0 3 (by omega)) (hf 0 0 (by omega)) (hf 0 1 (by omega)) (hf 0 2 (by omega)) (fun o o0 o1 => by have ka := zc_ga10 h1 zc_s10 o o0 (by have := zx_g3 h3; omega); exact ⟨⟨gF _ 0 (zc_out_at ka rfl), gF _ 1 (zc_out_at ka rfl), gF _ 2 (zc_out_at ka rfl), gF _ 4 (zc_out_at ka rfl), gF _ 5 (zc_out_at ka rfl), gF _ 6 (zc_out_at ka rfl), gF _ 11 (zc_out_at ka rfl), gF _ 12 (zc_out_at ka rfl), gF _ 13 (zc_out_at ka rfl)⟩, zu_cfk (fun i => gF _ i (zc_out_ar (zc_p4_1 ka) rfl)) (fun i => gF _ i (zc_out_ar (zc_p4_2 ka) rfl)) (fun i => gF _ i (zc_out_ar (zc_p4_3 ka) rfl)) (fun i => gF _ i (zc_out_ar (zc_p4_4 ka) rfl)) (fun i => gF _ i (zc_out_ar (zc_p4_5 ka) rfl))⟩) (fun o o0 o1 => ⟨hf 1 o (by omega), fun i _ _ => hf 2 i (by omega), hf 3 o (by omega), hf 4 o (by omega), hf 5 o (by omega), hf 7 o (by omega), fun i _ _ => hf 6 i (by omega)⟩))⟩, tN⟩
theorem zl_case15 {L : Nat} {xs : Nat → Int32} {b1 b : Nat} {V : Nat → Int → List Value → zq_S → zq_S → Prop} {i : Int} {σ ρ : zq_S} (hV : zl_R L xs b1 b V) (hi : 0 ≤ i ∧ i + 6 ≤ (L : Int)) (hI : zl_I σ ρ) (hend : ∀ σ ρ, zl_I σ ρ → V 1311 i [] σ ρ) : V 609 i [] σ ρ := by
  obtain ⟨h1, h2, h3, hM, hO, hK, hU, hT, hW, ⟨ht, hT2, hT3⟩, hTN⟩ := hI
  refine zl_a1 (pc := 609) hV dL_law_609 ?_
  refine zl_arg (pc := 610) hV (k0 := 1) (by decide) hi dL_law_610 dL_law_611 dL_law_612 dL_law_613 dL_law_614 ?_
  refine zl_X (pc := 615) hV [ZI (zl_x xs (i + 1))] (c_X11_code (σ := σ) h1 (zl_x xs (i + 1)) (zl_xin _ _) h2) mL_80 dL_law_615 (by decide) (by decide) rfl (fun r σ1 hp => ?_)
  obtain ⟨rfl, v, rfl, -, gp⟩ := hp
  refine zl_pop (pc := 618) hV dL_law_618 ?_
  refine zl_a2 (pc := 619) hV dL_law_619 ?_
  refine zl_arg (pc := 620) hV (k0 := 1) (by decide) hi dL_law_620 dL_law_621 dL_law_622 dL_law_623 dL_law_624 ?_
  refine zl_M (pc := 625) hV [ZI (zl_x xs (i + 1))] (c_X12_code (σ := ρ) h3 (zl_x xs (i + 1)) (zl_xin _ _)) mL_83 dL_law_625 (by decide) (Nat.le_of_ble_eq_true rfl) rfl (fun r ρ1 hp => ?_)
  obtain ⟨rfl, u, rfl, -, kp⟩ := hp
  have tN := hTN
  refine zl_pop (pc := 628) hV dL_law_628 ?_
  refine zl_goto (pc := 629) hV 1311 dL_law_629 (by decide) ?_
  exact hend _ _ ⟨h1, h2, h3, hM, hO, hK, hU, hT, hW, ⟨ht, hT2, hT3⟩, tN⟩
theorem zl_case16 {L : Nat} {xs : Nat → Int32} {b1 b : Nat} {V : Nat → Int → List Value → zq_S → zq_S → Prop} {i : Int} {σ ρ : zq_S} (hV : zl_R L xs b1 b V) (hi : 0 ≤ i ∧ i + 6 ≤ (L : Int)) (hI : zl_I σ ρ) (hend : ∀ σ ρ, zl_I σ ρ → V 1311 i [] σ ρ) : V 632 i [] σ ρ := by
  obtain ⟨h1, h2, h3, hM, hO, hK, hU, hT, hW, ⟨ht, hT2, hT3⟩, hTN⟩ := hI
  refine zl_a1 (pc := 632) hV dL_law_632 ?_
  refine zl_arg (pc := 633) hV (k0 := 1) (by decide) hi dL_law_633 dL_law_634 dL_law_635 dL_law_636 dL_law_637 ?_
  refine zl_arg (pc := 638) hV (k0 := 2) (by decide) hi dL_law_638 dL_law_639 dL_law_640 dL_law_641 dL_law_642 ?_
  refine zl_arg (pc := 643) hV (k0 := 3) (by decide) hi dL_law_643 dL_law_644 dL_law_645 dL_law_646 dL_law_647 ?_
  refine zl_X (pc := 648) hV [ZI (zl_x xs (i + 1)), ZI (zl_x xs (i + 2)), ZI (zl_x xs (i + 3))] (c_X11_set (σ := σ) h1 (zl_x xs (i + 1)) (zl_x xs (i + 2)) (zl_x xs (i + 3)) (zl_xin _ _) (zl_xin _ _) (zl_xin _ _) h2) mL_84 dL_law_648 (by decide) (by decide) rfl (fun r σ1 hp => ?_)
  obtain ⟨v, rfl, -, g1, gF, gp, g2⟩ := hp
  refine zl_pop (pc := 651) hV dL_law_651 ?_
  refine zl_a2 (pc := 652) hV dL_law_652 ?_
  refine zl_arg (pc := 653) hV (k0 := 1) (by decide) hi dL_law_653 dL_law_654 dL_law_655 dL_law_656 dL_law_657 ?_
  refine zl_arg (pc := 658) hV (k0 := 2) (by decide) hi dL_law_658 dL_law_659 dL_law_660 dL_law_661 dL_law_662 ?_
  refine zl_arg (pc := 663) hV (k0 := 3) (by decide) hi dL_law_663 dL_law_664 dL_law_665 dL_law_666 dL_law_667 ?_
  refine zl_M (pc := 668) hV [ZI (zl_x xs (i + 1)), ZI (zl_x xs (i + 2)), ZI (zl_x xs (i + 3))] (c_X12_set (σ := ρ) h3 (zl_x xs (i + 1)) (zl_x xs (i + 2)) (zl_x xs (i + 3)) (zl_xin _ _) (zl_xin _ _) (zl_xin _ _)) mL_87 dL_law_668 (by decide) (Nat.le_of_ble_eq_true rfl) rfl (fun r ρ1 hp => ?_)
  obtain ⟨u, rfl, -, k3, hf, kp⟩ := hp
  have tN : zu_TN σ1 ρ1 := (by have o3 : ρ1 0 3 = ρ 0 3 := (hf 0 3 (by omega)); exact zu_TN_fr h3 hO (zs_gg_mk hT3) (gF 134 0 (zc_out_at zc_s134 rfl)) (Int.le_of_eq o3) (fun o o0 o1 => by have z3 := zx_g3 h3; have ka := zc_ga10 h1 zc_s10 o o0 (by omega); rw [show σ1 10 o = σ 10 o from (fun j => gF 10 j (zc_out_ar zc_s10 rfl)) o]; exact ⟨gF _ 15 (zc_out_at ka rfl), gF _ 16 (zc_out_at ka rfl)⟩) (fun o o0 o1 => ⟨hf 3 o (by omega), hf 4 o (by omega), hf 5 o (by omega), fun i _ _ => hf 6 i (by omega), hf 8 o (by omega), hf 9 o (by omega)⟩) hTN)
  refine zl_pop (pc := 671) hV dL_law_671 ?_
  refine zl_goto (pc := 672) hV 1311 dL_law_672 (by decide) ?_
  exact hend _ _ ⟨g1, g2, k3, (zx_M_fr (fun i => hf 18 i (by omega)) (hf 0 30 (by omega)) (hf 0 2 (by omega)) (hf 0 3 (by omega)) hM), (zx_O_fr (fun i => hf 2 i (by omega)) (fun i => hf 5 i (by omega)) (fun i => hf 6 i (by omega)) (hf 0 2 (by omega)) (hf 0 3 (by omega)) hO), (zx_K_fr (fun i => hf 14 i (by omega)) (hf 0 2 (by omega)) hK), (zx_U_fr (hf 0 36 (by omega)) (hf 0 37 (by omega)) (fun i => hf 21 i (by omega)) (fun i => hf 23 i (by omega)) (fun i => hf 24 i (by omega)) hU), (zx_TK_fr (fun i => hf 7 i (by omega)) (hf 0 3 (by omega)) hT), (zx_W_fr (fun i => hf 18 i (by omega)) (hf 0 30 (by omega)) (hf 0 2 (by omega)) (hf 0 3 (by omega)) (fun i => hf 2 i (by omega)) hW), ⟨(zt_fr ht (gF 3 0 (zc_out_at zc_s3 rfl)) (gF 3 1 (zc_out_at zc_s3 rfl)) (gF 3 2 (zc_out_at zc_s3 rfl)) (gF 140 12 (zc_out_at zc_s140 rfl)) (gF 255 4 (zc_out_at zc_s255 rfl)) (fun j => gF 277 j (zc_out_ar zc_s277 rfl)) (fun j => gF 278 j (zc_out_ar zc_s278 rfl)) (hf 0 0 (by omega)) (hf 0 1 (by omega)) (hf 0 2 (by omega)) (hf 0 29 (by omega)) (hf 0 35 (by omega)) (fun j => hf 38 j (by omega)) (fun j => hf 39 j (by omega))), (zu_T2_fr (gF 1 1 (zc_out_at zc_s1 rfl)) (fun j => gF 2 j (zc_out_ar zc_s2 rfl)) (hf 0 14 (by omega)) (fun j => hf 10 j (by omega)) hT2), (zu_T3_same h3 hT3 ⟨(gF 3 3 (zc_out_at zc_s3 rfl)), (gF 3 5 (zc_out_at zc_s3 rfl)), (fun j => gF 10 j (zc_out_ar zc_s10 rfl)), (fun j => gF 11 j (zc_out_ar zc_s11 rfl))⟩ (by rw [gF 3 4 (zc_out_at zc_s3 rfl), hf 0 18 (by omega)]; exact hT3.1.2) (hf 0 3 (by omega)) (hf 0 0 (by omega)) (hf 0 1 (by omega)) (hf 0 2 (by omega)) (fun o o0 o1 => by have ka := zc_ga10 h1 zc_s10 o o0 (by have := zx_g3 h3; omega); exact ⟨⟨gF _ 0 (zc_out_at ka rfl), gF _ 1 (zc_out_at ka rfl), gF _ 2 (zc_out_at ka rfl), gF _ 4 (zc_out_at ka rfl), gF _ 5 (zc_out_at ka rfl), gF _ 6 (zc_out_at ka rfl), gF _ 11 (zc_out_at ka rfl), gF _ 12 (zc_out_at ka rfl), gF _ 13 (zc_out_at ka rfl)⟩, zu_cfk (fun i => gF _ i (zc_out_ar (zc_p4_1 ka) rfl)) (fun i => gF _ i (zc_out_ar (zc_p4_2 ka) rfl)) (fun i => gF _ i (zc_out_ar (zc_p4_3 ka) rfl)) (fun i => gF _ i (zc_out_ar (zc_p4_4 ka) rfl)) (fun i => gF _ i (zc_out_ar (zc_p4_5 ka) rfl))⟩) (fun o o0 o1 => ⟨hf 1 o (by omega), fun i _ _ => hf 2 i (by omega), hf 3 o (by omega), hf 4 o (by omega), hf 5 o (by omega), hf 7 o (by omega), fun i _ _ => hf 6 i (by omega)⟩))⟩, tN⟩
theorem zl_case17 {L : Nat} {xs : Nat → Int32} {b1 b : Nat} {V : Nat → Int → List Value → zq_S → zq_S → Prop} {i : Int} {σ ρ : zq_S} (hV : zl_R L xs b1 b V) (hi : 0 ≤ i ∧ i + 6 ≤ (L : Int)) (hI : zl_I σ ρ) (hend : ∀ σ ρ, zl_I σ ρ → V 1311 i [] σ ρ) : V 675 i [] σ ρ := by
  obtain ⟨h1, h2, h3, hM, hO, hK, hU, hT, hW, ⟨ht, hT2, hT3⟩, hTN⟩ := hI
  refine zl_a1 (pc := 675) hV dL_law_675 ?_
  refine zl_arg (pc := 676) hV (k0 := 1) (by decide) hi dL_law_676 dL_law_677 dL_law_678 dL_law_679 dL_law_680 ?_
  refine zl_arg (pc := 681) hV (k0 := 2) (by decide) hi dL_law_681 dL_law_682 dL_law_683 dL_law_684 dL_law_685 ?_
  refine zl_X (pc := 686) hV [ZI (zl_x xs (i + 1)), ZI (zl_x xs (i + 2))] (c_X11_get (σ := σ) h1 (zl_x xs (i + 1)) (zl_x xs (i + 2)) (zl_xin _ _) (zl_xin _ _) h2) mL_88 dL_law_686 (by decide) (by decide) rfl (fun r σ1 hp => ?_)
  obtain ⟨rfl, v, rfl, -, gp⟩ := hp
  refine zl_pop (pc := 689) hV dL_law_689 ?_
  refine zl_a2 (pc := 690) hV dL_law_690 ?_
  refine zl_arg (pc := 691) hV (k0 := 1) (by decide) hi dL_law_691 dL_law_692 dL_law_693 dL_law_694 dL_law_695 ?_
  refine zl_arg (pc := 696) hV (k0 := 2) (by decide) hi dL_law_696 dL_law_697 dL_law_698 dL_law_699 dL_law_700 ?_
  refine zl_M (pc := 701) hV [ZI (zl_x xs (i + 1)), ZI (zl_x xs (i + 2))] (c_X12_get (σ := ρ) h3 (zl_x xs (i + 1)) (zl_x xs (i + 2)) (zl_xin _ _) (zl_xin _ _)) mL_91 dL_law_701 (by decide) (Nat.le_of_ble_eq_true rfl) rfl (fun r ρ1 hp => ?_)
  obtain ⟨rfl, u, rfl, -, kp⟩ := hp
  have tN := hTN
  refine zl_pop (pc := 704) hV dL_law_704 ?_
  refine zl_goto (pc := 705) hV 1311 dL_law_705 (by decide) ?_
  exact hend _ _ ⟨h1, h2, h3, hM, hO, hK, hU, hT, hW, ⟨ht, hT2, hT3⟩, tN⟩
theorem zl_case18 {L : Nat} {xs : Nat → Int32} {b1 b : Nat} {V : Nat → Int → List Value → zq_S → zq_S → Prop} {i : Int} {σ ρ : zq_S} (hV : zl_R L xs b1 b V) (hi : 0 ≤ i ∧ i + 6 ≤ (L : Int)) (hI : zl_I σ ρ) (hend : ∀ σ ρ, zl_I σ ρ → V 1311 i [] σ ρ) : V 708 i [] σ ρ := by
  obtain ⟨h1, h2, h3, hM, hO, hK, hU, hT, hW, ⟨ht, hT2, hT3⟩, hTN⟩ := hI
  refine zl_a1 (pc := 708) hV dL_law_708 ?_
  refine zl_X (pc := 709) hV [] (c_X11_reset (σ := σ) h1   h2) mL_92 dL_law_709 (by decide) (by decide) rfl (fun r σ1 hp => ?_)
  obtain ⟨v, rfl, -, g1, gF, gp, g2⟩ := hp
  refine zl_pop (pc := 712) hV dL_law_712 ?_
  refine zl_a2 (pc := 713) hV dL_law_713 ?_
  refine zl_M (pc := 714) hV [] (c_X12_reset (σ := ρ) h3  ) mL_95 dL_law_714 (by decide) (Nat.le_of_ble_eq_true rfl) rfl (fun r ρ1 hp => ?_)
  obtain ⟨u, rfl, -, k3, hf, kp⟩ := hp
  have tN : zu_TN σ1 ρ1 := (by have o3 : ρ1 0 3 = ρ 0 3 := (hf 0 3 (by omega)); exact zu_TN_fr h3 hO (zs_gg_mk hT3) (gF 134 0 (zc_out_at zc_s134 rfl)) (Int.le_of_eq o3) (fun o o0 o1 => by have z3 := zx_g3 h3; have ka := zc_ga10 h1 zc_s10 o o0 (by omega); rw [show σ1 10 o = σ 10 o from (fun j => gF 10 j (zc_out_ar zc_s10 rfl)) o]; exact ⟨gF _ 15 (zc_out_at ka rfl), gF _ 16 (zc_out_at ka rfl)⟩) (fun o o0 o1 => ⟨hf 3 o (by omega), hf 4 o (by omega), hf 5 o (by omega), fun i _ _ => hf 6 i (by omega), hf 8 o (by omega), hf 9 o (by omega)⟩) hTN)
  refine zl_pop (pc := 717) hV dL_law_717 ?_
  refine zl_goto (pc := 718) hV 1311 dL_law_718 (by decide) ?_
  exact hend _ _ ⟨g1, g2, k3, (zx_M_fr (fun i => hf 18 i (by omega)) (hf 0 30 (by omega)) (hf 0 2 (by omega)) (hf 0 3 (by omega)) hM), (zx_O_fr (fun i => hf 2 i (by omega)) (fun i => hf 5 i (by omega)) (fun i => hf 6 i (by omega)) (hf 0 2 (by omega)) (hf 0 3 (by omega)) hO), (zx_K_fr (fun i => hf 14 i (by omega)) (hf 0 2 (by omega)) hK), (zx_U_fr (hf 0 36 (by omega)) (hf 0 37 (by omega)) (fun i => hf 21 i (by omega)) (fun i => hf 23 i (by omega)) (fun i => hf 24 i (by omega)) hU), (zx_TK_fr (fun i => hf 7 i (by omega)) (hf 0 3 (by omega)) hT), (zx_W_fr (fun i => hf 18 i (by omega)) (hf 0 30 (by omega)) (hf 0 2 (by omega)) (hf 0 3 (by omega)) (fun i => hf 2 i (by omega)) hW), ⟨(zt_fr ht (gF 3 0 (zc_out_at zc_s3 rfl)) (gF 3 1 (zc_out_at zc_s3 rfl)) (gF 3 2 (zc_out_at zc_s3 rfl)) (gF 140 12 (zc_out_at zc_s140 rfl)) (gF 255 4 (zc_out_at zc_s255 rfl)) (fun j => gF 277 j (zc_out_ar zc_s277 rfl)) (fun j => gF 278 j (zc_out_ar zc_s278 rfl)) (hf 0 0 (by omega)) (hf 0 1 (by omega)) (hf 0 2 (by omega)) (hf 0 29 (by omega)) (hf 0 35 (by omega)) (fun j => hf 38 j (by omega)) (fun j => hf 39 j (by omega))), (zu_T2_fr (gF 1 1 (zc_out_at zc_s1 rfl)) (fun j => gF 2 j (zc_out_ar zc_s2 rfl)) (hf 0 14 (by omega)) (fun j => hf 10 j (by omega)) hT2), (zu_T3_same h3 hT3 ⟨(gF 3 3 (zc_out_at zc_s3 rfl)), (gF 3 5 (zc_out_at zc_s3 rfl)), (fun j => gF 10 j (zc_out_ar zc_s10 rfl)), (fun j => gF 11 j (zc_out_ar zc_s11 rfl))⟩ (by rw [gF 3 4 (zc_out_at zc_s3 rfl), hf 0 18 (by omega)]; exact hT3.1.2) (hf 0 3 (by omega)) (hf 0 0 (by omega)) (hf 0 1 (by omega)) (hf 0 2 (by omega)) (fun o o0 o1 => by have ka := zc_ga10 h1 zc_s10 o o0 (by have := zx_g3 h3; omega); exact ⟨⟨gF _ 0 (zc_out_at ka rfl), gF _ 1 (zc_out_at ka rfl), gF _ 2 (zc_out_at ka rfl), gF _ 4 (zc_out_at ka rfl), gF _ 5 (zc_out_at ka rfl), gF _ 6 (zc_out_at ka rfl), gF _ 11 (zc_out_at ka rfl), gF _ 12 (zc_out_at ka rfl), gF _ 13 (zc_out_at ka rfl)⟩, zu_cfk (fun i => gF _ i (zc_out_ar (zc_p4_1 ka) rfl)) (fun i => gF _ i (zc_out_ar (zc_p4_2 ka) rfl)) (fun i => gF _ i (zc_out_ar (zc_p4_3 ka) rfl)) (fun i => gF _ i (zc_out_ar (zc_p4_4 ka) rfl)) (fun i => gF _ i (zc_out_ar (zc_p4_5 ka) rfl))⟩) (fun o o0 o1 => ⟨hf 1 o (by omega), fun i _ _ => hf 2 i (by omega), hf 3 o (by omega), hf 4 o (by omega), hf 5 o (by omega), hf 7 o (by omega), fun i _ _ => hf 6 i (by omega)⟩))⟩, tN⟩
theorem zl_case19 {L : Nat} {xs : Nat → Int32} {b1 b : Nat} {V : Nat → Int → List Value → zq_S → zq_S → Prop} {i : Int} {σ ρ : zq_S} (hV : zl_R L xs b1 b V) (hi : 0 ≤ i ∧ i + 6 ≤ (L : Int)) (hI : zl_I σ ρ) (hend : ∀ σ ρ, zl_I σ ρ → V 1311 i [] σ ρ) : V 721 i [] σ ρ := by
  obtain ⟨h1, h2, h3, hM, hO, hK, hU, hT, hW, ⟨ht, hT2, hT3⟩, hTN⟩ := hI
  refine zl_a1 (pc := 721) hV dL_law_721 ?_
  refine zl_arg (pc := 722) hV (k0 := 1) (by decide) hi dL_law_722 dL_law_723 dL_law_724 dL_law_725 dL_law_726 ?_
  refine zl_X (pc := 727) hV [ZI (zl_x xs (i + 1))] (c_X11_run (σ := σ) h1 (zl_x xs (i + 1)) (zl_xin _ _) h2) mL_96 dL_law_727 (by decide) (by decide) rfl (fun r σ1 hp => ?_)
  obtain ⟨v, rfl, -, g1, gF, gp, g2⟩ := hp
  refine zl_pop (pc := 730) hV dL_law_730 ?_
  refine zl_a2 (pc := 731) hV dL_law_731 ?_
  refine zl_arg (pc := 732) hV (k0 := 1) (by decide) hi dL_law_732 dL_law_733 dL_law_734 dL_law_735 dL_law_736 ?_
  refine zl_M (pc := 737) hV [ZI (zl_x xs (i + 1))] (c_X12_runW (σ := ρ) h3 (zl_x xs (i + 1)) (zl_xin _ _) hM hO hK hW) mL_99 dL_law_737 (by decide) (Nat.le_of_ble_eq_true rfl) rfl (fun r ρ1 hp => ?_)
  obtain ⟨u, rfl, -, k3, hf, kp, M1, O1, K1, W1⟩ := hp
  have tN : zu_TN σ1 ρ1 := (by have o3 : ρ1 0 3 = ρ 0 3 := (hf 0 3 (by omega)); exact zu_TN_fr h3 hO (zs_gg_mk hT3) (gF 134 0 (zc_out_at zc_s134 rfl)) (Int.le_of_eq o3) (fun o o0 o1 => by have z3 := zx_g3 h3; have ka := zc_ga10 h1 zc_s10 o o0 (by omega); rw [show σ1 10 o = σ 10 o from (fun j => gF 10 j (zc_out_ar zc_s10 rfl)) o]; exact ⟨gF _ 15 (zc_out_at ka rfl), gF _ 16 (zc_out_at ka rfl)⟩) (fun o o0 o1 => ⟨hf 3 o (by omega), hf 4 o (by omega), hf 5 o (by omega), fun i _ _ => hf 6 i (by omega), hf 8 o (by omega), hf 9 o (by omega)⟩) hTN)
  refine zl_pop (pc := 740) hV dL_law_740 ?_
  refine zl_goto (pc := 741) hV 1311 dL_law_741 (by decide) ?_
  exact hend _ _ ⟨g1, g2, k3, M1, O1, K1, (zx_U_fr (hf 0 36 (by omega)) (hf 0 37 (by omega)) (fun i => hf 21 i (by omega)) (fun i => hf 23 i (by omega)) (fun i => hf 24 i (by omega)) hU), (zx_TK_fr (fun i => hf 7 i (by omega)) (hf 0 3 (by omega)) hT), W1, ⟨(zt_fr ht (gF 3 0 (zc_out_at zc_s3 rfl)) (gF 3 1 (zc_out_at zc_s3 rfl)) (gF 3 2 (zc_out_at zc_s3 rfl)) (gF 140 12 (zc_out_at zc_s140 rfl)) (gF 255 4 (zc_out_at zc_s255 rfl)) (fun j => gF 277 j (zc_out_ar zc_s277 rfl)) (fun j => gF 278 j (zc_out_ar zc_s278 rfl)) (hf 0 0 (by omega)) (hf 0 1 (by omega)) (hf 0 2 (by omega)) (hf 0 29 (by omega)) (hf 0 35 (by omega)) (fun j => hf 38 j (by omega)) (fun j => hf 39 j (by omega))), (zu_T2_fr (gF 1 1 (zc_out_at zc_s1 rfl)) (fun j => gF 2 j (zc_out_ar zc_s2 rfl)) (hf 0 14 (by omega)) (fun j => hf 10 j (by omega)) hT2), (zu_T3_same h3 hT3 ⟨(gF 3 3 (zc_out_at zc_s3 rfl)), (gF 3 5 (zc_out_at zc_s3 rfl)), (fun j => gF 10 j (zc_out_ar zc_s10 rfl)), (fun j => gF 11 j (zc_out_ar zc_s11 rfl))⟩ (by rw [gF 3 4 (zc_out_at zc_s3 rfl), hf 0 18 (by omega)]; exact hT3.1.2) (hf 0 3 (by omega)) (hf 0 0 (by omega)) (hf 0 1 (by omega)) (hf 0 2 (by omega)) (fun o o0 o1 => by have ka := zc_ga10 h1 zc_s10 o o0 (by have := zx_g3 h3; omega); exact ⟨⟨gF _ 0 (zc_out_at ka rfl), gF _ 1 (zc_out_at ka rfl), gF _ 2 (zc_out_at ka rfl), gF _ 4 (zc_out_at ka rfl), gF _ 5 (zc_out_at ka rfl), gF _ 6 (zc_out_at ka rfl), gF _ 11 (zc_out_at ka rfl), gF _ 12 (zc_out_at ka rfl), gF _ 13 (zc_out_at ka rfl)⟩, zu_cfk (fun i => gF _ i (zc_out_ar (zc_p4_1 ka) rfl)) (fun i => gF _ i (zc_out_ar (zc_p4_2 ka) rfl)) (fun i => gF _ i (zc_out_ar (zc_p4_3 ka) rfl)) (fun i => gF _ i (zc_out_ar (zc_p4_4 ka) rfl)) (fun i => gF _ i (zc_out_ar (zc_p4_5 ka) rfl))⟩) (fun o o0 o1 => ⟨hf 1 o (by omega), fun i _ _ => hf 2 i (by omega), hf 3 o (by omega), hf 4 o (by omega), hf 5 o (by omega), hf 7 o (by omega), fun i _ _ => hf 6 i (by omega)⟩))⟩, tN⟩
theorem zl_case20 {L : Nat} {xs : Nat → Int32} {b1 b : Nat} {V : Nat → Int → List Value → zq_S → zq_S → Prop} {i : Int} {σ ρ : zq_S} (hV : zl_R L xs b1 b V) (hi : 0 ≤ i ∧ i + 6 ≤ (L : Int)) (hI : zl_I σ ρ) (hend : ∀ σ ρ, zl_I σ ρ → V 1311 i [] σ ρ) : V 744 i [] σ ρ := by
  obtain ⟨h1, h2, h3, hM, hO, hK, hU, hT, hW, ⟨ht, hT2, hT3⟩, hTN⟩ := hI
  refine zl_a1 (pc := 744) hV dL_law_744 ?_
  refine zl_arg (pc := 745) hV (k0 := 1) (by decide) hi dL_law_745 dL_law_746 dL_law_747 dL_law_748 dL_law_749 ?_
  refine zl_X (pc := 750) hV [ZI (zl_x xs (i + 1))] (c_X11_back (σ := σ) h1 (zl_x xs (i + 1)) (zl_xin _ _) h2) mL_100 dL_law_750 (by decide) (by decide) rfl (fun r σ1 hp => ?_)
  obtain ⟨v, rfl, -, g1, gF, gp, g2⟩ := hp
  refine zl_pop (pc := 753) hV dL_law_753 ?_
  refine zl_a2 (pc := 754) hV dL_law_754 ?_
  refine zl_arg (pc := 755) hV (k0 := 1) (by decide) hi dL_law_755 dL_law_756 dL_law_757 dL_law_758 dL_law_759 ?_
  refine zl_M (pc := 760) hV [ZI (zl_x xs (i + 1))] (c_X12_back (σ := ρ) h3 (zl_x xs (i + 1)) (zl_xin _ _)) mL_103 dL_law_760 (by decide) (Nat.le_of_ble_eq_true rfl) rfl (fun r ρ1 hp => ?_)
  obtain ⟨u, rfl, -, k3, hf, kp⟩ := hp
  have tN : zu_TN σ1 ρ1 := (by have o3 : ρ1 0 3 = ρ 0 3 := (hf 0 3 (by omega)); exact zu_TN_fr h3 hO (zs_gg_mk hT3) (gF 134 0 (zc_out_at zc_s134 rfl)) (Int.le_of_eq o3) (fun o o0 o1 => by have z3 := zx_g3 h3; have ka := zc_ga10 h1 zc_s10 o o0 (by omega); rw [show σ1 10 o = σ 10 o from (fun j => gF 10 j (zc_out_ar zc_s10 rfl)) o]; exact ⟨gF _ 15 (zc_out_at ka rfl), gF _ 16 (zc_out_at ka rfl)⟩) (fun o o0 o1 => ⟨hf 3 o (by omega), hf 4 o (by omega), hf 5 o (by omega), fun i _ _ => hf 6 i (by omega), hf 8 o (by omega), hf 9 o (by omega)⟩) hTN)
  refine zl_pop (pc := 763) hV dL_law_763 ?_
  refine zl_goto (pc := 764) hV 1311 dL_law_764 (by decide) ?_
  exact hend _ _ ⟨g1, g2, k3, (zx_M_fr (fun i => hf 18 i (by omega)) (hf 0 30 (by omega)) (hf 0 2 (by omega)) (hf 0 3 (by omega)) hM), (zx_O_fr (fun i => hf 2 i (by omega)) (fun i => hf 5 i (by omega)) (fun i => hf 6 i (by omega)) (hf 0 2 (by omega)) (hf 0 3 (by omega)) hO), (zx_K_fr (fun i => hf 14 i (by omega)) (hf 0 2 (by omega)) hK), (zx_U_fr (hf 0 36 (by omega)) (hf 0 37 (by omega)) (fun i => hf 21 i (by omega)) (fun i => hf 23 i (by omega)) (fun i => hf 24 i (by omega)) hU), (zx_TK_fr (fun i => hf 7 i (by omega)) (hf 0 3 (by omega)) hT), (zx_W_fr (fun i => hf 18 i (by omega)) (hf 0 30 (by omega)) (hf 0 2 (by omega)) (hf 0 3 (by omega)) (fun i => hf 2 i (by omega)) hW), ⟨(zt_fr ht (gF 3 0 (zc_out_at zc_s3 rfl)) (gF 3 1 (zc_out_at zc_s3 rfl)) (gF 3 2 (zc_out_at zc_s3 rfl)) (gF 140 12 (zc_out_at zc_s140 rfl)) (gF 255 4 (zc_out_at zc_s255 rfl)) (fun j => gF 277 j (zc_out_ar zc_s277 rfl)) (fun j => gF 278 j (zc_out_ar zc_s278 rfl)) (hf 0 0 (by omega)) (hf 0 1 (by omega)) (hf 0 2 (by omega)) (hf 0 29 (by omega)) (hf 0 35 (by omega)) (fun j => hf 38 j (by omega)) (fun j => hf 39 j (by omega))), (zu_T2_fr (gF 1 1 (zc_out_at zc_s1 rfl)) (fun j => gF 2 j (zc_out_ar zc_s2 rfl)) (hf 0 14 (by omega)) (fun j => hf 10 j (by omega)) hT2), (zu_T3_same h3 hT3 ⟨(gF 3 3 (zc_out_at zc_s3 rfl)), (gF 3 5 (zc_out_at zc_s3 rfl)), (fun j => gF 10 j (zc_out_ar zc_s10 rfl)), (fun j => gF 11 j (zc_out_ar zc_s11 rfl))⟩ (by rw [gF 3 4 (zc_out_at zc_s3 rfl), hf 0 18 (by omega)]; exact hT3.1.2) (hf 0 3 (by omega)) (hf 0 0 (by omega)) (hf 0 1 (by omega)) (hf 0 2 (by omega)) (fun o o0 o1 => by have ka := zc_ga10 h1 zc_s10 o o0 (by have := zx_g3 h3; omega); exact ⟨⟨gF _ 0 (zc_out_at ka rfl), gF _ 1 (zc_out_at ka rfl), gF _ 2 (zc_out_at ka rfl), gF _ 4 (zc_out_at ka rfl), gF _ 5 (zc_out_at ka rfl), gF _ 6 (zc_out_at ka rfl), gF _ 11 (zc_out_at ka rfl), gF _ 12 (zc_out_at ka rfl), gF _ 13 (zc_out_at ka rfl)⟩, zu_cfk (fun i => gF _ i (zc_out_ar (zc_p4_1 ka) rfl)) (fun i => gF _ i (zc_out_ar (zc_p4_2 ka) rfl)) (fun i => gF _ i (zc_out_ar (zc_p4_3 ka) rfl)) (fun i => gF _ i (zc_out_ar (zc_p4_4 ka) rfl)) (fun i => gF _ i (zc_out_ar (zc_p4_5 ka) rfl))⟩) (fun o o0 o1 => ⟨hf 1 o (by omega), fun i _ _ => hf 2 i (by omega), hf 3 o (by omega), hf 4 o (by omega), hf 5 o (by omega), hf 7 o (by omega), fun i _ _ => hf 6 i (by omega)⟩))⟩, tN⟩
theorem zl_case21 {L : Nat} {xs : Nat → Int32} {b1 b : Nat} {V : Nat → Int → List Value → zq_S → zq_S → Prop} {i : Int} {σ ρ : zq_S} (hV : zl_R L xs b1 b V) (hi : 0 ≤ i ∧ i + 6 ≤ (L : Int)) (hI : zl_I σ ρ) (hend : ∀ σ ρ, zl_I σ ρ → V 1311 i [] σ ρ) : V 767 i [] σ ρ := by
  obtain ⟨h1, h2, h3, hM, hO, hK, hU, hT, hW, ⟨ht, hT2, hT3⟩, hTN⟩ := hI
  refine zl_a1 (pc := 767) hV dL_law_767 ?_
  refine zl_arg (pc := 768) hV (k0 := 1) (by decide) hi dL_law_768 dL_law_769 dL_law_770 dL_law_771 dL_law_772 ?_
  refine zl_X (pc := 773) hV [ZI (zl_x xs (i + 1))] (c_X11_so (σ := σ) h1 (zl_x xs (i + 1)) (zl_xin _ _) h2) mL_104 dL_law_773 (by decide) (by decide) rfl (fun r σ1 hp => ?_)
  obtain ⟨rfl, v, rfl, -, gp⟩ := hp
  refine zl_pop (pc := 776) hV dL_law_776 ?_
  refine zl_a2 (pc := 777) hV dL_law_777 ?_
  refine zl_arg (pc := 778) hV (k0 := 1) (by decide) hi dL_law_778 dL_law_779 dL_law_780 dL_law_781 dL_law_782 ?_
  refine zl_M (pc := 783) hV [ZI (zl_x xs (i + 1))] (c_X12_so (σ := ρ) h3 (zl_x xs (i + 1)) (zl_xin _ _)) mL_107 dL_law_783 (by decide) (Nat.le_of_ble_eq_true rfl) rfl (fun r ρ1 hp => ?_)
  obtain ⟨rfl, u, rfl, -, kp⟩ := hp
  have tN := hTN
  refine zl_pop (pc := 786) hV dL_law_786 ?_
  refine zl_goto (pc := 787) hV 1311 dL_law_787 (by decide) ?_
  exact hend _ _ ⟨h1, h2, h3, hM, hO, hK, hU, hT, hW, ⟨ht, hT2, hT3⟩, tN⟩
theorem zl_case22 {L : Nat} {xs : Nat → Int32} {b1 b : Nat} {V : Nat → Int → List Value → zq_S → zq_S → Prop} {i : Int} {σ ρ : zq_S} (hV : zl_R L xs b1 b V) (hi : 0 ≤ i ∧ i + 6 ≤ (L : Int)) (hI : zl_I σ ρ) (hend : ∀ σ ρ, zl_I σ ρ → V 1311 i [] σ ρ) : V 790 i [] σ ρ := by
  obtain ⟨h1, h2, h3, hM, hO, hK, hU, hT, hW, ⟨ht, hT2, hT3⟩, hTN⟩ := hI
  refine zl_a1 (pc := 790) hV dL_law_790 ?_
  refine zl_arg (pc := 791) hV (k0 := 1) (by decide) hi dL_law_791 dL_law_792 dL_law_793 dL_law_794 dL_law_795 ?_
  refine zl_X (pc := 796) hV [ZI (zl_x xs (i + 1))] (c_X11_flush_2 (σ := σ) h1 (zl_x xs (i + 1)) (zl_xin _ _) h2) mL_108 dL_law_796 (by decide) (by decide) rfl (fun r σ1 hp => ?_)
  obtain ⟨v, rfl, -, g1, gF, gp, g2⟩ := hp
  refine zl_pop (pc := 799) hV dL_law_799 ?_
  refine zl_a2 (pc := 800) hV dL_law_800 ?_
  refine zl_arg (pc := 801) hV (k0 := 1) (by decide) hi dL_law_801 dL_law_802 dL_law_803 dL_law_804 dL_law_805 ?_
  refine zl_M (pc := 806) hV [ZI (zl_x xs (i + 1))] (c_X12_flush2 (σ := ρ) h3 (zl_x xs (i + 1)) (zl_xin _ _)) mL_111 dL_law_806 (by decide) (Nat.le_of_ble_eq_true rfl) rfl (fun r ρ1 hp => ?_)
  obtain ⟨u, rfl, -, k3, hf, kp⟩ := hp
  have hq := ht.1
  have hk : zq_shl 1 (σ 3 1) = zq_shl 1 (ρ 0 1) := by rw [hq.2.1]
  have d3_0 := gF 3 0 (zc_out_at zc_s3 rfl)
  have d3_1 := gF 3 1 (zc_out_at zc_s3 rfl)
  have d3_2 := gF 3 2 (zc_out_at zc_s3 rfl)
  have d255_4 := gF 255 4 (zc_out_at zc_s255 rfl)
  have e0_0 := hf 0 0 (by omega)
  have e0_1 := hf 0 1 (by omega)
  have e0_2 := hf 0 2 (by omega)
  have e0_35 := hf 0 35 (by omega)
  have tt : zt σ1 ρ1 := ⟨(by omega), fun j j0 j3 => ⟨by rw [gF 277 j (zc_out_ar zc_s277 rfl), hf 38 j (by omega), (ht.2 j j0 j3).1], by rw [gF 278 j (zc_out_ar zc_s278 rfl), hf 39 j (by omega), (ht.2 j j0 j3).2]⟩⟩
  have tN : zu_TN σ1 ρ1 := (by have o3 : ρ1 0 3 = ρ 0 3 := (hf 0 3 (by omega)); exact zu_TN_fr h3 hO (zs_gg_mk hT3) (gF 134 0 (zc_out_at zc_s134 rfl)) (Int.le_of_eq o3) (fun o o0 o1 => by have z3 := zx_g3 h3; have ka := zc_ga10 h1 zc_s10 o o0 (by omega); rw [show σ1 10 o = σ 10 o from (fun j => gF 10 j (zc_out_ar zc_s10 rfl)) o]; exact ⟨gF _ 15 (zc_out_at ka rfl), gF _ 16 (zc_out_at ka rfl)⟩) (fun o o0 o1 => ⟨hf 3 o (by omega), hf 4 o (by omega), hf 5 o (by omega), fun i _ _ => hf 6 i (by omega), hf 8 o (by omega), hf 9 o (by omega)⟩) hTN)
  refine zl_pop (pc := 809) hV dL_law_809 ?_
  refine zl_goto (pc := 810) hV 1311 dL_law_810 (by decide) ?_
  exact hend _ _ ⟨g1, g2, k3, (zx_M_fr (fun i => hf 18 i (by omega)) (hf 0 30 (by omega)) (hf 0 2 (by omega)) (hf 0 3 (by omega)) hM), (zx_O_fr (fun i => hf 2 i (by omega)) (fun i => hf 5 i (by omega)) (fun i => hf 6 i (by omega)) (hf 0 2 (by omega)) (hf 0 3 (by omega)) hO), (zx_K_fr (fun i => hf 14 i (by omega)) (hf 0 2 (by omega)) hK), (zx_U_fr (hf 0 36 (by omega)) (hf 0 37 (by omega)) (fun i => hf 21 i (by omega)) (fun i => hf 23 i (by omega)) (fun i => hf 24 i (by omega)) hU), (zx_TK_fr (fun i => hf 7 i (by omega)) (hf 0 3 (by omega)) hT), (zx_W_fr (fun i => hf 18 i (by omega)) (hf 0 30 (by omega)) (hf 0 2 (by omega)) (hf 0 3 (by omega)) (fun i => hf 2 i (by omega)) hW), ⟨tt, (zu_T2_fr (gF 1 1 (zc_out_at zc_s1 rfl)) (fun j => gF 2 j (zc_out_ar zc_s2 rfl)) (hf 0 14 (by omega)) (fun j => hf 10 j (by omega)) hT2), (zu_T3_same h3 hT3 ⟨(gF 3 3 (zc_out_at zc_s3 rfl)), (gF 3 5 (zc_out_at zc_s3 rfl)), (fun j => gF 10 j (zc_out_ar zc_s10 rfl)), (fun j => gF 11 j (zc_out_ar zc_s11 rfl))⟩ (by rw [gF 3 4 (zc_out_at zc_s3 rfl), hf 0 18 (by omega)]; exact hT3.1.2) (hf 0 3 (by omega)) (hf 0 0 (by omega)) (hf 0 1 (by omega)) (hf 0 2 (by omega)) (fun o o0 o1 => by have ka := zc_ga10 h1 zc_s10 o o0 (by have := zx_g3 h3; omega); exact ⟨⟨gF _ 0 (zc_out_at ka rfl), gF _ 1 (zc_out_at ka rfl), gF _ 2 (zc_out_at ka rfl), gF _ 4 (zc_out_at ka rfl), gF _ 5 (zc_out_at ka rfl), gF _ 6 (zc_out_at ka rfl), gF _ 11 (zc_out_at ka rfl), gF _ 12 (zc_out_at ka rfl), gF _ 13 (zc_out_at ka rfl)⟩, zu_cfk (fun i => gF _ i (zc_out_ar (zc_p4_1 ka) rfl)) (fun i => gF _ i (zc_out_ar (zc_p4_2 ka) rfl)) (fun i => gF _ i (zc_out_ar (zc_p4_3 ka) rfl)) (fun i => gF _ i (zc_out_ar (zc_p4_4 ka) rfl)) (fun i => gF _ i (zc_out_ar (zc_p4_5 ka) rfl))⟩) (fun o o0 o1 => ⟨hf 1 o (by omega), fun i _ _ => hf 2 i (by omega), hf 3 o (by omega), hf 4 o (by omega), hf 5 o (by omega), hf 7 o (by omega), fun i _ _ => hf 6 i (by omega)⟩))⟩, tN⟩
theorem zl_case23 {L : Nat} {xs : Nat → Int32} {b1 b : Nat} {V : Nat → Int → List Value → zq_S → zq_S → Prop} {i : Int} {σ ρ : zq_S} (hV : zl_R L xs b1 b V) (hi : 0 ≤ i ∧ i + 6 ≤ (L : Int)) (hI : zl_I σ ρ) (hend : ∀ σ ρ, zl_I σ ρ → V 1311 i [] σ ρ) : V 813 i [] σ ρ := by
  obtain ⟨h1, h2, h3, hM, hO, hK, hU, hT, hW, ⟨ht, hT2, hT3⟩, hTN⟩ := hI
  refine zl_a1 (pc := 813) hV dL_law_813 ?_
  refine zl_X (pc := 814) hV [] (c_X11_line_2 (σ := σ) h1   h2) mL_112 dL_law_814 (by decide) (by decide) rfl (fun r σ1 hp => ?_)
  obtain ⟨v, rfl, -, g1, gF, gp, g2⟩ := hp
  refine zl_pop (pc := 817) hV dL_law_817 ?_
  refine zl_a2 (pc := 818) hV dL_law_818 ?_
  refine zl_M (pc := 819) hV [] (c_X12_line2 (σ := ρ) h3  ) mL_115 dL_law_819 (by decide) (Nat.le_of_ble_eq_true rfl) rfl (fun r ρ1 hp => ?_)
  obtain ⟨u, rfl, -, k3, hf, kp⟩ := hp
  have t2 : zu_T2 σ1 ρ1 := ⟨by omega, fun i => by rw [gF 2 i (zc_out_ar zc_s2 rfl), hf 10 i (by omega)]; exact hT2.2 i⟩
  have tN : zu_TN σ1 ρ1 := (by have o3 : ρ1 0 3 = ρ 0 3 := (hf 0 3 (by omega)); exact zu_TN_fr h3 hO (zs_gg_mk hT3) (gF 134 0 (zc_out_at zc_s134 rfl)) (Int.le_of_eq o3) (fun o o0 o1 => by have z3 := zx_g3 h3; have ka := zc_ga10 h1 zc_s10 o o0 (by omega); rw [show σ1 10 o = σ 10 o from (fun j => gF 10 j (zc_out_ar zc_s10 rfl)) o]; exact ⟨gF _ 15 (zc_out_at ka rfl), gF _ 16 (zc_out_at ka rfl)⟩) (fun o o0 o1 => ⟨hf 3 o (by omega), hf 4 o (by omega), hf 5 o (by omega), fun i _ _ => hf 6 i (by omega), hf 8 o (by omega), hf 9 o (by omega)⟩) hTN)
  refine zl_pop (pc := 822) hV dL_law_822 ?_
  refine zl_goto (pc := 823) hV 1311 dL_law_823 (by decide) ?_
  exact hend _ _ ⟨g1, g2, k3, (zx_M_fr (fun i => hf 18 i (by omega)) (hf 0 30 (by omega)) (hf 0 2 (by omega)) (hf 0 3 (by omega)) hM), (zx_O_fr (fun i => hf 2 i (by omega)) (fun i => hf 5 i (by omega)) (fun i => hf 6 i (by omega)) (hf 0 2 (by omega)) (hf 0 3 (by omega)) hO), (zx_K_fr (fun i => hf 14 i (by omega)) (hf 0 2 (by omega)) hK), (zx_U_fr (hf 0 36 (by omega)) (hf 0 37 (by omega)) (fun i => hf 21 i (by omega)) (fun i => hf 23 i (by omega)) (fun i => hf 24 i (by omega)) hU), (zx_TK_fr (fun i => hf 7 i (by omega)) (hf 0 3 (by omega)) hT), (zx_W_fr (fun i => hf 18 i (by omega)) (hf 0 30 (by omega)) (hf 0 2 (by omega)) (hf 0 3 (by omega)) (fun i => hf 2 i (by omega)) hW), ⟨(zt_fr ht (gF 3 0 (zc_out_at zc_s3 rfl)) (gF 3 1 (zc_out_at zc_s3 rfl)) (gF 3 2 (zc_out_at zc_s3 rfl)) (gF 140 12 (zc_out_at zc_s140 rfl)) (gF 255 4 (zc_out_at zc_s255 rfl)) (fun j => gF 277 j (zc_out_ar zc_s277 rfl)) (fun j => gF 278 j (zc_out_ar zc_s278 rfl)) (hf 0 0 (by omega)) (hf 0 1 (by omega)) (hf 0 2 (by omega)) (hf 0 29 (by omega)) (hf 0 35 (by omega)) (fun j => hf 38 j (by omega)) (fun j => hf 39 j (by omega))), t2, (zu_T3_same h3 hT3 ⟨(gF 3 3 (zc_out_at zc_s3 rfl)), (gF 3 5 (zc_out_at zc_s3 rfl)), (fun j => gF 10 j (zc_out_ar zc_s10 rfl)), (fun j => gF 11 j (zc_out_ar zc_s11 rfl))⟩ (by rw [gF 3 4 (zc_out_at zc_s3 rfl), hf 0 18 (by omega)]; exact hT3.1.2) (hf 0 3 (by omega)) (hf 0 0 (by omega)) (hf 0 1 (by omega)) (hf 0 2 (by omega)) (fun o o0 o1 => by have ka := zc_ga10 h1 zc_s10 o o0 (by have := zx_g3 h3; omega); exact ⟨⟨gF _ 0 (zc_out_at ka rfl), gF _ 1 (zc_out_at ka rfl), gF _ 2 (zc_out_at ka rfl), gF _ 4 (zc_out_at ka rfl), gF _ 5 (zc_out_at ka rfl), gF _ 6 (zc_out_at ka rfl), gF _ 11 (zc_out_at ka rfl), gF _ 12 (zc_out_at ka rfl), gF _ 13 (zc_out_at ka rfl)⟩, zu_cfk (fun i => gF _ i (zc_out_ar (zc_p4_1 ka) rfl)) (fun i => gF _ i (zc_out_ar (zc_p4_2 ka) rfl)) (fun i => gF _ i (zc_out_ar (zc_p4_3 ka) rfl)) (fun i => gF _ i (zc_out_ar (zc_p4_4 ka) rfl)) (fun i => gF _ i (zc_out_ar (zc_p4_5 ka) rfl))⟩) (fun o o0 o1 => ⟨hf 1 o (by omega), fun i _ _ => hf 2 i (by omega), hf 3 o (by omega), hf 4 o (by omega), hf 5 o (by omega), hf 7 o (by omega), fun i _ _ => hf 6 i (by omega)⟩))⟩, tN⟩
theorem zl_case24 {L : Nat} {xs : Nat → Int32} {b1 b : Nat} {V : Nat → Int → List Value → zq_S → zq_S → Prop} {i : Int} {σ ρ : zq_S} (hV : zl_R L xs b1 b V) (hi : 0 ≤ i ∧ i + 6 ≤ (L : Int)) (hI : zl_I σ ρ) (hend : ∀ σ ρ, zl_I σ ρ → V 1311 i [] σ ρ) : V 826 i [] σ ρ := by
  obtain ⟨h1, h2, h3, hM, hO, hK, hU, hT, hW, ⟨ht, hT2, hT3⟩, hTN⟩ := hI
  refine zl_a1 (pc := 826) hV dL_law_826 ?_
  refine zl_arg (pc := 827) hV (k0 := 1) (by decide) hi dL_law_827 dL_law_828 dL_law_829 dL_law_830 dL_law_831 ?_
  refine zl_arg (pc := 832) hV (k0 := 2) (by decide) hi dL_law_832 dL_law_833 dL_law_834 dL_law_835 dL_law_836 ?_
  refine zl_X (pc := 837) hV [ZI (zl_x xs (i + 1)), ZI (zl_x xs (i + 2))] (c_X11_text (σ := σ) h1 (zl_x xs (i + 1)) (zl_x xs (i + 2)) (zl_xin _ _) (zl_xin _ _) h2) mL_116 dL_law_837 (by decide) (by decide) rfl (fun r σ1 hp => ?_)
  obtain ⟨v, rfl, -, g1, gF, gp, g2⟩ := hp
  refine zl_pop (pc := 840) hV dL_law_840 ?_
  refine zl_a2 (pc := 841) hV dL_law_841 ?_
  refine zl_arg (pc := 842) hV (k0 := 1) (by decide) hi dL_law_842 dL_law_843 dL_law_844 dL_law_845 dL_law_846 ?_
  refine zl_arg (pc := 847) hV (k0 := 2) (by decide) hi dL_law_847 dL_law_848 dL_law_849 dL_law_850 dL_law_851 ?_
  refine zl_M (pc := 852) hV [ZI (zl_x xs (i + 1)), ZI (zl_x xs (i + 2))] (c_X12_textW (σ := ρ) h3 (zl_x xs (i + 1)) (zl_x xs (i + 2)) (zl_xin _ _) (zl_xin _ _) hM hO hW) mL_119 dL_law_852 (by decide) (Nat.le_of_ble_eq_true rfl) rfl (fun r ρ1 hp => ?_)
  obtain ⟨u, rfl, -, k3, hf, kp, M1, O1, W1⟩ := hp
  have tN : zu_TN σ1 ρ1 := (by have o3 : ρ1 0 3 = ρ 0 3 := (hf 0 3 (by omega)); exact zu_TN_fr h3 hO (zs_gg_mk hT3) (gF 134 0 (zc_out_at zc_s134 rfl)) (Int.le_of_eq o3) (fun o o0 o1 => by have z3 := zx_g3 h3; have ka := zc_ga10 h1 zc_s10 o o0 (by omega); rw [show σ1 10 o = σ 10 o from (fun j => gF 10 j (zc_out_ar zc_s10 rfl)) o]; exact ⟨gF _ 15 (zc_out_at ka rfl), gF _ 16 (zc_out_at ka rfl)⟩) (fun o o0 o1 => ⟨hf 3 o (by omega), hf 4 o (by omega), hf 5 o (by omega), fun i _ _ => hf 6 i (by omega), hf 8 o (by omega), hf 9 o (by omega)⟩) hTN)
  refine zl_pop (pc := 855) hV dL_law_855 ?_
  refine zl_goto (pc := 856) hV 1311 dL_law_856 (by decide) ?_
  exact hend _ _ ⟨g1, g2, k3, M1, O1, (zx_K_fr (fun i => hf 14 i (by omega)) (hf 0 2 (by omega)) hK), (zx_U_fr (hf 0 36 (by omega)) (hf 0 37 (by omega)) (fun i => hf 21 i (by omega)) (fun i => hf 23 i (by omega)) (fun i => hf 24 i (by omega)) hU), (zx_TK_fr (fun i => hf 7 i (by omega)) (hf 0 3 (by omega)) hT), W1, ⟨(zt_fr ht (gF 3 0 (zc_out_at zc_s3 rfl)) (gF 3 1 (zc_out_at zc_s3 rfl)) (gF 3 2 (zc_out_at zc_s3 rfl)) (gF 140 12 (zc_out_at zc_s140 rfl)) (gF 255 4 (zc_out_at zc_s255 rfl)) (fun j => gF 277 j (zc_out_ar zc_s277 rfl)) (fun j => gF 278 j (zc_out_ar zc_s278 rfl)) (hf 0 0 (by omega)) (hf 0 1 (by omega)) (hf 0 2 (by omega)) (hf 0 29 (by omega)) (hf 0 35 (by omega)) (fun j => hf 38 j (by omega)) (fun j => hf 39 j (by omega))), (zu_T2_fr (gF 1 1 (zc_out_at zc_s1 rfl)) (fun j => gF 2 j (zc_out_ar zc_s2 rfl)) (hf 0 14 (by omega)) (fun j => hf 10 j (by omega)) hT2), (zu_T3_same h3 hT3 ⟨(gF 3 3 (zc_out_at zc_s3 rfl)), (gF 3 5 (zc_out_at zc_s3 rfl)), (fun j => gF 10 j (zc_out_ar zc_s10 rfl)), (fun j => gF 11 j (zc_out_ar zc_s11 rfl))⟩ (by rw [gF 3 4 (zc_out_at zc_s3 rfl), hf 0 18 (by omega)]; exact hT3.1.2) (hf 0 3 (by omega)) (hf 0 0 (by omega)) (hf 0 1 (by omega)) (hf 0 2 (by omega)) (fun o o0 o1 => by have ka := zc_ga10 h1 zc_s10 o o0 (by have := zx_g3 h3; omega); exact ⟨⟨gF _ 0 (zc_out_at ka rfl), gF _ 1 (zc_out_at ka rfl), gF _ 2 (zc_out_at ka rfl), gF _ 4 (zc_out_at ka rfl), gF _ 5 (zc_out_at ka rfl), gF _ 6 (zc_out_at ka rfl), gF _ 11 (zc_out_at ka rfl), gF _ 12 (zc_out_at ka rfl), gF _ 13 (zc_out_at ka rfl)⟩, zu_cfk (fun i => gF _ i (zc_out_ar (zc_p4_1 ka) rfl)) (fun i => gF _ i (zc_out_ar (zc_p4_2 ka) rfl)) (fun i => gF _ i (zc_out_ar (zc_p4_3 ka) rfl)) (fun i => gF _ i (zc_out_ar (zc_p4_4 ka) rfl)) (fun i => gF _ i (zc_out_ar (zc_p4_5 ka) rfl))⟩) (fun o o0 o1 => ⟨hf 1 o (by omega), fun i _ _ => hf 2 i (by omega), hf 3 o (by omega), hf 4 o (by omega), hf 5 o (by omega), hf 7 o (by omega), fun i _ _ => hf 6 i (by omega)⟩))⟩, tN⟩
theorem zl_case25 {L : Nat} {xs : Nat → Int32} {b1 b : Nat} {V : Nat → Int → List Value → zq_S → zq_S → Prop} {i : Int} {σ ρ : zq_S} (hV : zl_R L xs b1 b V) (hi : 0 ≤ i ∧ i + 6 ≤ (L : Int)) (hI : zl_I σ ρ) (hend : ∀ σ ρ, zl_I σ ρ → V 1311 i [] σ ρ) : V 859 i [] σ ρ := by
  obtain ⟨h1, h2, h3, hM, hO, hK, hU, hT, hW, ⟨ht, hT2, hT3⟩, hTN⟩ := hI
  refine zl_a1 (pc := 859) hV dL_law_859 ?_
  refine zl_arg (pc := 860) hV (k0 := 1) (by decide) hi dL_law_860 dL_law_861 dL_law_862 dL_law_863 dL_law_864 ?_
  refine zl_X (pc := 865) hV [ZI (zl_x xs (i + 1))] (c_X11_variables_2 (σ := σ) h1 (zl_x xs (i + 1)) (zl_xin _ _) h2) mL_120 dL_law_865 (by decide) (by decide) rfl (fun r σ1 hp => ?_)
  obtain ⟨v, rfl, -, g1, gF, gp, g2⟩ := hp
  refine zl_pop (pc := 868) hV dL_law_868 ?_
  refine zl_a2 (pc := 869) hV dL_law_869 ?_
  refine zl_arg (pc := 870) hV (k0 := 1) (by decide) hi dL_law_870 dL_law_871 dL_law_872 dL_law_873 dL_law_874 ?_
  refine zl_M (pc := 875) hV [ZI (zl_x xs (i + 1))] (c_X12_variables3 (σ := ρ) h3 (zl_x xs (i + 1)) (zl_xin _ _) hU) mL_123 dL_law_875 (by decide) (Nat.le_of_ble_eq_true rfl) rfl (fun r ρ1 hp => ?_)
  obtain ⟨u, rfl, -, k3, hf, kp, U1⟩ := hp
  have hq := ht.1
  have hk : zq_shl 1 (σ 3 1) = zq_shl 1 (ρ 0 1) := by rw [hq.2.1]
  have d3_0 := gF 3 0 (zc_out_at zc_s3 rfl)
  have d3_1 := gF 3 1 (zc_out_at zc_s3 rfl)
  have d3_2 := gF 3 2 (zc_out_at zc_s3 rfl)
  have d140_12 := gF 140 12 (zc_out_at zc_s140 rfl)
  have e0_0 := hf 0 0 (by omega)
  have e0_1 := hf 0 1 (by omega)
  have e0_2 := hf 0 2 (by omega)
  have e0_29 := hf 0 29 (by omega)
  have tt : zt σ1 ρ1 := ⟨(by omega), fun j j0 j3 => ⟨by rw [gF 277 j (zc_out_ar zc_s277 rfl), hf 38 j (by omega), (ht.2 j j0 j3).1], by rw [gF 278 j (zc_out_ar zc_s278 rfl), hf 39 j (by omega), (ht.2 j j0 j3).2]⟩⟩
  have tN : zu_TN σ1 ρ1 := (by have o3 : ρ1 0 3 = ρ 0 3 := (hf 0 3 (by omega)); exact zu_TN_fr h3 hO (zs_gg_mk hT3) (gF 134 0 (zc_out_at zc_s134 rfl)) (Int.le_of_eq o3) (fun o o0 o1 => by have z3 := zx_g3 h3; have ka := zc_ga10 h1 zc_s10 o o0 (by omega); rw [show σ1 10 o = σ 10 o from (fun j => gF 10 j (zc_out_ar zc_s10 rfl)) o]; exact ⟨gF _ 15 (zc_out_at ka rfl), gF _ 16 (zc_out_at ka rfl)⟩) (fun o o0 o1 => ⟨hf 3 o (by omega), hf 4 o (by omega), hf 5 o (by omega), fun i _ _ => hf 6 i (by omega), hf 8 o (by omega), hf 9 o (by omega)⟩) hTN)
  refine zl_pop (pc := 878) hV dL_law_878 ?_
  refine zl_goto (pc := 879) hV 1311 dL_law_879 (by decide) ?_
  exact hend _ _ ⟨g1, g2, k3, (zx_M_fr (fun i => hf 18 i (by omega)) (hf 0 30 (by omega)) (hf 0 2 (by omega)) (hf 0 3 (by omega)) hM), (zx_O_fr (fun i => hf 2 i (by omega)) (fun i => hf 5 i (by omega)) (fun i => hf 6 i (by omega)) (hf 0 2 (by omega)) (hf 0 3 (by omega)) hO), (zx_K_fr (fun i => hf 14 i (by omega)) (hf 0 2 (by omega)) hK), U1, (zx_TK_fr (fun i => hf 7 i (by omega)) (hf 0 3 (by omega)) hT), (zx_W_fr (fun i => hf 18 i (by omega)) (hf 0 30 (by omega)) (hf 0 2 (by omega)) (hf 0 3 (by omega)) (fun i => hf 2 i (by omega)) hW), ⟨tt, (zu_T2_fr (gF 1 1 (zc_out_at zc_s1 rfl)) (fun j => gF 2 j (zc_out_ar zc_s2 rfl)) (hf 0 14 (by omega)) (fun j => hf 10 j (by omega)) hT2), (zu_T3_same h3 hT3 ⟨(gF 3 3 (zc_out_at zc_s3 rfl)), (gF 3 5 (zc_out_at zc_s3 rfl)), (fun j => gF 10 j (zc_out_ar zc_s10 rfl)), (fun j => gF 11 j (zc_out_ar zc_s11 rfl))⟩ (by rw [gF 3 4 (zc_out_at zc_s3 rfl), hf 0 18 (by omega)]; exact hT3.1.2) (hf 0 3 (by omega)) (hf 0 0 (by omega)) (hf 0 1 (by omega)) (hf 0 2 (by omega)) (fun o o0 o1 => by have ka := zc_ga10 h1 zc_s10 o o0 (by have := zx_g3 h3; omega); exact ⟨⟨gF _ 0 (zc_out_at ka rfl), gF _ 1 (zc_out_at ka rfl), gF _ 2 (zc_out_at ka rfl), gF _ 4 (zc_out_at ka rfl), gF _ 5 (zc_out_at ka rfl), gF _ 6 (zc_out_at ka rfl), gF _ 11 (zc_out_at ka rfl), gF _ 12 (zc_out_at ka rfl), gF _ 13 (zc_out_at ka rfl)⟩, zu_cfk (fun i => gF _ i (zc_out_ar (zc_p4_1 ka) rfl)) (fun i => gF _ i (zc_out_ar (zc_p4_2 ka) rfl)) (fun i => gF _ i (zc_out_ar (zc_p4_3 ka) rfl)) (fun i => gF _ i (zc_out_ar (zc_p4_4 ka) rfl)) (fun i => gF _ i (zc_out_ar (zc_p4_5 ka) rfl))⟩) (fun o o0 o1 => ⟨hf 1 o (by omega), fun i _ _ => hf 2 i (by omega), hf 3 o (by omega), hf 4 o (by omega), hf 5 o (by omega), hf 7 o (by omega), fun i _ _ => hf 6 i (by omega)⟩))⟩, tN⟩
theorem zl_case26 {L : Nat} {xs : Nat → Int32} {b1 b : Nat} {V : Nat → Int → List Value → zq_S → zq_S → Prop} {i : Int} {σ ρ : zq_S} (hV : zl_R L xs b1 b V) (hi : 0 ≤ i ∧ i + 6 ≤ (L : Int)) (hI : zl_I σ ρ) (hend : ∀ σ ρ, zl_I σ ρ → V 1311 i [] σ ρ) : V 882 i [] σ ρ := by
  obtain ⟨h1, h2, h3, hM, hO, hK, hU, hT, hW, ⟨ht, hT2, hT3⟩, hTN⟩ := hI
  refine zl_a1 (pc := 882) hV dL_law_882 ?_
  refine zl_X (pc := 883) hV [] (c_X11_sum_2 (σ := σ) h1   h2) mL_124 dL_law_883 (by decide) (by decide) rfl (fun r σ1 hp => ?_)
  obtain ⟨v, rfl, -, g1, gF, gp, g2⟩ := hp
  refine zl_pop (pc := 886) hV dL_law_886 ?_
  refine zl_a2 (pc := 887) hV dL_law_887 ?_
  refine zl_M (pc := 888) hV [] (c_X12_sum2 (σ := ρ) h3  hU) mL_127 dL_law_888 (by decide) (Nat.le_of_ble_eq_true rfl) rfl (fun r ρ1 hp => ?_)
  obtain ⟨u, rfl, -, k3, hf, kp, U1⟩ := hp
  have t2 : zu_T2 σ1 ρ1 := ⟨by omega, fun i => by rw [gF 2 i (zc_out_ar zc_s2 rfl), hf 10 i (by omega)]; exact hT2.2 i⟩
  have tN : zu_TN σ1 ρ1 := (by have o3 : ρ1 0 3 = ρ 0 3 := (hf 0 3 (by omega)); exact zu_TN_fr h3 hO (zs_gg_mk hT3) (gF 134 0 (zc_out_at zc_s134 rfl)) (Int.le_of_eq o3) (fun o o0 o1 => by have z3 := zx_g3 h3; have ka := zc_ga10 h1 zc_s10 o o0 (by omega); rw [show σ1 10 o = σ 10 o from (fun j => gF 10 j (zc_out_ar zc_s10 rfl)) o]; exact ⟨gF _ 15 (zc_out_at ka rfl), gF _ 16 (zc_out_at ka rfl)⟩) (fun o o0 o1 => ⟨hf 3 o (by omega), hf 4 o (by omega), hf 5 o (by omega), fun i _ _ => hf 6 i (by omega), hf 8 o (by omega), hf 9 o (by omega)⟩) hTN)
  refine zl_pop (pc := 891) hV dL_law_891 ?_
  refine zl_goto (pc := 892) hV 1311 dL_law_892 (by decide) ?_
  exact hend _ _ ⟨g1, g2, k3, (zx_M_fr (fun i => hf 18 i (by omega)) (hf 0 30 (by omega)) (hf 0 2 (by omega)) (hf 0 3 (by omega)) hM), (zx_O_fr (fun i => hf 2 i (by omega)) (fun i => hf 5 i (by omega)) (fun i => hf 6 i (by omega)) (hf 0 2 (by omega)) (hf 0 3 (by omega)) hO), (zx_K_fr (fun i => hf 14 i (by omega)) (hf 0 2 (by omega)) hK), U1, (zx_TK_fr (fun i => hf 7 i (by omega)) (hf 0 3 (by omega)) hT), (zx_W_fr (fun i => hf 18 i (by omega)) (hf 0 30 (by omega)) (hf 0 2 (by omega)) (hf 0 3 (by omega)) (fun i => hf 2 i (by omega)) hW), ⟨(zt_fr ht (gF 3 0 (zc_out_at zc_s3 rfl)) (gF 3 1 (zc_out_at zc_s3 rfl)) (gF 3 2 (zc_out_at zc_s3 rfl)) (gF 140 12 (zc_out_at zc_s140 rfl)) (gF 255 4 (zc_out_at zc_s255 rfl)) (fun j => gF 277 j (zc_out_ar zc_s277 rfl)) (fun j => gF 278 j (zc_out_ar zc_s278 rfl)) (hf 0 0 (by omega)) (hf 0 1 (by omega)) (hf 0 2 (by omega)) (hf 0 29 (by omega)) (hf 0 35 (by omega)) (fun j => hf 38 j (by omega)) (fun j => hf 39 j (by omega))), t2, (zu_T3_same h3 hT3 ⟨(gF 3 3 (zc_out_at zc_s3 rfl)), (gF 3 5 (zc_out_at zc_s3 rfl)), (fun j => gF 10 j (zc_out_ar zc_s10 rfl)), (fun j => gF 11 j (zc_out_ar zc_s11 rfl))⟩ (by rw [gF 3 4 (zc_out_at zc_s3 rfl), hf 0 18 (by omega)]; exact hT3.1.2) (hf 0 3 (by omega)) (hf 0 0 (by omega)) (hf 0 1 (by omega)) (hf 0 2 (by omega)) (fun o o0 o1 => by have ka := zc_ga10 h1 zc_s10 o o0 (by have := zx_g3 h3; omega); exact ⟨⟨gF _ 0 (zc_out_at ka rfl), gF _ 1 (zc_out_at ka rfl), gF _ 2 (zc_out_at ka rfl), gF _ 4 (zc_out_at ka rfl), gF _ 5 (zc_out_at ka rfl), gF _ 6 (zc_out_at ka rfl), gF _ 11 (zc_out_at ka rfl), gF _ 12 (zc_out_at ka rfl), gF _ 13 (zc_out_at ka rfl)⟩, zu_cfk (fun i => gF _ i (zc_out_ar (zc_p4_1 ka) rfl)) (fun i => gF _ i (zc_out_ar (zc_p4_2 ka) rfl)) (fun i => gF _ i (zc_out_ar (zc_p4_3 ka) rfl)) (fun i => gF _ i (zc_out_ar (zc_p4_4 ka) rfl)) (fun i => gF _ i (zc_out_ar (zc_p4_5 ka) rfl))⟩) (fun o o0 o1 => ⟨hf 1 o (by omega), fun i _ _ => hf 2 i (by omega), hf 3 o (by omega), hf 4 o (by omega), hf 5 o (by omega), hf 7 o (by omega), fun i _ _ => hf 6 i (by omega)⟩))⟩, tN⟩
theorem zl_case27 {L : Nat} {xs : Nat → Int32} {b1 b : Nat} {V : Nat → Int → List Value → zq_S → zq_S → Prop} {i : Int} {σ ρ : zq_S} (hV : zl_R L xs b1 b V) (hi : 0 ≤ i ∧ i + 6 ≤ (L : Int)) (hI : zl_I σ ρ) (hend : ∀ σ ρ, zl_I σ ρ → V 1311 i [] σ ρ) : V 895 i [] σ ρ := by
  obtain ⟨h1, h2, h3, hM, hO, hK, hU, hT, hW, ⟨ht, hT2, hT3⟩, hTN⟩ := hI
  refine zl_a1 (pc := 895) hV dL_law_895 ?_
  refine zl_X (pc := 896) hV [] (c_X11_price (σ := σ) h1   h2) mL_128 dL_law_896 (by decide) (by decide) rfl (fun r σ1 hp => ?_)
  obtain ⟨v, rfl, -, g1, gF, gp, g2⟩ := hp
  refine zl_pop (pc := 899) hV dL_law_899 ?_
  refine zl_a2 (pc := 900) hV dL_law_900 ?_
  refine zl_M (pc := 901) hV [] (c_X12_price (σ := ρ) h3  hU) mL_131 dL_law_901 (by decide) (Nat.le_of_ble_eq_true rfl) rfl (fun r ρ1 hp => ?_)
  obtain ⟨u, rfl, -, k3, hf, kp, U1⟩ := hp
  have tN : zu_TN σ1 ρ1 := (by have o3 : ρ1 0 3 = ρ 0 3 := (hf 0 3 (by omega)); exact zu_TN_fr h3 hO (zs_gg_mk hT3) (gF 134 0 (zc_out_at zc_s134 rfl)) (Int.le_of_eq o3) (fun o o0 o1 => by have z3 := zx_g3 h3; have ka := zc_ga10 h1 zc_s10 o o0 (by omega); rw [show σ1 10 o = σ 10 o from (fun j => gF 10 j (zc_out_ar zc_s10 rfl)) o]; exact ⟨gF _ 15 (zc_out_at ka rfl), gF _ 16 (zc_out_at ka rfl)⟩) (fun o o0 o1 => ⟨hf 3 o (by omega), hf 4 o (by omega), hf 5 o (by omega), fun i _ _ => hf 6 i (by omega), hf 8 o (by omega), hf 9 o (by omega)⟩) hTN)
  refine zl_pop (pc := 904) hV dL_law_904 ?_
  refine zl_goto (pc := 905) hV 1311 dL_law_905 (by decide) ?_
  exact hend _ _ ⟨g1, g2, k3, (zx_M_fr (fun i => hf 18 i (by omega)) (hf 0 30 (by omega)) (hf 0 2 (by omega)) (hf 0 3 (by omega)) hM), (zx_O_fr (fun i => hf 2 i (by omega)) (fun i => hf 5 i (by omega)) (fun i => hf 6 i (by omega)) (hf 0 2 (by omega)) (hf 0 3 (by omega)) hO), (zx_K_fr (fun i => hf 14 i (by omega)) (hf 0 2 (by omega)) hK), U1, (zx_TK_fr (fun i => hf 7 i (by omega)) (hf 0 3 (by omega)) hT), (zx_W_fr (fun i => hf 18 i (by omega)) (hf 0 30 (by omega)) (hf 0 2 (by omega)) (hf 0 3 (by omega)) (fun i => hf 2 i (by omega)) hW), ⟨(zt_fr ht (gF 3 0 (zc_out_at zc_s3 rfl)) (gF 3 1 (zc_out_at zc_s3 rfl)) (gF 3 2 (zc_out_at zc_s3 rfl)) (gF 140 12 (zc_out_at zc_s140 rfl)) (gF 255 4 (zc_out_at zc_s255 rfl)) (fun j => gF 277 j (zc_out_ar zc_s277 rfl)) (fun j => gF 278 j (zc_out_ar zc_s278 rfl)) (hf 0 0 (by omega)) (hf 0 1 (by omega)) (hf 0 2 (by omega)) (hf 0 29 (by omega)) (hf 0 35 (by omega)) (fun j => hf 38 j (by omega)) (fun j => hf 39 j (by omega))), (zu_T2_fr (gF 1 1 (zc_out_at zc_s1 rfl)) (fun j => gF 2 j (zc_out_ar zc_s2 rfl)) (hf 0 14 (by omega)) (fun j => hf 10 j (by omega)) hT2), (zu_T3_same h3 hT3 ⟨(gF 3 3 (zc_out_at zc_s3 rfl)), (gF 3 5 (zc_out_at zc_s3 rfl)), (fun j => gF 10 j (zc_out_ar zc_s10 rfl)), (fun j => gF 11 j (zc_out_ar zc_s11 rfl))⟩ (by rw [gF 3 4 (zc_out_at zc_s3 rfl), hf 0 18 (by omega)]; exact hT3.1.2) (hf 0 3 (by omega)) (hf 0 0 (by omega)) (hf 0 1 (by omega)) (hf 0 2 (by omega)) (fun o o0 o1 => by have ka := zc_ga10 h1 zc_s10 o o0 (by have := zx_g3 h3; omega); exact ⟨⟨gF _ 0 (zc_out_at ka rfl), gF _ 1 (zc_out_at ka rfl), gF _ 2 (zc_out_at ka rfl), gF _ 4 (zc_out_at ka rfl), gF _ 5 (zc_out_at ka rfl), gF _ 6 (zc_out_at ka rfl), gF _ 11 (zc_out_at ka rfl), gF _ 12 (zc_out_at ka rfl), gF _ 13 (zc_out_at ka rfl)⟩, zu_cfk (fun i => gF _ i (zc_out_ar (zc_p4_1 ka) rfl)) (fun i => gF _ i (zc_out_ar (zc_p4_2 ka) rfl)) (fun i => gF _ i (zc_out_ar (zc_p4_3 ka) rfl)) (fun i => gF _ i (zc_out_ar (zc_p4_4 ka) rfl)) (fun i => gF _ i (zc_out_ar (zc_p4_5 ka) rfl))⟩) (fun o o0 o1 => ⟨hf 1 o (by omega), fun i _ _ => hf 2 i (by omega), hf 3 o (by omega), hf 4 o (by omega), hf 5 o (by omega), hf 7 o (by omega), fun i _ _ => hf 6 i (by omega)⟩))⟩, tN⟩
theorem zl_case28 {L : Nat} {xs : Nat → Int32} {b1 b : Nat} {V : Nat → Int → List Value → zq_S → zq_S → Prop} {i : Int} {σ ρ : zq_S} (hV : zl_R L xs b1 b V) (hi : 0 ≤ i ∧ i + 6 ≤ (L : Int)) (hI : zl_I σ ρ) (hend : ∀ σ ρ, zl_I σ ρ → V 1311 i [] σ ρ) : V 908 i [] σ ρ := by
  obtain ⟨h1, h2, h3, hM, hO, hK, hU, hT, hW, ⟨ht, hT2, hT3⟩, hTN⟩ := hI
  refine zl_a1 (pc := 908) hV dL_law_908 ?_
  refine zl_arg (pc := 909) hV (k0 := 1) (by decide) hi dL_law_909 dL_law_910 dL_law_911 dL_law_912 dL_law_913 ?_
  refine zl_X (pc := 914) hV [ZI (zl_x xs (i + 1))] (c_X11_make (σ := σ) h1 (zl_x xs (i + 1)) (zl_xin _ _) h2) mL_132 dL_law_914 (by decide) (by decide) rfl (fun r σ1 hp => ?_)
  obtain ⟨v, rfl, -, g1, gF, gp, g2⟩ := hp
  refine zl_pop (pc := 917) hV dL_law_917 ?_
  refine zl_a2 (pc := 918) hV dL_law_918 ?_
  refine zl_arg (pc := 919) hV (k0 := 1) (by decide) hi dL_law_919 dL_law_920 dL_law_921 dL_law_922 dL_law_923 ?_
  refine zl_M (pc := 924) hV [ZI (zl_x xs (i + 1))] (c_X12_make (σ := ρ) h3 (zl_x xs (i + 1)) (zl_xin _ _) hK hU) mL_135 dL_law_924 (by decide) (Nat.le_of_ble_eq_true rfl) rfl (fun r ρ1 hp => ?_)
  obtain ⟨u, rfl, -, k3, hf, kp, K1, U1⟩ := hp
  have tN : zu_TN σ1 ρ1 := (by have o3 : ρ1 0 3 = ρ 0 3 := (hf 0 3 (by omega)); exact zu_TN_fr h3 hO (zs_gg_mk hT3) (gF 134 0 (zc_out_at zc_s134 rfl)) (Int.le_of_eq o3) (fun o o0 o1 => by have z3 := zx_g3 h3; have ka := zc_ga10 h1 zc_s10 o o0 (by omega); rw [show σ1 10 o = σ 10 o from (fun j => gF 10 j (zc_out_ar zc_s10 rfl)) o]; exact ⟨gF _ 15 (zc_out_at ka rfl), gF _ 16 (zc_out_at ka rfl)⟩) (fun o o0 o1 => ⟨hf 3 o (by omega), hf 4 o (by omega), hf 5 o (by omega), fun i _ _ => hf 6 i (by omega), hf 8 o (by omega), hf 9 o (by omega)⟩) hTN)
  refine zl_pop (pc := 927) hV dL_law_927 ?_
  refine zl_goto (pc := 928) hV 1311 dL_law_928 (by decide) ?_
  exact hend _ _ ⟨g1, g2, k3, (zx_M_fr (fun i => hf 18 i (by omega)) (hf 0 30 (by omega)) (hf 0 2 (by omega)) (hf 0 3 (by omega)) hM), (zx_O_fr (fun i => hf 2 i (by omega)) (fun i => hf 5 i (by omega)) (fun i => hf 6 i (by omega)) (hf 0 2 (by omega)) (hf 0 3 (by omega)) hO), K1, U1, (zx_TK_fr (fun i => hf 7 i (by omega)) (hf 0 3 (by omega)) hT), (zx_W_fr (fun i => hf 18 i (by omega)) (hf 0 30 (by omega)) (hf 0 2 (by omega)) (hf 0 3 (by omega)) (fun i => hf 2 i (by omega)) hW), ⟨(zt_fr ht (gF 3 0 (zc_out_at zc_s3 rfl)) (gF 3 1 (zc_out_at zc_s3 rfl)) (gF 3 2 (zc_out_at zc_s3 rfl)) (gF 140 12 (zc_out_at zc_s140 rfl)) (gF 255 4 (zc_out_at zc_s255 rfl)) (fun j => gF 277 j (zc_out_ar zc_s277 rfl)) (fun j => gF 278 j (zc_out_ar zc_s278 rfl)) (hf 0 0 (by omega)) (hf 0 1 (by omega)) (hf 0 2 (by omega)) (hf 0 29 (by omega)) (hf 0 35 (by omega)) (fun j => hf 38 j (by omega)) (fun j => hf 39 j (by omega))), (zu_T2_fr (gF 1 1 (zc_out_at zc_s1 rfl)) (fun j => gF 2 j (zc_out_ar zc_s2 rfl)) (hf 0 14 (by omega)) (fun j => hf 10 j (by omega)) hT2), (zu_T3_same h3 hT3 ⟨(gF 3 3 (zc_out_at zc_s3 rfl)), (gF 3 5 (zc_out_at zc_s3 rfl)), (fun j => gF 10 j (zc_out_ar zc_s10 rfl)), (fun j => gF 11 j (zc_out_ar zc_s11 rfl))⟩ (by rw [gF 3 4 (zc_out_at zc_s3 rfl), hf 0 18 (by omega)]; exact hT3.1.2) (hf 0 3 (by omega)) (hf 0 0 (by omega)) (hf 0 1 (by omega)) (hf 0 2 (by omega)) (fun o o0 o1 => by have ka := zc_ga10 h1 zc_s10 o o0 (by have := zx_g3 h3; omega); exact ⟨⟨gF _ 0 (zc_out_at ka rfl), gF _ 1 (zc_out_at ka rfl), gF _ 2 (zc_out_at ka rfl), gF _ 4 (zc_out_at ka rfl), gF _ 5 (zc_out_at ka rfl), gF _ 6 (zc_out_at ka rfl), gF _ 11 (zc_out_at ka rfl), gF _ 12 (zc_out_at ka rfl), gF _ 13 (zc_out_at ka rfl)⟩, zu_cfk (fun i => gF _ i (zc_out_ar (zc_p4_1 ka) rfl)) (fun i => gF _ i (zc_out_ar (zc_p4_2 ka) rfl)) (fun i => gF _ i (zc_out_ar (zc_p4_3 ka) rfl)) (fun i => gF _ i (zc_out_ar (zc_p4_4 ka) rfl)) (fun i => gF _ i (zc_out_ar (zc_p4_5 ka) rfl))⟩) (fun o o0 o1 => ⟨hf 1 o (by omega), fun i _ _ => hf 2 i (by omega), hf 3 o (by omega), hf 4 o (by omega), hf 5 o (by omega), hf 7 o (by omega), fun i _ _ => hf 6 i (by omega)⟩))⟩, tN⟩
theorem zl_case29 {L : Nat} {xs : Nat → Int32} {b1 b : Nat} {V : Nat → Int → List Value → zq_S → zq_S → Prop} {i : Int} {σ ρ : zq_S} (hV : zl_R L xs b1 b V) (hi : 0 ≤ i ∧ i + 6 ≤ (L : Int)) (hI : zl_I σ ρ) (hend : ∀ σ ρ, zl_I σ ρ → V 1311 i [] σ ρ) : V 931 i [] σ ρ := by
  obtain ⟨h1, h2, h3, hM, hO, hK, hU, hT, hW, ⟨ht, hT2, hT3⟩, hTN⟩ := hI
  refine zl_a1 (pc := 931) hV dL_law_931 ?_
  refine zl_X (pc := 932) hV [] (c_X11_value (σ := σ) h1   h2) mL_136 dL_law_932 (by decide) (by decide) rfl (fun r σ1 hp => ?_)
  obtain ⟨v, rfl, -, g1, gF, gp, g2⟩ := hp
  refine zl_pop (pc := 935) hV dL_law_935 ?_
  refine zl_a2 (pc := 936) hV dL_law_936 ?_
  refine zl_M (pc := 937) hV [] (c_X12_value (σ := ρ) h3  (fun h => (hU h).1)) mL_139 dL_law_937 (by decide) (Nat.le_of_ble_eq_true rfl) rfl (fun r ρ1 hp => ?_)
  obtain ⟨u, rfl, -, k3, hf, kp⟩ := hp
  have tN : zu_TN σ1 ρ1 := (by have o3 : ρ1 0 3 = ρ 0 3 := (hf 0 3 (by omega)); exact zu_TN_fr h3 hO (zs_gg_mk hT3) (gF 134 0 (zc_out_at zc_s134 rfl)) (Int.le_of_eq o3) (fun o o0 o1 => by have z3 := zx_g3 h3; have ka := zc_ga10 h1 zc_s10 o o0 (by omega); rw [show σ1 10 o = σ 10 o from (fun j => gF 10 j (zc_out_ar zc_s10 rfl)) o]; exact ⟨gF _ 15 (zc_out_at ka rfl), gF _ 16 (zc_out_at ka rfl)⟩) (fun o o0 o1 => ⟨hf 3 o (by omega), hf 4 o (by omega), hf 5 o (by omega), fun i _ _ => hf 6 i (by omega), hf 8 o (by omega), hf 9 o (by omega)⟩) hTN)
  refine zl_pop (pc := 940) hV dL_law_940 ?_
  refine zl_goto (pc := 941) hV 1311 dL_law_941 (by decide) ?_
  exact hend _ _ ⟨g1, g2, k3, (zx_M_fr (fun i => hf 18 i (by omega)) (hf 0 30 (by omega)) (hf 0 2 (by omega)) (hf 0 3 (by omega)) hM), (zx_O_fr (fun i => hf 2 i (by omega)) (fun i => hf 5 i (by omega)) (fun i => hf 6 i (by omega)) (hf 0 2 (by omega)) (hf 0 3 (by omega)) hO), (zx_K_fr (fun i => hf 14 i (by omega)) (hf 0 2 (by omega)) hK), (zx_U_fr (hf 0 36 (by omega)) (hf 0 37 (by omega)) (fun i => hf 21 i (by omega)) (fun i => hf 23 i (by omega)) (fun i => hf 24 i (by omega)) hU), (zx_TK_fr (fun i => hf 7 i (by omega)) (hf 0 3 (by omega)) hT), (zx_W_fr (fun i => hf 18 i (by omega)) (hf 0 30 (by omega)) (hf 0 2 (by omega)) (hf 0 3 (by omega)) (fun i => hf 2 i (by omega)) hW), ⟨(zt_fr ht (gF 3 0 (zc_out_at zc_s3 rfl)) (gF 3 1 (zc_out_at zc_s3 rfl)) (gF 3 2 (zc_out_at zc_s3 rfl)) (gF 140 12 (zc_out_at zc_s140 rfl)) (gF 255 4 (zc_out_at zc_s255 rfl)) (fun j => gF 277 j (zc_out_ar zc_s277 rfl)) (fun j => gF 278 j (zc_out_ar zc_s278 rfl)) (hf 0 0 (by omega)) (hf 0 1 (by omega)) (hf 0 2 (by omega)) (hf 0 29 (by omega)) (hf 0 35 (by omega)) (fun j => hf 38 j (by omega)) (fun j => hf 39 j (by omega))), (zu_T2_fr (gF 1 1 (zc_out_at zc_s1 rfl)) (fun j => gF 2 j (zc_out_ar zc_s2 rfl)) (hf 0 14 (by omega)) (fun j => hf 10 j (by omega)) hT2), (zu_T3_same h3 hT3 ⟨(gF 3 3 (zc_out_at zc_s3 rfl)), (gF 3 5 (zc_out_at zc_s3 rfl)), (fun j => gF 10 j (zc_out_ar zc_s10 rfl)), (fun j => gF 11 j (zc_out_ar zc_s11 rfl))⟩ (by rw [gF 3 4 (zc_out_at zc_s3 rfl), hf 0 18 (by omega)]; exact hT3.1.2) (hf 0 3 (by omega)) (hf 0 0 (by omega)) (hf 0 1 (by omega)) (hf 0 2 (by omega)) (fun o o0 o1 => by have ka := zc_ga10 h1 zc_s10 o o0 (by have := zx_g3 h3; omega); exact ⟨⟨gF _ 0 (zc_out_at ka rfl), gF _ 1 (zc_out_at ka rfl), gF _ 2 (zc_out_at ka rfl), gF _ 4 (zc_out_at ka rfl), gF _ 5 (zc_out_at ka rfl), gF _ 6 (zc_out_at ka rfl), gF _ 11 (zc_out_at ka rfl), gF _ 12 (zc_out_at ka rfl), gF _ 13 (zc_out_at ka rfl)⟩, zu_cfk (fun i => gF _ i (zc_out_ar (zc_p4_1 ka) rfl)) (fun i => gF _ i (zc_out_ar (zc_p4_2 ka) rfl)) (fun i => gF _ i (zc_out_ar (zc_p4_3 ka) rfl)) (fun i => gF _ i (zc_out_ar (zc_p4_4 ka) rfl)) (fun i => gF _ i (zc_out_ar (zc_p4_5 ka) rfl))⟩) (fun o o0 o1 => ⟨hf 1 o (by omega), fun i _ _ => hf 2 i (by omega), hf 3 o (by omega), hf 4 o (by omega), hf 5 o (by omega), hf 7 o (by omega), fun i _ _ => hf 6 i (by omega)⟩))⟩, tN⟩
theorem zl_case30 {L : Nat} {xs : Nat → Int32} {b1 b : Nat} {V : Nat → Int → List Value → zq_S → zq_S → Prop} {i : Int} {σ ρ : zq_S} (hV : zl_R L xs b1 b V) (hi : 0 ≤ i ∧ i + 6 ≤ (L : Int)) (hI : zl_I σ ρ) (hend : ∀ σ ρ, zl_I σ ρ → V 1311 i [] σ ρ) : V 944 i [] σ ρ := by
  obtain ⟨h1, h2, h3, hM, hO, hK, hU, hT, hW, ⟨ht, hT2, hT3⟩, hTN⟩ := hI
  refine zl_a1 (pc := 944) hV dL_law_944 ?_
  refine zl_arg (pc := 945) hV (k0 := 1) (by decide) hi dL_law_945 dL_law_946 dL_law_947 dL_law_948 dL_law_949 ?_
  refine zl_arg (pc := 950) hV (k0 := 2) (by decide) hi dL_law_950 dL_law_951 dL_law_952 dL_law_953 dL_law_954 ?_
  refine zl_arg (pc := 955) hV (k0 := 3) (by decide) hi dL_law_955 dL_law_956 dL_law_957 dL_law_958 dL_law_959 ?_
  refine zl_X (pc := 960) hV [ZI (zl_x xs (i + 1)), ZI (zl_x xs (i + 2)), ZI (zl_x xs (i + 3))] (c_X11_pairs (σ := σ) h1 (zl_x xs (i + 1)) (zl_x xs (i + 2)) (zl_x xs (i + 3)) (zl_xin _ _) (zl_xin _ _) (zl_xin _ _) h2) mL_140 dL_law_960 (by decide) (by decide) rfl (fun r σ1 hp => ?_)
  obtain ⟨rfl, v, rfl, -, gp⟩ := hp
  refine zl_pop (pc := 963) hV dL_law_963 ?_
  refine zl_a2 (pc := 964) hV dL_law_964 ?_
  refine zl_arg (pc := 965) hV (k0 := 1) (by decide) hi dL_law_965 dL_law_966 dL_law_967 dL_law_968 dL_law_969 ?_
  refine zl_arg (pc := 970) hV (k0 := 2) (by decide) hi dL_law_970 dL_law_971 dL_law_972 dL_law_973 dL_law_974 ?_
  refine zl_arg (pc := 975) hV (k0 := 3) (by decide) hi dL_law_975 dL_law_976 dL_law_977 dL_law_978 dL_law_979 ?_
  refine zl_M (pc := 980) hV [ZI (zl_x xs (i + 1)), ZI (zl_x xs (i + 2)), ZI (zl_x xs (i + 3))] (c_X12_pairsW (σ := ρ) h3 (zl_x xs (i + 1)) (zl_x xs (i + 2)) (zl_x xs (i + 3)) (zl_xin _ _) (zl_xin _ _) (zl_xin _ _) hM hO hW) mL_143 dL_law_980 (by decide) (Nat.le_of_ble_eq_true rfl) rfl (fun r ρ1 hp => ?_)
  obtain ⟨u, rfl, -, k3, hf, kp, M1, O1, W1⟩ := hp
  have tN : zu_TN σ1 ρ1 := (by have o3 : ρ1 0 3 = ρ 0 3 := (hf 0 3 (by omega)); exact zu_TN_fr h3 hO (zs_gg_mk hT3) rfl (Int.le_of_eq o3) (fun _ _ _ => ⟨rfl, rfl⟩) (fun o o0 o1 => ⟨hf 3 o (by omega), hf 4 o (by omega), hf 5 o (by omega), fun i _ _ => hf 6 i (by omega), hf 8 o (by omega), hf 9 o (by omega)⟩) hTN)
  refine zl_pop (pc := 983) hV dL_law_983 ?_
  refine zl_goto (pc := 984) hV 1311 dL_law_984 (by decide) ?_
  exact hend _ _ ⟨h1, h2, k3, M1, O1, (zx_K_fr (fun i => hf 14 i (by omega)) (hf 0 2 (by omega)) hK), (zx_U_fr (hf 0 36 (by omega)) (hf 0 37 (by omega)) (fun i => hf 21 i (by omega)) (fun i => hf 23 i (by omega)) (fun i => hf 24 i (by omega)) hU), (zx_TK_fr (fun i => hf 7 i (by omega)) (hf 0 3 (by omega)) hT), W1, ⟨(zt_fr ht rfl rfl rfl rfl rfl (fun _ => rfl) (fun _ => rfl) (hf 0 0 (by omega)) (hf 0 1 (by omega)) (hf 0 2 (by omega)) (hf 0 29 (by omega)) (hf 0 35 (by omega)) (fun j => hf 38 j (by omega)) (fun j => hf 39 j (by omega))), (zu_T2_fr rfl (fun _ => rfl) (hf 0 14 (by omega)) (fun j => hf 10 j (by omega)) hT2), (zu_T3_same h3 hT3 ⟨rfl, rfl, (fun _ => rfl), (fun _ => rfl)⟩ (by rw [hf 0 18 (by omega)]; exact hT3.1.2) (hf 0 3 (by omega)) (hf 0 0 (by omega)) (hf 0 1 (by omega)) (hf 0 2 (by omega)) (fun o _ _ => zu_cf_rf _ _) (fun o o0 o1 => ⟨hf 1 o (by omega), fun i _ _ => hf 2 i (by omega), hf 3 o (by omega), hf 4 o (by omega), hf 5 o (by omega), hf 7 o (by omega), fun i _ _ => hf 6 i (by omega)⟩))⟩, tN⟩
theorem zl_case31 {L : Nat} {xs : Nat → Int32} {b1 b : Nat} {V : Nat → Int → List Value → zq_S → zq_S → Prop} {i : Int} {σ ρ : zq_S} (hV : zl_R L xs b1 b V) (hi : 0 ≤ i ∧ i + 6 ≤ (L : Int)) (hI : zl_I σ ρ) (hend : ∀ σ ρ, zl_I σ ρ → V 1311 i [] σ ρ) : V 987 i [] σ ρ := by
  obtain ⟨h1, h2, h3, hM, hO, hK, hU, hT, hW, ⟨ht, hT2, hT3⟩, hTN⟩ := hI
  refine zl_a1 (pc := 987) hV dL_law_987 ?_
  refine zl_arg (pc := 988) hV (k0 := 1) (by decide) hi dL_law_988 dL_law_989 dL_law_990 dL_law_991 dL_law_992 ?_
  refine zl_arg (pc := 993) hV (k0 := 2) (by decide) hi dL_law_993 dL_law_994 dL_law_995 dL_law_996 dL_law_997 ?_
  refine zl_X (pc := 998) hV [ZI (zl_x xs (i + 1)), ZI (zl_x xs (i + 2))] (c_X11_room (σ := σ) h1 (zl_x xs (i + 1)) (zl_x xs (i + 2)) (zl_xin _ _) (zl_xin _ _) h2) mL_144 dL_law_998 (by decide) (by decide) rfl (fun r σ1 hp => ?_)
  obtain ⟨rfl, v, rfl, -, gp⟩ := hp
  refine zl_pop (pc := 1001) hV dL_law_1001 ?_
  refine zl_a2 (pc := 1002) hV dL_law_1002 ?_
  refine zl_arg (pc := 1003) hV (k0 := 1) (by decide) hi dL_law_1003 dL_law_1004 dL_law_1005 dL_law_1006 dL_law_1007 ?_
  refine zl_arg (pc := 1008) hV (k0 := 2) (by decide) hi dL_law_1008 dL_law_1009 dL_law_1010 dL_law_1011 dL_law_1012 ?_
  refine zl_M (pc := 1013) hV [ZI (zl_x xs (i + 1)), ZI (zl_x xs (i + 2))] (c_X12_roomW (σ := ρ) h3 (zl_x xs (i + 1)) (zl_x xs (i + 2)) (zl_xin _ _) (zl_xin _ _) hM hO hW) mL_147 dL_law_1013 (by decide) (Nat.le_of_ble_eq_true rfl) rfl (fun r ρ1 hp => ?_)
  obtain ⟨u, rfl, -, k3, hf, kp, M1, O1, W1⟩ := hp
  have tN : zu_TN σ1 ρ1 := (by have o3 : ρ1 0 3 = ρ 0 3 := (hf 0 3 (by omega)); exact zu_TN_fr h3 hO (zs_gg_mk hT3) rfl (Int.le_of_eq o3) (fun _ _ _ => ⟨rfl, rfl⟩) (fun o o0 o1 => ⟨hf 3 o (by omega), hf 4 o (by omega), hf 5 o (by omega), fun i _ _ => hf 6 i (by omega), hf 8 o (by omega), hf 9 o (by omega)⟩) hTN)
  refine zl_pop (pc := 1016) hV dL_law_1016 ?_
  refine zl_goto (pc := 1017) hV 1311 dL_law_1017 (by decide) ?_
  exact hend _ _ ⟨h1, h2, k3, M1, O1, (zx_K_fr (fun i => hf 14 i (by omega)) (hf 0 2 (by omega)) hK), (zx_U_fr (hf 0 36 (by omega)) (hf 0 37 (by omega)) (fun i => hf 21 i (by omega)) (fun i => hf 23 i (by omega)) (fun i => hf 24 i (by omega)) hU), (zx_TK_fr (fun i => hf 7 i (by omega)) (hf 0 3 (by omega)) hT), W1, ⟨(zt_fr ht rfl rfl rfl rfl rfl (fun _ => rfl) (fun _ => rfl) (hf 0 0 (by omega)) (hf 0 1 (by omega)) (hf 0 2 (by omega)) (hf 0 29 (by omega)) (hf 0 35 (by omega)) (fun j => hf 38 j (by omega)) (fun j => hf 39 j (by omega))), (zu_T2_fr rfl (fun _ => rfl) (hf 0 14 (by omega)) (fun j => hf 10 j (by omega)) hT2), (zu_T3_same h3 hT3 ⟨rfl, rfl, (fun _ => rfl), (fun _ => rfl)⟩ (by rw [hf 0 18 (by omega)]; exact hT3.1.2) (hf 0 3 (by omega)) (hf 0 0 (by omega)) (hf 0 1 (by omega)) (hf 0 2 (by omega)) (fun o _ _ => zu_cf_rf _ _) (fun o o0 o1 => ⟨hf 1 o (by omega), fun i _ _ => hf 2 i (by omega), hf 3 o (by omega), hf 4 o (by omega), hf 5 o (by omega), hf 7 o (by omega), fun i _ _ => hf 6 i (by omega)⟩))⟩, tN⟩
theorem zl_case32 {L : Nat} {xs : Nat → Int32} {b1 b : Nat} {V : Nat → Int → List Value → zq_S → zq_S → Prop} {i : Int} {σ ρ : zq_S} (hV : zl_R L xs b1 b V) (hi : 0 ≤ i ∧ i + 6 ≤ (L : Int)) (hI : zl_I σ ρ) (hend : ∀ σ ρ, zl_I σ ρ → V 1311 i [] σ ρ) : V 1020 i [] σ ρ := by
  obtain ⟨h1, h2, h3, hM, hO, hK, hU, hT, hW, ⟨ht, hT2, hT3⟩, hTN⟩ := hI
  refine zl_a1 (pc := 1020) hV dL_law_1020 ?_
  refine zl_arg (pc := 1021) hV (k0 := 1) (by decide) hi dL_law_1021 dL_law_1022 dL_law_1023 dL_law_1024 dL_law_1025 ?_
  refine zl_X (pc := 1026) hV [ZI (zl_x xs (i + 1))] (c_X11_best (σ := σ) h1 (zl_x xs (i + 1)) (zl_xin _ _) h2) mL_148 dL_law_1026 (by decide) (by decide) rfl (fun r σ1 hp => ?_)
  obtain ⟨rfl, v, rfl, -, gp⟩ := hp
  refine zl_pop (pc := 1029) hV dL_law_1029 ?_
  refine zl_a2 (pc := 1030) hV dL_law_1030 ?_
  refine zl_arg (pc := 1031) hV (k0 := 1) (by decide) hi dL_law_1031 dL_law_1032 dL_law_1033 dL_law_1034 dL_law_1035 ?_
  refine zl_M (pc := 1036) hV [ZI (zl_x xs (i + 1))] (c_X12_bestW (σ := ρ) h3 (zl_x xs (i + 1)) (zl_xin _ _) hM hO hW) mL_151 dL_law_1036 (by decide) (Nat.le_of_ble_eq_true rfl) rfl (fun r ρ1 hp => ?_)
  obtain ⟨u, rfl, -, k3, hf, kp, M1, O1, W1⟩ := hp
  have tN : zu_TN σ1 ρ1 := (by have o3 : ρ1 0 3 = ρ 0 3 := (hf 0 3 (by omega)); exact zu_TN_fr h3 hO (zs_gg_mk hT3) rfl (Int.le_of_eq o3) (fun _ _ _ => ⟨rfl, rfl⟩) (fun o o0 o1 => ⟨hf 3 o (by omega), hf 4 o (by omega), hf 5 o (by omega), fun i _ _ => hf 6 i (by omega), hf 8 o (by omega), hf 9 o (by omega)⟩) hTN)
  refine zl_pop (pc := 1039) hV dL_law_1039 ?_
  refine zl_goto (pc := 1040) hV 1311 dL_law_1040 (by decide) ?_
  exact hend _ _ ⟨h1, h2, k3, M1, O1, (zx_K_fr (fun i => hf 14 i (by omega)) (hf 0 2 (by omega)) hK), (zx_U_fr (hf 0 36 (by omega)) (hf 0 37 (by omega)) (fun i => hf 21 i (by omega)) (fun i => hf 23 i (by omega)) (fun i => hf 24 i (by omega)) hU), (zx_TK_fr (fun i => hf 7 i (by omega)) (hf 0 3 (by omega)) hT), W1, ⟨(zt_fr ht rfl rfl rfl rfl rfl (fun _ => rfl) (fun _ => rfl) (hf 0 0 (by omega)) (hf 0 1 (by omega)) (hf 0 2 (by omega)) (hf 0 29 (by omega)) (hf 0 35 (by omega)) (fun j => hf 38 j (by omega)) (fun j => hf 39 j (by omega))), (zu_T2_fr rfl (fun _ => rfl) (hf 0 14 (by omega)) (fun j => hf 10 j (by omega)) hT2), (zu_T3_same h3 hT3 ⟨rfl, rfl, (fun _ => rfl), (fun _ => rfl)⟩ (by rw [hf 0 18 (by omega)]; exact hT3.1.2) (hf 0 3 (by omega)) (hf 0 0 (by omega)) (hf 0 1 (by omega)) (hf 0 2 (by omega)) (fun o _ _ => zu_cf_rf _ _) (fun o o0 o1 => ⟨hf 1 o (by omega), fun i _ _ => hf 2 i (by omega), hf 3 o (by omega), hf 4 o (by omega), hf 5 o (by omega), hf 7 o (by omega), fun i _ _ => hf 6 i (by omega)⟩))⟩, tN⟩
theorem zl_case33 {L : Nat} {xs : Nat → Int32} {b1 b : Nat} {V : Nat → Int → List Value → zq_S → zq_S → Prop} {i : Int} {σ ρ : zq_S} (hV : zl_R L xs b1 b V) (hi : 0 ≤ i ∧ i + 6 ≤ (L : Int)) (hI : zl_I σ ρ) (hend : ∀ σ ρ, zl_I σ ρ → V 1311 i [] σ ρ) : V 1043 i [] σ ρ := by
  obtain ⟨h1, h2, h3, hM, hO, hK, hU, hT, hW, ⟨ht, hT2, hT3⟩, hTN⟩ := hI
  refine zl_a1 (pc := 1043) hV dL_law_1043 ?_
  refine zl_arg (pc := 1044) hV (k0 := 1) (by decide) hi dL_law_1044 dL_law_1045 dL_law_1046 dL_law_1047 dL_law_1048 ?_
  refine zl_arg (pc := 1049) hV (k0 := 2) (by decide) hi dL_law_1049 dL_law_1050 dL_law_1051 dL_law_1052 dL_law_1053 ?_
  refine zl_X (pc := 1054) hV [ZI (zl_x xs (i + 1)), ZI (zl_x xs (i + 2))] (c_X11_join_2 (σ := σ) h1 (zl_x xs (i + 1)) (zl_x xs (i + 2)) (σ 3 5) rfl (zc_g3_5 h1 zc_s3) (zl_xin _ _) (zl_xin _ _) (fun i i0 i1 => (hT3.2.1 i i0 i1).1) (fun o o0 o1 => by rw [(hT3.2.2.1 o o0 (by rw [← hT3.1.1]; exact o1)).2.2.1.1.2.2.2]; exact zx_ga7 h3 o) h2) mL_152 dL_law_1054 (by decide) (by decide) rfl (fun r σ1 hp => ?_)
  obtain ⟨v, rfl, -, g1, gF, gO, gp, gw, g2⟩ := hp
  refine zl_pop (pc := 1057) hV dL_law_1057 ?_
  refine zl_a2 (pc := 1058) hV dL_law_1058 ?_
  refine zl_arg (pc := 1059) hV (k0 := 1) (by decide) hi dL_law_1059 dL_law_1060 dL_law_1061 dL_law_1062 dL_law_1063 ?_
  refine zl_arg (pc := 1064) hV (k0 := 2) (by decide) hi dL_law_1064 dL_law_1065 dL_law_1066 dL_law_1067 dL_law_1068 ?_
  refine zl_M (pc := 1069) hV [ZI (zl_x xs (i + 1)), ZI (zl_x xs (i + 2))] (c_X12_join3 (σ := ρ) h3 (zl_x xs (i + 1)) (zl_x xs (i + 2)) (zl_xin _ _) (zl_xin _ _) (fun i i0 i1 => by rw [← hT2.2 i]; exact (zc_ga2 h1 zc_s2 i).1) hM hO hT hW) mL_155 dL_law_1069 (by decide) (Nat.le_of_ble_eq_true rfl) rfl (fun r ρ1 hp => ?_)
  obtain ⟨u, rfl, -, k3, hf, kp, kw, M1, O1, T1, W1⟩ := hp
  obtain ⟨eqv, t2, t3⟩ := zu_T3_join h1 h3 k3 ⟨ht.1.1, ht.1.2.1, ht.1.2.2.1⟩ hT2 hT3 rfl (zc_g3_5 h1 zc_s3) gO (gF 3 4 (zc_out_at zc_s3 rfl)) (fun j => gF 2 j (zc_out_ar zc_s2 rfl)) gw kw.1 (hf 0 18 (by omega)) (fun j => hf 10 j (by omega)) (hf 0 0 (by omega)) (hf 0 1 (by omega)) (hf 0 2 (by omega)) (fun o o0 o1 => ⟨hf 1 o (by omega), fun i _ _ => hf 2 i (by omega), hf 3 o (by omega), hf 4 o (by omega), hf 5 o (by omega), hf 7 o (by omega), fun i _ _ => hf 6 i (by omega)⟩)
  have tN : zu_TN σ1 ρ1 := zn_tell h1 h3 hO hT3 rfl (zc_g3_5 h1 zc_s3) gO (gF 134 0 (zc_out_at zc_s134 rfl)) (zn_jn gw) t3.1.1 kw.2 (fun o o0 o1 => ⟨hf 3 o (by omega), hf 4 o (by omega), hf 5 o (by omega), fun i _ _ => hf 6 i (by omega)⟩) hTN
  refine zl_pop (pc := 1072) hV dL_law_1072 ?_
  refine zl_goto (pc := 1073) hV 1311 dL_law_1073 (by decide) ?_
  exact hend _ _ ⟨g1, g2, k3, M1, O1, (zx_K_fr (fun i => hf 14 i (by omega)) (hf 0 2 (by omega)) hK), (zx_U_fr (hf 0 36 (by omega)) (hf 0 37 (by omega)) (fun i => hf 21 i (by omega)) (fun i => hf 23 i (by omega)) (fun i => hf 24 i (by omega)) hU), T1, W1, ⟨(zt_fr ht (gF 3 0 (zc_out_at zc_s3 rfl)) (gF 3 1 (zc_out_at zc_s3 rfl)) (gF 3 2 (zc_out_at zc_s3 rfl)) (gF 140 12 (zc_out_at zc_s140 rfl)) (gF 255 4 (zc_out_at zc_s255 rfl)) (fun j => gF 277 j (zc_out_ar zc_s277 rfl)) (fun j => gF 278 j (zc_out_ar zc_s278 rfl)) (hf 0 0 (by omega)) (hf 0 1 (by omega)) (hf 0 2 (by omega)) (hf 0 29 (by omega)) (hf 0 35 (by omega)) (fun j => hf 38 j (by omega)) (fun j => hf 39 j (by omega))), t2, t3⟩, tN⟩
theorem zl_case34 {L : Nat} {xs : Nat → Int32} {b1 b : Nat} {V : Nat → Int → List Value → zq_S → zq_S → Prop} {i : Int} {σ ρ : zq_S} (hV : zl_R L xs b1 b V) (hi : 0 ≤ i ∧ i + 6 ≤ (L : Int)) (hI : zl_I σ ρ) (hend : ∀ σ ρ, zl_I σ ρ → V 1311 i [] σ ρ) : V 1076 i [] σ ρ := by
  obtain ⟨h1, h2, h3, hM, hO, hK, hU, hT, hW, ⟨ht, hT2, hT3⟩, hTN⟩ := hI
  refine zl_a1 (pc := 1076) hV dL_law_1076 ?_
  refine zl_arg (pc := 1077) hV (k0 := 1) (by decide) hi dL_law_1077 dL_law_1078 dL_law_1079 dL_law_1080 dL_law_1081 ?_
  refine zl_arg (pc := 1082) hV (k0 := 2) (by decide) hi dL_law_1082 dL_law_1083 dL_law_1084 dL_law_1085 dL_law_1086 ?_
  refine zl_arg (pc := 1087) hV (k0 := 3) (by decide) hi dL_law_1087 dL_law_1088 dL_law_1089 dL_law_1090 dL_law_1091 ?_
  refine zl_arg (pc := 1092) hV (k0 := 4) (by decide) hi dL_law_1092 dL_law_1093 dL_law_1094 dL_law_1095 dL_law_1096 ?_
  refine zl_X (pc := 1097) hV [ZI (zl_x xs (i + 1)), ZI (zl_x xs (i + 2)), ZI (zl_x xs (i + 3)), ZI (zl_x xs (i + 4))] (c_X11_log (σ := σ) h1 (zl_x xs (i + 1)) (zl_x xs (i + 2)) (zl_x xs (i + 3)) (zl_x xs (i + 4)) (zl_xin _ _) (zl_xin _ _) (zl_xin _ _) (zl_xin _ _) h2) mL_156 dL_law_1097 (by decide) (by decide) rfl (fun r σ1 hp => ?_)
  obtain ⟨v, rfl, -, g1, gF, gp, g2⟩ := hp
  refine zl_pop (pc := 1100) hV dL_law_1100 ?_
  refine zl_a2 (pc := 1101) hV dL_law_1101 ?_
  refine zl_arg (pc := 1102) hV (k0 := 1) (by decide) hi dL_law_1102 dL_law_1103 dL_law_1104 dL_law_1105 dL_law_1106 ?_
  refine zl_arg (pc := 1107) hV (k0 := 2) (by decide) hi dL_law_1107 dL_law_1108 dL_law_1109 dL_law_1110 dL_law_1111 ?_
  refine zl_arg (pc := 1112) hV (k0 := 3) (by decide) hi dL_law_1112 dL_law_1113 dL_law_1114 dL_law_1115 dL_law_1116 ?_
  refine zl_arg (pc := 1117) hV (k0 := 4) (by decide) hi dL_law_1117 dL_law_1118 dL_law_1119 dL_law_1120 dL_law_1121 ?_
  refine zl_M (pc := 1122) hV [ZI (zl_x xs (i + 1)), ZI (zl_x xs (i + 2)), ZI (zl_x xs (i + 3)), ZI (zl_x xs (i + 4))] (c_X12_logW (σ := ρ) h3 (zl_x xs (i + 1)) (zl_x xs (i + 2)) (zl_x xs (i + 3)) (zl_x xs (i + 4)) (zl_xin _ _) (zl_xin _ _) (zl_xin _ _) (zl_xin _ _) hM hO hK hW) mL_160 dL_law_1122 (by decide) (Nat.le_of_ble_eq_true rfl) rfl (fun r ρ1 hp => ?_)
  obtain ⟨u, rfl, -, k3, hf, kp, M1, O1, K1, W1⟩ := hp
  have tN : zu_TN σ1 ρ1 := (by have o3 : ρ1 0 3 = ρ 0 3 := (hf 0 3 (by omega)); exact zu_TN_fr h3 hO (zs_gg_mk hT3) (gF 134 0 (zc_out_at zc_s134 rfl)) (Int.le_of_eq o3) (fun o o0 o1 => by have z3 := zx_g3 h3; have ka := zc_ga10 h1 zc_s10 o o0 (by omega); rw [show σ1 10 o = σ 10 o from (fun j => gF 10 j (zc_out_ar zc_s10 rfl)) o]; exact ⟨gF _ 15 (zc_out_at ka rfl), gF _ 16 (zc_out_at ka rfl)⟩) (fun o o0 o1 => ⟨hf 3 o (by omega), hf 4 o (by omega), hf 5 o (by omega), fun i _ _ => hf 6 i (by omega), hf 8 o (by omega), hf 9 o (by omega)⟩) hTN)
  refine zl_pop (pc := 1125) hV dL_law_1125 ?_
  refine zl_goto (pc := 1126) hV 1311 dL_law_1126 (by decide) ?_
  exact hend _ _ ⟨g1, g2, k3, M1, O1, K1, (zx_U_fr (hf 0 36 (by omega)) (hf 0 37 (by omega)) (fun i => hf 21 i (by omega)) (fun i => hf 23 i (by omega)) (fun i => hf 24 i (by omega)) hU), (zx_TK_fr (fun i => hf 7 i (by omega)) (hf 0 3 (by omega)) hT), W1, ⟨(zt_fr ht (gF 3 0 (zc_out_at zc_s3 rfl)) (gF 3 1 (zc_out_at zc_s3 rfl)) (gF 3 2 (zc_out_at zc_s3 rfl)) (gF 140 12 (zc_out_at zc_s140 rfl)) (gF 255 4 (zc_out_at zc_s255 rfl)) (fun j => gF 277 j (zc_out_ar zc_s277 rfl)) (fun j => gF 278 j (zc_out_ar zc_s278 rfl)) (hf 0 0 (by omega)) (hf 0 1 (by omega)) (hf 0 2 (by omega)) (hf 0 29 (by omega)) (hf 0 35 (by omega)) (fun j => hf 38 j (by omega)) (fun j => hf 39 j (by omega))), (zu_T2_fr (gF 1 1 (zc_out_at zc_s1 rfl)) (fun j => gF 2 j (zc_out_ar zc_s2 rfl)) (hf 0 14 (by omega)) (fun j => hf 10 j (by omega)) hT2), (zu_T3_same h3 hT3 ⟨(gF 3 3 (zc_out_at zc_s3 rfl)), (gF 3 5 (zc_out_at zc_s3 rfl)), (fun j => gF 10 j (zc_out_ar zc_s10 rfl)), (fun j => gF 11 j (zc_out_ar zc_s11 rfl))⟩ (by rw [gF 3 4 (zc_out_at zc_s3 rfl), hf 0 18 (by omega)]; exact hT3.1.2) (hf 0 3 (by omega)) (hf 0 0 (by omega)) (hf 0 1 (by omega)) (hf 0 2 (by omega)) (fun o o0 o1 => by have ka := zc_ga10 h1 zc_s10 o o0 (by have := zx_g3 h3; omega); exact ⟨⟨gF _ 0 (zc_out_at ka rfl), gF _ 1 (zc_out_at ka rfl), gF _ 2 (zc_out_at ka rfl), gF _ 4 (zc_out_at ka rfl), gF _ 5 (zc_out_at ka rfl), gF _ 6 (zc_out_at ka rfl), gF _ 11 (zc_out_at ka rfl), gF _ 12 (zc_out_at ka rfl), gF _ 13 (zc_out_at ka rfl)⟩, zu_cfk (fun i => gF _ i (zc_out_ar (zc_p4_1 ka) rfl)) (fun i => gF _ i (zc_out_ar (zc_p4_2 ka) rfl)) (fun i => gF _ i (zc_out_ar (zc_p4_3 ka) rfl)) (fun i => gF _ i (zc_out_ar (zc_p4_4 ka) rfl)) (fun i => gF _ i (zc_out_ar (zc_p4_5 ka) rfl))⟩) (fun o o0 o1 => ⟨hf 1 o (by omega), fun i _ _ => hf 2 i (by omega), hf 3 o (by omega), hf 4 o (by omega), hf 5 o (by omega), hf 7 o (by omega), fun i _ _ => hf 6 i (by omega)⟩))⟩, tN⟩
theorem zl_case35 {L : Nat} {xs : Nat → Int32} {b1 b : Nat} {V : Nat → Int → List Value → zq_S → zq_S → Prop} {i : Int} {σ ρ : zq_S} (hV : zl_R L xs b1 b V) (hi : 0 ≤ i ∧ i + 6 ≤ (L : Int)) (hI : zl_I σ ρ) (hend : ∀ σ ρ, zl_I σ ρ → V 1311 i [] σ ρ) : V 1129 i [] σ ρ := by
  obtain ⟨h1, h2, h3, hM, hO, hK, hU, hT, hW, ⟨ht, hT2, hT3⟩, hTN⟩ := hI
  refine zl_a1 (pc := 1129) hV dL_law_1129 ?_
  refine zl_arg (pc := 1130) hV (k0 := 1) (by decide) hi dL_law_1130 dL_law_1131 dL_law_1132 dL_law_1133 dL_law_1134 ?_
  refine zl_arg (pc := 1135) hV (k0 := 2) (by decide) hi dL_law_1135 dL_law_1136 dL_law_1137 dL_law_1138 dL_law_1139 ?_
  refine zl_arg (pc := 1140) hV (k0 := 3) (by decide) hi dL_law_1140 dL_law_1141 dL_law_1142 dL_law_1143 dL_law_1144 ?_
  refine zl_arg (pc := 1145) hV (k0 := 4) (by decide) hi dL_law_1145 dL_law_1146 dL_law_1147 dL_law_1148 dL_law_1149 ?_
  refine zl_arg (pc := 1150) hV (k0 := 5) (by decide) hi dL_law_1150 dL_law_1151 dL_law_1152 dL_law_1153 dL_law_1154 ?_
  refine zl_X (pc := 1155) hV [ZI (zl_x xs (i + 1)), ZI (zl_x xs (i + 2)), ZI (zl_x xs (i + 3)), ZI (zl_x xs (i + 4)), ZI (zl_x xs (i + 5))] (c_X11_load (σ := σ) h1 (zl_x xs (i + 1)) (zl_x xs (i + 2)) (zl_x xs (i + 3)) (zl_x xs (i + 4)) (zl_x xs (i + 5)) (zl_xin _ _) (zl_xin _ _) (zl_xin _ _) (zl_xin _ _) (zl_xin _ _) h2) mL_161 dL_law_1155 (by decide) (by decide) rfl (fun r σ1 hp => ?_)
  obtain ⟨v, rfl, -, g1, gF, gp, g2⟩ := hp
  refine zl_pop (pc := 1158) hV dL_law_1158 ?_
  refine zl_a2 (pc := 1159) hV dL_law_1159 ?_
  refine zl_arg (pc := 1160) hV (k0 := 1) (by decide) hi dL_law_1160 dL_law_1161 dL_law_1162 dL_law_1163 dL_law_1164 ?_
  refine zl_arg (pc := 1165) hV (k0 := 2) (by decide) hi dL_law_1165 dL_law_1166 dL_law_1167 dL_law_1168 dL_law_1169 ?_
  refine zl_arg (pc := 1170) hV (k0 := 3) (by decide) hi dL_law_1170 dL_law_1171 dL_law_1172 dL_law_1173 dL_law_1174 ?_
  refine zl_arg (pc := 1175) hV (k0 := 4) (by decide) hi dL_law_1175 dL_law_1176 dL_law_1177 dL_law_1178 dL_law_1179 ?_
  refine zl_arg (pc := 1180) hV (k0 := 5) (by decide) hi dL_law_1180 dL_law_1181 dL_law_1182 dL_law_1183 dL_law_1184 ?_
  refine zl_M (pc := 1185) hV [ZI (zl_x xs (i + 1)), ZI (zl_x xs (i + 2)), ZI (zl_x xs (i + 3)), ZI (zl_x xs (i + 4)), ZI (zl_x xs (i + 5))] (c_X12_load (σ := ρ) h3 (zl_x xs (i + 1)) (zl_x xs (i + 2)) (zl_x xs (i + 3)) (zl_x xs (i + 4)) (zl_x xs (i + 5)) (zl_xin _ _) (zl_xin _ _) (zl_xin _ _) (zl_xin _ _) (zl_xin _ _) hK) mL_165 dL_law_1185 (by decide) (Nat.le_of_ble_eq_true rfl) rfl (fun r ρ1 hp => ?_)
  obtain ⟨u, rfl, -, k3, hf, kp, K1⟩ := hp
  have tN : zu_TN σ1 ρ1 := (by have o3 : ρ1 0 3 = ρ 0 3 := (hf 0 3 (by omega)); exact zu_TN_fr h3 hO (zs_gg_mk hT3) (gF 134 0 (zc_out_at zc_s134 rfl)) (Int.le_of_eq o3) (fun o o0 o1 => by have z3 := zx_g3 h3; have ka := zc_ga10 h1 zc_s10 o o0 (by omega); rw [show σ1 10 o = σ 10 o from (fun j => gF 10 j (zc_out_ar zc_s10 rfl)) o]; exact ⟨gF _ 15 (zc_out_at ka rfl), gF _ 16 (zc_out_at ka rfl)⟩) (fun o o0 o1 => ⟨hf 3 o (by omega), hf 4 o (by omega), hf 5 o (by omega), fun i _ _ => hf 6 i (by omega), hf 8 o (by omega), hf 9 o (by omega)⟩) hTN)
  refine zl_pop (pc := 1188) hV dL_law_1188 ?_
  refine zl_goto (pc := 1189) hV 1311 dL_law_1189 (by decide) ?_
  exact hend _ _ ⟨g1, g2, k3, (zx_M_fr (fun i => hf 18 i (by omega)) (hf 0 30 (by omega)) (hf 0 2 (by omega)) (hf 0 3 (by omega)) hM), (zx_O_fr (fun i => hf 2 i (by omega)) (fun i => hf 5 i (by omega)) (fun i => hf 6 i (by omega)) (hf 0 2 (by omega)) (hf 0 3 (by omega)) hO), K1, (zx_U_fr (hf 0 36 (by omega)) (hf 0 37 (by omega)) (fun i => hf 21 i (by omega)) (fun i => hf 23 i (by omega)) (fun i => hf 24 i (by omega)) hU), (zx_TK_fr (fun i => hf 7 i (by omega)) (hf 0 3 (by omega)) hT), (zx_W_fr (fun i => hf 18 i (by omega)) (hf 0 30 (by omega)) (hf 0 2 (by omega)) (hf 0 3 (by omega)) (fun i => hf 2 i (by omega)) hW), ⟨(zt_fr ht (gF 3 0 (zc_out_at zc_s3 rfl)) (gF 3 1 (zc_out_at zc_s3 rfl)) (gF 3 2 (zc_out_at zc_s3 rfl)) (gF 140 12 (zc_out_at zc_s140 rfl)) (gF 255 4 (zc_out_at zc_s255 rfl)) (fun j => gF 277 j (zc_out_ar zc_s277 rfl)) (fun j => gF 278 j (zc_out_ar zc_s278 rfl)) (hf 0 0 (by omega)) (hf 0 1 (by omega)) (hf 0 2 (by omega)) (hf 0 29 (by omega)) (hf 0 35 (by omega)) (fun j => hf 38 j (by omega)) (fun j => hf 39 j (by omega))), (zu_T2_fr (gF 1 1 (zc_out_at zc_s1 rfl)) (fun j => gF 2 j (zc_out_ar zc_s2 rfl)) (hf 0 14 (by omega)) (fun j => hf 10 j (by omega)) hT2), (zu_T3_same h3 hT3 ⟨(gF 3 3 (zc_out_at zc_s3 rfl)), (gF 3 5 (zc_out_at zc_s3 rfl)), (fun j => gF 10 j (zc_out_ar zc_s10 rfl)), (fun j => gF 11 j (zc_out_ar zc_s11 rfl))⟩ (by rw [gF 3 4 (zc_out_at zc_s3 rfl), hf 0 18 (by omega)]; exact hT3.1.2) (hf 0 3 (by omega)) (hf 0 0 (by omega)) (hf 0 1 (by omega)) (hf 0 2 (by omega)) (fun o o0 o1 => by have ka := zc_ga10 h1 zc_s10 o o0 (by have := zx_g3 h3; omega); exact ⟨⟨gF _ 0 (zc_out_at ka rfl), gF _ 1 (zc_out_at ka rfl), gF _ 2 (zc_out_at ka rfl), gF _ 4 (zc_out_at ka rfl), gF _ 5 (zc_out_at ka rfl), gF _ 6 (zc_out_at ka rfl), gF _ 11 (zc_out_at ka rfl), gF _ 12 (zc_out_at ka rfl), gF _ 13 (zc_out_at ka rfl)⟩, zu_cfk (fun i => gF _ i (zc_out_ar (zc_p4_1 ka) rfl)) (fun i => gF _ i (zc_out_ar (zc_p4_2 ka) rfl)) (fun i => gF _ i (zc_out_ar (zc_p4_3 ka) rfl)) (fun i => gF _ i (zc_out_ar (zc_p4_4 ka) rfl)) (fun i => gF _ i (zc_out_ar (zc_p4_5 ka) rfl))⟩) (fun o o0 o1 => ⟨hf 1 o (by omega), fun i _ _ => hf 2 i (by omega), hf 3 o (by omega), hf 4 o (by omega), hf 5 o (by omega), hf 7 o (by omega), fun i _ _ => hf 6 i (by omega)⟩))⟩, tN⟩
theorem zl_case36 {L : Nat} {xs : Nat → Int32} {b1 b : Nat} {V : Nat → Int → List Value → zq_S → zq_S → Prop} {i : Int} {σ ρ : zq_S} (hV : zl_R L xs b1 b V) (hi : 0 ≤ i ∧ i + 6 ≤ (L : Int)) (hI : zl_I σ ρ) (hend : ∀ σ ρ, zl_I σ ρ → V 1311 i [] σ ρ) : V 1192 i [] σ ρ := by
  obtain ⟨h1, h2, h3, hM, hO, hK, hU, hT, hW, ⟨ht, hT2, hT3⟩, hTN⟩ := hI
  refine zl_a1 (pc := 1192) hV dL_law_1192 ?_
  refine zl_arg (pc := 1193) hV (k0 := 1) (by decide) hi dL_law_1193 dL_law_1194 dL_law_1195 dL_law_1196 dL_law_1197 ?_
  refine zl_arg (pc := 1198) hV (k0 := 2) (by decide) hi dL_law_1198 dL_law_1199 dL_law_1200 dL_law_1201 dL_law_1202 ?_
  refine zl_arg (pc := 1203) hV (k0 := 3) (by decide) hi dL_law_1203 dL_law_1204 dL_law_1205 dL_law_1206 dL_law_1207 ?_
  refine zl_X (pc := 1208) hV [ZI (zl_x xs (i + 1)), ZI (zl_x xs (i + 2)), ZI (zl_x xs (i + 3))] (c_X11_sheet_2 (σ := σ) h1 (zl_x xs (i + 1)) (zl_x xs (i + 2)) (zl_x xs (i + 3)) (zl_xin _ _) (zl_xin _ _) (zl_xin _ _) h2) mL_166 dL_law_1208 (by decide) (by decide) rfl (fun r σ1 hp => ?_)
  obtain ⟨v, rfl, -, g1, gF, gp, gw, g2⟩ := hp
  refine zl_pop (pc := 1211) hV dL_law_1211 ?_
  refine zl_a2 (pc := 1212) hV dL_law_1212 ?_
  refine zl_arg (pc := 1213) hV (k0 := 1) (by decide) hi dL_law_1213 dL_law_1214 dL_law_1215 dL_law_1216 dL_law_1217 ?_
  refine zl_arg (pc := 1218) hV (k0 := 2) (by decide) hi dL_law_1218 dL_law_1219 dL_law_1220 dL_law_1221 dL_law_1222 ?_
  refine zl_arg (pc := 1223) hV (k0 := 3) (by decide) hi dL_law_1223 dL_law_1224 dL_law_1225 dL_law_1226 dL_law_1227 ?_
  refine zl_M (pc := 1228) hV [ZI (zl_x xs (i + 1)), ZI (zl_x xs (i + 2)), ZI (zl_x xs (i + 3))] (c_X12_sheet2 (σ := ρ) h3 (zl_x xs (i + 1)) (zl_x xs (i + 2)) (zl_x xs (i + 3)) (zl_xin _ _) (zl_xin _ _) (zl_xin _ _)) mL_169 dL_law_1228 (by decide) (Nat.le_of_ble_eq_true rfl) rfl (fun r ρ1 hp => ?_)
  obtain ⟨u, rfl, -, k3, hf, kp, kw⟩ := hp
  have hq := ht.1
  have hk : zq_shl 1 (σ 3 1) = zq_shl 1 (ρ 0 1) := by rw [hq.2.1]
  have d3_0 := gF 3 0 (zc_out_at zc_s3 rfl)
  have d3_1 := gF 3 1 (zc_out_at zc_s3 rfl)
  have d3_2 := gF 3 2 (zc_out_at zc_s3 rfl)
  have d140_12 := gF 140 12 (zc_out_at zc_s140 rfl)
  have d255_4 := gF 255 4 (zc_out_at zc_s255 rfl)
  have e0_0 := hf 0 0 (by omega)
  have e0_1 := hf 0 1 (by omega)
  have e0_2 := hf 0 2 (by omega)
  have e0_29 := hf 0 29 (by omega)
  have e0_35 := hf 0 35 (by omega)
  have tt : zt σ1 ρ1 := ⟨(by omega), fun j j0 j3 => ⟨by rw [gw.1 j, kw.1 j, (ht.2 j j0 j3).1], by rw [gw.2 j, kw.2 j, (ht.2 j j0 j3).2]⟩⟩
  have tN : zu_TN σ1 ρ1 := (by have o3 : ρ1 0 3 = ρ 0 3 := (hf 0 3 (by omega)); exact zu_TN_fr h3 hO (zs_gg_mk hT3) (gF 134 0 (zc_out_at zc_s134 rfl)) (Int.le_of_eq o3) (fun o o0 o1 => by have z3 := zx_g3 h3; have ka := zc_ga10 h1 zc_s10 o o0 (by omega); rw [show σ1 10 o = σ 10 o from (fun j => gF 10 j (zc_out_ar zc_s10 rfl)) o]; exact ⟨gF _ 15 (zc_out_at ka rfl), gF _ 16 (zc_out_at ka rfl)⟩) (fun o o0 o1 => ⟨hf 3 o (by omega), hf 4 o (by omega), hf 5 o (by omega), fun i _ _ => hf 6 i (by omega), hf 8 o (by omega), hf 9 o (by omega)⟩) hTN)
  refine zl_pop (pc := 1231) hV dL_law_1231 ?_
  refine zl_goto (pc := 1232) hV 1311 dL_law_1232 (by decide) ?_
  exact hend _ _ ⟨g1, g2, k3, (zx_M_fr (fun i => hf 18 i (by omega)) (hf 0 30 (by omega)) (hf 0 2 (by omega)) (hf 0 3 (by omega)) hM), (zx_O_fr (fun i => hf 2 i (by omega)) (fun i => hf 5 i (by omega)) (fun i => hf 6 i (by omega)) (hf 0 2 (by omega)) (hf 0 3 (by omega)) hO), (zx_K_fr (fun i => hf 14 i (by omega)) (hf 0 2 (by omega)) hK), (zx_U_fr (hf 0 36 (by omega)) (hf 0 37 (by omega)) (fun i => hf 21 i (by omega)) (fun i => hf 23 i (by omega)) (fun i => hf 24 i (by omega)) hU), (zx_TK_fr (fun i => hf 7 i (by omega)) (hf 0 3 (by omega)) hT), (zx_W_fr (fun i => hf 18 i (by omega)) (hf 0 30 (by omega)) (hf 0 2 (by omega)) (hf 0 3 (by omega)) (fun i => hf 2 i (by omega)) hW), ⟨tt, (zu_T2_fr (gF 1 1 (zc_out_at zc_s1 rfl)) (fun j => gF 2 j (zc_out_ar zc_s2 rfl)) (hf 0 14 (by omega)) (fun j => hf 10 j (by omega)) hT2), (zu_T3_same h3 hT3 ⟨(gF 3 3 (zc_out_at zc_s3 rfl)), (gF 3 5 (zc_out_at zc_s3 rfl)), (fun j => gF 10 j (zc_out_ar zc_s10 rfl)), (fun j => gF 11 j (zc_out_ar zc_s11 rfl))⟩ (by rw [gF 3 4 (zc_out_at zc_s3 rfl), hf 0 18 (by omega)]; exact hT3.1.2) (hf 0 3 (by omega)) (hf 0 0 (by omega)) (hf 0 1 (by omega)) (hf 0 2 (by omega)) (fun o o0 o1 => by have ka := zc_ga10 h1 zc_s10 o o0 (by have := zx_g3 h3; omega); exact ⟨⟨gF _ 0 (zc_out_at ka rfl), gF _ 1 (zc_out_at ka rfl), gF _ 2 (zc_out_at ka rfl), gF _ 4 (zc_out_at ka rfl), gF _ 5 (zc_out_at ka rfl), gF _ 6 (zc_out_at ka rfl), gF _ 11 (zc_out_at ka rfl), gF _ 12 (zc_out_at ka rfl), gF _ 13 (zc_out_at ka rfl)⟩, zu_cfk (fun i => gF _ i (zc_out_ar (zc_p4_1 ka) rfl)) (fun i => gF _ i (zc_out_ar (zc_p4_2 ka) rfl)) (fun i => gF _ i (zc_out_ar (zc_p4_3 ka) rfl)) (fun i => gF _ i (zc_out_ar (zc_p4_4 ka) rfl)) (fun i => gF _ i (zc_out_ar (zc_p4_5 ka) rfl))⟩) (fun o o0 o1 => ⟨hf 1 o (by omega), fun i _ _ => hf 2 i (by omega), hf 3 o (by omega), hf 4 o (by omega), hf 5 o (by omega), hf 7 o (by omega), fun i _ _ => hf 6 i (by omega)⟩))⟩, tN⟩
theorem zl_case37 {L : Nat} {xs : Nat → Int32} {b1 b : Nat} {V : Nat → Int → List Value → zq_S → zq_S → Prop} {i : Int} {σ ρ : zq_S} (hV : zl_R L xs b1 b V) (hi : 0 ≤ i ∧ i + 6 ≤ (L : Int)) (hI : zl_I σ ρ) (hend : ∀ σ ρ, zl_I σ ρ → V 1311 i [] σ ρ) : V 1235 i [] σ ρ := by
  obtain ⟨h1, h2, h3, hM, hO, hK, hU, hT, hW, ⟨ht, hT2, hT3⟩, hTN⟩ := hI
  refine zl_a1 (pc := 1235) hV dL_law_1235 ?_
  refine zl_arg (pc := 1236) hV (k0 := 1) (by decide) hi dL_law_1236 dL_law_1237 dL_law_1238 dL_law_1239 dL_law_1240 ?_
  refine zl_X (pc := 1241) hV [ZI (zl_x xs (i + 1))] (c_X11_drop_2 (σ := σ) h1 (zl_x xs (i + 1)) (zl_xin _ _) h2) mL_170 dL_law_1241 (by decide) (by decide) rfl (fun r σ1 hp => ?_)
  obtain ⟨v, rfl, -, g1, gF, gp, gw, g2⟩ := hp
  refine zl_pop (pc := 1244) hV dL_law_1244 ?_
  refine zl_a2 (pc := 1245) hV dL_law_1245 ?_
  refine zl_arg (pc := 1246) hV (k0 := 1) (by decide) hi dL_law_1246 dL_law_1247 dL_law_1248 dL_law_1249 dL_law_1250 ?_
  refine zl_M (pc := 1251) hV [ZI (zl_x xs (i + 1))] (c_X12_drop2 (σ := ρ) h3 (zl_x xs (i + 1)) (zl_xin _ _)) mL_173 dL_law_1251 (by decide) (Nat.le_of_ble_eq_true rfl) rfl (fun r ρ1 hp => ?_)
  obtain ⟨u, rfl, -, k3, hf, kp, kw⟩ := hp
  have hq := ht.1
  have hk : zq_shl 1 (σ 3 1) = zq_shl 1 (ρ 0 1) := by rw [hq.2.1]
  have d3_0 := gF 3 0 (zc_out_at zc_s3 rfl)
  have d3_1 := gF 3 1 (zc_out_at zc_s3 rfl)
  have d3_2 := gF 3 2 (zc_out_at zc_s3 rfl)
  have d140_12 := gF 140 12 (zc_out_at zc_s140 rfl)
  have d255_4 := gF 255 4 (zc_out_at zc_s255 rfl)
  have e0_0 := hf 0 0 (by omega)
  have e0_1 := hf 0 1 (by omega)
  have e0_2 := hf 0 2 (by omega)
  have e0_29 := hf 0 29 (by omega)
  have e0_35 := hf 0 35 (by omega)
  have tt : zt σ1 ρ1 := ⟨(by omega), fun j j0 j3 => ⟨by rw [gw j, kw j, (ht.2 j j0 j3).1], by rw [gF 278 j (zc_out_ar zc_s278 rfl), hf 39 j (by omega), (ht.2 j j0 j3).2]⟩⟩
  have tN : zu_TN σ1 ρ1 := (by have o3 : ρ1 0 3 = ρ 0 3 := (hf 0 3 (by omega)); exact zu_TN_fr h3 hO (zs_gg_mk hT3) (gF 134 0 (zc_out_at zc_s134 rfl)) (Int.le_of_eq o3) (fun o o0 o1 => by have z3 := zx_g3 h3; have ka := zc_ga10 h1 zc_s10 o o0 (by omega); rw [show σ1 10 o = σ 10 o from (fun j => gF 10 j (zc_out_ar zc_s10 rfl)) o]; exact ⟨gF _ 15 (zc_out_at ka rfl), gF _ 16 (zc_out_at ka rfl)⟩) (fun o o0 o1 => ⟨hf 3 o (by omega), hf 4 o (by omega), hf 5 o (by omega), fun i _ _ => hf 6 i (by omega), hf 8 o (by omega), hf 9 o (by omega)⟩) hTN)
  refine zl_pop (pc := 1254) hV dL_law_1254 ?_
  refine zl_goto (pc := 1255) hV 1311 dL_law_1255 (by decide) ?_
  exact hend _ _ ⟨g1, g2, k3, (zx_M_fr (fun i => hf 18 i (by omega)) (hf 0 30 (by omega)) (hf 0 2 (by omega)) (hf 0 3 (by omega)) hM), (zx_O_fr (fun i => hf 2 i (by omega)) (fun i => hf 5 i (by omega)) (fun i => hf 6 i (by omega)) (hf 0 2 (by omega)) (hf 0 3 (by omega)) hO), (zx_K_fr (fun i => hf 14 i (by omega)) (hf 0 2 (by omega)) hK), (zx_U_fr (hf 0 36 (by omega)) (hf 0 37 (by omega)) (fun i => hf 21 i (by omega)) (fun i => hf 23 i (by omega)) (fun i => hf 24 i (by omega)) hU), (zx_TK_fr (fun i => hf 7 i (by omega)) (hf 0 3 (by omega)) hT), (zx_W_fr (fun i => hf 18 i (by omega)) (hf 0 30 (by omega)) (hf 0 2 (by omega)) (hf 0 3 (by omega)) (fun i => hf 2 i (by omega)) hW), ⟨tt, (zu_T2_fr (gF 1 1 (zc_out_at zc_s1 rfl)) (fun j => gF 2 j (zc_out_ar zc_s2 rfl)) (hf 0 14 (by omega)) (fun j => hf 10 j (by omega)) hT2), (zu_T3_same h3 hT3 ⟨(gF 3 3 (zc_out_at zc_s3 rfl)), (gF 3 5 (zc_out_at zc_s3 rfl)), (fun j => gF 10 j (zc_out_ar zc_s10 rfl)), (fun j => gF 11 j (zc_out_ar zc_s11 rfl))⟩ (by rw [gF 3 4 (zc_out_at zc_s3 rfl), hf 0 18 (by omega)]; exact hT3.1.2) (hf 0 3 (by omega)) (hf 0 0 (by omega)) (hf 0 1 (by omega)) (hf 0 2 (by omega)) (fun o o0 o1 => by have ka := zc_ga10 h1 zc_s10 o o0 (by have := zx_g3 h3; omega); exact ⟨⟨gF _ 0 (zc_out_at ka rfl), gF _ 1 (zc_out_at ka rfl), gF _ 2 (zc_out_at ka rfl), gF _ 4 (zc_out_at ka rfl), gF _ 5 (zc_out_at ka rfl), gF _ 6 (zc_out_at ka rfl), gF _ 11 (zc_out_at ka rfl), gF _ 12 (zc_out_at ka rfl), gF _ 13 (zc_out_at ka rfl)⟩, zu_cfk (fun i => gF _ i (zc_out_ar (zc_p4_1 ka) rfl)) (fun i => gF _ i (zc_out_ar (zc_p4_2 ka) rfl)) (fun i => gF _ i (zc_out_ar (zc_p4_3 ka) rfl)) (fun i => gF _ i (zc_out_ar (zc_p4_4 ka) rfl)) (fun i => gF _ i (zc_out_ar (zc_p4_5 ka) rfl))⟩) (fun o o0 o1 => ⟨hf 1 o (by omega), fun i _ _ => hf 2 i (by omega), hf 3 o (by omega), hf 4 o (by omega), hf 5 o (by omega), hf 7 o (by omega), fun i _ _ => hf 6 i (by omega)⟩))⟩, tN⟩
theorem zl_case38 {L : Nat} {xs : Nat → Int32} {b1 b : Nat} {V : Nat → Int → List Value → zq_S → zq_S → Prop} {i : Int} {σ ρ : zq_S} (hV : zl_R L xs b1 b V) (hi : 0 ≤ i ∧ i + 6 ≤ (L : Int)) (hI : zl_I σ ρ) (hend : ∀ σ ρ, zl_I σ ρ → V 1311 i [] σ ρ) : V 1258 i [] σ ρ := by
  obtain ⟨h1, h2, h3, hM, hO, hK, hU, hT, hW, ⟨ht, hT2, hT3⟩, hTN⟩ := hI
  refine zl_a1 (pc := 1258) hV dL_law_1258 ?_
  refine zl_arg (pc := 1259) hV (k0 := 1) (by decide) hi dL_law_1259 dL_law_1260 dL_law_1261 dL_law_1262 dL_law_1263 ?_
  refine zl_arg (pc := 1264) hV (k0 := 2) (by decide) hi dL_law_1264 dL_law_1265 dL_law_1266 dL_law_1267 dL_law_1268 ?_
  refine zl_arg (pc := 1269) hV (k0 := 3) (by decide) hi dL_law_1269 dL_law_1270 dL_law_1271 dL_law_1272 dL_law_1273 ?_
  refine zl_arg (pc := 1274) hV (k0 := 4) (by decide) hi dL_law_1274 dL_law_1275 dL_law_1276 dL_law_1277 dL_law_1278 ?_
  refine zl_X (pc := 1279) hV [ZI (zl_x xs (i + 1)), ZI (zl_x xs (i + 2)), ZI (zl_x xs (i + 3)), ZI (zl_x xs (i + 4))] (c_X11_item_2 (σ := σ) h1 (zl_x xs (i + 1)) (zl_x xs (i + 2)) (zl_x xs (i + 3)) (zl_x xs (i + 4)) (zl_xin _ _) (zl_xin _ _) (zl_xin _ _) (zl_xin _ _) h2) mL_174 dL_law_1279 (by decide) (by decide) rfl (fun r σ1 hp => ?_)
  obtain ⟨v, rfl, -, g1, gF, gp, g2⟩ := hp
  refine zl_pop (pc := 1282) hV dL_law_1282 ?_
  refine zl_a2 (pc := 1283) hV dL_law_1283 ?_
  refine zl_arg (pc := 1284) hV (k0 := 1) (by decide) hi dL_law_1284 dL_law_1285 dL_law_1286 dL_law_1287 dL_law_1288 ?_
  refine zl_arg (pc := 1289) hV (k0 := 2) (by decide) hi dL_law_1289 dL_law_1290 dL_law_1291 dL_law_1292 dL_law_1293 ?_
  refine zl_arg (pc := 1294) hV (k0 := 3) (by decide) hi dL_law_1294 dL_law_1295 dL_law_1296 dL_law_1297 dL_law_1298 ?_
  refine zl_arg (pc := 1299) hV (k0 := 4) (by decide) hi dL_law_1299 dL_law_1300 dL_law_1301 dL_law_1302 dL_law_1303 ?_
  refine zl_M (pc := 1304) hV [ZI (zl_x xs (i + 1)), ZI (zl_x xs (i + 2)), ZI (zl_x xs (i + 3)), ZI (zl_x xs (i + 4))] (c_X12_item2 (σ := ρ) h3 (zl_x xs (i + 1)) (zl_x xs (i + 2)) (zl_x xs (i + 3)) (zl_x xs (i + 4)) (zl_xin _ _) (zl_xin _ _) (zl_xin _ _) (zl_xin _ _)) mL_177 dL_law_1304 (by decide) (Nat.le_of_ble_eq_true rfl) rfl (fun r ρ1 hp => ?_)
  obtain ⟨u, rfl, -, k3, hf, kp⟩ := hp
  have tN : zu_TN σ1 ρ1 := (by have o3 : ρ1 0 3 = ρ 0 3 := (hf 0 3 (by omega)); exact zu_TN_fr h3 hO (zs_gg_mk hT3) (gF 134 0 (zc_out_at zc_s134 rfl)) (Int.le_of_eq o3) (fun o o0 o1 => by have z3 := zx_g3 h3; have ka := zc_ga10 h1 zc_s10 o o0 (by omega); rw [show σ1 10 o = σ 10 o from (fun j => gF 10 j (zc_out_ar zc_s10 rfl)) o]; exact ⟨gF _ 15 (zc_out_at ka rfl), gF _ 16 (zc_out_at ka rfl)⟩) (fun o o0 o1 => ⟨hf 3 o (by omega), hf 4 o (by omega), hf 5 o (by omega), fun i _ _ => hf 6 i (by omega), hf 8 o (by omega), hf 9 o (by omega)⟩) hTN)
  refine zl_pop (pc := 1307) hV dL_law_1307 ?_
  refine zl_goto (pc := 1308) hV 1311 dL_law_1308 (by decide) ?_
  exact hend _ _ ⟨g1, g2, k3, (zx_M_fr (fun i => hf 18 i (by omega)) (hf 0 30 (by omega)) (hf 0 2 (by omega)) (hf 0 3 (by omega)) hM), (zx_O_fr (fun i => hf 2 i (by omega)) (fun i => hf 5 i (by omega)) (fun i => hf 6 i (by omega)) (hf 0 2 (by omega)) (hf 0 3 (by omega)) hO), (zx_K_fr (fun i => hf 14 i (by omega)) (hf 0 2 (by omega)) hK), (zx_U_fr (hf 0 36 (by omega)) (hf 0 37 (by omega)) (fun i => hf 21 i (by omega)) (fun i => hf 23 i (by omega)) (fun i => hf 24 i (by omega)) hU), (zx_TK_fr (fun i => hf 7 i (by omega)) (hf 0 3 (by omega)) hT), (zx_W_fr (fun i => hf 18 i (by omega)) (hf 0 30 (by omega)) (hf 0 2 (by omega)) (hf 0 3 (by omega)) (fun i => hf 2 i (by omega)) hW), ⟨(zt_fr ht (gF 3 0 (zc_out_at zc_s3 rfl)) (gF 3 1 (zc_out_at zc_s3 rfl)) (gF 3 2 (zc_out_at zc_s3 rfl)) (gF 140 12 (zc_out_at zc_s140 rfl)) (gF 255 4 (zc_out_at zc_s255 rfl)) (fun j => gF 277 j (zc_out_ar zc_s277 rfl)) (fun j => gF 278 j (zc_out_ar zc_s278 rfl)) (hf 0 0 (by omega)) (hf 0 1 (by omega)) (hf 0 2 (by omega)) (hf 0 29 (by omega)) (hf 0 35 (by omega)) (fun j => hf 38 j (by omega)) (fun j => hf 39 j (by omega))), (zu_T2_fr (gF 1 1 (zc_out_at zc_s1 rfl)) (fun j => gF 2 j (zc_out_ar zc_s2 rfl)) (hf 0 14 (by omega)) (fun j => hf 10 j (by omega)) hT2), (zu_T3_same h3 hT3 ⟨(gF 3 3 (zc_out_at zc_s3 rfl)), (gF 3 5 (zc_out_at zc_s3 rfl)), (fun j => gF 10 j (zc_out_ar zc_s10 rfl)), (fun j => gF 11 j (zc_out_ar zc_s11 rfl))⟩ (by rw [gF 3 4 (zc_out_at zc_s3 rfl), hf 0 18 (by omega)]; exact hT3.1.2) (hf 0 3 (by omega)) (hf 0 0 (by omega)) (hf 0 1 (by omega)) (hf 0 2 (by omega)) (fun o o0 o1 => by have ka := zc_ga10 h1 zc_s10 o o0 (by have := zx_g3 h3; omega); exact ⟨⟨gF _ 0 (zc_out_at ka rfl), gF _ 1 (zc_out_at ka rfl), gF _ 2 (zc_out_at ka rfl), gF _ 4 (zc_out_at ka rfl), gF _ 5 (zc_out_at ka rfl), gF _ 6 (zc_out_at ka rfl), gF _ 11 (zc_out_at ka rfl), gF _ 12 (zc_out_at ka rfl), gF _ 13 (zc_out_at ka rfl)⟩, zu_cfk (fun i => gF _ i (zc_out_ar (zc_p4_1 ka) rfl)) (fun i => gF _ i (zc_out_ar (zc_p4_2 ka) rfl)) (fun i => gF _ i (zc_out_ar (zc_p4_3 ka) rfl)) (fun i => gF _ i (zc_out_ar (zc_p4_4 ka) rfl)) (fun i => gF _ i (zc_out_ar (zc_p4_5 ka) rfl))⟩) (fun o o0 o1 => ⟨hf 1 o (by omega), fun i _ _ => hf 2 i (by omega), hf 3 o (by omega), hf 4 o (by omega), hf 5 o (by omega), hf 7 o (by omega), fun i _ _ => hf 6 i (by omega)⟩))⟩, tN⟩
