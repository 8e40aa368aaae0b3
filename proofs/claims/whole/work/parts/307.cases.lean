/-- feed -/
theorem cs_0 {p : Program} {l : Launch} {e : Env} {s : State} {m : MethodId} {below : List Frame} {meth : Method} {c : Code} {b L : Nat} {xs : Nat → Int32} {D : va_G} {cA : Nat → ClassId} {adX adM : Nat → Nat} {o : Nat} {σ μ τ : Me} {H : Heap} {locs : List Loc} {cells slots : Nat} {Q : State → Prop} {ls : Array Slot} {i : Nat} (F : lg_F p l s m c b L xs D cA) (S : lg_S s cA adX adM o) (hM : lg_M s D cA adX adM o σ μ τ H locs) (hR : Rl σ μ) (hl : lg_L b adX adM o i ls) (hi : i + 6 ≤ L) (hce : cells + 1 ≤ 601024) (hsl : slots + 6 ≤ 7293034) (kk : lg_K p l e s m below meth c b D cA adX adM o i cells slots Q) : W p l e room_1 s m #[Value.ref b] below meth c H locs cells slots Q (F0 m 200 ls []) := by
  obtain ⟨hx, hb, -⟩ := id F
  unfold lg_L at hl
  have oa : opR (m_D_feed (0 :: ([xs (i + 1), xs (i + 2), xs (i + 3), xs (i + 4), xs (i + 5)] : List Int32).map Int32.toInt) σ) (m_M_feed (0 :: ([xs (i + 1), xs (i + 2), xs (i + 3), xs (i + 4), xs (i + 5)] : List Int32).map Int32.toInt) μ) := op_feed hR
  obtain ⟨a, a', σ', μ', ex, em, hab, hR'⟩ := oa
  refine lv_aload_n hx hb dL_law_200 rfl (lv_at hl 1 rfl) ?_
  refine lg_arg F hM (lv_at hl 0 rfl) (lv_at hl 4 rfl) hi 1 (by decide) rfl dL_law_201 dL_law_202 dL_law_204 dL_law_205 dL_law_206 ?_
  refine lg_arg F hM (lv_at hl 0 rfl) (lv_at hl 4 rfl) hi 2 (by decide) rfl dL_law_207 dL_law_208 dL_law_210 dL_law_211 dL_law_212 ?_
  refine lg_arg F hM (lv_at hl 0 rfl) (lv_at hl 4 rfl) hi 3 (by decide) rfl dL_law_213 dL_law_214 dL_law_216 dL_law_217 dL_law_218 ?_
  refine lg_arg F hM (lv_at hl 0 rfl) (lv_at hl 4 rfl) hi 4 (by decide) rfl dL_law_219 dL_law_220 dL_law_222 dL_law_223 dL_law_224 ?_
  refine lg_arg F hM (lv_at hl 0 rfl) (lv_at hl 4 rfl) hi 5 (by decide) rfl dL_law_225 dL_law_226 dL_law_228 dL_law_229 dL_law_230 ?_
  refine lg_callX (as := [xs (i + 1), xs (i + 2), xs (i + 3), xs (i + 4), xs (i + 5)]) (st := []) F S hM C_D_feed lv_RL_32 rfl rfl (by decide) (by decide) (by omega) (by omega) hl.1 (Nat.le_of_ble_eq_true rfl) ex dL_law_231 (fun H1 l1 hM1 => ?_)
  refine lv_aload_n hx hb dL_law_234 rfl (lv_at hl 2 rfl) ?_
  refine lg_arg F hM1 (lv_at hl 0 rfl) (lv_at hl 4 rfl) hi 1 (by decide) rfl dL_law_235 dL_law_236 dL_law_238 dL_law_239 dL_law_240 ?_
  refine lg_arg F hM1 (lv_at hl 0 rfl) (lv_at hl 4 rfl) hi 2 (by decide) rfl dL_law_241 dL_law_242 dL_law_244 dL_law_245 dL_law_246 ?_
  refine lg_arg F hM1 (lv_at hl 0 rfl) (lv_at hl 4 rfl) hi 3 (by decide) rfl dL_law_247 dL_law_248 dL_law_250 dL_law_251 dL_law_252 ?_
  refine lg_arg F hM1 (lv_at hl 0 rfl) (lv_at hl 4 rfl) hi 4 (by decide) rfl dL_law_253 dL_law_254 dL_law_256 dL_law_257 dL_law_258 ?_
  refine lg_arg F hM1 (lv_at hl 0 rfl) (lv_at hl 4 rfl) hi 5 (by decide) rfl dL_law_259 dL_law_260 dL_law_262 dL_law_263 dL_law_264 ?_
  refine lg_callM (as := [xs (i + 1), xs (i + 2), xs (i + 3), xs (i + 4), xs (i + 5)]) (st := [.int (Int32.ofInt a)]) F S hM1 C_M_feed lv_RL_36 rfl rfl (by decide) (by decide) (by omega) (by omega) hl.1 (Nat.le_of_ble_eq_true rfl) em dL_law_265 (fun H2 l2 hM2 => ?_)
  exact lv_icmp_eq hx hb dL_law_268 (tgt := 1447) rfl (fun _ => kk σ' μ' τ H2 l2 ls cells slots hM2 hR' (by omega) (by omega) hl) (fun hne => absurd (lg_eq hab) hne)
/-- end -/
theorem cs_1 {p : Program} {l : Launch} {e : Env} {s : State} {m : MethodId} {below : List Frame} {meth : Method} {c : Code} {b L : Nat} {xs : Nat → Int32} {D : va_G} {cA : Nat → ClassId} {adX adM : Nat → Nat} {o : Nat} {σ μ τ : Me} {H : Heap} {locs : List Loc} {cells slots : Nat} {Q : State → Prop} {ls : Array Slot} {i : Nat} (F : lg_F p l s m c b L xs D cA) (S : lg_S s cA adX adM o) (hM : lg_M s D cA adX adM o σ μ τ H locs) (hR : Rl σ μ) (hl : lg_L b adX adM o i ls) (hi : i + 6 ≤ L) (hce : cells + 1 ≤ 601024) (hsl : slots + 6 ≤ 7293034) (kk : lg_K p l e s m below meth c b D cA adX adM o i cells slots Q) : W p l e room_1 s m #[Value.ref b] below meth c H locs cells slots Q (F0 m 273 ls []) := by
  obtain ⟨hx, hb, -⟩ := id F
  unfold lg_L at hl
  have oa : opR (m_D_end (0 :: ([xs (i + 1)] : List Int32).map Int32.toInt) σ) (m_M_end (0 :: ([xs (i + 1)] : List Int32).map Int32.toInt) μ) := op_end hR (lg_rg _)
  obtain ⟨a, a', σ', μ', ex, em, hab, hR'⟩ := oa
  refine lv_aload_n hx hb dL_law_273 rfl (lv_at hl 1 rfl) ?_
  refine lg_arg F hM (lv_at hl 0 rfl) (lv_at hl 4 rfl) hi 1 (by decide) rfl dL_law_274 dL_law_275 dL_law_277 dL_law_278 dL_law_279 ?_
  refine lg_callX (as := [xs (i + 1)]) (st := []) F S hM C_D_end lv_RL_37 rfl rfl (by decide) (by decide) (by omega) (by omega) hl.1 (Nat.le_of_ble_eq_true rfl) ex dL_law_280 (fun H1 l1 hM1 => ?_)
  refine lv_aload_n hx hb dL_law_283 rfl (lv_at hl 2 rfl) ?_
  refine lg_arg F hM1 (lv_at hl 0 rfl) (lv_at hl 4 rfl) hi 1 (by decide) rfl dL_law_284 dL_law_285 dL_law_287 dL_law_288 dL_law_289 ?_
  refine lg_callM (as := [xs (i + 1)]) (st := [.int (Int32.ofInt a)]) F S hM1 C_M_end lv_RL_41 rfl rfl (by decide) (by decide) (by omega) (by omega) hl.1 (Nat.le_of_ble_eq_true rfl) em dL_law_290 (fun H2 l2 hM2 => ?_)
  exact lv_icmp_eq hx hb dL_law_293 (tgt := 1447) rfl (fun _ => kk σ' μ' τ H2 l2 ls cells slots hM2 hR' (by omega) (by omega) hl) (fun hne => absurd (lg_eq hab) hne)
/-- river -/
theorem cs_2 {p : Program} {l : Launch} {e : Env} {s : State} {m : MethodId} {below : List Frame} {meth : Method} {c : Code} {b L : Nat} {xs : Nat → Int32} {D : va_G} {cA : Nat → ClassId} {adX adM : Nat → Nat} {o : Nat} {σ μ τ : Me} {H : Heap} {locs : List Loc} {cells slots : Nat} {Q : State → Prop} {ls : Array Slot} {i : Nat} (F : lg_F p l s m c b L xs D cA) (S : lg_S s cA adX adM o) (hM : lg_M s D cA adX adM o σ μ τ H locs) (hR : Rl σ μ) (hl : lg_L b adX adM o i ls) (hi : i + 6 ≤ L) (hce : cells + 1 ≤ 601024) (hsl : slots + 6 ≤ 7293034) (kk : lg_K p l e s m below meth c b D cA adX adM o i cells slots Q) : W p l e room_1 s m #[Value.ref b] below meth c H locs cells slots Q (F0 m 298 ls []) := by
  obtain ⟨hx, hb, -⟩ := id F
  unfold lg_L at hl
  have oa : opR (m_D_river (0 :: ([] : List Int32).map Int32.toInt) σ) (m_M_river (0 :: ([] : List Int32).map Int32.toInt) μ) := op_river hR
  obtain ⟨a, a', σ', μ', ex, em, hab, hR'⟩ := oa
  refine lv_aload_n hx hb dL_law_298 rfl (lv_at hl 1 rfl) ?_
  refine lg_callX (as := []) (st := []) F S hM C_D_river lv_RL_42 rfl rfl (by decide) (by decide) (by omega) (by omega) hl.1 (Nat.le_of_ble_eq_true rfl) ex dL_law_299 (fun H1 l1 hM1 => ?_)
  refine lv_aload_n hx hb dL_law_302 rfl (lv_at hl 2 rfl) ?_
  refine lg_callM (as := []) (st := [.int (Int32.ofInt a)]) F S hM1 C_M_river lv_RL_46 rfl rfl (by decide) (by decide) (by omega) (by omega) hl.1 (Nat.le_of_ble_eq_true rfl) em dL_law_303 (fun H2 l2 hM2 => ?_)
  exact lv_icmp_eq hx hb dL_law_306 (tgt := 1447) rfl (fun _ => kk σ' μ' τ H2 l2 ls cells slots hM2 hR' (by omega) (by omega) hl) (fun hne => absurd (lg_eq hab) hne)
/-- fault -/
theorem cs_3 {p : Program} {l : Launch} {e : Env} {s : State} {m : MethodId} {below : List Frame} {meth : Method} {c : Code} {b L : Nat} {xs : Nat → Int32} {D : va_G} {cA : Nat → ClassId} {adX adM : Nat → Nat} {o : Nat} {σ μ τ : Me} {H : Heap} {locs : List Loc} {cells slots : Nat} {Q : State → Prop} {ls : Array Slot} {i : Nat} (F : lg_F p l s m c b L xs D cA) (S : lg_S s cA adX adM o) (hM : lg_M s D cA adX adM o σ μ τ H locs) (hR : Rl σ μ) (hl : lg_L b adX adM o i ls) (hi : i + 6 ≤ L) (hce : cells + 1 ≤ 601024) (hsl : slots + 6 ≤ 7293034) (kk : lg_K p l e s m below meth c b D cA adX adM o i cells slots Q) : W p l e room_1 s m #[Value.ref b] below meth c H locs cells slots Q (F0 m 311 ls []) := by
  obtain ⟨hx, hb, -⟩ := id F
  unfold lg_L at hl
  have oa : opR (m_D_fault (0 :: ([] : List Int32).map Int32.toInt) σ) (m_M_fault (0 :: ([] : List Int32).map Int32.toInt) μ) := op_fault hR
  obtain ⟨a, a', σ', μ', ex, em, hab, hR'⟩ := oa
  refine lv_aload_n hx hb dL_law_311 rfl (lv_at hl 1 rfl) ?_
  refine lg_callX (as := []) (st := []) F S hM C_D_fault lv_RL_47 rfl rfl (by decide) (by decide) (by omega) (by omega) hl.1 (Nat.le_of_ble_eq_true rfl) ex dL_law_312 (fun H1 l1 hM1 => ?_)
  refine lv_aload_n hx hb dL_law_315 rfl (lv_at hl 2 rfl) ?_
  refine lg_callM (as := []) (st := [.int (Int32.ofInt a)]) F S hM1 C_M_fault lv_RL_50 rfl rfl (by decide) (by decide) (by omega) (by omega) hl.1 (Nat.le_of_ble_eq_true rfl) em dL_law_316 (fun H2 l2 hM2 => ?_)
  exact lv_icmp_eq hx hb dL_law_319 (tgt := 1447) rfl (fun _ => kk σ' μ' τ H2 l2 ls cells slots hM2 hR' (by omega) (by omega) hl) (fun hne => absurd (lg_eq hab) hne)
set_option maxHeartbeats 4000000 in
/-- reach -/
theorem cs_4 {p : Program} {l : Launch} {e : Env} {s : State} {m : MethodId} {below : List Frame} {meth : Method} {c : Code} {b L : Nat} {xs : Nat → Int32} {D : va_G} {cA : Nat → ClassId} {adX adM : Nat → Nat} {o : Nat} {σ μ τ : Me} {H : Heap} {locs : List Loc} {cells slots : Nat} {Q : State → Prop} {ls : Array Slot} {i : Nat} (F : lg_F p l s m c b L xs D cA) (S : lg_S s cA adX adM o) (hM : lg_M s D cA adX adM o σ μ τ H locs) (hR : Rl σ μ) (hl : lg_L b adX adM o i ls) (hi : i + 6 ≤ L) (hce : cells + 1 ≤ 601024) (hsl : slots + 6 ≤ 7293034) (kk : lg_K p l e s m below meth c b D cA adX adM o i cells slots Q) : W p l e room_1 s m #[Value.ref b] below meth c H locs cells slots Q (F0 m 324 ls []) := by
  obtain ⟨hx, hb, -⟩ := id F
  unfold lg_L at hl
  have hl9 := F.2.2.2.2.2.2.2.2.2.2.1
  have oT : opT b_D_reach (mthF [0, 1, 2] b_D_reach) m_M_reach [0, 1, 2] [0, (xs (i + 1)).toInt, (xs (i + 2)).toInt] σ μ := op_reach hR (lg_rg _) (lg_rg _)
  obtain ⟨how, x1, ρ1, σ1, w, μ1, q1, q3, hR', q5⟩ := opT_x oT
  rcases q5 with ⟨rfl, q6, q7⟩ | ⟨rfl, q6⟩
  · refine lv_aload_n hx hb dL_law_324 rfl (lv_at hl 1 rfl) ?_
    refine lg_arg F hM (lv_at hl 0 rfl) (lv_at hl 4 rfl) hi 1 (by decide) rfl dL_law_325 dL_law_326 dL_law_328 dL_law_329 dL_law_330 ?_
    refine lg_arg F hM (lv_at hl 0 rfl) (lv_at hl 4 rfl) hi 2 (by decide) rfl dL_law_331 dL_law_332 dL_law_334 dL_law_335 dL_law_336 ?_
    refine lv_aload_n hx hb dL_law_337 rfl (lv_at hl 3 rfl) ?_
    refine lg_wrap (n := 4) (As := [.ref (adX 0), .int (xs (i + 1)), .int (xs (i + 2)), .ref o]) (k := 0) (τ' := u2 τ 0 0 (w32 x1)) F S hM (wr_reach hl9 D adX cA o H.size (xs (i + 1)) (xs (i + 2)) σ σ1 τ 3 x1 ρ1 q1 (by decide)) wl_RL_51 ws_L_reach wn_RL wc_L_reach ⟨by decide +kernel, by decide +kernel, by decide +kernel⟩ rfl (by decide) hce hsl hl.1 rfl rfl dL_law_338 (fun H1 l1 hM1 => ?_)
    refine lv_istore (lv' := [(5, .int 0), (0, .ref b), (1, .ref (adX 0)), (2, .ref (adM 0)), (3, .ref o), (4, .int (Int32.ofNat i))]) hx hb dL_law_341 hl (by decide) rfl (fun ls1 hl1 => ?_)
    refine lv_aload_n hx hb dL_law_343 rfl (lv_at hl1 3 rfl) ?_
    refine lg_arg F hM1 (lv_at hl1 1 rfl) (lv_at hl1 5 rfl) hi 1 (by decide) rfl dL_law_344 dL_law_345 dL_law_347 dL_law_348 dL_law_349 ?_
    refine lg_arg F hM1 (lv_at hl1 1 rfl) (lv_at hl1 5 rfl) hi 2 (by decide) rfl dL_law_350 dL_law_351 dL_law_353 dL_law_354 dL_law_355 ?_
    refine lg_callM (as := [xs (i + 1), xs (i + 2)]) (st := []) F S hM1 C_M_reach lv_RL_56 rfl rfl (by decide) (by decide) (by omega) (by omega) hl1.1 (Nat.le_of_ble_eq_true rfl) q3 dL_law_356 (fun H2 l2 hM2 => ?_)
    refine lv_istore (lv' := [(6, .int (Int32.ofInt w)), (5, .int 0), (0, .ref b), (1, .ref (adX 0)), (2, .ref (adM 0)), (3, .ref o), (4, .int (Int32.ofNat i))]) hx hb dL_law_359 hl1 (by decide) rfl (fun ls2 hl2 => ?_)
    refine lv_aload_n hx hb dL_law_361 rfl (lv_at hl2 4 rfl) ?_
    refine lg_callM (as := []) (st := []) F S hM2 C_M_thrown lv_RL_57 rfl rfl (by decide) (by decide) (by omega) (by omega) hl2.1 (Nat.le_of_ble_eq_true rfl) thrown_eq dL_law_362 (fun H3 l3 hM3 => ?_)
    refine lv_iload hx hb dL_law_365 (lv_at hl2 1 rfl) ?_
    rw [q6]
    refine lv_icmp_eq hx hb dL_law_367 (tgt := 372) rfl (fun _ => ?_) (fun hne => absurd (by decide) hne)
    refine lv_iload hx hb dL_law_372 (lv_at hl2 1 rfl) ?_
    refine lv_if_ne hx hb dL_law_374 (tgt := 389) rfl (fun hz => absurd rfl hz) (fun _ => ?_)
    refine lv_aload_n hx hb dL_law_377 rfl (lv_at hl2 5 rfl) ?_
    refine lv_iconst hx hb dL_law_378 (v := 0) (by decide) ?_
    refine va_lald hx hb F.2.2.2.2.2.1 hM3.2.2.1 0 1 (n := 1) (f := fun j => Int64.ofInt (u2 τ 0 0 (w32 x1) 0 j)) (fw_w_at (lay := LO) (k := 0) rfl) rfl (by unfold vp_in; decide) dL_law_379 ?_
    refine lv_iload hx hb dL_law_380 (lv_at hl2 0 rfl) ?_
    refine lv_i2l hx hb dL_law_382 rfl ?_
    refine W.lcmp hx hb dL_law_383 ?_
    have ez : lg_cmp (Int64.ofInt (u2 τ 0 0 (w32 x1) 0 (0 : Int32).toNatClampNeg)) (Int32.ofInt w).toInt64 = 0 := by
      have z0 : (0 : Int32).toNatClampNeg = 0 := by decide
      rw [z0, show u2 τ 0 0 (w32 x1) 0 0 = w32 x1 by simp [u2], q7, w32_64]
      simp [lg_cmp, Int64.lt_irrefl]
    rw [ez]
    refine lv_if_eq hx hb dL_law_384 (tgt := 389) rfl (fun _ => ?_) (fun hz => absurd rfl hz)
    exact lv_goto hx hb dL_law_389 (tgt := 1447) rfl (kk σ1 μ1 _ H3 l3 ls2 (cells + 1) (slots + 6) hM3 hR' (by omega) (by omega) (lv_sub hl2 [2, 3, 4, 5, 6] rfl))
  · refine lv_aload_n hx hb dL_law_324 rfl (lv_at hl 1 rfl) ?_
    refine lg_arg F hM (lv_at hl 0 rfl) (lv_at hl 4 rfl) hi 1 (by decide) rfl dL_law_325 dL_law_326 dL_law_328 dL_law_329 dL_law_330 ?_
    refine lg_arg F hM (lv_at hl 0 rfl) (lv_at hl 4 rfl) hi 2 (by decide) rfl dL_law_331 dL_law_332 dL_law_334 dL_law_335 dL_law_336 ?_
    refine lv_aload_n hx hb dL_law_337 rfl (lv_at hl 3 rfl) ?_
    refine lg_wrap (n := 4) (As := [.ref (adX 0), .int (xs (i + 1)), .int (xs (i + 2)), .ref o]) (k := 1) (τ' := τ) F S hM (wr_reach hl9 D adX cA o H.size (xs (i + 1)) (xs (i + 2)) σ σ1 τ 4 x1 ρ1 q1 (by decide)) wl_RL_51 ws_L_reach wn_RL wc_L_reach ⟨by decide +kernel, by decide +kernel, by decide +kernel⟩ rfl (by decide) hce hsl hl.1 rfl rfl dL_law_338 (fun H1 l1 hM1 => ?_)
    refine lv_istore (lv' := [(5, .int 1), (0, .ref b), (1, .ref (adX 0)), (2, .ref (adM 0)), (3, .ref o), (4, .int (Int32.ofNat i))]) hx hb dL_law_341 hl (by decide) rfl (fun ls1 hl1 => ?_)
    refine lv_aload_n hx hb dL_law_343 rfl (lv_at hl1 3 rfl) ?_
    refine lg_arg F hM1 (lv_at hl1 1 rfl) (lv_at hl1 5 rfl) hi 1 (by decide) rfl dL_law_344 dL_law_345 dL_law_347 dL_law_348 dL_law_349 ?_
    refine lg_arg F hM1 (lv_at hl1 1 rfl) (lv_at hl1 5 rfl) hi 2 (by decide) rfl dL_law_350 dL_law_351 dL_law_353 dL_law_354 dL_law_355 ?_
    refine lg_callM (as := [xs (i + 1), xs (i + 2)]) (st := []) F S hM1 C_M_reach lv_RL_56 rfl rfl (by decide) (by decide) (by omega) (by omega) hl1.1 (Nat.le_of_ble_eq_true rfl) q3 dL_law_356 (fun H2 l2 hM2 => ?_)
    refine lv_istore (lv' := [(6, .int (Int32.ofInt w)), (5, .int 1), (0, .ref b), (1, .ref (adX 0)), (2, .ref (adM 0)), (3, .ref o), (4, .int (Int32.ofNat i))]) hx hb dL_law_359 hl1 (by decide) rfl (fun ls2 hl2 => ?_)
    refine lv_aload_n hx hb dL_law_361 rfl (lv_at hl2 4 rfl) ?_
    refine lg_callM (as := []) (st := []) F S hM2 C_M_thrown lv_RL_57 rfl rfl (by decide) (by decide) (by omega) (by omega) hl2.1 (Nat.le_of_ble_eq_true rfl) thrown_eq dL_law_362 (fun H3 l3 hM3 => ?_)
    refine lv_iload hx hb dL_law_365 (lv_at hl2 1 rfl) ?_
    rw [q6]
    refine lv_icmp_eq hx hb dL_law_367 (tgt := 372) rfl (fun _ => ?_) (fun hne => absurd (by decide) hne)
    refine lv_iload hx hb dL_law_372 (lv_at hl2 1 rfl) ?_
    refine lv_if_ne hx hb dL_law_374 (tgt := 389) rfl (fun _ => ?_) (fun hz => absurd hz (by decide))
    exact lv_goto hx hb dL_law_389 (tgt := 1447) rfl (kk σ1 μ1 τ H3 l3 ls2 (cells + 1) (slots + 6) hM3 hR' (by omega) (by omega) (lv_sub hl2 [2, 3, 4, 5, 6] rfl))
set_option maxHeartbeats 4000000 in
/-- guild -/
theorem cs_5 {p : Program} {l : Launch} {e : Env} {s : State} {m : MethodId} {below : List Frame} {meth : Method} {c : Code} {b L : Nat} {xs : Nat → Int32} {D : va_G} {cA : Nat → ClassId} {adX adM : Nat → Nat} {o : Nat} {σ μ τ : Me} {H : Heap} {locs : List Loc} {cells slots : Nat} {Q : State → Prop} {ls : Array Slot} {i : Nat} (F : lg_F p l s m c b L xs D cA) (S : lg_S s cA adX adM o) (hM : lg_M s D cA adX adM o σ μ τ H locs) (hR : Rl σ μ) (hl : lg_L b adX adM o i ls) (hi : i + 6 ≤ L) (hce : cells + 1 ≤ 601024) (hsl : slots + 6 ≤ 7293034) (kk : lg_K p l e s m below meth c b D cA adX adM o i cells slots Q) : W p l e room_1 s m #[Value.ref b] below meth c H locs cells slots Q (F0 m 392 ls []) := by
  obtain ⟨hx, hb, -⟩ := id F
  unfold lg_L at hl
  have hl9 := F.2.2.2.2.2.2.2.2.2.2.1
  have oT : opT b_D_guild (mthF [0, 1, 2] b_D_guild) m_M_guild [0, 1, 2] [0, (xs (i + 1)).toInt, (xs (i + 2)).toInt] σ μ := op_guild hR (lg_rg _) (lg_rg _)
  obtain ⟨how, x1, ρ1, σ1, w, μ1, q1, q3, hR', q5⟩ := opT_x oT
  rcases q5 with ⟨rfl, q6, q7⟩ | ⟨rfl, q6⟩
  · refine lv_aload_n hx hb dL_law_392 rfl (lv_at hl 1 rfl) ?_
    refine lg_arg F hM (lv_at hl 0 rfl) (lv_at hl 4 rfl) hi 1 (by decide) rfl dL_law_393 dL_law_394 dL_law_396 dL_law_397 dL_law_398 ?_
    refine lg_arg F hM (lv_at hl 0 rfl) (lv_at hl 4 rfl) hi 2 (by decide) rfl dL_law_399 dL_law_400 dL_law_402 dL_law_403 dL_law_404 ?_
    refine lv_aload_n hx hb dL_law_405 rfl (lv_at hl 3 rfl) ?_
    refine lg_wrap (n := 4) (As := [.ref (adX 0), .int (xs (i + 1)), .int (xs (i + 2)), .ref o]) (k := 0) (τ' := u2 τ 0 0 (w32 x1)) F S hM (wr_guild hl9 D adX cA o H.size (xs (i + 1)) (xs (i + 2)) σ σ1 τ 3 x1 ρ1 q1 (by decide)) wl_RL_60 ws_L_guild wn_RL wc_L_guild ⟨by decide +kernel, by decide +kernel, by decide +kernel⟩ rfl (by decide) hce hsl hl.1 rfl rfl dL_law_406 (fun H1 l1 hM1 => ?_)
    refine lv_istore (lv' := [(5, .int 0), (0, .ref b), (1, .ref (adX 0)), (2, .ref (adM 0)), (3, .ref o), (4, .int (Int32.ofNat i))]) hx hb dL_law_409 hl (by decide) rfl (fun ls1 hl1 => ?_)
    refine lv_aload_n hx hb dL_law_411 rfl (lv_at hl1 3 rfl) ?_
    refine lg_arg F hM1 (lv_at hl1 1 rfl) (lv_at hl1 5 rfl) hi 1 (by decide) rfl dL_law_412 dL_law_413 dL_law_415 dL_law_416 dL_law_417 ?_
    refine lg_arg F hM1 (lv_at hl1 1 rfl) (lv_at hl1 5 rfl) hi 2 (by decide) rfl dL_law_418 dL_law_419 dL_law_421 dL_law_422 dL_law_423 ?_
    refine lg_callM (as := [xs (i + 1), xs (i + 2)]) (st := []) F S hM1 C_M_guild lv_RL_62 rfl rfl (by decide) (by decide) (by omega) (by omega) hl1.1 (Nat.le_of_ble_eq_true rfl) q3 dL_law_424 (fun H2 l2 hM2 => ?_)
    refine lv_istore (lv' := [(6, .int (Int32.ofInt w)), (5, .int 0), (0, .ref b), (1, .ref (adX 0)), (2, .ref (adM 0)), (3, .ref o), (4, .int (Int32.ofNat i))]) hx hb dL_law_427 hl1 (by decide) rfl (fun ls2 hl2 => ?_)
    refine lv_aload_n hx hb dL_law_429 rfl (lv_at hl2 4 rfl) ?_
    refine lg_callM (as := []) (st := []) F S hM2 C_M_thrown lv_RL_57 rfl rfl (by decide) (by decide) (by omega) (by omega) hl2.1 (Nat.le_of_ble_eq_true rfl) thrown_eq dL_law_430 (fun H3 l3 hM3 => ?_)
    refine lv_iload hx hb dL_law_433 (lv_at hl2 1 rfl) ?_
    rw [q6]
    refine lv_icmp_eq hx hb dL_law_435 (tgt := 440) rfl (fun _ => ?_) (fun hne => absurd (by decide) hne)
    refine lv_iload hx hb dL_law_440 (lv_at hl2 1 rfl) ?_
    refine lv_if_ne hx hb dL_law_442 (tgt := 457) rfl (fun hz => absurd rfl hz) (fun _ => ?_)
    refine lv_aload_n hx hb dL_law_445 rfl (lv_at hl2 5 rfl) ?_
    refine lv_iconst hx hb dL_law_446 (v := 0) (by decide) ?_
    refine va_lald hx hb F.2.2.2.2.2.1 hM3.2.2.1 0 1 (n := 1) (f := fun j => Int64.ofInt (u2 τ 0 0 (w32 x1) 0 j)) (fw_w_at (lay := LO) (k := 0) rfl) rfl (by unfold vp_in; decide) dL_law_447 ?_
    refine lv_iload hx hb dL_law_448 (lv_at hl2 0 rfl) ?_
    refine lv_i2l hx hb dL_law_450 rfl ?_
    refine W.lcmp hx hb dL_law_451 ?_
    have ez : lg_cmp (Int64.ofInt (u2 τ 0 0 (w32 x1) 0 (0 : Int32).toNatClampNeg)) (Int32.ofInt w).toInt64 = 0 := by
      have z0 : (0 : Int32).toNatClampNeg = 0 := by decide
      rw [z0, show u2 τ 0 0 (w32 x1) 0 0 = w32 x1 by simp [u2], q7, w32_64]
      simp [lg_cmp, Int64.lt_irrefl]
    rw [ez]
    refine lv_if_eq hx hb dL_law_452 (tgt := 457) rfl (fun _ => ?_) (fun hz => absurd rfl hz)
    exact lv_goto hx hb dL_law_457 (tgt := 1447) rfl (kk σ1 μ1 _ H3 l3 ls2 (cells + 1) (slots + 6) hM3 hR' (by omega) (by omega) (lv_sub hl2 [2, 3, 4, 5, 6] rfl))
  · refine lv_aload_n hx hb dL_law_392 rfl (lv_at hl 1 rfl) ?_
    refine lg_arg F hM (lv_at hl 0 rfl) (lv_at hl 4 rfl) hi 1 (by decide) rfl dL_law_393 dL_law_394 dL_law_396 dL_law_397 dL_law_398 ?_
    refine lg_arg F hM (lv_at hl 0 rfl) (lv_at hl 4 rfl) hi 2 (by decide) rfl dL_law_399 dL_law_400 dL_law_402 dL_law_403 dL_law_404 ?_
    refine lv_aload_n hx hb dL_law_405 rfl (lv_at hl 3 rfl) ?_
    refine lg_wrap (n := 4) (As := [.ref (adX 0), .int (xs (i + 1)), .int (xs (i + 2)), .ref o]) (k := 1) (τ' := τ) F S hM (wr_guild hl9 D adX cA o H.size (xs (i + 1)) (xs (i + 2)) σ σ1 τ 4 x1 ρ1 q1 (by decide)) wl_RL_60 ws_L_guild wn_RL wc_L_guild ⟨by decide +kernel, by decide +kernel, by decide +kernel⟩ rfl (by decide) hce hsl hl.1 rfl rfl dL_law_406 (fun H1 l1 hM1 => ?_)
    refine lv_istore (lv' := [(5, .int 1), (0, .ref b), (1, .ref (adX 0)), (2, .ref (adM 0)), (3, .ref o), (4, .int (Int32.ofNat i))]) hx hb dL_law_409 hl (by decide) rfl (fun ls1 hl1 => ?_)
    refine lv_aload_n hx hb dL_law_411 rfl (lv_at hl1 3 rfl) ?_
    refine lg_arg F hM1 (lv_at hl1 1 rfl) (lv_at hl1 5 rfl) hi 1 (by decide) rfl dL_law_412 dL_law_413 dL_law_415 dL_law_416 dL_law_417 ?_
    refine lg_arg F hM1 (lv_at hl1 1 rfl) (lv_at hl1 5 rfl) hi 2 (by decide) rfl dL_law_418 dL_law_419 dL_law_421 dL_law_422 dL_law_423 ?_
    refine lg_callM (as := [xs (i + 1), xs (i + 2)]) (st := []) F S hM1 C_M_guild lv_RL_62 rfl rfl (by decide) (by decide) (by omega) (by omega) hl1.1 (Nat.le_of_ble_eq_true rfl) q3 dL_law_424 (fun H2 l2 hM2 => ?_)
    refine lv_istore (lv' := [(6, .int (Int32.ofInt w)), (5, .int 1), (0, .ref b), (1, .ref (adX 0)), (2, .ref (adM 0)), (3, .ref o), (4, .int (Int32.ofNat i))]) hx hb dL_law_427 hl1 (by decide) rfl (fun ls2 hl2 => ?_)
    refine lv_aload_n hx hb dL_law_429 rfl (lv_at hl2 4 rfl) ?_
    refine lg_callM (as := []) (st := []) F S hM2 C_M_thrown lv_RL_57 rfl rfl (by decide) (by decide) (by omega) (by omega) hl2.1 (Nat.le_of_ble_eq_true rfl) thrown_eq dL_law_430 (fun H3 l3 hM3 => ?_)
    refine lv_iload hx hb dL_law_433 (lv_at hl2 1 rfl) ?_
    rw [q6]
    refine lv_icmp_eq hx hb dL_law_435 (tgt := 440) rfl (fun _ => ?_) (fun hne => absurd (by decide) hne)
    refine lv_iload hx hb dL_law_440 (lv_at hl2 1 rfl) ?_
    refine lv_if_ne hx hb dL_law_442 (tgt := 457) rfl (fun _ => ?_) (fun hz => absurd hz (by decide))
    exact lv_goto hx hb dL_law_457 (tgt := 1447) rfl (kk σ1 μ1 τ H3 l3 ls2 (cells + 1) (slots + 6) hM3 hR' (by omega) (by omega) (lv_sub hl2 [2, 3, 4, 5, 6] rfl))
set_option maxHeartbeats 4000000 in
/-- user -/
theorem cs_6 {p : Program} {l : Launch} {e : Env} {s : State} {m : MethodId} {below : List Frame} {meth : Method} {c : Code} {b L : Nat} {xs : Nat → Int32} {D : va_G} {cA : Nat → ClassId} {adX adM : Nat → Nat} {o : Nat} {σ μ τ : Me} {H : Heap} {locs : List Loc} {cells slots : Nat} {Q : State → Prop} {ls : Array Slot} {i : Nat} (F : lg_F p l s m c b L xs D cA) (S : lg_S s cA adX adM o) (hM : lg_M s D cA adX adM o σ μ τ H locs) (hR : Rl σ μ) (hl : lg_L b adX adM o i ls) (hi : i + 6 ≤ L) (hce : cells + 1 ≤ 601024) (hsl : slots + 6 ≤ 7293034) (kk : lg_K p l e s m below meth c b D cA adX adM o i cells slots Q) : W p l e room_1 s m #[Value.ref b] below meth c H locs cells slots Q (F0 m 460 ls []) := by
  obtain ⟨hx, hb, -⟩ := id F
  unfold lg_L at hl
  have hl9 := F.2.2.2.2.2.2.2.2.2.2.1
  have oT : opT b_D_user (mthF [0, 1, 2] b_D_user) m_M_user [0, 1, 2] [0, (xs (i + 1)).toInt, (xs (i + 2)).toInt] σ μ := op_user hR (lg_rg _) (lg_rg _)
  obtain ⟨how, x1, ρ1, σ1, w, μ1, q1, q3, hR', q5⟩ := opT_x oT
  rcases q5 with ⟨rfl, q6, q7⟩ | ⟨rfl, q6⟩
  · refine lv_aload_n hx hb dL_law_460 rfl (lv_at hl 1 rfl) ?_
    refine lg_arg F hM (lv_at hl 0 rfl) (lv_at hl 4 rfl) hi 1 (by decide) rfl dL_law_461 dL_law_462 dL_law_464 dL_law_465 dL_law_466 ?_
    refine lg_arg F hM (lv_at hl 0 rfl) (lv_at hl 4 rfl) hi 2 (by decide) rfl dL_law_467 dL_law_468 dL_law_470 dL_law_471 dL_law_472 ?_
    refine lv_aload_n hx hb dL_law_473 rfl (lv_at hl 3 rfl) ?_
    refine lg_wrap (n := 4) (As := [.ref (adX 0), .int (xs (i + 1)), .int (xs (i + 2)), .ref o]) (k := 0) (τ' := u2 τ 0 0 (w32 x1)) F S hM (wr_user hl9 D adX cA o H.size (xs (i + 1)) (xs (i + 2)) σ σ1 τ 3 x1 ρ1 q1 (by decide)) wl_RL_63 ws_L_user wn_RL wc_L_user ⟨by decide +kernel, by decide +kernel, by decide +kernel⟩ rfl (by decide) hce hsl hl.1 rfl rfl dL_law_474 (fun H1 l1 hM1 => ?_)
    refine lv_istore (lv' := [(5, .int 0), (0, .ref b), (1, .ref (adX 0)), (2, .ref (adM 0)), (3, .ref o), (4, .int (Int32.ofNat i))]) hx hb dL_law_477 hl (by decide) rfl (fun ls1 hl1 => ?_)
    refine lv_aload_n hx hb dL_law_479 rfl (lv_at hl1 3 rfl) ?_
    refine lg_arg F hM1 (lv_at hl1 1 rfl) (lv_at hl1 5 rfl) hi 1 (by decide) rfl dL_law_480 dL_law_481 dL_law_483 dL_law_484 dL_law_485 ?_
    refine lg_arg F hM1 (lv_at hl1 1 rfl) (lv_at hl1 5 rfl) hi 2 (by decide) rfl dL_law_486 dL_law_487 dL_law_489 dL_law_490 dL_law_491 ?_
    refine lg_callM (as := [xs (i + 1), xs (i + 2)]) (st := []) F S hM1 C_M_user lv_RL_65 rfl rfl (by decide) (by decide) (by omega) (by omega) hl1.1 (Nat.le_of_ble_eq_true rfl) q3 dL_law_492 (fun H2 l2 hM2 => ?_)
    refine lv_istore (lv' := [(6, .int (Int32.ofInt w)), (5, .int 0), (0, .ref b), (1, .ref (adX 0)), (2, .ref (adM 0)), (3, .ref o), (4, .int (Int32.ofNat i))]) hx hb dL_law_495 hl1 (by decide) rfl (fun ls2 hl2 => ?_)
    refine lv_aload_n hx hb dL_law_497 rfl (lv_at hl2 4 rfl) ?_
    refine lg_callM (as := []) (st := []) F S hM2 C_M_thrown lv_RL_57 rfl rfl (by decide) (by decide) (by omega) (by omega) hl2.1 (Nat.le_of_ble_eq_true rfl) thrown_eq dL_law_498 (fun H3 l3 hM3 => ?_)
    refine lv_iload hx hb dL_law_501 (lv_at hl2 1 rfl) ?_
    rw [q6]
    refine lv_icmp_eq hx hb dL_law_503 (tgt := 508) rfl (fun _ => ?_) (fun hne => absurd (by decide) hne)
    refine lv_iload hx hb dL_law_508 (lv_at hl2 1 rfl) ?_
    refine lv_if_ne hx hb dL_law_510 (tgt := 525) rfl (fun hz => absurd rfl hz) (fun _ => ?_)
    refine lv_aload_n hx hb dL_law_513 rfl (lv_at hl2 5 rfl) ?_
    refine lv_iconst hx hb dL_law_514 (v := 0) (by decide) ?_
    refine va_lald hx hb F.2.2.2.2.2.1 hM3.2.2.1 0 1 (n := 1) (f := fun j => Int64.ofInt (u2 τ 0 0 (w32 x1) 0 j)) (fw_w_at (lay := LO) (k := 0) rfl) rfl (by unfold vp_in; decide) dL_law_515 ?_
    refine lv_iload hx hb dL_law_516 (lv_at hl2 0 rfl) ?_
    refine lv_i2l hx hb dL_law_518 rfl ?_
    refine W.lcmp hx hb dL_law_519 ?_
    have ez : lg_cmp (Int64.ofInt (u2 τ 0 0 (w32 x1) 0 (0 : Int32).toNatClampNeg)) (Int32.ofInt w).toInt64 = 0 := by
      have z0 : (0 : Int32).toNatClampNeg = 0 := by decide
      rw [z0, show u2 τ 0 0 (w32 x1) 0 0 = w32 x1 by simp [u2], q7, w32_64]
      simp [lg_cmp, Int64.lt_irrefl]
    rw [ez]
    refine lv_if_eq hx hb dL_law_520 (tgt := 525) rfl (fun _ => ?_) (fun hz => absurd rfl hz)
    exact lv_goto hx hb dL_law_525 (tgt := 1447) rfl (kk σ1 μ1 _ H3 l3 ls2 (cells + 1) (slots + 6) hM3 hR' (by omega) (by omega) (lv_sub hl2 [2, 3, 4, 5, 6] rfl))
  · refine lv_aload_n hx hb dL_law_460 rfl (lv_at hl 1 rfl) ?_
    refine lg_arg F hM (lv_at hl 0 rfl) (lv_at hl 4 rfl) hi 1 (by decide) rfl dL_law_461 dL_law_462 dL_law_464 dL_law_465 dL_law_466 ?_
    refine lg_arg F hM (lv_at hl 0 rfl) (lv_at hl 4 rfl) hi 2 (by decide) rfl dL_law_467 dL_law_468 dL_law_470 dL_law_471 dL_law_472 ?_
    refine lv_aload_n hx hb dL_law_473 rfl (lv_at hl 3 rfl) ?_
    refine lg_wrap (n := 4) (As := [.ref (adX 0), .int (xs (i + 1)), .int (xs (i + 2)), .ref o]) (k := 1) (τ' := τ) F S hM (wr_user hl9 D adX cA o H.size (xs (i + 1)) (xs (i + 2)) σ σ1 τ 4 x1 ρ1 q1 (by decide)) wl_RL_63 ws_L_user wn_RL wc_L_user ⟨by decide +kernel, by decide +kernel, by decide +kernel⟩ rfl (by decide) hce hsl hl.1 rfl rfl dL_law_474 (fun H1 l1 hM1 => ?_)
    refine lv_istore (lv' := [(5, .int 1), (0, .ref b), (1, .ref (adX 0)), (2, .ref (adM 0)), (3, .ref o), (4, .int (Int32.ofNat i))]) hx hb dL_law_477 hl (by decide) rfl (fun ls1 hl1 => ?_)
    refine lv_aload_n hx hb dL_law_479 rfl (lv_at hl1 3 rfl) ?_
    refine lg_arg F hM1 (lv_at hl1 1 rfl) (lv_at hl1 5 rfl) hi 1 (by decide) rfl dL_law_480 dL_law_481 dL_law_483 dL_law_484 dL_law_485 ?_
    refine lg_arg F hM1 (lv_at hl1 1 rfl) (lv_at hl1 5 rfl) hi 2 (by decide) rfl dL_law_486 dL_law_487 dL_law_489 dL_law_490 dL_law_491 ?_
    refine lg_callM (as := [xs (i + 1), xs (i + 2)]) (st := []) F S hM1 C_M_user lv_RL_65 rfl rfl (by decide) (by decide) (by omega) (by omega) hl1.1 (Nat.le_of_ble_eq_true rfl) q3 dL_law_492 (fun H2 l2 hM2 => ?_)
    refine lv_istore (lv' := [(6, .int (Int32.ofInt w)), (5, .int 1), (0, .ref b), (1, .ref (adX 0)), (2, .ref (adM 0)), (3, .ref o), (4, .int (Int32.ofNat i))]) hx hb dL_law_495 hl1 (by decide) rfl (fun ls2 hl2 => ?_)
    refine lv_aload_n hx hb dL_law_497 rfl (lv_at hl2 4 rfl) ?_
    refine lg_callM (as := []) (st := []) F S hM2 C_M_thrown lv_RL_57 rfl rfl (by decide) (by decide) (by omega) (by omega) hl2.1 (Nat.le_of_ble_eq_true rfl) thrown_eq dL_law_498 (fun H3 l3 hM3 => ?_)
    refine lv_iload hx hb dL_law_501 (lv_at hl2 1 rfl) ?_
    rw [q6]
    refine lv_icmp_eq hx hb dL_law_503 (tgt := 508) rfl (fun _ => ?_) (fun hne => absurd (by decide) hne)
    refine lv_iload hx hb dL_law_508 (lv_at hl2 1 rfl) ?_
    refine lv_if_ne hx hb dL_law_510 (tgt := 525) rfl (fun _ => ?_) (fun hz => absurd hz (by decide))
    exact lv_goto hx hb dL_law_525 (tgt := 1447) rfl (kk σ1 μ1 τ H3 l3 ls2 (cells + 1) (slots + 6) hM3 hR' (by omega) (by omega) (lv_sub hl2 [2, 3, 4, 5, 6] rfl))
set_option maxHeartbeats 4000000 in
/-- flow -/
theorem cs_7 {p : Program} {l : Launch} {e : Env} {s : State} {m : MethodId} {below : List Frame} {meth : Method} {c : Code} {b L : Nat} {xs : Nat → Int32} {D : va_G} {cA : Nat → ClassId} {adX adM : Nat → Nat} {o : Nat} {σ μ τ : Me} {H : Heap} {locs : List Loc} {cells slots : Nat} {Q : State → Prop} {ls : Array Slot} {i : Nat} (F : lg_F p l s m c b L xs D cA) (S : lg_S s cA adX adM o) (hM : lg_M s D cA adX adM o σ μ τ H locs) (hR : Rl σ μ) (hl : lg_L b adX adM o i ls) (hi : i + 6 ≤ L) (hce : cells + 1 ≤ 601024) (hsl : slots + 6 ≤ 7293034) (kk : lg_K p l e s m below meth c b D cA adX adM o i cells slots Q) : W p l e room_1 s m #[Value.ref b] below meth c H locs cells slots Q (F0 m 528 ls []) := by
  obtain ⟨hx, hb, -⟩ := id F
  unfold lg_L at hl
  have hl9 := F.2.2.2.2.2.2.2.2.2.2.1
  have oT : opT b_D_flow (mthF [0, 1] b_D_flow) m_M_flow [0, 1] [0, (xs (i + 1)).toInt] σ μ := op_flow hR (lg_rg _)
  obtain ⟨how, x1, ρ1, σ1, w, μ1, q1, q3, hR', q5⟩ := opT_x oT
  rcases q5 with ⟨rfl, q6, q7⟩ | ⟨rfl, q6⟩
  · refine lv_aload_n hx hb dL_law_528 rfl (lv_at hl 1 rfl) ?_
    refine lg_arg F hM (lv_at hl 0 rfl) (lv_at hl 4 rfl) hi 1 (by decide) rfl dL_law_529 dL_law_530 dL_law_532 dL_law_533 dL_law_534 ?_
    refine lv_aload_n hx hb dL_law_535 rfl (lv_at hl 3 rfl) ?_
    refine lg_wrap (n := 3) (As := [.ref (adX 0), .int (xs (i + 1)), .ref o]) (k := 0) (τ' := u2 τ 0 0 (w32 x1)) F S hM (wr_flow hl9 D adX cA o H.size (xs (i + 1)) σ σ1 τ 3 x1 ρ1 q1 (by decide)) wl_RL_66 ws_L_flow wn_RL wc_L_flow ⟨by decide +kernel, by decide +kernel, by decide +kernel⟩ rfl (by decide) hce hsl hl.1 rfl rfl dL_law_536 (fun H1 l1 hM1 => ?_)
    refine lv_istore (lv' := [(5, .int 0), (0, .ref b), (1, .ref (adX 0)), (2, .ref (adM 0)), (3, .ref o), (4, .int (Int32.ofNat i))]) hx hb dL_law_539 hl (by decide) rfl (fun ls1 hl1 => ?_)
    refine lv_aload_n hx hb dL_law_541 rfl (lv_at hl1 3 rfl) ?_
    refine lg_arg F hM1 (lv_at hl1 1 rfl) (lv_at hl1 5 rfl) hi 1 (by decide) rfl dL_law_542 dL_law_543 dL_law_545 dL_law_546 dL_law_547 ?_
    refine lg_callM (as := [xs (i + 1)]) (st := []) F S hM1 C_M_flow lv_RL_69 rfl rfl (by decide) (by decide) (by omega) (by omega) hl1.1 (Nat.le_of_ble_eq_true rfl) q3 dL_law_548 (fun H2 l2 hM2 => ?_)
    refine lv_istore (lv' := [(6, .int (Int32.ofInt w)), (5, .int 0), (0, .ref b), (1, .ref (adX 0)), (2, .ref (adM 0)), (3, .ref o), (4, .int (Int32.ofNat i))]) hx hb dL_law_551 hl1 (by decide) rfl (fun ls2 hl2 => ?_)
    refine lv_aload_n hx hb dL_law_553 rfl (lv_at hl2 4 rfl) ?_
    refine lg_callM (as := []) (st := []) F S hM2 C_M_thrown lv_RL_57 rfl rfl (by decide) (by decide) (by omega) (by omega) hl2.1 (Nat.le_of_ble_eq_true rfl) thrown_eq dL_law_554 (fun H3 l3 hM3 => ?_)
    refine lv_iload hx hb dL_law_557 (lv_at hl2 1 rfl) ?_
    rw [q6]
    refine lv_icmp_eq hx hb dL_law_559 (tgt := 564) rfl (fun _ => ?_) (fun hne => absurd (by decide) hne)
    refine lv_iload hx hb dL_law_564 (lv_at hl2 1 rfl) ?_
    refine lv_if_ne hx hb dL_law_566 (tgt := 581) rfl (fun hz => absurd rfl hz) (fun _ => ?_)
    refine lv_aload_n hx hb dL_law_569 rfl (lv_at hl2 5 rfl) ?_
    refine lv_iconst hx hb dL_law_570 (v := 0) (by decide) ?_
    refine va_lald hx hb F.2.2.2.2.2.1 hM3.2.2.1 0 1 (n := 1) (f := fun j => Int64.ofInt (u2 τ 0 0 (w32 x1) 0 j)) (fw_w_at (lay := LO) (k := 0) rfl) rfl (by unfold vp_in; decide) dL_law_571 ?_
    refine lv_iload hx hb dL_law_572 (lv_at hl2 0 rfl) ?_
    refine lv_i2l hx hb dL_law_574 rfl ?_
    refine W.lcmp hx hb dL_law_575 ?_
    have ez : lg_cmp (Int64.ofInt (u2 τ 0 0 (w32 x1) 0 (0 : Int32).toNatClampNeg)) (Int32.ofInt w).toInt64 = 0 := by
      have z0 : (0 : Int32).toNatClampNeg = 0 := by decide
      rw [z0, show u2 τ 0 0 (w32 x1) 0 0 = w32 x1 by simp [u2], q7, w32_64]
      simp [lg_cmp, Int64.lt_irrefl]
    rw [ez]
    refine lv_if_eq hx hb dL_law_576 (tgt := 581) rfl (fun _ => ?_) (fun hz => absurd rfl hz)
    exact lv_goto hx hb dL_law_581 (tgt := 1447) rfl (kk σ1 μ1 _ H3 l3 ls2 (cells + 1) (slots + 6) hM3 hR' (by omega) (by omega) (lv_sub hl2 [2, 3, 4, 5, 6] rfl))
  · refine lv_aload_n hx hb dL_law_528 rfl (lv_at hl 1 rfl) ?_
    refine lg_arg F hM (lv_at hl 0 rfl) (lv_at hl 4 rfl) hi 1 (by decide) rfl dL_law_529 dL_law_530 dL_law_532 dL_law_533 dL_law_534 ?_
    refine lv_aload_n hx hb dL_law_535 rfl (lv_at hl 3 rfl) ?_
    refine lg_wrap (n := 3) (As := [.ref (adX 0), .int (xs (i + 1)), .ref o]) (k := 1) (τ' := τ) F S hM (wr_flow hl9 D adX cA o H.size (xs (i + 1)) σ σ1 τ 4 x1 ρ1 q1 (by decide)) wl_RL_66 ws_L_flow wn_RL wc_L_flow ⟨by decide +kernel, by decide +kernel, by decide +kernel⟩ rfl (by decide) hce hsl hl.1 rfl rfl dL_law_536 (fun H1 l1 hM1 => ?_)
    refine lv_istore (lv' := [(5, .int 1), (0, .ref b), (1, .ref (adX 0)), (2, .ref (adM 0)), (3, .ref o), (4, .int (Int32.ofNat i))]) hx hb dL_law_539 hl (by decide) rfl (fun ls1 hl1 => ?_)
    refine lv_aload_n hx hb dL_law_541 rfl (lv_at hl1 3 rfl) ?_
    refine lg_arg F hM1 (lv_at hl1 1 rfl) (lv_at hl1 5 rfl) hi 1 (by decide) rfl dL_law_542 dL_law_543 dL_law_545 dL_law_546 dL_law_547 ?_
    refine lg_callM (as := [xs (i + 1)]) (st := []) F S hM1 C_M_flow lv_RL_69 rfl rfl (by decide) (by decide) (by omega) (by omega) hl1.1 (Nat.le_of_ble_eq_true rfl) q3 dL_law_548 (fun H2 l2 hM2 => ?_)
    refine lv_istore (lv' := [(6, .int (Int32.ofInt w)), (5, .int 1), (0, .ref b), (1, .ref (adX 0)), (2, .ref (adM 0)), (3, .ref o), (4, .int (Int32.ofNat i))]) hx hb dL_law_551 hl1 (by decide) rfl (fun ls2 hl2 => ?_)
    refine lv_aload_n hx hb dL_law_553 rfl (lv_at hl2 4 rfl) ?_
    refine lg_callM (as := []) (st := []) F S hM2 C_M_thrown lv_RL_57 rfl rfl (by decide) (by decide) (by omega) (by omega) hl2.1 (Nat.le_of_ble_eq_true rfl) thrown_eq dL_law_554 (fun H3 l3 hM3 => ?_)
    refine lv_iload hx hb dL_law_557 (lv_at hl2 1 rfl) ?_
    rw [q6]
    refine lv_icmp_eq hx hb dL_law_559 (tgt := 564) rfl (fun _ => ?_) (fun hne => absurd (by decide) hne)
    refine lv_iload hx hb dL_law_564 (lv_at hl2 1 rfl) ?_
    refine lv_if_ne hx hb dL_law_566 (tgt := 581) rfl (fun _ => ?_) (fun hz => absurd hz (by decide))
    exact lv_goto hx hb dL_law_581 (tgt := 1447) rfl (kk σ1 μ1 τ H3 l3 ls2 (cells + 1) (slots + 6) hM3 hR' (by omega) (by omega) (lv_sub hl2 [2, 3, 4, 5, 6] rfl))
/-- order -/
theorem cs_8 {p : Program} {l : Launch} {e : Env} {s : State} {m : MethodId} {below : List Frame} {meth : Method} {c : Code} {b L : Nat} {xs : Nat → Int32} {D : va_G} {cA : Nat → ClassId} {adX adM : Nat → Nat} {o : Nat} {σ μ τ : Me} {H : Heap} {locs : List Loc} {cells slots : Nat} {Q : State → Prop} {ls : Array Slot} {i : Nat} (F : lg_F p l s m c b L xs D cA) (S : lg_S s cA adX adM o) (hM : lg_M s D cA adX adM o σ μ τ H locs) (hR : Rl σ μ) (hl : lg_L b adX adM o i ls) (hi : i + 6 ≤ L) (hce : cells + 1 ≤ 601024) (hsl : slots + 6 ≤ 7293034) (kk : lg_K p l e s m below meth c b D cA adX adM o i cells slots Q) : W p l e room_1 s m #[Value.ref b] below meth c H locs cells slots Q (F0 m 584 ls []) := by
  obtain ⟨hx, hb, -⟩ := id F
  unfold lg_L at hl
  have oa : opR (m_D_order (0 :: ([] : List Int32).map Int32.toInt) σ) (m_M_order (0 :: ([] : List Int32).map Int32.toInt) μ) := op_order hR
  obtain ⟨a, a', σ', μ', ex, em, hab, hR'⟩ := oa
  refine lv_aload_n hx hb dL_law_584 rfl (lv_at hl 1 rfl) ?_
  refine lg_callX (as := []) (st := []) F S hM C_D_order lv_RL_70 rfl rfl (by decide) (by decide) (by omega) (by omega) hl.1 (Nat.le_of_ble_eq_true rfl) ex dL_law_585 (fun H1 l1 hM1 => ?_)
  refine lv_aload_n hx hb dL_law_588 rfl (lv_at hl 2 rfl) ?_
  refine lg_callM (as := []) (st := [.int (Int32.ofInt a)]) F S hM1 C_M_order lv_RL_73 rfl rfl (by decide) (by decide) (by omega) (by omega) hl.1 (Nat.le_of_ble_eq_true rfl) em dL_law_589 (fun H2 l2 hM2 => ?_)
  exact lv_icmp_eq hx hb dL_law_592 (tgt := 1447) rfl (fun _ => kk σ' μ' τ H2 l2 ls cells slots hM2 hR' (by omega) (by omega) hl) (fun hne => absurd (lg_eq hab) hne)
/-- ring -/
theorem cs_9 {p : Program} {l : Launch} {e : Env} {s : State} {m : MethodId} {below : List Frame} {meth : Method} {c : Code} {b L : Nat} {xs : Nat → Int32} {D : va_G} {cA : Nat → ClassId} {adX adM : Nat → Nat} {o : Nat} {σ μ τ : Me} {H : Heap} {locs : List Loc} {cells slots : Nat} {Q : State → Prop} {ls : Array Slot} {i : Nat} (F : lg_F p l s m c b L xs D cA) (S : lg_S s cA adX adM o) (hM : lg_M s D cA adX adM o σ μ τ H locs) (hR : Rl σ μ) (hl : lg_L b adX adM o i ls) (hi : i + 6 ≤ L) (hce : cells + 1 ≤ 601024) (hsl : slots + 6 ≤ 7293034) (kk : lg_K p l e s m below meth c b D cA adX adM o i cells slots Q) : W p l e room_1 s m #[Value.ref b] below meth c H locs cells slots Q (F0 m 597 ls []) := by
  obtain ⟨hx, hb, -⟩ := id F
  unfold lg_L at hl
  have oa : opR (m_D_ring (0 :: ([xs (i + 1), xs (i + 2), xs (i + 3)] : List Int32).map Int32.toInt) σ) (m_M_ring (0 :: ([xs (i + 1), xs (i + 2), xs (i + 3)] : List Int32).map Int32.toInt) μ) := op_ring hR (lg_rg _) (lg_rg _) (lg_rg _)
  obtain ⟨a, a', σ', μ', ex, em, hab, hR'⟩ := oa
  refine lv_aload_n hx hb dL_law_597 rfl (lv_at hl 1 rfl) ?_
  refine lg_arg F hM (lv_at hl 0 rfl) (lv_at hl 4 rfl) hi 1 (by decide) rfl dL_law_598 dL_law_599 dL_law_601 dL_law_602 dL_law_603 ?_
  refine lg_arg F hM (lv_at hl 0 rfl) (lv_at hl 4 rfl) hi 2 (by decide) rfl dL_law_604 dL_law_605 dL_law_607 dL_law_608 dL_law_609 ?_
  refine lg_arg F hM (lv_at hl 0 rfl) (lv_at hl 4 rfl) hi 3 (by decide) rfl dL_law_610 dL_law_611 dL_law_613 dL_law_614 dL_law_615 ?_
  refine lg_callX (as := [xs (i + 1), xs (i + 2), xs (i + 3)]) (st := []) F S hM C_D_ring lv_RL_74 rfl rfl (by decide) (by decide) (by omega) (by omega) hl.1 (Nat.le_of_ble_eq_true rfl) ex dL_law_616 (fun H1 l1 hM1 => ?_)
  refine lv_aload_n hx hb dL_law_619 rfl (lv_at hl 2 rfl) ?_
  refine lg_arg F hM1 (lv_at hl 0 rfl) (lv_at hl 4 rfl) hi 1 (by decide) rfl dL_law_620 dL_law_621 dL_law_623 dL_law_624 dL_law_625 ?_
  refine lg_arg F hM1 (lv_at hl 0 rfl) (lv_at hl 4 rfl) hi 2 (by decide) rfl dL_law_626 dL_law_627 dL_law_629 dL_law_630 dL_law_631 ?_
  refine lg_arg F hM1 (lv_at hl 0 rfl) (lv_at hl 4 rfl) hi 3 (by decide) rfl dL_law_632 dL_law_633 dL_law_635 dL_law_636 dL_law_637 ?_
  refine lg_callM (as := [xs (i + 1), xs (i + 2), xs (i + 3)]) (st := [.int (Int32.ofInt a)]) F S hM1 C_M_ring lv_RL_78 rfl rfl (by decide) (by decide) (by omega) (by omega) hl.1 (Nat.le_of_ble_eq_true rfl) em dL_law_638 (fun H2 l2 hM2 => ?_)
  exact lv_icmp_eq hx hb dL_law_641 (tgt := 1447) rfl (fun _ => kk σ' μ' τ H2 l2 ls cells slots hM2 hR' (by omega) (by omega) hl) (fun hne => absurd (lg_eq hab) hne)
/-- undo -/
theorem cs_10 {p : Program} {l : Launch} {e : Env} {s : State} {m : MethodId} {below : List Frame} {meth : Method} {c : Code} {b L : Nat} {xs : Nat → Int32} {D : va_G} {cA : Nat → ClassId} {adX adM : Nat → Nat} {o : Nat} {σ μ τ : Me} {H : Heap} {locs : List Loc} {cells slots : Nat} {Q : State → Prop} {ls : Array Slot} {i : Nat} (F : lg_F p l s m c b L xs D cA) (S : lg_S s cA adX adM o) (hM : lg_M s D cA adX adM o σ μ τ H locs) (hR : Rl σ μ) (hl : lg_L b adX adM o i ls) (hi : i + 6 ≤ L) (hce : cells + 1 ≤ 601024) (hsl : slots + 6 ≤ 7293034) (kk : lg_K p l e s m below meth c b D cA adX adM o i cells slots Q) : W p l e room_1 s m #[Value.ref b] below meth c H locs cells slots Q (F0 m 646 ls []) := by
  obtain ⟨hx, hb, -⟩ := id F
  unfold lg_L at hl
  have oa : opR (m_D_undo (0 :: ([] : List Int32).map Int32.toInt) σ) (m_M_undo (0 :: ([] : List Int32).map Int32.toInt) μ) := op_undo hR
  obtain ⟨a, a', σ', μ', ex, em, hab, hR'⟩ := oa
  refine lv_aload_n hx hb dL_law_646 rfl (lv_at hl 1 rfl) ?_
  refine lg_callX (as := []) (st := []) F S hM C_D_undo lv_RL_79 rfl rfl (by decide) (by decide) (by omega) (by omega) hl.1 (Nat.le_of_ble_eq_true rfl) ex dL_law_647 (fun H1 l1 hM1 => ?_)
  refine lv_aload_n hx hb dL_law_650 rfl (lv_at hl 2 rfl) ?_
  refine lg_callM (as := []) (st := [.int (Int32.ofInt a)]) F S hM1 C_M_undo lv_RL_82 rfl rfl (by decide) (by decide) (by omega) (by omega) hl.1 (Nat.le_of_ble_eq_true rfl) em dL_law_651 (fun H2 l2 hM2 => ?_)
  exact lv_icmp_eq hx hb dL_law_654 (tgt := 1447) rfl (fun _ => kk σ' μ' τ H2 l2 ls cells slots hM2 hR' (by omega) (by omega) hl) (fun hne => absurd (lg_eq hab) hne)
set_option maxHeartbeats 4000000 in
/-- bell -/
theorem cs_11 {p : Program} {l : Launch} {e : Env} {s : State} {m : MethodId} {below : List Frame} {meth : Method} {c : Code} {b L : Nat} {xs : Nat → Int32} {D : va_G} {cA : Nat → ClassId} {adX adM : Nat → Nat} {o : Nat} {σ μ τ : Me} {H : Heap} {locs : List Loc} {cells slots : Nat} {Q : State → Prop} {ls : Array Slot} {i : Nat} (F : lg_F p l s m c b L xs D cA) (S : lg_S s cA adX adM o) (hM : lg_M s D cA adX adM o σ μ τ H locs) (hR : Rl σ μ) (hl : lg_L b adX adM o i ls) (hi : i + 6 ≤ L) (hce : cells + 1 ≤ 601024) (hsl : slots + 6 ≤ 7293034) (kk : lg_K p l e s m below meth c b D cA adX adM o i cells slots Q) : W p l e room_1 s m #[Value.ref b] below meth c H locs cells slots Q (F0 m 659 ls []) := by
  obtain ⟨hx, hb, -⟩ := id F
  unfold lg_L at hl
  have hl9 := F.2.2.2.2.2.2.2.2.2.2.1
  have oT : opT b_D_bell (mthF [0, 1, 2] b_D_bell) m_M_bell [0, 1, 2] [0, (xs (i + 1)).toInt, (xs (i + 2)).toInt] σ μ := op_bell hR (lg_rg _) (lg_rg _)
  obtain ⟨how, x1, ρ1, σ1, w, μ1, q1, q3, hR', q5⟩ := opT_x oT
  rcases q5 with ⟨rfl, q6, q7⟩ | ⟨rfl, q6⟩
  · refine lv_aload_n hx hb dL_law_659 rfl (lv_at hl 1 rfl) ?_
    refine lg_arg F hM (lv_at hl 0 rfl) (lv_at hl 4 rfl) hi 1 (by decide) rfl dL_law_660 dL_law_661 dL_law_663 dL_law_664 dL_law_665 ?_
    refine lg_arg F hM (lv_at hl 0 rfl) (lv_at hl 4 rfl) hi 2 (by decide) rfl dL_law_666 dL_law_667 dL_law_669 dL_law_670 dL_law_671 ?_
    refine lv_aload_n hx hb dL_law_672 rfl (lv_at hl 3 rfl) ?_
    refine lg_wrap (n := 4) (As := [.ref (adX 0), .int (xs (i + 1)), .int (xs (i + 2)), .ref o]) (k := 0) (τ' := u2 τ 0 0 (w32 x1)) F S hM (wr_bell hl9 D adX cA o H.size (xs (i + 1)) (xs (i + 2)) σ σ1 τ 3 x1 ρ1 q1 (by decide)) wl_RL_83 ws_L_bell wn_RL wc_L_bell ⟨by decide +kernel, by decide +kernel, by decide +kernel⟩ rfl (by decide) hce hsl hl.1 rfl rfl dL_law_673 (fun H1 l1 hM1 => ?_)
    refine lv_istore (lv' := [(5, .int 0), (0, .ref b), (1, .ref (adX 0)), (2, .ref (adM 0)), (3, .ref o), (4, .int (Int32.ofNat i))]) hx hb dL_law_676 hl (by decide) rfl (fun ls1 hl1 => ?_)
    refine lv_aload_n hx hb dL_law_678 rfl (lv_at hl1 3 rfl) ?_
    refine lg_arg F hM1 (lv_at hl1 1 rfl) (lv_at hl1 5 rfl) hi 1 (by decide) rfl dL_law_679 dL_law_680 dL_law_682 dL_law_683 dL_law_684 ?_
    refine lg_arg F hM1 (lv_at hl1 1 rfl) (lv_at hl1 5 rfl) hi 2 (by decide) rfl dL_law_685 dL_law_686 dL_law_688 dL_law_689 dL_law_690 ?_
    refine lg_callM (as := [xs (i + 1), xs (i + 2)]) (st := []) F S hM1 C_M_bell lv_RL_85 rfl rfl (by decide) (by decide) (by omega) (by omega) hl1.1 (Nat.le_of_ble_eq_true rfl) q3 dL_law_691 (fun H2 l2 hM2 => ?_)
    refine lv_istore (lv' := [(6, .int (Int32.ofInt w)), (5, .int 0), (0, .ref b), (1, .ref (adX 0)), (2, .ref (adM 0)), (3, .ref o), (4, .int (Int32.ofNat i))]) hx hb dL_law_694 hl1 (by decide) rfl (fun ls2 hl2 => ?_)
    refine lv_aload_n hx hb dL_law_696 rfl (lv_at hl2 4 rfl) ?_
    refine lg_callM (as := []) (st := []) F S hM2 C_M_thrown lv_RL_57 rfl rfl (by decide) (by decide) (by omega) (by omega) hl2.1 (Nat.le_of_ble_eq_true rfl) thrown_eq dL_law_697 (fun H3 l3 hM3 => ?_)
    refine lv_iload hx hb dL_law_700 (lv_at hl2 1 rfl) ?_
    rw [q6]
    refine lv_icmp_eq hx hb dL_law_702 (tgt := 707) rfl (fun _ => ?_) (fun hne => absurd (by decide) hne)
    refine lv_iload hx hb dL_law_707 (lv_at hl2 1 rfl) ?_
    refine lv_if_ne hx hb dL_law_709 (tgt := 724) rfl (fun hz => absurd rfl hz) (fun _ => ?_)
    refine lv_aload_n hx hb dL_law_712 rfl (lv_at hl2 5 rfl) ?_
    refine lv_iconst hx hb dL_law_713 (v := 0) (by decide) ?_
    refine va_lald hx hb F.2.2.2.2.2.1 hM3.2.2.1 0 1 (n := 1) (f := fun j => Int64.ofInt (u2 τ 0 0 (w32 x1) 0 j)) (fw_w_at (lay := LO) (k := 0) rfl) rfl (by unfold vp_in; decide) dL_law_714 ?_
    refine lv_iload hx hb dL_law_715 (lv_at hl2 0 rfl) ?_
    refine lv_i2l hx hb dL_law_717 rfl ?_
    refine W.lcmp hx hb dL_law_718 ?_
    have ez : lg_cmp (Int64.ofInt (u2 τ 0 0 (w32 x1) 0 (0 : Int32).toNatClampNeg)) (Int32.ofInt w).toInt64 = 0 := by
      have z0 : (0 : Int32).toNatClampNeg = 0 := by decide
      rw [z0, show u2 τ 0 0 (w32 x1) 0 0 = w32 x1 by simp [u2], q7, w32_64]
      simp [lg_cmp, Int64.lt_irrefl]
    rw [ez]
    refine lv_if_eq hx hb dL_law_719 (tgt := 724) rfl (fun _ => ?_) (fun hz => absurd rfl hz)
    exact lv_goto hx hb dL_law_724 (tgt := 1447) rfl (kk σ1 μ1 _ H3 l3 ls2 (cells + 1) (slots + 6) hM3 hR' (by omega) (by omega) (lv_sub hl2 [2, 3, 4, 5, 6] rfl))
  · refine lv_aload_n hx hb dL_law_659 rfl (lv_at hl 1 rfl) ?_
    refine lg_arg F hM (lv_at hl 0 rfl) (lv_at hl 4 rfl) hi 1 (by decide) rfl dL_law_660 dL_law_661 dL_law_663 dL_law_664 dL_law_665 ?_
    refine lg_arg F hM (lv_at hl 0 rfl) (lv_at hl 4 rfl) hi 2 (by decide) rfl dL_law_666 dL_law_667 dL_law_669 dL_law_670 dL_law_671 ?_
    refine lv_aload_n hx hb dL_law_672 rfl (lv_at hl 3 rfl) ?_
    refine lg_wrap (n := 4) (As := [.ref (adX 0), .int (xs (i + 1)), .int (xs (i + 2)), .ref o]) (k := 1) (τ' := τ) F S hM (wr_bell hl9 D adX cA o H.size (xs (i + 1)) (xs (i + 2)) σ σ1 τ 4 x1 ρ1 q1 (by decide)) wl_RL_83 ws_L_bell wn_RL wc_L_bell ⟨by decide +kernel, by decide +kernel, by decide +kernel⟩ rfl (by decide) hce hsl hl.1 rfl rfl dL_law_673 (fun H1 l1 hM1 => ?_)
    refine lv_istore (lv' := [(5, .int 1), (0, .ref b), (1, .ref (adX 0)), (2, .ref (adM 0)), (3, .ref o), (4, .int (Int32.ofNat i))]) hx hb dL_law_676 hl (by decide) rfl (fun ls1 hl1 => ?_)
    refine lv_aload_n hx hb dL_law_678 rfl (lv_at hl1 3 rfl) ?_
    refine lg_arg F hM1 (lv_at hl1 1 rfl) (lv_at hl1 5 rfl) hi 1 (by decide) rfl dL_law_679 dL_law_680 dL_law_682 dL_law_683 dL_law_684 ?_
    refine lg_arg F hM1 (lv_at hl1 1 rfl) (lv_at hl1 5 rfl) hi 2 (by decide) rfl dL_law_685 dL_law_686 dL_law_688 dL_law_689 dL_law_690 ?_
    refine lg_callM (as := [xs (i + 1), xs (i + 2)]) (st := []) F S hM1 C_M_bell lv_RL_85 rfl rfl (by decide) (by decide) (by omega) (by omega) hl1.1 (Nat.le_of_ble_eq_true rfl) q3 dL_law_691 (fun H2 l2 hM2 => ?_)
    refine lv_istore (lv' := [(6, .int (Int32.ofInt w)), (5, .int 1), (0, .ref b), (1, .ref (adX 0)), (2, .ref (adM 0)), (3, .ref o), (4, .int (Int32.ofNat i))]) hx hb dL_law_694 hl1 (by decide) rfl (fun ls2 hl2 => ?_)
    refine lv_aload_n hx hb dL_law_696 rfl (lv_at hl2 4 rfl) ?_
    refine lg_callM (as := []) (st := []) F S hM2 C_M_thrown lv_RL_57 rfl rfl (by decide) (by decide) (by omega) (by omega) hl2.1 (Nat.le_of_ble_eq_true rfl) thrown_eq dL_law_697 (fun H3 l3 hM3 => ?_)
    refine lv_iload hx hb dL_law_700 (lv_at hl2 1 rfl) ?_
    rw [q6]
    refine lv_icmp_eq hx hb dL_law_702 (tgt := 707) rfl (fun _ => ?_) (fun hne => absurd (by decide) hne)
    refine lv_iload hx hb dL_law_707 (lv_at hl2 1 rfl) ?_
    refine lv_if_ne hx hb dL_law_709 (tgt := 724) rfl (fun _ => ?_) (fun hz => absurd hz (by decide))
    exact lv_goto hx hb dL_law_724 (tgt := 1447) rfl (kk σ1 μ1 τ H3 l3 ls2 (cells + 1) (slots + 6) hM3 hR' (by omega) (by omega) (lv_sub hl2 [2, 3, 4, 5, 6] rfl))
/-- at -/
theorem cs_12 {p : Program} {l : Launch} {e : Env} {s : State} {m : MethodId} {below : List Frame} {meth : Method} {c : Code} {b L : Nat} {xs : Nat → Int32} {D : va_G} {cA : Nat → ClassId} {adX adM : Nat → Nat} {o : Nat} {σ μ τ : Me} {H : Heap} {locs : List Loc} {cells slots : Nat} {Q : State → Prop} {ls : Array Slot} {i : Nat} (F : lg_F p l s m c b L xs D cA) (S : lg_S s cA adX adM o) (hM : lg_M s D cA adX adM o σ μ τ H locs) (hR : Rl σ μ) (hl : lg_L b adX adM o i ls) (hi : i + 6 ≤ L) (hce : cells + 1 ≤ 601024) (hsl : slots + 6 ≤ 7293034) (kk : lg_K p l e s m below meth c b D cA adX adM o i cells slots Q) : W p l e room_1 s m #[Value.ref b] below meth c H locs cells slots Q (F0 m 727 ls []) := by
  obtain ⟨hx, hb, -⟩ := id F
  unfold lg_L at hl
  have oa : opR (m_D_at (0 :: ([xs (i + 1), xs (i + 2), xs (i + 3), xs (i + 4)] : List Int32).map Int32.toInt) σ) (m_M_at (0 :: ([xs (i + 1), xs (i + 2), xs (i + 3), xs (i + 4)] : List Int32).map Int32.toInt) μ) := op_at hR (lg_rg _) (lg_rg _) (lg_rg _) (lg_rg _)
  obtain ⟨a, a', σ', μ', ex, em, hab, hR'⟩ := oa
  refine lv_aload_n hx hb dL_law_727 rfl (lv_at hl 1 rfl) ?_
  refine lg_arg F hM (lv_at hl 0 rfl) (lv_at hl 4 rfl) hi 1 (by decide) rfl dL_law_728 dL_law_729 dL_law_731 dL_law_732 dL_law_733 ?_
  refine lg_arg F hM (lv_at hl 0 rfl) (lv_at hl 4 rfl) hi 2 (by decide) rfl dL_law_734 dL_law_735 dL_law_737 dL_law_738 dL_law_739 ?_
  refine lg_arg F hM (lv_at hl 0 rfl) (lv_at hl 4 rfl) hi 3 (by decide) rfl dL_law_740 dL_law_741 dL_law_743 dL_law_744 dL_law_745 ?_
  refine lg_arg F hM (lv_at hl 0 rfl) (lv_at hl 4 rfl) hi 4 (by decide) rfl dL_law_746 dL_law_747 dL_law_749 dL_law_750 dL_law_751 ?_
  refine lg_callX (as := [xs (i + 1), xs (i + 2), xs (i + 3), xs (i + 4)]) (st := []) F S hM C_D_at lv_RL_86 rfl rfl (by decide) (by decide) (by omega) (by omega) hl.1 (Nat.le_of_ble_eq_true rfl) ex dL_law_752 (fun H1 l1 hM1 => ?_)
  refine lv_aload_n hx hb dL_law_755 rfl (lv_at hl 2 rfl) ?_
  refine lg_arg F hM1 (lv_at hl 0 rfl) (lv_at hl 4 rfl) hi 1 (by decide) rfl dL_law_756 dL_law_757 dL_law_759 dL_law_760 dL_law_761 ?_
  refine lg_arg F hM1 (lv_at hl 0 rfl) (lv_at hl 4 rfl) hi 2 (by decide) rfl dL_law_762 dL_law_763 dL_law_765 dL_law_766 dL_law_767 ?_
  refine lg_arg F hM1 (lv_at hl 0 rfl) (lv_at hl 4 rfl) hi 3 (by decide) rfl dL_law_768 dL_law_769 dL_law_771 dL_law_772 dL_law_773 ?_
  refine lg_arg F hM1 (lv_at hl 0 rfl) (lv_at hl 4 rfl) hi 4 (by decide) rfl dL_law_774 dL_law_775 dL_law_777 dL_law_778 dL_law_779 ?_
  refine lg_callM (as := [xs (i + 1), xs (i + 2), xs (i + 3), xs (i + 4)]) (st := [.int (Int32.ofInt a)]) F S hM1 C_M_at lv_RL_90 rfl rfl (by decide) (by decide) (by omega) (by omega) hl.1 (Nat.le_of_ble_eq_true rfl) em dL_law_780 (fun H2 l2 hM2 => ?_)
  exact lv_icmp_eq hx hb dL_law_783 (tgt := 1447) rfl (fun _ => kk σ' μ' τ H2 l2 ls cells slots hM2 hR' (by omega) (by omega) hl) (fun hne => absurd (lg_eq hab) hne)
/-- passed -/
theorem cs_13 {p : Program} {l : Launch} {e : Env} {s : State} {m : MethodId} {below : List Frame} {meth : Method} {c : Code} {b L : Nat} {xs : Nat → Int32} {D : va_G} {cA : Nat → ClassId} {adX adM : Nat → Nat} {o : Nat} {σ μ τ : Me} {H : Heap} {locs : List Loc} {cells slots : Nat} {Q : State → Prop} {ls : Array Slot} {i : Nat} (F : lg_F p l s m c b L xs D cA) (S : lg_S s cA adX adM o) (hM : lg_M s D cA adX adM o σ μ τ H locs) (hR : Rl σ μ) (hl : lg_L b adX adM o i ls) (hi : i + 6 ≤ L) (hce : cells + 1 ≤ 601024) (hsl : slots + 6 ≤ 7293034) (kk : lg_K p l e s m below meth c b D cA adX adM o i cells slots Q) : W p l e room_1 s m #[Value.ref b] below meth c H locs cells slots Q (F0 m 788 ls []) := by
  obtain ⟨hx, hb, -⟩ := id F
  unfold lg_L at hl
  have oa : opR (m_D_passed (0 :: ([xs (i + 1), xs (i + 2)] : List Int32).map Int32.toInt) σ) (m_M_passed (0 :: ([xs (i + 1), xs (i + 2)] : List Int32).map Int32.toInt) μ) := op_passed hR (lg_rg _) (lg_rg _)
  obtain ⟨a, a', σ', μ', ex, em, hab, hR'⟩ := oa
  refine lv_aload_n hx hb dL_law_788 rfl (lv_at hl 1 rfl) ?_
  refine lg_arg F hM (lv_at hl 0 rfl) (lv_at hl 4 rfl) hi 1 (by decide) rfl dL_law_789 dL_law_790 dL_law_792 dL_law_793 dL_law_794 ?_
  refine lg_arg F hM (lv_at hl 0 rfl) (lv_at hl 4 rfl) hi 2 (by decide) rfl dL_law_795 dL_law_796 dL_law_798 dL_law_799 dL_law_800 ?_
  refine lg_callX (as := [xs (i + 1), xs (i + 2)]) (st := []) F S hM C_D_passed lv_RL_91 rfl rfl (by decide) (by decide) (by omega) (by omega) hl.1 (Nat.le_of_ble_eq_true rfl) ex dL_law_801 (fun H1 l1 hM1 => ?_)
  refine lv_aload_n hx hb dL_law_804 rfl (lv_at hl 2 rfl) ?_
  refine lg_arg F hM1 (lv_at hl 0 rfl) (lv_at hl 4 rfl) hi 1 (by decide) rfl dL_law_805 dL_law_806 dL_law_808 dL_law_809 dL_law_810 ?_
  refine lg_arg F hM1 (lv_at hl 0 rfl) (lv_at hl 4 rfl) hi 2 (by decide) rfl dL_law_811 dL_law_812 dL_law_814 dL_law_815 dL_law_816 ?_
  refine lg_callM (as := [xs (i + 1), xs (i + 2)]) (st := [.int (Int32.ofInt a)]) F S hM1 C_M_passed lv_RL_94 rfl rfl (by decide) (by decide) (by omega) (by omega) hl.1 (Nat.le_of_ble_eq_true rfl) em dL_law_817 (fun H2 l2 hM2 => ?_)
  exact lv_icmp_eq hx hb dL_law_820 (tgt := 1447) rfl (fun _ => kk σ' μ' τ H2 l2 ls cells slots hM2 hR' (by omega) (by omega) hl) (fun hne => absurd (lg_eq hab) hne)
/-- sum -/
theorem cs_14 {p : Program} {l : Launch} {e : Env} {s : State} {m : MethodId} {below : List Frame} {meth : Method} {c : Code} {b L : Nat} {xs : Nat → Int32} {D : va_G} {cA : Nat → ClassId} {adX adM : Nat → Nat} {o : Nat} {σ μ τ : Me} {H : Heap} {locs : List Loc} {cells slots : Nat} {Q : State → Prop} {ls : Array Slot} {i : Nat} (F : lg_F p l s m c b L xs D cA) (S : lg_S s cA adX adM o) (hM : lg_M s D cA adX adM o σ μ τ H locs) (hR : Rl σ μ) (hl : lg_L b adX adM o i ls) (hi : i + 6 ≤ L) (hce : cells + 1 ≤ 601024) (hsl : slots + 6 ≤ 7293034) (kk : lg_K p l e s m below meth c b D cA adX adM o i cells slots Q) : W p l e room_1 s m #[Value.ref b] below meth c H locs cells slots Q (F0 m 825 ls []) := by
  obtain ⟨hx, hb, -⟩ := id F
  unfold lg_L at hl
  have oa : opR (m_D_sum (0 :: ([xs (i + 1), xs (i + 2)] : List Int32).map Int32.toInt) σ) (m_M_sum (0 :: ([xs (i + 1), xs (i + 2)] : List Int32).map Int32.toInt) μ) := op_sum hR (lg_rg _) (lg_rg _)
  obtain ⟨a, a', σ', μ', ex, em, hab, hR'⟩ := oa
  refine lv_aload_n hx hb dL_law_825 rfl (lv_at hl 1 rfl) ?_
  refine lg_arg F hM (lv_at hl 0 rfl) (lv_at hl 4 rfl) hi 1 (by decide) rfl dL_law_826 dL_law_827 dL_law_829 dL_law_830 dL_law_831 ?_
  refine lg_arg F hM (lv_at hl 0 rfl) (lv_at hl 4 rfl) hi 2 (by decide) rfl dL_law_832 dL_law_833 dL_law_835 dL_law_836 dL_law_837 ?_
  refine lg_callX (as := [xs (i + 1), xs (i + 2)]) (st := []) F S hM C_D_sum lv_RL_95 rfl rfl (by decide) (by decide) (by omega) (by omega) hl.1 (Nat.le_of_ble_eq_true rfl) ex dL_law_838 (fun H1 l1 hM1 => ?_)
  refine lv_aload_n hx hb dL_law_841 rfl (lv_at hl 2 rfl) ?_
  refine lg_arg F hM1 (lv_at hl 0 rfl) (lv_at hl 4 rfl) hi 1 (by decide) rfl dL_law_842 dL_law_843 dL_law_845 dL_law_846 dL_law_847 ?_
  refine lg_arg F hM1 (lv_at hl 0 rfl) (lv_at hl 4 rfl) hi 2 (by decide) rfl dL_law_848 dL_law_849 dL_law_851 dL_law_852 dL_law_853 ?_
  refine lg_callM (as := [xs (i + 1), xs (i + 2)]) (st := [.int (Int32.ofInt a)]) F S hM1 C_M_sum lv_RL_98 rfl rfl (by decide) (by decide) (by omega) (by omega) hl.1 (Nat.le_of_ble_eq_true rfl) em dL_law_854 (fun H2 l2 hM2 => ?_)
  exact lv_icmp_eq hx hb dL_law_857 (tgt := 1447) rfl (fun _ => kk σ' μ' τ H2 l2 ls cells slots hM2 hR' (by omega) (by omega) hl) (fun hne => absurd (lg_eq hab) hne)
/-- fine -/
theorem cs_15 {p : Program} {l : Launch} {e : Env} {s : State} {m : MethodId} {below : List Frame} {meth : Method} {c : Code} {b L : Nat} {xs : Nat → Int32} {D : va_G} {cA : Nat → ClassId} {adX adM : Nat → Nat} {o : Nat} {σ μ τ : Me} {H : Heap} {locs : List Loc} {cells slots : Nat} {Q : State → Prop} {ls : Array Slot} {i : Nat} (F : lg_F p l s m c b L xs D cA) (S : lg_S s cA adX adM o) (hM : lg_M s D cA adX adM o σ μ τ H locs) (hR : Rl σ μ) (hl : lg_L b adX adM o i ls) (hi : i + 6 ≤ L) (hce : cells + 1 ≤ 601024) (hsl : slots + 6 ≤ 7293034) (kk : lg_K p l e s m below meth c b D cA adX adM o i cells slots Q) : W p l e room_1 s m #[Value.ref b] below meth c H locs cells slots Q (F0 m 862 ls []) := by
  obtain ⟨hx, hb, -⟩ := id F
  unfold lg_L at hl
  have oa : opR (m_D_fine (0 :: ([xs (i + 1), xs (i + 2)] : List Int32).map Int32.toInt) σ) (m_M_fine (0 :: ([xs (i + 1), xs (i + 2)] : List Int32).map Int32.toInt) μ) := op_fine hR (lg_rg _) (lg_rg _)
  obtain ⟨a, a', σ', μ', ex, em, hab, hR'⟩ := oa
  refine lv_aload_n hx hb dL_law_862 rfl (lv_at hl 1 rfl) ?_
  refine lg_arg F hM (lv_at hl 0 rfl) (lv_at hl 4 rfl) hi 1 (by decide) rfl dL_law_863 dL_law_864 dL_law_866 dL_law_867 dL_law_868 ?_
  refine lg_arg F hM (lv_at hl 0 rfl) (lv_at hl 4 rfl) hi 2 (by decide) rfl dL_law_869 dL_law_870 dL_law_872 dL_law_873 dL_law_874 ?_
  refine lg_callX (as := [xs (i + 1), xs (i + 2)]) (st := []) F S hM C_D_fine lv_RL_99 rfl rfl (by decide) (by decide) (by omega) (by omega) hl.1 (Nat.le_of_ble_eq_true rfl) ex dL_law_875 (fun H1 l1 hM1 => ?_)
  refine lv_aload_n hx hb dL_law_878 rfl (lv_at hl 2 rfl) ?_
  refine lg_arg F hM1 (lv_at hl 0 rfl) (lv_at hl 4 rfl) hi 1 (by decide) rfl dL_law_879 dL_law_880 dL_law_882 dL_law_883 dL_law_884 ?_
  refine lg_arg F hM1 (lv_at hl 0 rfl) (lv_at hl 4 rfl) hi 2 (by decide) rfl dL_law_885 dL_law_886 dL_law_888 dL_law_889 dL_law_890 ?_
  refine lg_callM (as := [xs (i + 1), xs (i + 2)]) (st := [.int (Int32.ofInt a)]) F S hM1 C_M_fine lv_RL_102 rfl rfl (by decide) (by decide) (by omega) (by omega) hl.1 (Nat.le_of_ble_eq_true rfl) em dL_law_891 (fun H2 l2 hM2 => ?_)
  exact lv_icmp_eq hx hb dL_law_894 (tgt := 1447) rfl (fun _ => kk σ' μ' τ H2 l2 ls cells slots hM2 hR' (by omega) (by omega) hl) (fun hne => absurd (lg_eq hab) hne)
/-- harmed -/
theorem cs_16 {p : Program} {l : Launch} {e : Env} {s : State} {m : MethodId} {below : List Frame} {meth : Method} {c : Code} {b L : Nat} {xs : Nat → Int32} {D : va_G} {cA : Nat → ClassId} {adX adM : Nat → Nat} {o : Nat} {σ μ τ : Me} {H : Heap} {locs : List Loc} {cells slots : Nat} {Q : State → Prop} {ls : Array Slot} {i : Nat} (F : lg_F p l s m c b L xs D cA) (S : lg_S s cA adX adM o) (hM : lg_M s D cA adX adM o σ μ τ H locs) (hR : Rl σ μ) (hl : lg_L b adX adM o i ls) (hi : i + 6 ≤ L) (hce : cells + 1 ≤ 601024) (hsl : slots + 6 ≤ 7293034) (kk : lg_K p l e s m below meth c b D cA adX adM o i cells slots Q) : W p l e room_1 s m #[Value.ref b] below meth c H locs cells slots Q (F0 m 899 ls []) := by
  obtain ⟨hx, hb, -⟩ := id F
  unfold lg_L at hl
  have oa : opR (m_D_harmed (0 :: ([xs (i + 1), xs (i + 2)] : List Int32).map Int32.toInt) σ) (m_M_harmed (0 :: ([xs (i + 1), xs (i + 2)] : List Int32).map Int32.toInt) μ) := op_harmed hR (lg_rg _) (lg_rg _)
  obtain ⟨a, a', σ', μ', ex, em, hab, hR'⟩ := oa
  refine lv_aload_n hx hb dL_law_899 rfl (lv_at hl 1 rfl) ?_
  refine lg_arg F hM (lv_at hl 0 rfl) (lv_at hl 4 rfl) hi 1 (by decide) rfl dL_law_900 dL_law_901 dL_law_903 dL_law_904 dL_law_905 ?_
  refine lg_arg F hM (lv_at hl 0 rfl) (lv_at hl 4 rfl) hi 2 (by decide) rfl dL_law_906 dL_law_907 dL_law_909 dL_law_910 dL_law_911 ?_
  refine lg_callX (as := [xs (i + 1), xs (i + 2)]) (st := []) F S hM C_D_harmed lv_RL_103 rfl rfl (by decide) (by decide) (by omega) (by omega) hl.1 (Nat.le_of_ble_eq_true rfl) ex dL_law_912 (fun H1 l1 hM1 => ?_)
  refine lv_aload_n hx hb dL_law_915 rfl (lv_at hl 2 rfl) ?_
  refine lg_arg F hM1 (lv_at hl 0 rfl) (lv_at hl 4 rfl) hi 1 (by decide) rfl dL_law_916 dL_law_917 dL_law_919 dL_law_920 dL_law_921 ?_
  refine lg_arg F hM1 (lv_at hl 0 rfl) (lv_at hl 4 rfl) hi 2 (by decide) rfl dL_law_922 dL_law_923 dL_law_925 dL_law_926 dL_law_927 ?_
  refine lg_callM (as := [xs (i + 1), xs (i + 2)]) (st := [.int (Int32.ofInt a)]) F S hM1 C_M_harmed lv_RL_106 rfl rfl (by decide) (by decide) (by omega) (by omega) hl.1 (Nat.le_of_ble_eq_true rfl) em dL_law_928 (fun H2 l2 hM2 => ?_)
  exact lv_icmp_eq hx hb dL_law_931 (tgt := 1447) rfl (fun _ => kk σ' μ' τ H2 l2 ls cells slots hM2 hR' (by omega) (by omega) hl) (fun hne => absurd (lg_eq hab) hne)
/-- harm -/
theorem cs_17 {p : Program} {l : Launch} {e : Env} {s : State} {m : MethodId} {below : List Frame} {meth : Method} {c : Code} {b L : Nat} {xs : Nat → Int32} {D : va_G} {cA : Nat → ClassId} {adX adM : Nat → Nat} {o : Nat} {σ μ τ : Me} {H : Heap} {locs : List Loc} {cells slots : Nat} {Q : State → Prop} {ls : Array Slot} {i : Nat} (F : lg_F p l s m c b L xs D cA) (S : lg_S s cA adX adM o) (hM : lg_M s D cA adX adM o σ μ τ H locs) (hR : Rl σ μ) (hl : lg_L b adX adM o i ls) (hi : i + 6 ≤ L) (hce : cells + 1 ≤ 601024) (hsl : slots + 6 ≤ 7293034) (kk : lg_K p l e s m below meth c b D cA adX adM o i cells slots Q) : W p l e room_1 s m #[Value.ref b] below meth c H locs cells slots Q (F0 m 936 ls []) := by
  obtain ⟨hx, hb, -⟩ := id F
  unfold lg_L at hl
  have oa : opR (m_D_harm (0 :: ([] : List Int32).map Int32.toInt) σ) (m_M_harm (0 :: ([] : List Int32).map Int32.toInt) μ) := op_harm hR
  obtain ⟨a, a', σ', μ', ex, em, hab, hR'⟩ := oa
  refine lv_aload_n hx hb dL_law_936 rfl (lv_at hl 1 rfl) ?_
  refine lg_callX (as := []) (st := []) F S hM C_D_harm lv_RL_107 rfl rfl (by decide) (by decide) (by omega) (by omega) hl.1 (Nat.le_of_ble_eq_true rfl) ex dL_law_937 (fun H1 l1 hM1 => ?_)
  refine lv_aload_n hx hb dL_law_940 rfl (lv_at hl 2 rfl) ?_
  refine lg_callM (as := []) (st := [.int (Int32.ofInt a)]) F S hM1 C_M_harm lv_RL_110 rfl rfl (by decide) (by decide) (by omega) (by omega) hl.1 (Nat.le_of_ble_eq_true rfl) em dL_law_941 (fun H2 l2 hM2 => ?_)
  exact lv_icmp_eq hx hb dL_law_944 (tgt := 1447) rfl (fun _ => kk σ' μ' τ H2 l2 ls cells slots hM2 hR' (by omega) (by omega) hl) (fun hne => absurd (lg_eq hab) hne)
/-- blame -/
theorem cs_18 {p : Program} {l : Launch} {e : Env} {s : State} {m : MethodId} {below : List Frame} {meth : Method} {c : Code} {b L : Nat} {xs : Nat → Int32} {D : va_G} {cA : Nat → ClassId} {adX adM : Nat → Nat} {o : Nat} {σ μ τ : Me} {H : Heap} {locs : List Loc} {cells slots : Nat} {Q : State → Prop} {ls : Array Slot} {i : Nat} (F : lg_F p l s m c b L xs D cA) (S : lg_S s cA adX adM o) (hM : lg_M s D cA adX adM o σ μ τ H locs) (hR : Rl σ μ) (hl : lg_L b adX adM o i ls) (hi : i + 6 ≤ L) (hce : cells + 1 ≤ 601024) (hsl : slots + 6 ≤ 7293034) (kk : lg_K p l e s m below meth c b D cA adX adM o i cells slots Q) : W p l e room_1 s m #[Value.ref b] below meth c H locs cells slots Q (F0 m 949 ls []) := by
  obtain ⟨hx, hb, -⟩ := id F
  unfold lg_L at hl
  have oa : opR (m_D_blame (0 :: ([xs (i + 1), xs (i + 2)] : List Int32).map Int32.toInt) σ) (m_M_blame (0 :: ([xs (i + 1), xs (i + 2)] : List Int32).map Int32.toInt) μ) := op_blame hR (lg_rg _) (lg_rg _)
  obtain ⟨a, a', σ', μ', ex, em, hab, hR'⟩ := oa
  refine lv_aload_n hx hb dL_law_949 rfl (lv_at hl 1 rfl) ?_
  refine lg_arg F hM (lv_at hl 0 rfl) (lv_at hl 4 rfl) hi 1 (by decide) rfl dL_law_950 dL_law_951 dL_law_953 dL_law_954 dL_law_955 ?_
  refine lg_arg F hM (lv_at hl 0 rfl) (lv_at hl 4 rfl) hi 2 (by decide) rfl dL_law_956 dL_law_957 dL_law_959 dL_law_960 dL_law_961 ?_
  refine lg_callX (as := [xs (i + 1), xs (i + 2)]) (st := []) F S hM C_D_blame lv_RL_111 rfl rfl (by decide) (by decide) (by omega) (by omega) hl.1 (Nat.le_of_ble_eq_true rfl) ex dL_law_962 (fun H1 l1 hM1 => ?_)
  refine lv_aload_n hx hb dL_law_965 rfl (lv_at hl 2 rfl) ?_
  refine lg_arg F hM1 (lv_at hl 0 rfl) (lv_at hl 4 rfl) hi 1 (by decide) rfl dL_law_966 dL_law_967 dL_law_969 dL_law_970 dL_law_971 ?_
  refine lg_arg F hM1 (lv_at hl 0 rfl) (lv_at hl 4 rfl) hi 2 (by decide) rfl dL_law_972 dL_law_973 dL_law_975 dL_law_976 dL_law_977 ?_
  refine lg_callM (as := [xs (i + 1), xs (i + 2)]) (st := [.int (Int32.ofInt a)]) F S hM1 C_M_blame lv_RL_114 rfl rfl (by decide) (by decide) (by omega) (by omega) hl.1 (Nat.le_of_ble_eq_true rfl) em dL_law_978 (fun H2 l2 hM2 => ?_)
  exact lv_icmp_eq hx hb dL_law_981 (tgt := 1447) rfl (fun _ => kk σ' μ' τ H2 l2 ls cells slots hM2 hR' (by omega) (by omega) hl) (fun hne => absurd (lg_eq hab) hne)
/-- duty -/
theorem cs_19 {p : Program} {l : Launch} {e : Env} {s : State} {m : MethodId} {below : List Frame} {meth : Method} {c : Code} {b L : Nat} {xs : Nat → Int32} {D : va_G} {cA : Nat → ClassId} {adX adM : Nat → Nat} {o : Nat} {σ μ τ : Me} {H : Heap} {locs : List Loc} {cells slots : Nat} {Q : State → Prop} {ls : Array Slot} {i : Nat} (F : lg_F p l s m c b L xs D cA) (S : lg_S s cA adX adM o) (hM : lg_M s D cA adX adM o σ μ τ H locs) (hR : Rl σ μ) (hl : lg_L b adX adM o i ls) (hi : i + 6 ≤ L) (hce : cells + 1 ≤ 601024) (hsl : slots + 6 ≤ 7293034) (kk : lg_K p l e s m below meth c b D cA adX adM o i cells slots Q) : W p l e room_1 s m #[Value.ref b] below meth c H locs cells slots Q (F0 m 986 ls []) := by
  obtain ⟨hx, hb, -⟩ := id F
  unfold lg_L at hl
  have oa : opR (m_D_duty (0 :: ([xs (i + 1)] : List Int32).map Int32.toInt) σ) (m_M_duty (0 :: ([xs (i + 1)] : List Int32).map Int32.toInt) μ) := op_duty hR (lg_rg _)
  obtain ⟨a, a', σ', μ', ex, em, hab, hR'⟩ := oa
  refine lv_aload_n hx hb dL_law_986 rfl (lv_at hl 1 rfl) ?_
  refine lg_arg F hM (lv_at hl 0 rfl) (lv_at hl 4 rfl) hi 1 (by decide) rfl dL_law_987 dL_law_988 dL_law_990 dL_law_991 dL_law_992 ?_
  refine lg_callX (as := [xs (i + 1)]) (st := []) F S hM C_D_duty lv_RL_115 rfl rfl (by decide) (by decide) (by omega) (by omega) hl.1 (Nat.le_of_ble_eq_true rfl) ex dL_law_993 (fun H1 l1 hM1 => ?_)
  refine lv_aload_n hx hb dL_law_996 rfl (lv_at hl 2 rfl) ?_
  refine lg_arg F hM1 (lv_at hl 0 rfl) (lv_at hl 4 rfl) hi 1 (by decide) rfl dL_law_997 dL_law_998 dL_law_1000 dL_law_1001 dL_law_1002 ?_
  refine lg_callM (as := [xs (i + 1)]) (st := [.int (Int32.ofInt a)]) F S hM1 C_M_duty lv_RL_118 rfl rfl (by decide) (by decide) (by omega) (by omega) hl.1 (Nat.le_of_ble_eq_true rfl) em dL_law_1003 (fun H2 l2 hM2 => ?_)
  exact lv_icmp_eq hx hb dL_law_1006 (tgt := 1447) rfl (fun _ => kk σ' μ' τ H2 l2 ls cells slots hM2 hR' (by omega) (by omega) hl) (fun hne => absurd (lg_eq hab) hne)
/-- pulse -/
theorem cs_20 {p : Program} {l : Launch} {e : Env} {s : State} {m : MethodId} {below : List Frame} {meth : Method} {c : Code} {b L : Nat} {xs : Nat → Int32} {D : va_G} {cA : Nat → ClassId} {adX adM : Nat → Nat} {o : Nat} {σ μ τ : Me} {H : Heap} {locs : List Loc} {cells slots : Nat} {Q : State → Prop} {ls : Array Slot} {i : Nat} (F : lg_F p l s m c b L xs D cA) (S : lg_S s cA adX adM o) (hM : lg_M s D cA adX adM o σ μ τ H locs) (hR : Rl σ μ) (hl : lg_L b adX adM o i ls) (hi : i + 6 ≤ L) (hce : cells + 1 ≤ 601024) (hsl : slots + 6 ≤ 7293034) (kk : lg_K p l e s m below meth c b D cA adX adM o i cells slots Q) : W p l e room_1 s m #[Value.ref b] below meth c H locs cells slots Q (F0 m 1011 ls []) := by
  obtain ⟨hx, hb, -⟩ := id F
  unfold lg_L at hl
  have oa : opR (m_D_pulse (0 :: ([xs (i + 1), xs (i + 2), xs (i + 3), xs (i + 4)] : List Int32).map Int32.toInt) σ) (m_M_pulse (0 :: ([xs (i + 1), xs (i + 2), xs (i + 3), xs (i + 4)] : List Int32).map Int32.toInt) μ) := op_pulse hR (lg_rg _) (lg_rg _) (lg_rg _) (lg_rg _)
  obtain ⟨a, a', σ', μ', ex, em, hab, hR'⟩ := oa
  refine lv_aload_n hx hb dL_law_1011 rfl (lv_at hl 1 rfl) ?_
  refine lg_arg F hM (lv_at hl 0 rfl) (lv_at hl 4 rfl) hi 1 (by decide) rfl dL_law_1012 dL_law_1013 dL_law_1015 dL_law_1016 dL_law_1017 ?_
  refine lg_arg F hM (lv_at hl 0 rfl) (lv_at hl 4 rfl) hi 2 (by decide) rfl dL_law_1018 dL_law_1019 dL_law_1021 dL_law_1022 dL_law_1023 ?_
  refine lg_arg F hM (lv_at hl 0 rfl) (lv_at hl 4 rfl) hi 3 (by decide) rfl dL_law_1024 dL_law_1025 dL_law_1027 dL_law_1028 dL_law_1029 ?_
  refine lg_arg F hM (lv_at hl 0 rfl) (lv_at hl 4 rfl) hi 4 (by decide) rfl dL_law_1030 dL_law_1031 dL_law_1033 dL_law_1034 dL_law_1035 ?_
  refine lg_callX (as := [xs (i + 1), xs (i + 2), xs (i + 3), xs (i + 4)]) (st := []) F S hM C_D_pulse lv_RL_119 rfl rfl (by decide) (by decide) (by omega) (by omega) hl.1 (Nat.le_of_ble_eq_true rfl) ex dL_law_1036 (fun H1 l1 hM1 => ?_)
  refine lv_aload_n hx hb dL_law_1039 rfl (lv_at hl 2 rfl) ?_
  refine lg_arg F hM1 (lv_at hl 0 rfl) (lv_at hl 4 rfl) hi 1 (by decide) rfl dL_law_1040 dL_law_1041 dL_law_1043 dL_law_1044 dL_law_1045 ?_
  refine lg_arg F hM1 (lv_at hl 0 rfl) (lv_at hl 4 rfl) hi 2 (by decide) rfl dL_law_1046 dL_law_1047 dL_law_1049 dL_law_1050 dL_law_1051 ?_
  refine lg_arg F hM1 (lv_at hl 0 rfl) (lv_at hl 4 rfl) hi 3 (by decide) rfl dL_law_1052 dL_law_1053 dL_law_1055 dL_law_1056 dL_law_1057 ?_
  refine lg_arg F hM1 (lv_at hl 0 rfl) (lv_at hl 4 rfl) hi 4 (by decide) rfl dL_law_1058 dL_law_1059 dL_law_1061 dL_law_1062 dL_law_1063 ?_
  refine lg_callM (as := [xs (i + 1), xs (i + 2), xs (i + 3), xs (i + 4)]) (st := [.int (Int32.ofInt a)]) F S hM1 C_M_pulse lv_RL_122 rfl rfl (by decide) (by decide) (by omega) (by omega) hl.1 (Nat.le_of_ble_eq_true rfl) em dL_law_1064 (fun H2 l2 hM2 => ?_)
  exact lv_icmp_eq hx hb dL_law_1067 (tgt := 1447) rfl (fun _ => kk σ' μ' τ H2 l2 ls cells slots hM2 hR' (by omega) (by omega) hl) (fun hne => absurd (lg_eq hab) hne)
/-- days -/
theorem cs_21 {p : Program} {l : Launch} {e : Env} {s : State} {m : MethodId} {below : List Frame} {meth : Method} {c : Code} {b L : Nat} {xs : Nat → Int32} {D : va_G} {cA : Nat → ClassId} {adX adM : Nat → Nat} {o : Nat} {σ μ τ : Me} {H : Heap} {locs : List Loc} {cells slots : Nat} {Q : State → Prop} {ls : Array Slot} {i : Nat} (F : lg_F p l s m c b L xs D cA) (S : lg_S s cA adX adM o) (hM : lg_M s D cA adX adM o σ μ τ H locs) (hR : Rl σ μ) (hl : lg_L b adX adM o i ls) (hi : i + 6 ≤ L) (hce : cells + 1 ≤ 601024) (hsl : slots + 6 ≤ 7293034) (kk : lg_K p l e s m below meth c b D cA adX adM o i cells slots Q) : W p l e room_1 s m #[Value.ref b] below meth c H locs cells slots Q (F0 m 1072 ls []) := by
  obtain ⟨hx, hb, -⟩ := id F
  unfold lg_L at hl
  have oa : opR (m_D_days (0 :: ([xs (i + 1)] : List Int32).map Int32.toInt) σ) (m_M_days (0 :: ([xs (i + 1)] : List Int32).map Int32.toInt) μ) := op_days hR (lg_rg _)
  obtain ⟨a, a', σ', μ', ex, em, hab, hR'⟩ := oa
  refine lv_aload_n hx hb dL_law_1072 rfl (lv_at hl 1 rfl) ?_
  refine lg_arg F hM (lv_at hl 0 rfl) (lv_at hl 4 rfl) hi 1 (by decide) rfl dL_law_1073 dL_law_1074 dL_law_1076 dL_law_1077 dL_law_1078 ?_
  refine lg_callX (as := [xs (i + 1)]) (st := []) F S hM C_D_days lv_RL_123 rfl rfl (by decide) (by decide) (by omega) (by omega) hl.1 (Nat.le_of_ble_eq_true rfl) ex dL_law_1079 (fun H1 l1 hM1 => ?_)
  refine lv_aload_n hx hb dL_law_1082 rfl (lv_at hl 2 rfl) ?_
  refine lg_arg F hM1 (lv_at hl 0 rfl) (lv_at hl 4 rfl) hi 1 (by decide) rfl dL_law_1083 dL_law_1084 dL_law_1086 dL_law_1087 dL_law_1088 ?_
  refine lg_callM (as := [xs (i + 1)]) (st := [.int (Int32.ofInt a)]) F S hM1 C_M_days lv_RL_126 rfl rfl (by decide) (by decide) (by omega) (by omega) hl.1 (Nat.le_of_ble_eq_true rfl) em dL_law_1089 (fun H2 l2 hM2 => ?_)
  exact lv_icmp_eq hx hb dL_law_1092 (tgt := 1447) rfl (fun _ => kk σ' μ' τ H2 l2 ls cells slots hM2 hR' (by omega) (by omega) hl) (fun hne => absurd (lg_eq hab) hne)
/-- dayOf -/
theorem cs_22 {p : Program} {l : Launch} {e : Env} {s : State} {m : MethodId} {below : List Frame} {meth : Method} {c : Code} {b L : Nat} {xs : Nat → Int32} {D : va_G} {cA : Nat → ClassId} {adX adM : Nat → Nat} {o : Nat} {σ μ τ : Me} {H : Heap} {locs : List Loc} {cells slots : Nat} {Q : State → Prop} {ls : Array Slot} {i : Nat} (F : lg_F p l s m c b L xs D cA) (S : lg_S s cA adX adM o) (hM : lg_M s D cA adX adM o σ μ τ H locs) (hR : Rl σ μ) (hl : lg_L b adX adM o i ls) (hi : i + 6 ≤ L) (hce : cells + 1 ≤ 601024) (hsl : slots + 6 ≤ 7293034) (kk : lg_K p l e s m below meth c b D cA adX adM o i cells slots Q) : W p l e room_1 s m #[Value.ref b] below meth c H locs cells slots Q (F0 m 1097 ls []) := by
  obtain ⟨hx, hb, -⟩ := id F
  unfold lg_L at hl
  have oa : opR (m_D_dayOf (0 :: ([xs (i + 1)] : List Int32).map Int32.toInt) σ) (m_M_dayOf (0 :: ([xs (i + 1)] : List Int32).map Int32.toInt) μ) := op_dayOf hR (lg_rg _)
  obtain ⟨a, a', σ', μ', ex, em, hab, hR'⟩ := oa
  refine lv_aload_n hx hb dL_law_1097 rfl (lv_at hl 1 rfl) ?_
  refine lg_arg F hM (lv_at hl 0 rfl) (lv_at hl 4 rfl) hi 1 (by decide) rfl dL_law_1098 dL_law_1099 dL_law_1101 dL_law_1102 dL_law_1103 ?_
  refine lg_callX (as := [xs (i + 1)]) (st := []) F S hM C_D_dayOf lv_RL_127 rfl rfl (by decide) (by decide) (by omega) (by omega) hl.1 (Nat.le_of_ble_eq_true rfl) ex dL_law_1104 (fun H1 l1 hM1 => ?_)
  refine lv_aload_n hx hb dL_law_1107 rfl (lv_at hl 2 rfl) ?_
  refine lg_arg F hM1 (lv_at hl 0 rfl) (lv_at hl 4 rfl) hi 1 (by decide) rfl dL_law_1108 dL_law_1109 dL_law_1111 dL_law_1112 dL_law_1113 ?_
  refine lg_callM (as := [xs (i + 1)]) (st := [.int (Int32.ofInt a)]) F S hM1 C_M_dayOf lv_RL_130 rfl rfl (by decide) (by decide) (by omega) (by omega) hl.1 (Nat.le_of_ble_eq_true rfl) em dL_law_1114 (fun H2 l2 hM2 => ?_)
  exact lv_icmp_eq hx hb dL_law_1117 (tgt := 1447) rfl (fun _ => kk σ' μ' τ H2 l2 ls cells slots hM2 hR' (by omega) (by omega) hl) (fun hne => absurd (lg_eq hab) hne)
/-- exchange -/
theorem cs_23 {p : Program} {l : Launch} {e : Env} {s : State} {m : MethodId} {below : List Frame} {meth : Method} {c : Code} {b L : Nat} {xs : Nat → Int32} {D : va_G} {cA : Nat → ClassId} {adX adM : Nat → Nat} {o : Nat} {σ μ τ : Me} {H : Heap} {locs : List Loc} {cells slots : Nat} {Q : State → Prop} {ls : Array Slot} {i : Nat} (F : lg_F p l s m c b L xs D cA) (S : lg_S s cA adX adM o) (hM : lg_M s D cA adX adM o σ μ τ H locs) (hR : Rl σ μ) (hl : lg_L b adX adM o i ls) (hi : i + 6 ≤ L) (hce : cells + 1 ≤ 601024) (hsl : slots + 6 ≤ 7293034) (kk : lg_K p l e s m below meth c b D cA adX adM o i cells slots Q) : W p l e room_1 s m #[Value.ref b] below meth c H locs cells slots Q (F0 m 1122 ls []) := by
  obtain ⟨hx, hb, -⟩ := id F
  unfold lg_L at hl
  have oa : opR (m_D_exchange (0 :: ([] : List Int32).map Int32.toInt) σ) (m_M_exchange (0 :: ([] : List Int32).map Int32.toInt) μ) := op_exchange hR
  obtain ⟨a, a', σ', μ', ex, em, hab, hR'⟩ := oa
  refine lv_aload_n hx hb dL_law_1122 rfl (lv_at hl 1 rfl) ?_
  refine lg_callX (as := []) (st := []) F S hM C_D_exchange lv_RL_131 rfl rfl (by decide) (by decide) (by omega) (by omega) hl.1 (Nat.le_of_ble_eq_true rfl) ex dL_law_1123 (fun H1 l1 hM1 => ?_)
  refine lv_aload_n hx hb dL_law_1126 rfl (lv_at hl 2 rfl) ?_
  refine lg_callM (as := []) (st := [.int (Int32.ofInt a)]) F S hM1 C_M_exchange lv_RL_134 rfl rfl (by decide) (by decide) (by omega) (by omega) hl.1 (Nat.le_of_ble_eq_true rfl) em dL_law_1127 (fun H2 l2 hM2 => ?_)
  exact lv_icmp_eq hx hb dL_law_1130 (tgt := 1447) rfl (fun _ => kk σ' μ' τ H2 l2 ls cells slots hM2 hR' (by omega) (by omega) hl) (fun hne => absurd (lg_eq hab) hne)
/-- exchanges -/
theorem cs_24 {p : Program} {l : Launch} {e : Env} {s : State} {m : MethodId} {below : List Frame} {meth : Method} {c : Code} {b L : Nat} {xs : Nat → Int32} {D : va_G} {cA : Nat → ClassId} {adX adM : Nat → Nat} {o : Nat} {σ μ τ : Me} {H : Heap} {locs : List Loc} {cells slots : Nat} {Q : State → Prop} {ls : Array Slot} {i : Nat} (F : lg_F p l s m c b L xs D cA) (S : lg_S s cA adX adM o) (hM : lg_M s D cA adX adM o σ μ τ H locs) (hR : Rl σ μ) (hl : lg_L b adX adM o i ls) (hi : i + 6 ≤ L) (hce : cells + 1 ≤ 601024) (hsl : slots + 6 ≤ 7293034) (kk : lg_K p l e s m below meth c b D cA adX adM o i cells slots Q) : W p l e room_1 s m #[Value.ref b] below meth c H locs cells slots Q (F0 m 1135 ls []) := by
  obtain ⟨hx, hb, -⟩ := id F
  unfold lg_L at hl
  have oa : opR (m_D_exchanges (0 :: ([] : List Int32).map Int32.toInt) σ) (m_M_exchanges (0 :: ([] : List Int32).map Int32.toInt) μ) := op_exchanges hR
  obtain ⟨a, a', σ', μ', ex, em, hab, hR'⟩ := oa
  refine lv_aload_n hx hb dL_law_1135 rfl (lv_at hl 1 rfl) ?_
  refine lg_callX (as := []) (st := []) F S hM C_D_exchanges lv_RL_135 rfl rfl (by decide) (by decide) (by omega) (by omega) hl.1 (Nat.le_of_ble_eq_true rfl) ex dL_law_1136 (fun H1 l1 hM1 => ?_)
  refine lv_aload_n hx hb dL_law_1139 rfl (lv_at hl 2 rfl) ?_
  refine lg_callM (as := []) (st := [.int (Int32.ofInt a)]) F S hM1 C_M_exchanges lv_RL_138 rfl rfl (by decide) (by decide) (by omega) (by omega) hl.1 (Nat.le_of_ble_eq_true rfl) em dL_law_1140 (fun H2 l2 hM2 => ?_)
  exact lv_icmp_eq hx hb dL_law_1143 (tgt := 1447) rfl (fun _ => kk σ' μ' τ H2 l2 ls cells slots hM2 hR' (by omega) (by omega) hl) (fun hne => absurd (lg_eq hab) hne)
/-- late -/
theorem cs_25 {p : Program} {l : Launch} {e : Env} {s : State} {m : MethodId} {below : List Frame} {meth : Method} {c : Code} {b L : Nat} {xs : Nat → Int32} {D : va_G} {cA : Nat → ClassId} {adX adM : Nat → Nat} {o : Nat} {σ μ τ : Me} {H : Heap} {locs : List Loc} {cells slots : Nat} {Q : State → Prop} {ls : Array Slot} {i : Nat} (F : lg_F p l s m c b L xs D cA) (S : lg_S s cA adX adM o) (hM : lg_M s D cA adX adM o σ μ τ H locs) (hR : Rl σ μ) (hl : lg_L b adX adM o i ls) (hi : i + 6 ≤ L) (hce : cells + 1 ≤ 601024) (hsl : slots + 6 ≤ 7293034) (kk : lg_K p l e s m below meth c b D cA adX adM o i cells slots Q) : W p l e room_1 s m #[Value.ref b] below meth c H locs cells slots Q (F0 m 1148 ls []) := by
  obtain ⟨hx, hb, -⟩ := id F
  unfold lg_L at hl
  have oa : opR (m_D_late (0 :: ([xs (i + 1)] : List Int32).map Int32.toInt) σ) (m_M_late (0 :: ([xs (i + 1)] : List Int32).map Int32.toInt) μ) := op_late hR (lg_rg _)
  obtain ⟨a, a', σ', μ', ex, em, hab, hR'⟩ := oa
  refine lv_aload_n hx hb dL_law_1148 rfl (lv_at hl 1 rfl) ?_
  refine lg_arg F hM (lv_at hl 0 rfl) (lv_at hl 4 rfl) hi 1 (by decide) rfl dL_law_1149 dL_law_1150 dL_law_1152 dL_law_1153 dL_law_1154 ?_
  refine lg_callX (as := [xs (i + 1)]) (st := []) F S hM C_D_late lv_RL_139 rfl rfl (by decide) (by decide) (by omega) (by omega) hl.1 (Nat.le_of_ble_eq_true rfl) ex dL_law_1155 (fun H1 l1 hM1 => ?_)
  refine lv_aload_n hx hb dL_law_1158 rfl (lv_at hl 2 rfl) ?_
  refine lg_arg F hM1 (lv_at hl 0 rfl) (lv_at hl 4 rfl) hi 1 (by decide) rfl dL_law_1159 dL_law_1160 dL_law_1162 dL_law_1163 dL_law_1164 ?_
  refine lg_callM (as := [xs (i + 1)]) (st := [.int (Int32.ofInt a)]) F S hM1 C_M_late lv_RL_142 rfl rfl (by decide) (by decide) (by omega) (by omega) hl.1 (Nat.le_of_ble_eq_true rfl) em dL_law_1165 (fun H2 l2 hM2 => ?_)
  exact lv_icmp_eq hx hb dL_law_1168 (tgt := 1447) rfl (fun _ => kk σ' μ' τ H2 l2 ls cells slots hM2 hR' (by omega) (by omega) hl) (fun hne => absurd (lg_eq hab) hne)
/-- see -/
theorem cs_26 {p : Program} {l : Launch} {e : Env} {s : State} {m : MethodId} {below : List Frame} {meth : Method} {c : Code} {b L : Nat} {xs : Nat → Int32} {D : va_G} {cA : Nat → ClassId} {adX adM : Nat → Nat} {o : Nat} {σ μ τ : Me} {H : Heap} {locs : List Loc} {cells slots : Nat} {Q : State → Prop} {ls : Array Slot} {i : Nat} (F : lg_F p l s m c b L xs D cA) (S : lg_S s cA adX adM o) (hM : lg_M s D cA adX adM o σ μ τ H locs) (hR : Rl σ μ) (hl : lg_L b adX adM o i ls) (hi : i + 6 ≤ L) (hce : cells + 1 ≤ 601024) (hsl : slots + 6 ≤ 7293034) (kk : lg_K p l e s m below meth c b D cA adX adM o i cells slots Q) : W p l e room_1 s m #[Value.ref b] below meth c H locs cells slots Q (F0 m 1173 ls []) := by
  obtain ⟨hx, hb, -⟩ := id F
  unfold lg_L at hl
  have oa : opR (m_D_see (0 :: ([xs (i + 1), xs (i + 2), xs (i + 3)] : List Int32).map Int32.toInt) σ) (m_M_see (0 :: ([xs (i + 1), xs (i + 2), xs (i + 3)] : List Int32).map Int32.toInt) μ) := op_see hR (lg_rg _) (lg_rg _) (lg_rg _)
  obtain ⟨a, a', σ', μ', ex, em, hab, hR'⟩ := oa
  refine lv_aload_n hx hb dL_law_1173 rfl (lv_at hl 1 rfl) ?_
  refine lg_arg F hM (lv_at hl 0 rfl) (lv_at hl 4 rfl) hi 1 (by decide) rfl dL_law_1174 dL_law_1175 dL_law_1177 dL_law_1178 dL_law_1179 ?_
  refine lg_arg F hM (lv_at hl 0 rfl) (lv_at hl 4 rfl) hi 2 (by decide) rfl dL_law_1180 dL_law_1181 dL_law_1183 dL_law_1184 dL_law_1185 ?_
  refine lg_arg F hM (lv_at hl 0 rfl) (lv_at hl 4 rfl) hi 3 (by decide) rfl dL_law_1186 dL_law_1187 dL_law_1189 dL_law_1190 dL_law_1191 ?_
  refine lg_callX (as := [xs (i + 1), xs (i + 2), xs (i + 3)]) (st := []) F S hM C_D_see lv_RL_143 rfl rfl (by decide) (by decide) (by omega) (by omega) hl.1 (Nat.le_of_ble_eq_true rfl) ex dL_law_1192 (fun H1 l1 hM1 => ?_)
  refine lv_aload_n hx hb dL_law_1195 rfl (lv_at hl 2 rfl) ?_
  refine lg_arg F hM1 (lv_at hl 0 rfl) (lv_at hl 4 rfl) hi 1 (by decide) rfl dL_law_1196 dL_law_1197 dL_law_1199 dL_law_1200 dL_law_1201 ?_
  refine lg_arg F hM1 (lv_at hl 0 rfl) (lv_at hl 4 rfl) hi 2 (by decide) rfl dL_law_1202 dL_law_1203 dL_law_1205 dL_law_1206 dL_law_1207 ?_
  refine lg_arg F hM1 (lv_at hl 0 rfl) (lv_at hl 4 rfl) hi 3 (by decide) rfl dL_law_1208 dL_law_1209 dL_law_1211 dL_law_1212 dL_law_1213 ?_
  refine lg_callM (as := [xs (i + 1), xs (i + 2), xs (i + 3)]) (st := [.int (Int32.ofInt a)]) F S hM1 C_M_see lv_RL_146 rfl rfl (by decide) (by decide) (by omega) (by omega) hl.1 (Nat.le_of_ble_eq_true rfl) em dL_law_1214 (fun H2 l2 hM2 => ?_)
  exact lv_icmp_eq hx hb dL_law_1217 (tgt := 1447) rfl (fun _ => kk σ' μ' τ H2 l2 ls cells slots hM2 hR' (by omega) (by omega) hl) (fun hne => absurd (lg_eq hab) hne)
/-- night -/
theorem cs_27 {p : Program} {l : Launch} {e : Env} {s : State} {m : MethodId} {below : List Frame} {meth : Method} {c : Code} {b L : Nat} {xs : Nat → Int32} {D : va_G} {cA : Nat → ClassId} {adX adM : Nat → Nat} {o : Nat} {σ μ τ : Me} {H : Heap} {locs : List Loc} {cells slots : Nat} {Q : State → Prop} {ls : Array Slot} {i : Nat} (F : lg_F p l s m c b L xs D cA) (S : lg_S s cA adX adM o) (hM : lg_M s D cA adX adM o σ μ τ H locs) (hR : Rl σ μ) (hl : lg_L b adX adM o i ls) (hi : i + 6 ≤ L) (hce : cells + 1 ≤ 601024) (hsl : slots + 6 ≤ 7293034) (kk : lg_K p l e s m below meth c b D cA adX adM o i cells slots Q) : W p l e room_1 s m #[Value.ref b] below meth c H locs cells slots Q (F0 m 1222 ls []) := by
  obtain ⟨hx, hb, -⟩ := id F
  unfold lg_L at hl
  have oa : opR (m_D_night (0 :: ([] : List Int32).map Int32.toInt) σ) (m_M_night (0 :: ([] : List Int32).map Int32.toInt) μ) := op_night hR
  obtain ⟨a, a', σ', μ', ex, em, hab, hR'⟩ := oa
  refine lv_aload_n hx hb dL_law_1222 rfl (lv_at hl 1 rfl) ?_
  refine lg_callX (as := []) (st := []) F S hM C_D_night lv_RL_147 rfl rfl (by decide) (by decide) (by omega) (by omega) hl.1 (Nat.le_of_ble_eq_true rfl) ex dL_law_1223 (fun H1 l1 hM1 => ?_)
  refine lv_aload_n hx hb dL_law_1226 rfl (lv_at hl 2 rfl) ?_
  refine lg_callM (as := []) (st := [.int (Int32.ofInt a)]) F S hM1 C_M_night lv_RL_150 rfl rfl (by decide) (by decide) (by omega) (by omega) hl.1 (Nat.le_of_ble_eq_true rfl) em dL_law_1227 (fun H2 l2 hM2 => ?_)
  exact lv_icmp_eq hx hb dL_law_1230 (tgt := 1447) rfl (fun _ => kk σ' μ' τ H2 l2 ls cells slots hM2 hR' (by omega) (by omega) hl) (fun hne => absurd (lg_eq hab) hne)
/-- led -/
theorem cs_28 {p : Program} {l : Launch} {e : Env} {s : State} {m : MethodId} {below : List Frame} {meth : Method} {c : Code} {b L : Nat} {xs : Nat → Int32} {D : va_G} {cA : Nat → ClassId} {adX adM : Nat → Nat} {o : Nat} {σ μ τ : Me} {H : Heap} {locs : List Loc} {cells slots : Nat} {Q : State → Prop} {ls : Array Slot} {i : Nat} (F : lg_F p l s m c b L xs D cA) (S : lg_S s cA adX adM o) (hM : lg_M s D cA adX adM o σ μ τ H locs) (hR : Rl σ μ) (hl : lg_L b adX adM o i ls) (hi : i + 6 ≤ L) (hce : cells + 1 ≤ 601024) (hsl : slots + 6 ≤ 7293034) (kk : lg_K p l e s m below meth c b D cA adX adM o i cells slots Q) : W p l e room_1 s m #[Value.ref b] below meth c H locs cells slots Q (F0 m 1235 ls []) := by
  obtain ⟨hx, hb, -⟩ := id F
  unfold lg_L at hl
  have oa : opR (m_D_led (0 :: ([xs (i + 1)] : List Int32).map Int32.toInt) σ) (m_M_led (0 :: ([xs (i + 1)] : List Int32).map Int32.toInt) μ) := op_led hR (lg_rg _)
  obtain ⟨a, a', σ', μ', ex, em, hab, hR'⟩ := oa
  refine lv_aload_n hx hb dL_law_1235 rfl (lv_at hl 1 rfl) ?_
  refine lg_arg F hM (lv_at hl 0 rfl) (lv_at hl 4 rfl) hi 1 (by decide) rfl dL_law_1236 dL_law_1237 dL_law_1239 dL_law_1240 dL_law_1241 ?_
  refine lg_callX (as := [xs (i + 1)]) (st := []) F S hM C_D_led lv_RL_151 rfl rfl (by decide) (by decide) (by omega) (by omega) hl.1 (Nat.le_of_ble_eq_true rfl) ex dL_law_1242 (fun H1 l1 hM1 => ?_)
  refine lv_aload_n hx hb dL_law_1245 rfl (lv_at hl 2 rfl) ?_
  refine lg_arg F hM1 (lv_at hl 0 rfl) (lv_at hl 4 rfl) hi 1 (by decide) rfl dL_law_1246 dL_law_1247 dL_law_1249 dL_law_1250 dL_law_1251 ?_
  refine lg_callM (as := [xs (i + 1)]) (st := [.int (Int32.ofInt a)]) F S hM1 C_M_led lv_RL_154 rfl rfl (by decide) (by decide) (by omega) (by omega) hl.1 (Nat.le_of_ble_eq_true rfl) em dL_law_1252 (fun H2 l2 hM2 => ?_)
  exact lv_icmp_eq hx hb dL_law_1255 (tgt := 1447) rfl (fun _ => kk σ' μ' τ H2 l2 ls cells slots hM2 hR' (by omega) (by omega) hl) (fun hne => absurd (lg_eq hab) hne)
/-- dam -/
theorem cs_29 {p : Program} {l : Launch} {e : Env} {s : State} {m : MethodId} {below : List Frame} {meth : Method} {c : Code} {b L : Nat} {xs : Nat → Int32} {D : va_G} {cA : Nat → ClassId} {adX adM : Nat → Nat} {o : Nat} {σ μ τ : Me} {H : Heap} {locs : List Loc} {cells slots : Nat} {Q : State → Prop} {ls : Array Slot} {i : Nat} (F : lg_F p l s m c b L xs D cA) (S : lg_S s cA adX adM o) (hM : lg_M s D cA adX adM o σ μ τ H locs) (hR : Rl σ μ) (hl : lg_L b adX adM o i ls) (hi : i + 6 ≤ L) (hce : cells + 1 ≤ 601024) (hsl : slots + 6 ≤ 7293034) (kk : lg_K p l e s m below meth c b D cA adX adM o i cells slots Q) : W p l e room_1 s m #[Value.ref b] below meth c H locs cells slots Q (F0 m 1260 ls []) := by
  obtain ⟨hx, hb, -⟩ := id F
  unfold lg_L at hl
  have oa : opR (m_D_dam (0 :: ([xs (i + 1), xs (i + 2)] : List Int32).map Int32.toInt) σ) (m_M_dam (0 :: ([xs (i + 1), xs (i + 2)] : List Int32).map Int32.toInt) μ) := op_dam hR (lg_rg _) (lg_rg _)
  obtain ⟨a, a', σ', μ', ex, em, hab, hR'⟩ := oa
  refine lv_aload_n hx hb dL_law_1260 rfl (lv_at hl 1 rfl) ?_
  refine lg_arg F hM (lv_at hl 0 rfl) (lv_at hl 4 rfl) hi 1 (by decide) rfl dL_law_1261 dL_law_1262 dL_law_1264 dL_law_1265 dL_law_1266 ?_
  refine lg_arg F hM (lv_at hl 0 rfl) (lv_at hl 4 rfl) hi 2 (by decide) rfl dL_law_1267 dL_law_1268 dL_law_1270 dL_law_1271 dL_law_1272 ?_
  refine lg_callX (as := [xs (i + 1), xs (i + 2)]) (st := []) F S hM C_D_dam lv_RL_155 rfl rfl (by decide) (by decide) (by omega) (by omega) hl.1 (Nat.le_of_ble_eq_true rfl) ex dL_law_1273 (fun H1 l1 hM1 => ?_)
  refine lv_aload_n hx hb dL_law_1276 rfl (lv_at hl 2 rfl) ?_
  refine lg_arg F hM1 (lv_at hl 0 rfl) (lv_at hl 4 rfl) hi 1 (by decide) rfl dL_law_1277 dL_law_1278 dL_law_1280 dL_law_1281 dL_law_1282 ?_
  refine lg_arg F hM1 (lv_at hl 0 rfl) (lv_at hl 4 rfl) hi 2 (by decide) rfl dL_law_1283 dL_law_1284 dL_law_1286 dL_law_1287 dL_law_1288 ?_
  refine lg_callM (as := [xs (i + 1), xs (i + 2)]) (st := [.int (Int32.ofInt a)]) F S hM1 C_M_dam lv_RL_158 rfl rfl (by decide) (by decide) (by omega) (by omega) hl.1 (Nat.le_of_ble_eq_true rfl) em dL_law_1289 (fun H2 l2 hM2 => ?_)
  exact lv_icmp_eq hx hb dL_law_1292 (tgt := 1447) rfl (fun _ => kk σ' μ' τ H2 l2 ls cells slots hM2 hR' (by omega) (by omega) hl) (fun hne => absurd (lg_eq hab) hne)
/-- rain -/
theorem cs_30 {p : Program} {l : Launch} {e : Env} {s : State} {m : MethodId} {below : List Frame} {meth : Method} {c : Code} {b L : Nat} {xs : Nat → Int32} {D : va_G} {cA : Nat → ClassId} {adX adM : Nat → Nat} {o : Nat} {σ μ τ : Me} {H : Heap} {locs : List Loc} {cells slots : Nat} {Q : State → Prop} {ls : Array Slot} {i : Nat} (F : lg_F p l s m c b L xs D cA) (S : lg_S s cA adX adM o) (hM : lg_M s D cA adX adM o σ μ τ H locs) (hR : Rl σ μ) (hl : lg_L b adX adM o i ls) (hi : i + 6 ≤ L) (hce : cells + 1 ≤ 601024) (hsl : slots + 6 ≤ 7293034) (kk : lg_K p l e s m below meth c b D cA adX adM o i cells slots Q) : W p l e room_1 s m #[Value.ref b] below meth c H locs cells slots Q (F0 m 1297 ls []) := by
  obtain ⟨hx, hb, -⟩ := id F
  unfold lg_L at hl
  have oa : opR (m_D_rain (0 :: ([xs (i + 1), xs (i + 2)] : List Int32).map Int32.toInt) σ) (m_M_rain (0 :: ([xs (i + 1), xs (i + 2)] : List Int32).map Int32.toInt) μ) := op_rain hR (lg_rg _) (lg_rg _)
  obtain ⟨a, a', σ', μ', ex, em, hab, hR'⟩ := oa
  refine lv_aload_n hx hb dL_law_1297 rfl (lv_at hl 1 rfl) ?_
  refine lg_arg F hM (lv_at hl 0 rfl) (lv_at hl 4 rfl) hi 1 (by decide) rfl dL_law_1298 dL_law_1299 dL_law_1301 dL_law_1302 dL_law_1303 ?_
  refine lg_arg F hM (lv_at hl 0 rfl) (lv_at hl 4 rfl) hi 2 (by decide) rfl dL_law_1304 dL_law_1305 dL_law_1307 dL_law_1308 dL_law_1309 ?_
  refine lg_callX (as := [xs (i + 1), xs (i + 2)]) (st := []) F S hM C_D_rain lv_RL_159 rfl rfl (by decide) (by decide) (by omega) (by omega) hl.1 (Nat.le_of_ble_eq_true rfl) ex dL_law_1310 (fun H1 l1 hM1 => ?_)
  refine lv_aload_n hx hb dL_law_1313 rfl (lv_at hl 2 rfl) ?_
  refine lg_arg F hM1 (lv_at hl 0 rfl) (lv_at hl 4 rfl) hi 1 (by decide) rfl dL_law_1314 dL_law_1315 dL_law_1317 dL_law_1318 dL_law_1319 ?_
  refine lg_arg F hM1 (lv_at hl 0 rfl) (lv_at hl 4 rfl) hi 2 (by decide) rfl dL_law_1320 dL_law_1321 dL_law_1323 dL_law_1324 dL_law_1325 ?_
  refine lg_callM (as := [xs (i + 1), xs (i + 2)]) (st := [.int (Int32.ofInt a)]) F S hM1 C_M_rain lv_RL_162 rfl rfl (by decide) (by decide) (by omega) (by omega) hl.1 (Nat.le_of_ble_eq_true rfl) em dL_law_1326 (fun H2 l2 hM2 => ?_)
  exact lv_icmp_eq hx hb dL_law_1329 (tgt := 1447) rfl (fun _ => kk σ' μ' τ H2 l2 ls cells slots hM2 hR' (by omega) (by omega) hl) (fun hne => absurd (lg_eq hab) hne)
/-- sentence -/
theorem cs_31 {p : Program} {l : Launch} {e : Env} {s : State} {m : MethodId} {below : List Frame} {meth : Method} {c : Code} {b L : Nat} {xs : Nat → Int32} {D : va_G} {cA : Nat → ClassId} {adX adM : Nat → Nat} {o : Nat} {σ μ τ : Me} {H : Heap} {locs : List Loc} {cells slots : Nat} {Q : State → Prop} {ls : Array Slot} {i : Nat} (F : lg_F p l s m c b L xs D cA) (S : lg_S s cA adX adM o) (hM : lg_M s D cA adX adM o σ μ τ H locs) (hR : Rl σ μ) (hl : lg_L b adX adM o i ls) (hi : i + 6 ≤ L) (hce : cells + 1 ≤ 601024) (hsl : slots + 6 ≤ 7293034) (kk : lg_K p l e s m below meth c b D cA adX adM o i cells slots Q) : W p l e room_1 s m #[Value.ref b] below meth c H locs cells slots Q (F0 m 1334 ls []) := by
  obtain ⟨hx, hb, -⟩ := id F
  unfold lg_L at hl
  have oa : opR (m_D_sentence (0 :: ([] : List Int32).map Int32.toInt) σ) (m_M_sentence (0 :: ([] : List Int32).map Int32.toInt) μ) := op_sentence hR
  obtain ⟨a, a', σ', μ', ex, em, hab, hR'⟩ := oa
  refine lv_aload_n hx hb dL_law_1334 rfl (lv_at hl 1 rfl) ?_
  refine lg_callX (as := []) (st := []) F S hM C_D_sentence lv_RL_163 rfl rfl (by decide) (by decide) (by omega) (by omega) hl.1 (Nat.le_of_ble_eq_true rfl) ex dL_law_1335 (fun H1 l1 hM1 => ?_)
  refine lv_aload_n hx hb dL_law_1338 rfl (lv_at hl 2 rfl) ?_
  refine lg_callM (as := []) (st := [.int (Int32.ofInt a)]) F S hM1 C_M_sentence lv_RL_166 rfl rfl (by decide) (by decide) (by omega) (by omega) hl.1 (Nat.le_of_ble_eq_true rfl) em dL_law_1339 (fun H2 l2 hM2 => ?_)
  exact lv_icmp_eq hx hb dL_law_1342 (tgt := 1447) rfl (fun _ => kk σ' μ' τ H2 l2 ls cells slots hM2 hR' (by omega) (by omega) hl) (fun hne => absurd (lg_eq hab) hne)
/-- said -/
theorem cs_32 {p : Program} {l : Launch} {e : Env} {s : State} {m : MethodId} {below : List Frame} {meth : Method} {c : Code} {b L : Nat} {xs : Nat → Int32} {D : va_G} {cA : Nat → ClassId} {adX adM : Nat → Nat} {o : Nat} {σ μ τ : Me} {H : Heap} {locs : List Loc} {cells slots : Nat} {Q : State → Prop} {ls : Array Slot} {i : Nat} (F : lg_F p l s m c b L xs D cA) (S : lg_S s cA adX adM o) (hM : lg_M s D cA adX adM o σ μ τ H locs) (hR : Rl σ μ) (hl : lg_L b adX adM o i ls) (hi : i + 6 ≤ L) (hce : cells + 1 ≤ 601024) (hsl : slots + 6 ≤ 7293034) (kk : lg_K p l e s m below meth c b D cA adX adM o i cells slots Q) : W p l e room_1 s m #[Value.ref b] below meth c H locs cells slots Q (F0 m 1347 ls []) := by
  obtain ⟨hx, hb, -⟩ := id F
  unfold lg_L at hl
  have oa : opR (m_D_said (0 :: ([xs (i + 1)] : List Int32).map Int32.toInt) σ) (m_M_said (0 :: ([xs (i + 1)] : List Int32).map Int32.toInt) μ) := op_said hR (lg_rg _)
  obtain ⟨a, a', σ', μ', ex, em, hab, hR'⟩ := oa
  refine lv_aload_n hx hb dL_law_1347 rfl (lv_at hl 1 rfl) ?_
  refine lg_arg F hM (lv_at hl 0 rfl) (lv_at hl 4 rfl) hi 1 (by decide) rfl dL_law_1348 dL_law_1349 dL_law_1351 dL_law_1352 dL_law_1353 ?_
  refine lg_callX (as := [xs (i + 1)]) (st := []) F S hM C_D_said lv_RL_167 rfl rfl (by decide) (by decide) (by omega) (by omega) hl.1 (Nat.le_of_ble_eq_true rfl) ex dL_law_1354 (fun H1 l1 hM1 => ?_)
  refine lv_aload_n hx hb dL_law_1357 rfl (lv_at hl 2 rfl) ?_
  refine lg_arg F hM1 (lv_at hl 0 rfl) (lv_at hl 4 rfl) hi 1 (by decide) rfl dL_law_1358 dL_law_1359 dL_law_1361 dL_law_1362 dL_law_1363 ?_
  refine lg_callM (as := [xs (i + 1)]) (st := [.int (Int32.ofInt a)]) F S hM1 C_M_said lv_RL_170 rfl rfl (by decide) (by decide) (by omega) (by omega) hl.1 (Nat.le_of_ble_eq_true rfl) em dL_law_1364 (fun H2 l2 hM2 => ?_)
  exact lv_icmp_eq hx hb dL_law_1367 (tgt := 1447) rfl (fun _ => kk σ' μ' τ H2 l2 ls cells slots hM2 hR' (by omega) (by omega) hl) (fun hne => absurd (lg_eq hab) hne)
/-- image -/
theorem cs_33 {p : Program} {l : Launch} {e : Env} {s : State} {m : MethodId} {below : List Frame} {meth : Method} {c : Code} {b L : Nat} {xs : Nat → Int32} {D : va_G} {cA : Nat → ClassId} {adX adM : Nat → Nat} {o : Nat} {σ μ τ : Me} {H : Heap} {locs : List Loc} {cells slots : Nat} {Q : State → Prop} {ls : Array Slot} {i : Nat} (F : lg_F p l s m c b L xs D cA) (S : lg_S s cA adX adM o) (hM : lg_M s D cA adX adM o σ μ τ H locs) (hR : Rl σ μ) (hl : lg_L b adX adM o i ls) (hi : i + 6 ≤ L) (hce : cells + 1 ≤ 601024) (hsl : slots + 6 ≤ 7293034) (kk : lg_K p l e s m below meth c b D cA adX adM o i cells slots Q) : W p l e room_1 s m #[Value.ref b] below meth c H locs cells slots Q (F0 m 1372 ls []) := by
  obtain ⟨hx, hb, -⟩ := id F
  unfold lg_L at hl
  have oa : opR (m_D_image (0 :: ([xs (i + 1)] : List Int32).map Int32.toInt) σ) (m_M_image (0 :: ([xs (i + 1)] : List Int32).map Int32.toInt) μ) := op_image hR (lg_rg _)
  obtain ⟨a, a', σ', μ', ex, em, hab, hR'⟩ := oa
  refine lv_aload_n hx hb dL_law_1372 rfl (lv_at hl 1 rfl) ?_
  refine lg_arg F hM (lv_at hl 0 rfl) (lv_at hl 4 rfl) hi 1 (by decide) rfl dL_law_1373 dL_law_1374 dL_law_1376 dL_law_1377 dL_law_1378 ?_
  refine lg_callX (as := [xs (i + 1)]) (st := []) F S hM C_D_image lv_RL_171 rfl rfl (by decide) (by decide) (by omega) (by omega) hl.1 (Nat.le_of_ble_eq_true rfl) ex dL_law_1379 (fun H1 l1 hM1 => ?_)
  refine lv_aload_n hx hb dL_law_1382 rfl (lv_at hl 2 rfl) ?_
  refine lg_arg F hM1 (lv_at hl 0 rfl) (lv_at hl 4 rfl) hi 1 (by decide) rfl dL_law_1383 dL_law_1384 dL_law_1386 dL_law_1387 dL_law_1388 ?_
  refine lg_callM (as := [xs (i + 1)]) (st := [.int (Int32.ofInt a)]) F S hM1 C_M_image lv_RL_174 rfl rfl (by decide) (by decide) (by omega) (by omega) hl.1 (Nat.le_of_ble_eq_true rfl) em dL_law_1389 (fun H2 l2 hM2 => ?_)
  exact lv_icmp_eq hx hb dL_law_1392 (tgt := 1447) rfl (fun _ => kk σ' μ' τ H2 l2 ls cells slots hM2 hR' (by omega) (by omega) hl) (fun hne => absurd (lg_eq hab) hne)
/-- restore -/
theorem cs_34 {p : Program} {l : Launch} {e : Env} {s : State} {m : MethodId} {below : List Frame} {meth : Method} {c : Code} {b L : Nat} {xs : Nat → Int32} {D : va_G} {cA : Nat → ClassId} {adX adM : Nat → Nat} {o : Nat} {σ μ τ : Me} {H : Heap} {locs : List Loc} {cells slots : Nat} {Q : State → Prop} {ls : Array Slot} {i : Nat} (F : lg_F p l s m c b L xs D cA) (S : lg_S s cA adX adM o) (hM : lg_M s D cA adX adM o σ μ τ H locs) (hR : Rl σ μ) (hl : lg_L b adX adM o i ls) (hi : i + 6 ≤ L) (hce : cells + 1 ≤ 601024) (hsl : slots + 6 ≤ 7293034) (kk : lg_K p l e s m below meth c b D cA adX adM o i cells slots Q) : W p l e room_1 s m #[Value.ref b] below meth c H locs cells slots Q (F0 m 1397 ls []) := by
  obtain ⟨hx, hb, -⟩ := id F
  unfold lg_L at hl
  have oa : opR (m_D_restore (0 :: ([xs (i + 1)] : List Int32).map Int32.toInt) σ) (m_M_restore (0 :: ([xs (i + 1)] : List Int32).map Int32.toInt) μ) := op_restore hR (lg_rg _)
  obtain ⟨a, a', σ', μ', ex, em, hab, hR'⟩ := oa
  refine lv_aload_n hx hb dL_law_1397 rfl (lv_at hl 1 rfl) ?_
  refine lg_arg F hM (lv_at hl 0 rfl) (lv_at hl 4 rfl) hi 1 (by decide) rfl dL_law_1398 dL_law_1399 dL_law_1401 dL_law_1402 dL_law_1403 ?_
  refine lg_callX (as := [xs (i + 1)]) (st := []) F S hM C_D_restore lv_RL_175 rfl rfl (by decide) (by decide) (by omega) (by omega) hl.1 (Nat.le_of_ble_eq_true rfl) ex dL_law_1404 (fun H1 l1 hM1 => ?_)
  refine lv_aload_n hx hb dL_law_1407 rfl (lv_at hl 2 rfl) ?_
  refine lg_arg F hM1 (lv_at hl 0 rfl) (lv_at hl 4 rfl) hi 1 (by decide) rfl dL_law_1408 dL_law_1409 dL_law_1411 dL_law_1412 dL_law_1413 ?_
  refine lg_callM (as := [xs (i + 1)]) (st := [.int (Int32.ofInt a)]) F S hM1 C_M_restore lv_RL_178 rfl rfl (by decide) (by decide) (by omega) (by omega) hl.1 (Nat.le_of_ble_eq_true rfl) em dL_law_1414 (fun H2 l2 hM2 => ?_)
  exact lv_icmp_eq hx hb dL_law_1417 (tgt := 1447) rfl (fun _ => kk σ' μ' τ H2 l2 ls cells slots hM2 hR' (by omega) (by omega) hl) (fun hne => absurd (lg_eq hab) hne)
/-- count -/
theorem cs_35 {p : Program} {l : Launch} {e : Env} {s : State} {m : MethodId} {below : List Frame} {meth : Method} {c : Code} {b L : Nat} {xs : Nat → Int32} {D : va_G} {cA : Nat → ClassId} {adX adM : Nat → Nat} {o : Nat} {σ μ τ : Me} {H : Heap} {locs : List Loc} {cells slots : Nat} {Q : State → Prop} {ls : Array Slot} {i : Nat} (F : lg_F p l s m c b L xs D cA) (S : lg_S s cA adX adM o) (hM : lg_M s D cA adX adM o σ μ τ H locs) (hR : Rl σ μ) (hl : lg_L b adX adM o i ls) (hi : i + 6 ≤ L) (hce : cells + 1 ≤ 601024) (hsl : slots + 6 ≤ 7293034) (kk : lg_K p l e s m below meth c b D cA adX adM o i cells slots Q) : W p l e room_1 s m #[Value.ref b] below meth c H locs cells slots Q (F0 m 1422 ls []) := by
  obtain ⟨hx, hb, -⟩ := id F
  unfold lg_L at hl
  have oa : opR (m_D_count (0 :: ([xs (i + 1)] : List Int32).map Int32.toInt) σ) (m_M_count (0 :: ([xs (i + 1)] : List Int32).map Int32.toInt) μ) := op_count hR (lg_rg _)
  obtain ⟨a, a', σ', μ', ex, em, hab, hR'⟩ := oa
  refine lv_aload_n hx hb dL_law_1422 rfl (lv_at hl 1 rfl) ?_
  refine lg_arg F hM (lv_at hl 0 rfl) (lv_at hl 4 rfl) hi 1 (by decide) rfl dL_law_1423 dL_law_1424 dL_law_1426 dL_law_1427 dL_law_1428 ?_
  refine lg_callX (as := [xs (i + 1)]) (st := []) F S hM C_D_count lv_RL_179 rfl rfl (by decide) (by decide) (by omega) (by omega) hl.1 (Nat.le_of_ble_eq_true rfl) ex dL_law_1429 (fun H1 l1 hM1 => ?_)
  refine lv_aload_n hx hb dL_law_1432 rfl (lv_at hl 2 rfl) ?_
  refine lg_arg F hM1 (lv_at hl 0 rfl) (lv_at hl 4 rfl) hi 1 (by decide) rfl dL_law_1433 dL_law_1434 dL_law_1436 dL_law_1437 dL_law_1438 ?_
  refine lg_callM (as := [xs (i + 1)]) (st := [.int (Int32.ofInt a)]) F S hM1 C_M_count lv_RL_182 rfl rfl (by decide) (by decide) (by omega) (by omega) hl.1 (Nat.le_of_ble_eq_true rfl) em dL_law_1439 (fun H2 l2 hM2 => ?_)
  exact lv_icmp_eq hx hb dL_law_1442 (tgt := 1447) rfl (fun _ => kk σ' μ' τ H2 l2 ls cells slots hM2 hR' (by omega) (by omega) hl) (fun hne => absurd (lg_eq hab) hne)
