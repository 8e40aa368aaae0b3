set_option maxHeartbeats 8000000 in
theorem op_sentence {σ μ : Me} (h : Rl σ μ) : opR (m_D_sentence [0] σ) (m_M_sentence [0] μ) := by
  obtain ⟨σ1, hσ1⟩ : ∃ σ1, σ1 = u2 (u2 σ 4032 0 0) 4033 0 0 := ⟨_, rfl⟩
  have σf : ∀ v, ¬ (4032 ≤ v ∧ v < 4416) → σ1 v = σ v := fun v hv => by rw [hσ1, u2_o (by omega), u2_o (by omega)]
  have xrel : ∀ v, relX v = true ∨ relP v = true → ¬ (66 ≤ v ∧ v ≤ 75) ∧ ¬ (4032 ≤ v ∧ v < 4416) := fun v h4 => by
    rcases h4 with h4 | h4
    · simp only [relX, Bool.or_eq_true, Bool.and_eq_true, decide_eq_true_eq, beq_iff_eq] at h4
      omega
    · simp only [relP, Bool.or_eq_true, Bool.and_eq_true, decide_eq_true_eq, beq_iff_eq] at h4
      omega
  have nrel : ∀ v, relM v = true → v ≠ 2 → v ≠ 10 → ¬ (2 ≤ v ∧ v ≤ 13) ∧ ¬ (50 ≤ v ∧ v ≤ 53) ∧ v ≠ 1600 ∧ v ≠ 128 := fun v hv h1 h2 => by
    simp only [relM, Bool.or_eq_true, Bool.and_eq_true, decide_eq_true_eq, beq_iff_eq] at hv
    omega
  have R1 : Rl σ1 μ := ⟨RA_ag h.1 (fun v hv => σf v (xrel v (Or.inl hv)).2) (fun _ _ => rfl) h.1.1 rfl, RP_ag h.2 (fun v hv => σf v (xrel v (Or.inr hv)).2)⟩
  obtain ⟨ν, s, m, y, T, p, b1, b2, b3, b4, b5, b6, b7, b8, b9, b10, b11⟩ := begin_ok (lim := 200) R1 (by omega)
  simp only [Int.cast_ofNat_Int] at b5 b6
  have hs := b3.1.2.1
  have nN : nwM ν = ν 128 := nwM_1 b2
  rw [nN] at hs
  obtain ⟨N, hN⟩ : ∃ N, N = ν 128 := ⟨_, rfl⟩
  rw [← hN] at hs
  have c1 := hs.1.1.1
  have hc : ctN N := ⟨c1.1, c1.2.1, c1.2.2.1, c1.2.2.2.1⟩
  obtain ⟨m0, hm0⟩ : ∃ m0, m0 = u2 (u2 (u2 m 50 0 0) 51 0 0) 52 0 0 := ⟨_, rfl⟩
  have mf : ∀ v, ¬ (50 ≤ v ∧ v ≤ 53) → m0 v = m v := fun v h1 => by rw [hm0, u2_o (by omega), u2_o (by omega), u2_o (by omega)]
  have T0 : TR s m0 y T 200 p := TR_fr b7 (fun _ _ => rfl) (fun v hv => mf v (by omega))
  have nm : nmH s m0 N := by
    refine ⟨?_, fun i _ => by rw [mf _ (by decide), b11 _ (by decide), hN]⟩
    rw [mf _ (by decide), b11 _ (by decide)]
    exact nm2_s hs.2.2.1 (fun v h1 h2 => b10 v (by omega))
  have D0 : SD s m0 N 0 0 0 := by
    refine ⟨by rw [b10 _ (by decide), hσ1]; simp [u2], by rw [hm0]; simp [u2], by omega, by rw [b10 _ (by decide), hσ1]; simp [u2], by rw [hm0]; simp [u2], by omega, by omega, fun i hi => by omega, fun i hi => by omega, fun V n hn => ?_⟩
    have : n = 0 := by omega
    subst this
    simp [evL]
  obtain ⟨s', x1, x2, x3⟩ := cond_P hc s m0 y T 200 p 0 0 0 T0 nm D0 (by rw [hm0]; simp [u2])
  simp only [Int.cast_ofNat_Int, Int.natCast_zero, Int.zero_add] at x1
  obtain ⟨RC, hRC⟩ : ∃ f, f = (g_SentenceText_readCond 60).1 := ⟨_, rfl⟩
  obtain ⟨RO, hRO⟩ : ∃ f, f = (g_M_readOr 60).1 := ⟨_, rfl⟩
  rw [← hRC] at x1
  rw [← hRO] at x3
  rw [hσ1] at b5
  rw [hm0] at x3
  have sX : ∀ v, ¬ (65 ≤ v ∧ v ≤ 75) → ¬ (4032 ≤ v ∧ v < 4416) → s' v = σ1 v := fun v h1 h2 => by
    rw [x2 v (by omega) h2, b10 v h1]
  rw [← hm0] at x3
  have mX : ∀ m' : Me, gS m0 m' → ∀ v, ¬ (2 ≤ v ∧ v ≤ 13) → ¬ (50 ≤ v ∧ v ≤ 53) → v ≠ 1600 → m' v = ν v := fun m' hf v h1 h2 h3 => by
    rw [hf v (by omega) h2 h3, mf v h2, b11 v h1]
  have len : s' 65 0 = 0 := by rw [x2 _ (by decide) (by decide)]; exact b8
  -- a FAULT
  have bad : ∀ (t m' : Me), m_Tape_close [0] s' = some (0, t) → m_M_sentence [0] μ = some (-1 - m' 11 0, m') → FL t m' → gS m0 m' → fS s' t → opR (m_D_sentence [0] σ) (m_M_sentence [0] μ) := by
    intro t m' z0 em z2 z3 z4
    have fq : 1 ≤ t 74 0 ∧ t 74 0 ≤ 4 := by rw [z2.1]; exact ⟨z2.2.1, z2.2.2.1⟩
    obtain ⟨FT, hFT⟩ : ∃ FT, t 74 0 = FT := ⟨_, rfl⟩
    obtain ⟨FP, hFP⟩ : ∃ FP, t 75 0 = FP := ⟨_, rfl⟩
    have pb := z2.2.2.2
    rw [hFP] at pb
    rw [hFT] at fq
    rw [← pb.1] at em
    have ex : m_D_sentence [0] σ = some (-1 - FP, u2 t 1 0 FT) := by
      simp only [m_D_sentence, b_D_sentence, m_D_isRefused, b_D_isRefused, m_Sentence_forget, b_Sentence_forget]
      rw [← hRC]
      clear mX nrel xrel x3 em
      simp (disch := first | decide | omega) only [cE_K, vE_K, gE_K, o1K_0, o1K_i, o1_K, o2L_0, o2L_i, o2K_0, o2K_i, o2_K, thK_0, thK_i, th_K, dvL_0, dvL_i, dvK_0, dvK_i, dv_K, rmL_0, rmL_i, rmK_0, rmK_i, rm_K, dlL_0, dlL_i, dlK_0, dlK_i, dl_K, ldQ_0, ldQ_i, ldL_0, ldL_i, ldK_0, ldK_i, ld_K, kK_0, kK_i, k_K, aL_0, aL_i, aK_0, aK_i, aE_0, aE_1, clK_0, clK_i, cl_K, cBL_0, cBL_i, cBK_0, cBK_i, cB_K, zBK_0, zBK_i, zB_K, nBK_0, nBK_i, nB_K, andK_0, andK_i, and_K, orK_0, orK_i, or_K, tkK_0, tkK_i, tk_K, sk_K, stK_0, stK_i, st_K, exK_0, exK_i, ex_K, in_K, pfL_0, pfL_i, pfK_0, pfK_i, pf_K, pzL_0, pzL_i, pzK_0, pzK_i, pz_K, poL_0, poL_i, poK_0, poK_i, po_K, asQ_0, asQ_i, asM_0, asM_i, asL_0, asL_i, asK_0, asK_i, as_K, aoM_0, aoM_i, aoQ_0, aoQ_i, aoL_0, aoL_i, aoK_0, aoK_i, ao_K, sqK_0, sqK_1, sqK_2, sqK_3, sqK_4, sqK_i, sq_K, swK_0, swK_1, swK_2, swK_3, swK_4, swK_i, sw_K, ifK_0, ifK_i, if_K, br_K, ct_K, rv_K, thr_K, rtK_0, rtK_i, rt_K, mfK_0, mfK_i, mf_K, mzK_i, mzK_0, mz_K, cpK_0, cpT_0, cp_K, tsK_0, tsK_i, ts_K, tsP_hit, tsP_next, tsP_low, tsP_nil, ini_0, ini_1, rdU_0, rdU_i, rdB_0, rdB_1, rdB_2, rdB_3, rdB_4, rdB_i, rdC_0, rdC_i, rnd_K, cmpI, addI, subI, mulI, i2lI, l2iI, minI, maxI, idI, up, ok_some, ok_ite, w32_id, ix_id, Int.toNat_add, Int.toNat_mul, ltI_t, ltI_f, leI_t, leI_f, eqI_t, eqI_f, u2_s, u2_v, u2_i, w3_m2, w3_m1, w3_0, w3_1, w3_2, w3_3, w3_4, w3_5, w3_6, w3_7, w3_8, w3_9, w3_10, w3_12, w3_20, w3_23, w3_24, w3_25, w3_32, w3_40, w3_50, w3_100, w3_120, w3_168, w3_200, w3_240, w3_255, w3_500, w3_592, w3_600, w3_900, w3_940, w3_999, w3_1000, w3_1009, w3_1184, w3_3333, w3_9999, if_true, if_false, reduceIte, true_and, and_true, false_and, and_false, true_or, or_true, false_or, or_false, not_true_eq_false, not_false_eq_true, decide_true, decide_false, decide_eq_true_eq, Bool.not_true, Bool.not_false, Bool.false_eq_true, Bool.not_eq_true', Bool.not_eq_eq_eq_not, decide_eq_false_iff_not, Int.not_lt, Int.not_le, Nat.not_le, Nat.not_lt, Nat.le_refl, Int.le_refl, Nat.lt_irrefl, Int.lt_irrefl, reduceCtorEq, Nat.reduceEqDiff, Nat.reduceAdd, Nat.reduceMul, Nat.reduceBEq, Int.reduceNeg, Int.reduceAdd, Int.toNat_natCast, Int.reduceToNat, ne_eq, Nat.zero_ne_one, true_or, Int.ofNat_lt, Int.ofNat_le, Int.natCast_add, Int.cast_ofNat_Int, Int.natCast_zero, b5, x1, z0, hFT, hFP, Int.one_ne_zero]
    refine opR_mk ex em ?_
    refine Rl_flt b3 (fun v h1 h2 h3 h4 => ?_) (fun v hv h1 h2 h3 => ?_) ?_ ?_ ⟨0, by omega, ?_, ?_, fun i hi => by omega⟩ ⟨?_, ?_, ?_⟩
    · obtain ⟨q1, q2⟩ := xrel v h4
      have q3 : v ≠ 65 := h1
      rw [u2_o h3, z4 v (by omega) q2, sX v (by omega) q2]
    · obtain ⟨q1, q2, q3, q4⟩ := nrel v hv h1 h3
      exact mX m' z3 v q1 q2 q3
    · rw [mX m' z3 _ (by decide) (by decide) (by decide)]; exact Or.inr b2
    · unfold nwM
      rw [mX m' z3 _ (by decide) (by decide) (by decide), mX m' z3 _ (by decide) (by decide) (by decide)]
    · rw [u2_o (by decide), z4 _ (by decide) (by decide)]; exact len
    · rw [z3 _ (by decide) (by decide) (by decide), mf _ (by decide)]; exact b9
    · simp [u2]; rw [← hFT]; exact z2.1
    · rw [← z2.1, hFT]; omega
    · rw [← z2.1, hFT]; omega
  rcases x3 with ⟨mm, pp, g1, g2, g3, g4, g5, g6⟩ | ⟨mm, g1, g2, g3, g4⟩
  · obtain ⟨kb1, kb2, kb3, kb4, kb5⟩ := TK_b g2.2
    have f0 : s' 74 0 = 0 := g2.1.2.2.2.2.2.2.2.1
    have mf0 : mm 10 0 = 0 := g2.1.2.2.2.2.2.2.2.2
    have L9 := g2.1.1
    have fl : FL (rfX s' pp 1) (rfM mm pp 1) := FL_rf ⟨by omega, by omega⟩ (TR_p g2)
    have be := bad_eq (m := mm) (p := pp) (k := 1) g2.2.2.1 kb2 (fun q => rfl)
    have pl : rfM mm pp 1 11 0 = pp := by simp [rfM, u2]
    have mbad : 1 ≤ mm 7 0 → m_Tape_close [0] s' = some (0, rfX s' pp 1) → opR (m_D_sentence [0] σ) (m_M_sentence [0] μ) := by
      intro hk cl
      refine bad _ _ cl ?_ fl (gS_t g5 (gS_m rm_fr)) (fS_x rx_fr)
      rw [hm0] at g1
      simp only [m_M_sentence, b_M_sentence]
      rw [← hRO]
      clear bad mX nrel xrel cl
      simp (disch := first | decide | omega) only [cE_K, vE_K, gE_K, o1K_0, o1K_i, o1_K, o2L_0, o2L_i, o2K_0, o2K_i, o2_K, thK_0, thK_i, th_K, dvL_0, dvL_i, dvK_0, dvK_i, dv_K, rmL_0, rmL_i, rmK_0, rmK_i, rm_K, dlL_0, dlL_i, dlK_0, dlK_i, dl_K, ldQ_0, ldQ_i, ldL_0, ldL_i, ldK_0, ldK_i, ld_K, kK_0, kK_i, k_K, aL_0, aL_i, aK_0, aK_i, aE_0, aE_1, clK_0, clK_i, cl_K, cBL_0, cBL_i, cBK_0, cBK_i, cB_K, zBK_0, zBK_i, zB_K, nBK_0, nBK_i, nB_K, andK_0, andK_i, and_K, orK_0, orK_i, or_K, tkK_0, tkK_i, tk_K, sk_K, stK_0, stK_i, st_K, exK_0, exK_i, ex_K, in_K, pfL_0, pfL_i, pfK_0, pfK_i, pf_K, pzL_0, pzL_i, pzK_0, pzK_i, pz_K, poL_0, poL_i, poK_0, poK_i, po_K, asQ_0, asQ_i, asM_0, asM_i, asL_0, asL_i, asK_0, asK_i, as_K, aoM_0, aoM_i, aoQ_0, aoQ_i, aoL_0, aoL_i, aoK_0, aoK_i, ao_K, sqK_0, sqK_1, sqK_2, sqK_3, sqK_4, sqK_i, sq_K, swK_0, swK_1, swK_2, swK_3, swK_4, swK_i, sw_K, ifK_0, ifK_i, if_K, br_K, ct_K, rv_K, thr_K, rtK_0, rtK_i, rt_K, mfK_0, mfK_i, mf_K, mzK_i, mzK_0, mz_K, cpK_0, cpT_0, cp_K, tsK_0, tsK_i, ts_K, tsP_hit, tsP_next, tsP_low, tsP_nil, ini_0, ini_1, rdU_0, rdU_i, rdB_0, rdB_1, rdB_2, rdB_3, rdB_4, rdB_i, rdC_0, rdC_i, rnd_K, cmpI, addI, subI, mulI, i2lI, l2iI, minI, maxI, idI, up, ok_some, ok_ite, w32_id, ix_id, Int.toNat_add, Int.toNat_mul, ltI_t, ltI_f, leI_t, leI_f, eqI_t, eqI_f, u2_s, u2_v, u2_i, w3_m2, w3_m1, w3_0, w3_1, w3_2, w3_3, w3_4, w3_5, w3_6, w3_7, w3_8, w3_9, w3_10, w3_12, w3_20, w3_23, w3_24, w3_25, w3_32, w3_40, w3_50, w3_100, w3_120, w3_168, w3_200, w3_240, w3_255, w3_500, w3_592, w3_600, w3_900, w3_940, w3_999, w3_1000, w3_1009, w3_1184, w3_3333, w3_9999, if_true, if_false, reduceIte, true_and, and_true, false_and, and_false, true_or, or_true, false_or, or_false, not_true_eq_false, not_false_eq_true, decide_true, decide_false, decide_eq_true_eq, Bool.not_true, Bool.not_false, Bool.false_eq_true, Bool.not_eq_true', Bool.not_eq_eq_eq_not, decide_eq_false_iff_not, Int.not_lt, Int.not_le, Nat.not_le, Nat.not_lt, Nat.le_refl, Int.le_refl, Nat.lt_irrefl, Int.lt_irrefl, reduceCtorEq, Nat.reduceEqDiff, Nat.reduceAdd, Nat.reduceMul, Nat.reduceBEq, Int.reduceNeg, Int.reduceAdd, Int.toNat_natCast, Int.reduceToNat, ne_eq, Nat.zero_ne_one, true_or, Int.ofNat_lt, Int.ofNat_le, Int.natCast_add, Int.cast_ofNat_Int, Int.natCast_zero, b6, g1, be, pl, Int.one_ne_zero]
    rcases g2.2.2.2.2 with ⟨k1, k2⟩ | ⟨_, e, _, _, _, _, k⟩
    · by_cases cT : 200 < T
      · rw [if_pos cT] at k2
        exact mbad (by omega) (close_1 f0 g2.2.1 g2.1.2.2.2.1 g2.1.2.2.2.2.2.2.1 (by omega) L9 kb1)
      · rw [if_neg cT] at k2
        have cl := close_0 (a := T) (b := min T 200) k1 g2.1.2.2.2.1 g2.1.2.2.2.2.2.2.1 (by omega) (by omega)
        have d := g4
        obtain ⟨o, S, K, t, d, a1, _, _, _, _, a6, a7, _, _⟩ := d
        obtain ⟨d1, d2, d3, d4, _⟩ := d
        obtain ⟨s2, hs2⟩ : ∃ s2, s2 = u2 s' 1 0 0 := ⟨_, rfl⟩
        obtain ⟨τ, hτ⟩ : ∃ τ, τ = cpM (cpM (cpM (cpM (cpM (u2 (u2 s2 1920 0 o) 1921 0 S) 4096 1984 0 0 40) 4160 2048 0 0 40) 4224 2112 0 0 40) 4288 2176 0 0 40) 4352 2240 0 0 40 := ⟨_, rfl⟩
        have tf : ∀ v, ¬ (1920 ≤ v ∧ v < 2304) → τ v = s2 v := fun v hv => by
          have q : v ≠ 1920 ∧ v ≠ 1921 ∧ v ≠ 1984 ∧ v ≠ 2048 ∧ v ≠ 2112 ∧ v ≠ 2176 ∧ v ≠ 2240 := by omega
          rw [hτ]; funext i; simp [u2, cpM, q]
        have ex : m_D_sentence [0] σ = some ((o : Int), τ) := by
          rw [hτ, hs2]
          simp only [m_D_sentence, b_D_sentence, m_D_isRefused, b_D_isRefused, m_Sentence_forget, b_Sentence_forget, m_Sentence_copyFrom, b_Sentence_copyFrom]
          rw [← hRC]
          clear mX nrel xrel mbad bad tf hτ
          simp (disch := first | decide | omega) only [cE_K, vE_K, gE_K, o1K_0, o1K_i, o1_K, o2L_0, o2L_i, o2K_0, o2K_i, o2_K, thK_0, thK_i, th_K, dvL_0, dvL_i, dvK_0, dvK_i, dv_K, rmL_0, rmL_i, rmK_0, rmK_i, rm_K, dlL_0, dlL_i, dlK_0, dlK_i, dl_K, ldQ_0, ldQ_i, ldL_0, ldL_i, ldK_0, ldK_i, ld_K, kK_0, kK_i, k_K, aL_0, aL_i, aK_0, aK_i, aE_0, aE_1, clK_0, clK_i, cl_K, cBL_0, cBL_i, cBK_0, cBK_i, cB_K, zBK_0, zBK_i, zB_K, nBK_0, nBK_i, nB_K, andK_0, andK_i, and_K, orK_0, orK_i, or_K, tkK_0, tkK_i, tk_K, sk_K, stK_0, stK_i, st_K, exK_0, exK_i, ex_K, in_K, pfL_0, pfL_i, pfK_0, pfK_i, pf_K, pzL_0, pzL_i, pzK_0, pzK_i, pz_K, poL_0, poL_i, poK_0, poK_i, po_K, asQ_0, asQ_i, asM_0, asM_i, asL_0, asL_i, asK_0, asK_i, as_K, aoM_0, aoM_i, aoQ_0, aoQ_i, aoL_0, aoL_i, aoK_0, aoK_i, ao_K, sqK_0, sqK_1, sqK_2, sqK_3, sqK_4, sqK_i, sq_K, swK_0, swK_1, swK_2, swK_3, swK_4, swK_i, sw_K, ifK_0, ifK_i, if_K, br_K, ct_K, rv_K, thr_K, rtK_0, rtK_i, rt_K, mfK_0, mfK_i, mf_K, mzK_i, mzK_0, mz_K, cpK_0, cpT_0, cp_K, tsK_0, tsK_i, ts_K, tsP_hit, tsP_next, tsP_low, tsP_nil, ini_0, ini_1, rdU_0, rdU_i, rdB_0, rdB_1, rdB_2, rdB_3, rdB_4, rdB_i, rdC_0, rdC_i, rnd_K, cmpI, addI, subI, mulI, i2lI, l2iI, minI, maxI, idI, up, ok_some, ok_ite, w32_id, ix_id, Int.toNat_add, Int.toNat_mul, ltI_t, ltI_f, leI_t, leI_f, eqI_t, eqI_f, u2_s, u2_v, u2_i, w3_m2, w3_m1, w3_0, w3_1, w3_2, w3_3, w3_4, w3_5, w3_6, w3_7, w3_8, w3_9, w3_10, w3_12, w3_20, w3_23, w3_24, w3_25, w3_32, w3_40, w3_50, w3_100, w3_120, w3_168, w3_200, w3_240, w3_255, w3_500, w3_592, w3_600, w3_900, w3_940, w3_999, w3_1000, w3_1009, w3_1184, w3_3333, w3_9999, if_true, if_false, reduceIte, true_and, and_true, false_and, and_false, true_or, or_true, false_or, or_false, not_true_eq_false, not_false_eq_true, decide_true, decide_false, decide_eq_true_eq, Bool.not_true, Bool.not_false, Bool.false_eq_true, Bool.not_eq_true', Bool.not_eq_eq_eq_not, decide_eq_false_iff_not, Int.not_lt, Int.not_le, Nat.not_le, Nat.not_lt, Nat.le_refl, Int.le_refl, Nat.lt_irrefl, Int.lt_irrefl, reduceCtorEq, Nat.reduceEqDiff, Nat.reduceAdd, Nat.reduceMul, Nat.reduceBEq, Int.reduceNeg, Int.reduceAdd, Int.toNat_natCast, Int.reduceToNat, ne_eq, Nat.zero_ne_one, true_or, Int.ofNat_lt, Int.ofNat_le, Int.natCast_add, Int.cast_ofNat_Int, Int.natCast_zero, b5, x1, cl, f0, d1, d4]
          simp [cpM, u2]
        have md : ∃ κ, m_M_sentence [0] μ = some ((o : Int), κ) ∧ (∀ v, v ≠ 128 → κ v = mm v) ∧ (∀ x, x < 350 → κ 128 x = mm 128 x) ∧ κ 128 350 = 1 ∧ κ 128 351 = t ∧ (∀ x, x < 240 → κ 128 (352 + x) = mm 1600 x) := by
          obtain ⟨QQ, hQQ⟩ : ∃ Q : Int × Me → Prop, ∀ z w, Q (z, w) ↔ (z = (o : Int) ∧ (∀ v, v ≠ 128 → w v = mm v) ∧ (∀ x, x < 350 → w 128 x = mm 128 x) ∧ w 128 350 = 1 ∧ w 128 351 = t ∧ (∀ x, x < 240 → w 128 (352 + x) = mm 1600 x)) := ⟨fun qQ9 => (fun (z : Int) (w : Me) => (z = (o : Int) ∧ (∀ v, v ≠ 128 → w v = mm v) ∧ (∀ x, x < 350 → w 128 x = mm 128 x) ∧ w 128 350 = 1 ∧ w 128 351 = t ∧ (∀ x, x < 240 → w 128 (352 + x) = mm 1600 x))) qQ9.1 qQ9.2, fun _ _ => Iff.rfl⟩
          have main : ok (m_M_sentence [0] μ) QQ := by
            rw [hm0] at g1
            obtain ⟨m9, hm9⟩ : ∃ m9, m9 = u2 (u2 mm 128 350 1) 128 351 t := ⟨_, rfl⟩
            simp only [m_M_sentence, b_M_sentence]
            rw [← hRO]
            clear mX nrel xrel mbad bad tf hτ ex cl
            simp (disch := first | decide | omega) only [cE_K, vE_K, gE_K, o1K_0, o1K_i, o1_K, o2L_0, o2L_i, o2K_0, o2K_i, o2_K, thK_0, thK_i, th_K, dvL_0, dvL_i, dvK_0, dvK_i, dv_K, rmL_0, rmL_i, rmK_0, rmK_i, rm_K, dlL_0, dlL_i, dlK_0, dlK_i, dl_K, ldQ_0, ldQ_i, ldL_0, ldL_i, ldK_0, ldK_i, ld_K, kK_0, kK_i, k_K, aL_0, aL_i, aK_0, aK_i, aE_0, aE_1, clK_0, clK_i, cl_K, cBL_0, cBL_i, cBK_0, cBK_i, cB_K, zBK_0, zBK_i, zB_K, nBK_0, nBK_i, nB_K, andK_0, andK_i, and_K, orK_0, orK_i, or_K, tkK_0, tkK_i, tk_K, sk_K, stK_0, stK_i, st_K, exK_0, exK_i, ex_K, in_K, pfL_0, pfL_i, pfK_0, pfK_i, pf_K, pzL_0, pzL_i, pzK_0, pzK_i, pz_K, poL_0, poL_i, poK_0, poK_i, po_K, asQ_0, asQ_i, asM_0, asM_i, asL_0, asL_i, asK_0, asK_i, as_K, aoM_0, aoM_i, aoQ_0, aoQ_i, aoL_0, aoL_i, aoK_0, aoK_i, ao_K, sqK_0, sqK_1, sqK_2, sqK_3, sqK_4, sqK_i, sq_K, swK_0, swK_1, swK_2, swK_3, swK_4, swK_i, sw_K, ifK_0, ifK_i, if_K, br_K, ct_K, rv_K, thr_K, rtK_0, rtK_i, rt_K, mfK_0, mfK_i, mf_K, mzK_i, mzK_0, mz_K, cpK_0, cpT_0, cp_K, tsK_0, tsK_i, ts_K, tsP_hit, tsP_next, tsP_low, tsP_nil, ini_0, ini_1, rdU_0, rdU_i, rdB_0, rdB_1, rdB_2, rdB_3, rdB_4, rdB_i, rdC_0, rdC_i, rnd_K, cmpI, addI, subI, mulI, i2lI, l2iI, minI, maxI, idI, up, ok_some, ok_ite, w32_id, ix_id, Int.toNat_add, Int.toNat_mul, ltI_t, ltI_f, leI_t, leI_f, eqI_t, eqI_f, u2_s, u2_v, u2_i, w3_m2, w3_m1, w3_0, w3_1, w3_2, w3_3, w3_4, w3_5, w3_6, w3_7, w3_8, w3_9, w3_10, w3_12, w3_20, w3_23, w3_24, w3_25, w3_32, w3_40, w3_50, w3_100, w3_120, w3_168, w3_200, w3_240, w3_255, w3_500, w3_592, w3_600, w3_900, w3_940, w3_999, w3_1000, w3_1009, w3_1184, w3_3333, w3_9999, if_true, if_false, reduceIte, true_and, and_true, false_and, and_false, true_or, or_true, false_or, or_false, not_true_eq_false, not_false_eq_true, decide_true, decide_false, decide_eq_true_eq, Bool.not_true, Bool.not_false, Bool.false_eq_true, Bool.not_eq_true', Bool.not_eq_eq_eq_not, decide_eq_false_iff_not, Int.not_lt, Int.not_le, Nat.not_le, Nat.not_lt, Nat.le_refl, Int.le_refl, Nat.lt_irrefl, Int.lt_irrefl, reduceCtorEq, Nat.reduceEqDiff, Nat.reduceAdd, Nat.reduceMul, Nat.reduceBEq, Int.reduceNeg, Int.reduceAdd, Int.toNat_natCast, Int.reduceToNat, ne_eq, Nat.zero_ne_one, true_or, Int.ofNat_lt, Int.ofNat_le, Int.natCast_add, Int.cast_ofNat_Int, Int.natCast_zero, b6, g1, k2, a6, Int.one_ne_zero]
            rw [← hm9]
            obtain ⟨I, hI⟩ : ∃ I : Nat → Lo → Me → Prop, ∀ n ρ s, I n ρ s ↔ (ρ 1 = n ∧ s = fun v x => if v = 128 ∧ 352 ≤ x ∧ x < 352 + n then m9 1600 (x - 352) else m9 v x) := ⟨fun n ρ s => ρ 1 = n ∧ s = fun v x => if v = 128 ∧ 352 ≤ x ∧ x < 352 + n then m9 1600 (x - 352) else m9 v x, fun _ _ _ => Iff.rfl⟩
            refine ok_mfK (ok_sqK (wh_gen I 240 (by omega) ((hI _ _ _).mpr ⟨by simp [up], by funext v x; simp; omega⟩) ?_))
            intro n ρ s9 hn hIn
            obtain ⟨g1', hs9⟩ := (hI _ _ _).mp hIn
            clear hIn
            rcases Nat.lt_or_eq_of_le hn with hn | rfl
            · have e : s9 1600 n = m9 1600 n := by rw [hs9]; simp
              clear hQQ
              simp (disch := first | decide | omega) only [cE_K, vE_K, gE_K, o1K_0, o1K_i, o1_K, o2L_0, o2L_i, o2K_0, o2K_i, o2_K, thK_0, thK_i, th_K, dvL_0, dvL_i, dvK_0, dvK_i, dv_K, rmL_0, rmL_i, rmK_0, rmK_i, rm_K, dlL_0, dlL_i, dlK_0, dlK_i, dl_K, ldQ_0, ldQ_i, ldL_0, ldL_i, ldK_0, ldK_i, ld_K, kK_0, kK_i, k_K, aL_0, aL_i, aK_0, aK_i, aE_0, aE_1, clK_0, clK_i, cl_K, cBL_0, cBL_i, cBK_0, cBK_i, cB_K, zBK_0, zBK_i, zB_K, nBK_0, nBK_i, nB_K, andK_0, andK_i, and_K, orK_0, orK_i, or_K, tkK_0, tkK_i, tk_K, sk_K, stK_0, stK_i, st_K, exK_0, exK_i, ex_K, in_K, pfL_0, pfL_i, pfK_0, pfK_i, pf_K, pzL_0, pzL_i, pzK_0, pzK_i, pz_K, poL_0, poL_i, poK_0, poK_i, po_K, asQ_0, asQ_i, asM_0, asM_i, asL_0, asL_i, asK_0, asK_i, as_K, aoM_0, aoM_i, aoQ_0, aoQ_i, aoL_0, aoL_i, aoK_0, aoK_i, ao_K, sqK_0, sqK_1, sqK_2, sqK_3, sqK_4, sqK_i, sq_K, swK_0, swK_1, swK_2, swK_3, swK_4, swK_i, sw_K, ifK_0, ifK_i, if_K, br_K, ct_K, rv_K, thr_K, rtK_0, rtK_i, rt_K, mfK_0, mfK_i, mf_K, mzK_i, mzK_0, mz_K, cpK_0, cpT_0, cp_K, tsK_0, tsK_i, ts_K, tsP_hit, tsP_next, tsP_low, tsP_nil, ini_0, ini_1, rdU_0, rdU_i, rdB_0, rdB_1, rdB_2, rdB_3, rdB_4, rdB_i, rdC_0, rdC_i, rnd_K, cmpI, addI, subI, mulI, i2lI, l2iI, minI, maxI, idI, up, ok_some, ok_ite, w32_id, ix_id, Int.toNat_add, Int.toNat_mul, ltI_t, ltI_f, leI_t, leI_f, eqI_t, eqI_f, u2_s, u2_v, u2_i, w3_m2, w3_m1, w3_0, w3_1, w3_2, w3_3, w3_4, w3_5, w3_6, w3_7, w3_8, w3_9, w3_10, w3_12, w3_20, w3_23, w3_24, w3_25, w3_32, w3_40, w3_50, w3_100, w3_120, w3_168, w3_200, w3_240, w3_255, w3_500, w3_592, w3_600, w3_900, w3_940, w3_999, w3_1000, w3_1009, w3_1184, w3_3333, w3_9999, if_true, if_false, reduceIte, true_and, and_true, false_and, and_false, true_or, or_true, false_or, or_false, not_true_eq_false, not_false_eq_true, decide_true, decide_false, decide_eq_true_eq, Bool.not_true, Bool.not_false, Bool.false_eq_true, Bool.not_eq_true', Bool.not_eq_eq_eq_not, decide_eq_false_iff_not, Int.not_lt, Int.not_le, Nat.not_le, Nat.not_lt, Nat.le_refl, Int.le_refl, Nat.lt_irrefl, Int.lt_irrefl, reduceCtorEq, Nat.reduceEqDiff, Nat.reduceAdd, Nat.reduceMul, Nat.reduceBEq, Int.reduceNeg, Int.reduceAdd, Int.toNat_natCast, Int.reduceToNat, ne_eq, Nat.zero_ne_one, true_or, Int.ofNat_lt, Int.ofNat_le, Int.natCast_add, Int.cast_ofNat_Int, Int.natCast_zero, g1', e]
              refine ⟨hn, (hI _ _ _).mpr ⟨by simp [up], ?_⟩⟩
              rw [hs9]
              funext v x
              simp only [u2]
              clear hI hs9 e
              grind
            · have o9 : s9 51 0 = o := by rw [hs9, hm9]; simp [u2]; exact d2
              have fin : QQ ((o : Int), s9) := (hQQ _ _).mpr ⟨rfl, fun v h1 => by rw [hs9, hm9]; funext x; simp [h1, u2], fun x hx => by
                have : ¬ (352 ≤ x ∧ x < 352 + 240) := by omega
                have q : x ≠ 350 ∧ x ≠ 351 := by omega
                rw [hs9, hm9]; simp only [this, and_false, if_false]; simp [u2, q], by rw [hs9, hm9]; simp [u2], by rw [hs9, hm9]; simp [u2], fun x hx => by
                rw [hs9, hm9]; simp [u2]; omega⟩
              clear hQQ hs9 hI
              simp (disch := first | decide | omega) only [cE_K, vE_K, gE_K, o1K_0, o1K_i, o1_K, o2L_0, o2L_i, o2K_0, o2K_i, o2_K, thK_0, thK_i, th_K, dvL_0, dvL_i, dvK_0, dvK_i, dv_K, rmL_0, rmL_i, rmK_0, rmK_i, rm_K, dlL_0, dlL_i, dlK_0, dlK_i, dl_K, ldQ_0, ldQ_i, ldL_0, ldL_i, ldK_0, ldK_i, ld_K, kK_0, kK_i, k_K, aL_0, aL_i, aK_0, aK_i, aE_0, aE_1, clK_0, clK_i, cl_K, cBL_0, cBL_i, cBK_0, cBK_i, cB_K, zBK_0, zBK_i, zB_K, nBK_0, nBK_i, nB_K, andK_0, andK_i, and_K, orK_0, orK_i, or_K, tkK_0, tkK_i, tk_K, sk_K, stK_0, stK_i, st_K, exK_0, exK_i, ex_K, in_K, pfL_0, pfL_i, pfK_0, pfK_i, pf_K, pzL_0, pzL_i, pzK_0, pzK_i, pz_K, poL_0, poL_i, poK_0, poK_i, po_K, asQ_0, asQ_i, asM_0, asM_i, asL_0, asL_i, asK_0, asK_i, as_K, aoM_0, aoM_i, aoQ_0, aoQ_i, aoL_0, aoL_i, aoK_0, aoK_i, ao_K, sqK_0, sqK_1, sqK_2, sqK_3, sqK_4, sqK_i, sq_K, swK_0, swK_1, swK_2, swK_3, swK_4, swK_i, sw_K, ifK_0, ifK_i, if_K, br_K, ct_K, rv_K, thr_K, rtK_0, rtK_i, rt_K, mfK_0, mfK_i, mf_K, mzK_i, mzK_0, mz_K, cpK_0, cpT_0, cp_K, tsK_0, tsK_i, ts_K, tsP_hit, tsP_next, tsP_low, tsP_nil, ini_0, ini_1, rdU_0, rdU_i, rdB_0, rdB_1, rdB_2, rdB_3, rdB_4, rdB_i, rdC_0, rdC_i, rnd_K, cmpI, addI, subI, mulI, i2lI, l2iI, minI, maxI, idI, up, ok_some, ok_ite, w32_id, ix_id, Int.toNat_add, Int.toNat_mul, ltI_t, ltI_f, leI_t, leI_f, eqI_t, eqI_f, u2_s, u2_v, u2_i, w3_m2, w3_m1, w3_0, w3_1, w3_2, w3_3, w3_4, w3_5, w3_6, w3_7, w3_8, w3_9, w3_10, w3_12, w3_20, w3_23, w3_24, w3_25, w3_32, w3_40, w3_50, w3_100, w3_120, w3_168, w3_200, w3_240, w3_255, w3_500, w3_592, w3_600, w3_900, w3_940, w3_999, w3_1000, w3_1009, w3_1184, w3_3333, w3_9999, if_true, if_false, reduceIte, true_and, and_true, false_and, and_false, true_or, or_true, false_or, or_false, not_true_eq_false, not_false_eq_true, decide_true, decide_false, decide_eq_true_eq, Bool.not_true, Bool.not_false, Bool.false_eq_true, Bool.not_eq_true', Bool.not_eq_eq_eq_not, decide_eq_false_iff_not, Int.not_lt, Int.not_le, Nat.not_le, Nat.not_lt, Nat.le_refl, Int.le_refl, Nat.lt_irrefl, Int.lt_irrefl, reduceCtorEq, Nat.reduceEqDiff, Nat.reduceAdd, Nat.reduceMul, Nat.reduceBEq, Int.reduceNeg, Int.reduceAdd, Int.toNat_natCast, Int.reduceToNat, ne_eq, Nat.zero_ne_one, true_or, Int.ofNat_lt, Int.ofNat_le, Int.natCast_add, Int.cast_ofNat_Int, Int.natCast_zero, g1', o9]
              exact fin
          obtain ⟨⟨r1, r2⟩, h1, h2⟩ := main
          obtain ⟨k1, k2⟩ := (hQQ _ _).mp h2
          subst k1
          exact ⟨r2, h1, k2⟩
        obtain ⟨κ, r1, r2, r3, r4, r5, r6⟩ := md
        refine opR_mk ex r1 ?_
        have mN : mm 128 = N := by rw [mX mm g5 _ (by decide) (by decide) (by decide), hN]
        rw [mN] at r3
        have mB : mm 22 0 = 1 := by rw [mX mm g5 _ (by decide) (by decide) (by decide)]; exact b2
        have RF : Rl s2 mm := by
          refine Rl_flt b3 (fun v h1 h2 h3 h4 => ?_) (fun v hv h1 h2 h3 => ?_) (Or.inr mB) ?_ ⟨0, by omega, ?_, ?_, fun i hi => by omega⟩ ⟨?_, ?_, ?_⟩
          · obtain ⟨q1, q2⟩ := xrel v h4
            have q3 : v ≠ 65 := h1
            rw [hs2, u2_o h3, sX v (by omega) q2]
          · obtain ⟨q1, q2, q3, q4⟩ := nrel v hv h1 h3
            exact mX mm g5 v q1 q2 q3
          · rw [nwM_1 mB, mN, nN, hN]
          · rw [hs2, u2_o (by decide)]; exact len
          · rw [g5 _ (by decide) (by decide) (by decide), mf _ (by decide)]; exact b9
          · rw [hs2, mf0]; simp [u2]
          · omega
          · omega
        have bg : κ 22 0 = 1 := by rw [r2 _ (by decide)]; exact mB
        have hsc := RF.1.2.1
        rw [nwM_1 mB, mN] at hsc
        refine Rl_now RF (fun v h1 h2 h3 => tf v (by omega)) (fun v hv => r2 v (fun q => by subst q; revert hv; decide)) bg ?_ (Or.inr ⟨by rw [tf _ (by decide)], fun i hi => by rw [nwM_1 mB, mN]; exact r3 i (by omega)⟩)
        have hsc' := hsc
        obtain ⟨⟨n1, n2', n3⟩, ⟨s1, s2', s3, s4, s5, s6⟩, h3', h4'⟩ := hsc'
        refine sce_upd hsc (fun i hi => r3 i (by omega)) (fun v v1 v2 => tf v (by omega)) ?_ ?_ ?_ ?_ ?_
        · unfold blN
          rw [r3 160 (by omega), r3 2 (by omega)]
          exact ⟨n2'.1, fun k hk => by have := n2'.1; rw [r3 _ (by omega), r3 _ (by omega), r3 _ (by omega)]; exact n2'.2 k hk⟩
        · have bo := s2'.2.2
          unfold boX
          rw [tf _ (by decide), tf _ (by decide), tf _ (by decide), tf _ (by decide), r3 160 (by omega)]
          exact ⟨bo.1, fun k hk => by have := n2'.1; rw [r3 _ (by omega), r3 _ (by omega), r3 _ (by omega)]; exact bo.2 k hk⟩
        · unfold sgN
          rw [r3 285 (by omega), r3 1 (by omega)]
          exact ⟨n3.1, fun k hk => by have := n3.1; rw [r3 _ (by omega), r3 _ (by omega), r3 _ (by omega)]; exact n3.2 k hk⟩
        · unfold siX
          rw [tf _ (by decide), tf _ (by decide), tf _ (by decide), tf _ (by decide), r3 285 (by omega)]
          exact ⟨s6.1, fun k hk => by have := n3.1; rw [r3 _ (by omega), r3 _ (by omega), r3 _ (by omega)]; exact s6.2 k hk⟩
        · refine se_new g4 (by rw [hτ, hs2, d1]; simp [u2, cpM]) (by rw [hτ, hs2, d4]; simp [u2, cpM]) (fun i hi => by rw [hτ, hs2]; simp [u2, cpM, hi, shf]) (fun i hi => r3 i (by omega)) r4 (by rw [r5, a6]) r6
    · have : 1 ≤ s' 69 0 ∧ 1 ≤ mm 7 0 := by
        rcases k with ⟨q1, q2, _⟩ | ⟨q1, q2, _⟩ | ⟨q1, q2, _⟩ | ⟨q1, q2⟩ <;> omega
      exact mbad this.2 (close_k f0 g2.2.1 ⟨this.1, kb1.2⟩)
  · refine bad s' mm (close_q g3.1.1) ?_ g2 g4 (fun _ _ _ => rfl)
    rw [hm0] at g1
    simp only [m_M_sentence, b_M_sentence]
    rw [← hRO]
    clear bad mX nrel xrel
    simp (disch := first | decide | omega) only [cE_K, vE_K, gE_K, o1K_0, o1K_i, o1_K, o2L_0, o2L_i, o2K_0, o2K_i, o2_K, thK_0, thK_i, th_K, dvL_0, dvL_i, dvK_0, dvK_i, dv_K, rmL_0, rmL_i, rmK_0, rmK_i, rm_K, dlL_0, dlL_i, dlK_0, dlK_i, dl_K, ldQ_0, ldQ_i, ldL_0, ldL_i, ldK_0, ldK_i, ld_K, kK_0, kK_i, k_K, aL_0, aL_i, aK_0, aK_i, aE_0, aE_1, clK_0, clK_i, cl_K, cBL_0, cBL_i, cBK_0, cBK_i, cB_K, zBK_0, zBK_i, zB_K, nBK_0, nBK_i, nB_K, andK_0, andK_i, and_K, orK_0, orK_i, or_K, tkK_0, tkK_i, tk_K, sk_K, stK_0, stK_i, st_K, exK_0, exK_i, ex_K, in_K, pfL_0, pfL_i, pfK_0, pfK_i, pf_K, pzL_0, pzL_i, pzK_0, pzK_i, pz_K, poL_0, poL_i, poK_0, poK_i, po_K, asQ_0, asQ_i, asM_0, asM_i, asL_0, asL_i, asK_0, asK_i, as_K, aoM_0, aoM_i, aoQ_0, aoQ_i, aoL_0, aoL_i, aoK_0, aoK_i, ao_K, sqK_0, sqK_1, sqK_2, sqK_3, sqK_4, sqK_i, sq_K, swK_0, swK_1, swK_2, swK_3, swK_4, swK_i, sw_K, ifK_0, ifK_i, if_K, br_K, ct_K, rv_K, thr_K, rtK_0, rtK_i, rt_K, mfK_0, mfK_i, mf_K, mzK_i, mzK_0, mz_K, cpK_0, cpT_0, cp_K, tsK_0, tsK_i, ts_K, tsP_hit, tsP_next, tsP_low, tsP_nil, ini_0, ini_1, rdU_0, rdU_i, rdB_0, rdB_1, rdB_2, rdB_3, rdB_4, rdB_i, rdC_0, rdC_i, rnd_K, cmpI, addI, subI, mulI, i2lI, l2iI, minI, maxI, idI, up, ok_some, ok_ite, w32_id, ix_id, Int.toNat_add, Int.toNat_mul, ltI_t, ltI_f, leI_t, leI_f, eqI_t, eqI_f, u2_s, u2_v, u2_i, w3_m2, w3_m1, w3_0, w3_1, w3_2, w3_3, w3_4, w3_5, w3_6, w3_7, w3_8, w3_9, w3_10, w3_12, w3_20, w3_23, w3_24, w3_25, w3_32, w3_40, w3_50, w3_100, w3_120, w3_168, w3_200, w3_240, w3_255, w3_500, w3_592, w3_600, w3_900, w3_940, w3_999, w3_1000, w3_1009, w3_1184, w3_3333, w3_9999, if_true, if_false, reduceIte, true_and, and_true, false_and, and_false, true_or, or_true, false_or, or_false, not_true_eq_false, not_false_eq_true, decide_true, decide_false, decide_eq_true_eq, Bool.not_true, Bool.not_false, Bool.false_eq_true, Bool.not_eq_true', Bool.not_eq_eq_eq_not, decide_eq_false_iff_not, Int.not_lt, Int.not_le, Nat.not_le, Nat.not_lt, Nat.le_refl, Int.le_refl, Nat.lt_irrefl, Int.lt_irrefl, reduceCtorEq, Nat.reduceEqDiff, Nat.reduceAdd, Nat.reduceMul, Nat.reduceBEq, Int.reduceNeg, Int.reduceAdd, Int.toNat_natCast, Int.reduceToNat, ne_eq, Nat.zero_ne_one, true_or, Int.ofNat_lt, Int.ofNat_le, Int.natCast_add, Int.cast_ofNat_Int, Int.natCast_zero, b6, g1]
