theorem st_congr {N X B X' B' : Nat → Int} {f : Int} {R c : Nat} (hR : N 0 = R) (hc : c < 4) (h : ∀ i, i / 4 < R → i % 4 = c → X i = X' i ∧ B i = B' i) : (∀ i, i / 4 < R → i % 4 = c → stW N f X B i = stW N f X' B' i ∧ stB N f X B i = stB N f X' B' i) ∧ stP N f X B c = stP N f X' B' c := by
  have e1 : ∀ i, i / 4 < R → i % 4 = c → x2N N f X B i = x2N N f X' B' i ∧ b2N N f B i = b2N N f B' i := fun i h1 h2 => by
    obtain ⟨q1, q2⟩ := h i h1 h2
    simp only [x2N, b2N, q1, q2, and_self]
  have e2 : ∀ i, i / 4 < R → i % 4 = c → goN N f X B i = goN N f X' B' i := fun i h1 h2 => by
    simp only [goN, gon, (e1 i h1 h2).1]
  have e3 : ∀ i, i / 4 < R → i % 4 = c → y3N N f X B i = y3N N f X' B' i := fun i h1 h2 => by
    simp only [y3N, (e1 i h1 h2).1, e2 i h1 h2]
    by_cases h4 : 4 ≤ i
    · rw [if_pos h4, if_pos h4, e2 (i - 4) (by omega) (by omega)]
    · rw [if_neg h4, if_neg h4]
  refine ⟨fun i h1 h2 => ?_, ?_⟩
  · simp only [stW, stB, e3 i h1 h2, (e1 i h1 h2).2, and_self]
  · simp only [stP, hR]
    by_cases h0 : R = 0
    · simp [h0]
    · have h0' : ¬ (R : Int) = 0 := by omega
      rw [if_neg h0', if_neg h0', Int.toNat_natCast, e2 _ (by omega) (by omega)]
/-- what PULSE puts in -/
def puM (σ : Me) (h c i : Nat) : Int := if h = 0 ∧ σ 34 0 ≠ -1 ∧ σ 35 0 = c ∧ 4 * σ 34 0 + c = i then σ 36 0 else 0
theorem M_hour_ok {σ : Me} {h c R C G : Nat} {f w : Int} {N X B : Nat → Int} (hN : rvN N) (hn : σ 128 = N) (hR : N 0 = R) (hC : N 1 = C) (hG : N 2 = G) (hh : h < 168) (hc : c < C) (f0 : 0 ≤ f) (f1 : f ≤ 9999) (hw : σ 640 h = w)
    (hpu : σ 34 0 = -1 ∨ (0 ≤ σ 34 0 ∧ σ 34 0 < R ∧ 0 ≤ σ 35 0 ∧ σ 35 0 < 4))
    (hX : ∀ i, i / 4 < R → i % 4 = c → σ 704 i + poN N w G i + puM σ h c i = X i) (hB : ∀ i, i / 4 < R → i % 4 = c → σ 768 i = B i)
    (hxb : ∀ i, i / 4 < R → i % 4 = c → X i + B i ≤ 10078992) (hx0 : ∀ i, 0 ≤ X i) (hb0 : ∀ i, 0 ≤ B i) :
    ∃ τ, m_M_hour [0, h, c, f] σ = some (0, τ) ∧ fr [704, 768, 832, 896, 1024, 1088] σ τ ∧
      (∀ i, i % 4 ≠ c → τ 704 i = σ 704 i ∧ τ 768 i = σ 768 i) ∧
      (∀ i, i / 4 < R → i % 4 = c → τ 704 i = stW N f X B i ∧ τ 768 i = stB N f X B i ∧ τ 1024 (40 * h + i) = stW N f X B i ∧ τ 1088 (40 * h + i) = stB N f X B i) ∧
      τ 832 (4 * h + c) = stP N f X B c ∧ (∀ j, j ≠ 4 * h + c → τ 832 j = σ 832 j) ∧
      τ 896 c = σ 896 c + ptN N w c G ∧ (∀ j, j ≠ c → τ 896 j = σ 896 j) ∧
      (∀ j, ¬ (40 * h ≤ j ∧ (j - 40 * h) % 4 = c ∧ (j - 40 * h) / 4 < R) → τ 1024 j = σ 1024 j ∧ τ 1088 j = σ 1088 j) := by
  have h10 : R ≤ 10 := by have := hN.1.1; omega
  have h4 : C ≤ 4 := by have := hN.1.2.1; omega
  have hc4 : c < 4 := by omega
  have main : ok (m_M_hour [0, h, c, f] σ) (fun r => r.1 = 0 ∧ (fun τ : Me => fr [704, 768, 832, 896, 1024, 1088] σ τ ∧
      (∀ i, i % 4 ≠ c → τ 704 i = σ 704 i ∧ τ 768 i = σ 768 i) ∧
      (∀ i, i / 4 < R → i % 4 = c → τ 704 i = stW N f X B i ∧ τ 768 i = stB N f X B i ∧ τ 1024 (40 * h + i) = stW N f X B i ∧ τ 1088 (40 * h + i) = stB N f X B i) ∧
      τ 832 (4 * h + c) = stP N f X B c ∧ (∀ j, j ≠ 4 * h + c → τ 832 j = σ 832 j) ∧
      τ 896 c = σ 896 c + ptN N w c G ∧ (∀ j, j ≠ c → τ 896 j = σ 896 j) ∧
      (∀ j, ¬ (40 * h ≤ j ∧ (j - 40 * h) % 4 = c ∧ (j - 40 * h) / 4 < R) → τ 1024 j = σ 1024 j ∧ τ 1088 j = σ 1088 j)) r.2) := by
    obtain ⟨Q, hQ⟩ : ∃ Q : Me → Prop, Q = (fun τ : Me => fr [704, 768, 832, 896, 1024, 1088] σ τ ∧
      (∀ i, i % 4 ≠ c → τ 704 i = σ 704 i ∧ τ 768 i = σ 768 i) ∧
      (∀ i, i / 4 < R → i % 4 = c → τ 704 i = stW N f X B i ∧ τ 768 i = stB N f X B i ∧ τ 1024 (40 * h + i) = stW N f X B i ∧ τ 1088 (40 * h + i) = stB N f X B i) ∧
      τ 832 (4 * h + c) = stP N f X B c ∧ (∀ j, j ≠ 4 * h + c → τ 832 j = σ 832 j) ∧
      τ 896 c = σ 896 c + ptN N w c G ∧ (∀ j, j ≠ c → τ 896 j = σ 896 j) ∧
      (∀ j, ¬ (40 * h ≤ j ∧ (j - 40 * h) % 4 = c ∧ (j - 40 * h) / 4 < R) → τ 1024 j = σ 1024 j ∧ τ 1088 j = σ 1088 j)) := ⟨_, rfl⟩
    rw [← hQ]
    simp only [m_M_hour, b_M_hour, cE_K, vE_K, gE_K, o1K_0, o1K_i, o1_K, o2L_0, o2L_i, o2K_0, o2K_i, o2_K, thK_0, thK_i, th_K, dvL_0, dvL_i, dvK_0, dvK_i, dv_K, rmL_0, rmL_i, rmK_0, rmK_i, rm_K, dlL_0, dlL_i, dlK_0, dlK_i, dl_K, ldQ_0, ldQ_i, ldL_0, ldL_i, ldK_0, ldK_i, ld_K, kK_0, kK_i, k_K, aL_0, aL_i, aK_0, aK_i, aE_0, aE_1, clK_0, clK_i, cl_K, cBL_0, cBL_i, cBK_0, cBK_i, cB_K, zBK_0, zBK_i, zB_K, nBK_0, nBK_i, nB_K, andK_0, andK_i, and_K, orK_0, orK_i, or_K, tkK_0, tkK_i, tk_K, sk_K, stK_0, stK_i, st_K, exK_0, exK_i, ex_K, in_K, pfL_0, pfL_i, pfK_0, pfK_i, pf_K, pzL_0, pzL_i, pzK_0, pzK_i, pz_K, poL_0, poL_i, poK_0, poK_i, po_K, asQ_0, asQ_i, asM_0, asM_i, asL_0, asL_i, asK_0, asK_i, as_K, aoM_0, aoM_i, aoQ_0, aoQ_i, aoL_0, aoL_i, aoK_0, aoK_i, ao_K, sqK_0, sqK_1, sqK_2, sqK_3, sqK_4, sqK_i, sq_K, swK_0, swK_1, swK_2, swK_3, swK_4, swK_i, sw_K, ifK_0, ifK_i, if_K, br_K, ct_K, rv_K, thr_K, rtK_0, rtK_i, rt_K, mfK_0, mfK_i, mf_K, mzK_i, mzK_0, mz_K, cpK_0, cpT_0, cp_K, tsK_0, tsK_i, ts_K, tsP_hit, tsP_next, tsP_low, tsP_nil, ini_0, ini_1, rdU_0, rdU_i, rdB_0, rdB_1, rdB_2, rdB_3, rdB_4, rdB_i, rdC_0, rdC_i, rnd_K, cmpI, addI, subI, mulI, i2lI, l2iI, minI, maxI, idI, up, ok_some, ok_ite, if_true, if_false, reduceIte, true_and, and_true, false_and, and_false, true_or, or_true, false_or, or_false, not_true_eq_false, not_false_eq_true, decide_true, decide_false, decide_eq_true_eq, Bool.not_true, Bool.not_false, Bool.false_eq_true, Bool.not_eq_true', Bool.not_eq_eq_eq_not, decide_eq_false_iff_not, Int.not_lt, Int.not_le, Nat.not_le, Nat.not_lt, Nat.le_refl, Int.le_refl, Nat.lt_irrefl, Int.lt_irrefl, reduceCtorEq, Nat.reduceEqDiff, Nat.reduceAdd, Nat.reduceMul, Nat.reduceBEq, Int.reduceNeg, Int.reduceAdd, Int.toNat_natCast, Int.reduceToNat, ne_eq, Nat.zero_ne_one, true_or, Int.ofNat_lt, Int.ofNat_le, Int.natCast_add, Int.cast_ofNat_Int, Int.natCast_zero]
    refine ok_mfK (ok_sqK (hour_L1 (by rw [hn]; exact hN) (by rw [hn]; exact hR) (by rw [hn]; exact hG) hh hc4 hw rfl rfl rfl rfl ?_))
    intro ρ g1 g2 g3
    generalize hs1 : hr1 σ w c G = s1
    have a1 : ∀ v, v ≠ 704 → v ≠ 896 → s1 v = σ v := fun v h1 h2 => by rw [← hs1]; funext i; simp [hr1, h1, h2]
    have w1 : ∀ i, s1 704 i = if i % 4 = c then σ 704 i + poN N w G i else σ 704 i := fun i => by rw [← hs1]; simp [hr1, hn]
    have q1 : ∀ i, s1 896 i = if i = c then σ 896 c + ptN N w c G else σ 896 i := fun i => by rw [← hs1]; simp [hr1, hn]
    have n1 : s1 128 = N := by rw [a1 _ (by decide) (by decide), hn]
    -- the PULSE
    obtain ⟨s2, hs2, a2, w2⟩ : ∃ s2, (ifS (andB (andB (nB (zB 1 (vE 1))) (nB (cB 0 (thE (cE 0) (gE 34)) (cE (-1))))) (nB (cB 1 (vE 2) (thE (cE 0) (gE 35))))) (aoS 704 40 addI (thE (cE 0) (cE 0)) (o2 addI (o2 mulI (cE 4) (thE (cE 0) (gE 34))) (vE 2)) (thE (cE 0) (gE 36))) skS) ρ s1 = some (0, 0, ρ, s2) ∧ (∀ v, v ≠ 704 → s2 v = s1 v) ∧ (∀ i, s2 704 i = s1 704 i + puM σ h c i) := by
      have p1 : s1 34 = σ 34 := a1 _ (by decide) (by decide)
      have p2 : s1 35 = σ 35 := a1 _ (by decide) (by decide)
      have p3 : s1 36 = σ 36 := a1 _ (by decide) (by decide)
      by_cases b1 : h = 0
      · rcases hpu with b2 | ⟨b2, b3, b5, b6⟩
        · refine ⟨s1, ?_, fun _ _ => rfl, fun i => by simp [puM, b2]⟩
          simp (disch := first | decide | omega) only [cE_K, vE_K, gE_K, o1K_0, o1K_i, o1_K, o2L_0, o2L_i, o2K_0, o2K_i, o2_K, thK_0, thK_i, th_K, dvL_0, dvL_i, dvK_0, dvK_i, dv_K, rmL_0, rmL_i, rmK_0, rmK_i, rm_K, dlL_0, dlL_i, dlK_0, dlK_i, dl_K, ldQ_0, ldQ_i, ldL_0, ldL_i, ldK_0, ldK_i, ld_K, kK_0, kK_i, k_K, aL_0, aL_i, aK_0, aK_i, aE_0, aE_1, clK_0, clK_i, cl_K, cBL_0, cBL_i, cBK_0, cBK_i, cB_K, zBK_0, zBK_i, zB_K, nBK_0, nBK_i, nB_K, andK_0, andK_i, and_K, orK_0, orK_i, or_K, tkK_0, tkK_i, tk_K, sk_K, stK_0, stK_i, st_K, exK_0, exK_i, ex_K, in_K, pfL_0, pfL_i, pfK_0, pfK_i, pf_K, pzL_0, pzL_i, pzK_0, pzK_i, pz_K, poL_0, poL_i, poK_0, poK_i, po_K, asQ_0, asQ_i, asM_0, asM_i, asL_0, asL_i, asK_0, asK_i, as_K, aoM_0, aoM_i, aoQ_0, aoQ_i, aoL_0, aoL_i, aoK_0, aoK_i, ao_K, sqK_0, sqK_1, sqK_2, sqK_3, sqK_4, sqK_i, sq_K, swK_0, swK_1, swK_2, swK_3, swK_4, swK_i, sw_K, ifK_0, ifK_i, if_K, br_K, ct_K, rv_K, thr_K, rtK_0, rtK_i, rt_K, mfK_0, mfK_i, mf_K, mzK_i, mzK_0, mz_K, cpK_0, cpT_0, cp_K, tsK_0, tsK_i, ts_K, tsP_hit, tsP_next, tsP_low, tsP_nil, ini_0, ini_1, rdU_0, rdU_i, rdB_0, rdB_1, rdB_2, rdB_3, rdB_4, rdB_i, rdC_0, rdC_i, rnd_K, cmpI, addI, subI, mulI, i2lI, l2iI, minI, maxI, idI, up, ok_some, ok_ite, w32_id, ix_id, Int.toNat_add, Int.toNat_mul, ltI_t, ltI_f, leI_t, leI_f, eqI_t, eqI_f, u2_s, u2_v, u2_i, w3_m2, w3_m1, w3_0, w3_1, w3_2, w3_3, w3_4, w3_5, w3_6, w3_7, w3_8, w3_9, w3_10, w3_12, w3_20, w3_23, w3_24, w3_25, w3_32, w3_40, w3_50, w3_100, w3_120, w3_168, w3_200, w3_240, w3_255, w3_500, w3_592, w3_600, w3_900, w3_940, w3_999, w3_1000, w3_1009, w3_1184, w3_3333, w3_9999, if_true, if_false, reduceIte, true_and, and_true, false_and, and_false, true_or, or_true, false_or, or_false, not_true_eq_false, not_false_eq_true, decide_true, decide_false, decide_eq_true_eq, Bool.not_true, Bool.not_false, Bool.false_eq_true, Bool.not_eq_true', Bool.not_eq_eq_eq_not, decide_eq_false_iff_not, Int.not_lt, Int.not_le, Nat.not_le, Nat.not_lt, Nat.le_refl, Int.le_refl, Nat.lt_irrefl, Int.lt_irrefl, reduceCtorEq, Nat.reduceEqDiff, Nat.reduceAdd, Nat.reduceMul, Nat.reduceBEq, Int.reduceNeg, Int.reduceAdd, Int.toNat_natCast, Int.reduceToNat, ne_eq, Nat.zero_ne_one, true_or, Int.ofNat_lt, Int.ofNat_le, Int.natCast_add, Int.cast_ofNat_Int, Int.natCast_zero, g1, g2, p1, b2, b1]
        · by_cases b4 : σ 35 0 = c
          · refine ⟨u2 s1 704 (4 * (σ 34 0).toNat + c) (s1 704 (4 * (σ 34 0).toNat + c) + σ 36 0), ?_, ?_, ?_⟩
            · simp (disch := first | decide | omega) only [cE_K, vE_K, gE_K, o1K_0, o1K_i, o1_K, o2L_0, o2L_i, o2K_0, o2K_i, o2_K, thK_0, thK_i, th_K, dvL_0, dvL_i, dvK_0, dvK_i, dv_K, rmL_0, rmL_i, rmK_0, rmK_i, rm_K, dlL_0, dlL_i, dlK_0, dlK_i, dl_K, ldQ_0, ldQ_i, ldL_0, ldL_i, ldK_0, ldK_i, ld_K, kK_0, kK_i, k_K, aL_0, aL_i, aK_0, aK_i, aE_0, aE_1, clK_0, clK_i, cl_K, cBL_0, cBL_i, cBK_0, cBK_i, cB_K, zBK_0, zBK_i, zB_K, nBK_0, nBK_i, nB_K, andK_0, andK_i, and_K, orK_0, orK_i, or_K, tkK_0, tkK_i, tk_K, sk_K, stK_0, stK_i, st_K, exK_0, exK_i, ex_K, in_K, pfL_0, pfL_i, pfK_0, pfK_i, pf_K, pzL_0, pzL_i, pzK_0, pzK_i, pz_K, poL_0, poL_i, poK_0, poK_i, po_K, asQ_0, asQ_i, asM_0, asM_i, asL_0, asL_i, asK_0, asK_i, as_K, aoM_0, aoM_i, aoQ_0, aoQ_i, aoL_0, aoL_i, aoK_0, aoK_i, ao_K, sqK_0, sqK_1, sqK_2, sqK_3, sqK_4, sqK_i, sq_K, swK_0, swK_1, swK_2, swK_3, swK_4, swK_i, sw_K, ifK_0, ifK_i, if_K, br_K, ct_K, rv_K, thr_K, rtK_0, rtK_i, rt_K, mfK_0, mfK_i, mf_K, mzK_i, mzK_0, mz_K, cpK_0, cpT_0, cp_K, tsK_0, tsK_i, ts_K, tsP_hit, tsP_next, tsP_low, tsP_nil, ini_0, ini_1, rdU_0, rdU_i, rdB_0, rdB_1, rdB_2, rdB_3, rdB_4, rdB_i, rdC_0, rdC_i, rnd_K, cmpI, addI, subI, mulI, i2lI, l2iI, minI, maxI, idI, up, ok_some, ok_ite, w32_id, ix_id, Int.toNat_add, Int.toNat_mul, ltI_t, ltI_f, leI_t, leI_f, eqI_t, eqI_f, u2_s, u2_v, u2_i, w3_m2, w3_m1, w3_0, w3_1, w3_2, w3_3, w3_4, w3_5, w3_6, w3_7, w3_8, w3_9, w3_10, w3_12, w3_20, w3_23, w3_24, w3_25, w3_32, w3_40, w3_50, w3_100, w3_120, w3_168, w3_200, w3_240, w3_255, w3_500, w3_592, w3_600, w3_900, w3_940, w3_999, w3_1000, w3_1009, w3_1184, w3_3333, w3_9999, if_true, if_false, reduceIte, true_and, and_true, false_and, and_false, true_or, or_true, false_or, or_false, not_true_eq_false, not_false_eq_true, decide_true, decide_false, decide_eq_true_eq, Bool.not_true, Bool.not_false, Bool.false_eq_true, Bool.not_eq_true', Bool.not_eq_eq_eq_not, decide_eq_false_iff_not, Int.not_lt, Int.not_le, Nat.not_le, Nat.not_lt, Nat.le_refl, Int.le_refl, Nat.lt_irrefl, Int.lt_irrefl, reduceCtorEq, Nat.reduceEqDiff, Nat.reduceAdd, Nat.reduceMul, Nat.reduceBEq, Int.reduceNeg, Int.reduceAdd, Int.toNat_natCast, Int.reduceToNat, ne_eq, Nat.zero_ne_one, true_or, Int.ofNat_lt, Int.ofNat_le, Int.natCast_add, Int.cast_ofNat_Int, Int.natCast_zero, g1, g2, p1, p2, p3, b1]
            · intro v hv
              funext i
              simp [u2, hv]
            · intro i
              simp only [u2, puM, b1, b4, true_and]
              have : σ 34 0 ≠ -1 := by omega
              simp only [ne_eq, this, not_false_eq_true, true_and]
              by_cases e : i = 4 * (σ 34 0).toNat + c
              · rw [if_pos e, if_pos (by omega), e]
              · rw [if_neg e, if_neg (by omega)]
                omega
          · refine ⟨s1, ?_, fun _ _ => rfl, fun i => by simp [puM, b4]⟩
            simp (disch := first | decide | omega) only [cE_K, vE_K, gE_K, o1K_0, o1K_i, o1_K, o2L_0, o2L_i, o2K_0, o2K_i, o2_K, thK_0, thK_i, th_K, dvL_0, dvL_i, dvK_0, dvK_i, dv_K, rmL_0, rmL_i, rmK_0, rmK_i, rm_K, dlL_0, dlL_i, dlK_0, dlK_i, dl_K, ldQ_0, ldQ_i, ldL_0, ldL_i, ldK_0, ldK_i, ld_K, kK_0, kK_i, k_K, aL_0, aL_i, aK_0, aK_i, aE_0, aE_1, clK_0, clK_i, cl_K, cBL_0, cBL_i, cBK_0, cBK_i, cB_K, zBK_0, zBK_i, zB_K, nBK_0, nBK_i, nB_K, andK_0, andK_i, and_K, orK_0, orK_i, or_K, tkK_0, tkK_i, tk_K, sk_K, stK_0, stK_i, st_K, exK_0, exK_i, ex_K, in_K, pfL_0, pfL_i, pfK_0, pfK_i, pf_K, pzL_0, pzL_i, pzK_0, pzK_i, pz_K, poL_0, poL_i, poK_0, poK_i, po_K, asQ_0, asQ_i, asM_0, asM_i, asL_0, asL_i, asK_0, asK_i, as_K, aoM_0, aoM_i, aoQ_0, aoQ_i, aoL_0, aoL_i, aoK_0, aoK_i, ao_K, sqK_0, sqK_1, sqK_2, sqK_3, sqK_4, sqK_i, sq_K, swK_0, swK_1, swK_2, swK_3, swK_4, swK_i, sw_K, ifK_0, ifK_i, if_K, br_K, ct_K, rv_K, thr_K, rtK_0, rtK_i, rt_K, mfK_0, mfK_i, mf_K, mzK_i, mzK_0, mz_K, cpK_0, cpT_0, cp_K, tsK_0, tsK_i, ts_K, tsP_hit, tsP_next, tsP_low, tsP_nil, ini_0, ini_1, rdU_0, rdU_i, rdB_0, rdB_1, rdB_2, rdB_3, rdB_4, rdB_i, rdC_0, rdC_i, rnd_K, cmpI, addI, subI, mulI, i2lI, l2iI, minI, maxI, idI, up, ok_some, ok_ite, w32_id, ix_id, Int.toNat_add, Int.toNat_mul, ltI_t, ltI_f, leI_t, leI_f, eqI_t, eqI_f, u2_s, u2_v, u2_i, w3_m2, w3_m1, w3_0, w3_1, w3_2, w3_3, w3_4, w3_5, w3_6, w3_7, w3_8, w3_9, w3_10, w3_12, w3_20, w3_23, w3_24, w3_25, w3_32, w3_40, w3_50, w3_100, w3_120, w3_168, w3_200, w3_240, w3_255, w3_500, w3_592, w3_600, w3_900, w3_940, w3_999, w3_1000, w3_1009, w3_1184, w3_3333, w3_9999, if_true, if_false, reduceIte, true_and, and_true, false_and, and_false, true_or, or_true, false_or, or_false, not_true_eq_false, not_false_eq_true, decide_true, decide_false, decide_eq_true_eq, Bool.not_true, Bool.not_false, Bool.false_eq_true, Bool.not_eq_true', Bool.not_eq_eq_eq_not, decide_eq_false_iff_not, Int.not_lt, Int.not_le, Nat.not_le, Nat.not_lt, Nat.le_refl, Int.le_refl, Nat.lt_irrefl, Int.lt_irrefl, reduceCtorEq, Nat.reduceEqDiff, Nat.reduceAdd, Nat.reduceMul, Nat.reduceBEq, Int.reduceNeg, Int.reduceAdd, Int.toNat_natCast, Int.reduceToNat, ne_eq, Nat.zero_ne_one, true_or, Int.ofNat_lt, Int.ofNat_le, Int.natCast_add, Int.cast_ofNat_Int, Int.natCast_zero, g1, g2, p1, p2, b1]
      · refine ⟨s1, ?_, fun _ _ => rfl, fun i => by simp [puM, b1]⟩
        simp (disch := first | decide | omega) only [cE_K, vE_K, gE_K, o1K_0, o1K_i, o1_K, o2L_0, o2L_i, o2K_0, o2K_i, o2_K, thK_0, thK_i, th_K, dvL_0, dvL_i, dvK_0, dvK_i, dv_K, rmL_0, rmL_i, rmK_0, rmK_i, rm_K, dlL_0, dlL_i, dlK_0, dlK_i, dl_K, ldQ_0, ldQ_i, ldL_0, ldL_i, ldK_0, ldK_i, ld_K, kK_0, kK_i, k_K, aL_0, aL_i, aK_0, aK_i, aE_0, aE_1, clK_0, clK_i, cl_K, cBL_0, cBL_i, cBK_0, cBK_i, cB_K, zBK_0, zBK_i, zB_K, nBK_0, nBK_i, nB_K, andK_0, andK_i, and_K, orK_0, orK_i, or_K, tkK_0, tkK_i, tk_K, sk_K, stK_0, stK_i, st_K, exK_0, exK_i, ex_K, in_K, pfL_0, pfL_i, pfK_0, pfK_i, pf_K, pzL_0, pzL_i, pzK_0, pzK_i, pz_K, poL_0, poL_i, poK_0, poK_i, po_K, asQ_0, asQ_i, asM_0, asM_i, asL_0, asL_i, asK_0, asK_i, as_K, aoM_0, aoM_i, aoQ_0, aoQ_i, aoL_0, aoL_i, aoK_0, aoK_i, ao_K, sqK_0, sqK_1, sqK_2, sqK_3, sqK_4, sqK_i, sq_K, swK_0, swK_1, swK_2, swK_3, swK_4, swK_i, sw_K, ifK_0, ifK_i, if_K, br_K, ct_K, rv_K, thr_K, rtK_0, rtK_i, rt_K, mfK_0, mfK_i, mf_K, mzK_i, mzK_0, mz_K, cpK_0, cpT_0, cp_K, tsK_0, tsK_i, ts_K, tsP_hit, tsP_next, tsP_low, tsP_nil, ini_0, ini_1, rdU_0, rdU_i, rdB_0, rdB_1, rdB_2, rdB_3, rdB_4, rdB_i, rdC_0, rdC_i, rnd_K, cmpI, addI, subI, mulI, i2lI, l2iI, minI, maxI, idI, up, ok_some, ok_ite, w32_id, ix_id, Int.toNat_add, Int.toNat_mul, ltI_t, ltI_f, leI_t, leI_f, eqI_t, eqI_f, u2_s, u2_v, u2_i, w3_m2, w3_m1, w3_0, w3_1, w3_2, w3_3, w3_4, w3_5, w3_6, w3_7, w3_8, w3_9, w3_10, w3_12, w3_20, w3_23, w3_24, w3_25, w3_32, w3_40, w3_50, w3_100, w3_120, w3_168, w3_200, w3_240, w3_255, w3_500, w3_592, w3_600, w3_900, w3_940, w3_999, w3_1000, w3_1009, w3_1184, w3_3333, w3_9999, if_true, if_false, reduceIte, true_and, and_true, false_and, and_false, true_or, or_true, false_or, or_false, not_true_eq_false, not_false_eq_true, decide_true, decide_false, decide_eq_true_eq, Bool.not_true, Bool.not_false, Bool.false_eq_true, Bool.not_eq_true', Bool.not_eq_eq_eq_not, decide_eq_false_iff_not, Int.not_lt, Int.not_le, Nat.not_le, Nat.not_lt, Nat.le_refl, Int.le_refl, Nat.lt_irrefl, Int.lt_irrefl, reduceCtorEq, Nat.reduceEqDiff, Nat.reduceAdd, Nat.reduceMul, Nat.reduceBEq, Int.reduceNeg, Int.reduceAdd, Int.toNat_natCast, Int.reduceToNat, ne_eq, Nat.zero_ne_one, true_or, Int.ofNat_lt, Int.ofNat_le, Int.natCast_add, Int.cast_ofNat_Int, Int.natCast_zero, g1, g2]
    have n2 : s2 128 = N := by rw [a2 _ (by decide), n1]
    have wc : ∀ i, i / 4 < R → i % 4 = c → s2 704 i = X i := fun i h1 h2 => by
      rw [w2 i, w1 i, if_pos h2]
      exact hX i h1 h2
    have bc : ∀ i, i / 4 < R → i % 4 = c → s2 768 i = B i := fun i h1 h2 => by
      rw [a2 _ (by decide), a1 _ (by decide) (by decide)]
      exact hB i h1 h2
    simp (disch := first | decide | omega) only [↓hs2, cE_K, vE_K, gE_K, o1K_0, o1K_i, o1_K, o2L_0, o2L_i, o2K_0, o2K_i, o2_K, thK_0, thK_i, th_K, dvL_0, dvL_i, dvK_0, dvK_i, dv_K, rmL_0, rmL_i, rmK_0, rmK_i, rm_K, dlL_0, dlL_i, dlK_0, dlK_i, dl_K, ldQ_0, ldQ_i, ldL_0, ldL_i, ldK_0, ldK_i, ld_K, kK_0, kK_i, k_K, aL_0, aL_i, aK_0, aK_i, aE_0, aE_1, clK_0, clK_i, cl_K, cBL_0, cBL_i, cBK_0, cBK_i, cB_K, zBK_0, zBK_i, zB_K, nBK_0, nBK_i, nB_K, andK_0, andK_i, and_K, orK_0, orK_i, or_K, tkK_0, tkK_i, tk_K, sk_K, stK_0, stK_i, st_K, exK_0, exK_i, ex_K, in_K, pfL_0, pfL_i, pfK_0, pfK_i, pf_K, pzL_0, pzL_i, pzK_0, pzK_i, pz_K, poL_0, poL_i, poK_0, poK_i, po_K, asQ_0, asQ_i, asM_0, asM_i, asL_0, asL_i, asK_0, asK_i, as_K, aoM_0, aoM_i, aoQ_0, aoQ_i, aoL_0, aoL_i, aoK_0, aoK_i, ao_K, sqK_0, sqK_1, sqK_2, sqK_3, sqK_4, sqK_i, sq_K, swK_0, swK_1, swK_2, swK_3, swK_4, swK_i, sw_K, ifK_0, ifK_i, if_K, br_K, ct_K, rv_K, thr_K, rtK_0, rtK_i, rt_K, mfK_0, mfK_i, mf_K, mzK_i, mzK_0, mz_K, cpK_0, cpT_0, cp_K, tsK_0, tsK_i, ts_K, tsP_hit, tsP_next, tsP_low, tsP_nil, ini_0, ini_1, rdU_0, rdU_i, rdB_0, rdB_1, rdB_2, rdB_3, rdB_4, rdB_i, rdC_0, rdC_i, rnd_K, cmpI, addI, subI, mulI, i2lI, l2iI, minI, maxI, idI, up, ok_some, ok_ite, w32_id, ix_id, Int.toNat_add, Int.toNat_mul, ltI_t, ltI_f, leI_t, leI_f, eqI_t, eqI_f, u2_s, u2_v, u2_i, w3_m2, w3_m1, w3_0, w3_1, w3_2, w3_3, w3_4, w3_5, w3_6, w3_7, w3_8, w3_9, w3_10, w3_12, w3_20, w3_23, w3_24, w3_25, w3_32, w3_40, w3_50, w3_100, w3_120, w3_168, w3_200, w3_240, w3_255, w3_500, w3_592, w3_600, w3_900, w3_940, w3_999, w3_1000, w3_1009, w3_1184, w3_3333, w3_9999, if_true, if_false, reduceIte, true_and, and_true, false_and, and_false, true_or, or_true, false_or, or_false, not_true_eq_false, not_false_eq_true, decide_true, decide_false, decide_eq_true_eq, Bool.not_true, Bool.not_false, Bool.false_eq_true, Bool.not_eq_true', Bool.not_eq_eq_eq_not, decide_eq_false_iff_not, Int.not_lt, Int.not_le, Nat.not_le, Nat.not_lt, Nat.le_refl, Int.le_refl, Nat.lt_irrefl, Int.lt_irrefl, reduceCtorEq, Nat.reduceEqDiff, Nat.reduceAdd, Nat.reduceMul, Nat.reduceBEq, Int.reduceNeg, Int.reduceAdd, Int.toNat_natCast, Int.reduceToNat, ne_eq, Nat.zero_ne_one, true_or, Int.ofNat_lt, Int.ofNat_le, Int.natCast_add, Int.cast_ofNat_Int, Int.natCast_zero, g1, g2, g3, M_reaches_eq, n2, hR]
    generalize hs3 : u2 s2 832 (4 * h + c) 0 = s3
    have a3 : ∀ v, v ≠ 832 → s3 v = s2 v := fun v h1 => by rw [← hs3]; funext i; simp [u2, h1]
    have p3 : ∀ i, s3 832 i = if i = 4 * h + c then 0 else σ 832 i := fun i => by
      rw [← hs3]; simp only [u2, true_and]; rw [a2 _ (by decide), a1 _ (by decide) (by decide)]
    obtain ⟨e1, e2⟩ := st_congr (N := N) (f := f) (X := s2 704) (B := s2 768) (X' := X) (B' := B) hR hc4 (fun i h1 h2 => ⟨wc i h1 h2, bc i h1 h2⟩)
    have x0 : ∀ i, i / 4 < R → i % 4 = c → 0 ≤ s2 704 i ∧ 0 ≤ s2 768 i ∧ s2 704 i + s2 768 i ≤ 10078992 := fun i h1 h2 => by
      rw [wc i h1 h2, bc i h1 h2]
      exact ⟨hx0 i, hb0 i, hxb i h1 h2⟩
    refine ok_sqK (hour_L2 (N := N) (X := s2 704) (B := s2 768) (f := f) (h := h) (c := c) hN (by rw [a3 _ (by decide), n2]) (by rw [a3 _ (by decide)]) (by rw [a3 _ (by decide)]) hR hh hc4 f0 f1 g1 g2 g3 (by simp [up]) (by rw [p3, if_pos rfl]) x0 ?_)
    intro ρ g1 g2 g3
    generalize hs4 : hr2 s3 (s2 704) (s2 768) (b2N N f (s2 768)) (x2N N f (s2 704) (s2 768)) (goN N f (s2 704) (s2 768)) R c (4 * h + c) R = s4
    have a4 : ∀ v, v ≠ 704 → v ≠ 768 → v ≠ 832 → s4 v = s3 v := fun v h1 h2 h3 => by rw [← hs4]; funext i; simp [hr2, h1, h2, h3]
    have w4 : ∀ i, s4 704 i = if i % 4 = c ∧ i / 4 < R then y3N N f (s2 704) (s2 768) i else s2 704 i := fun i => by
      rw [← hs4]
      simp only [hr2, if_true, y3N]
      by_cases h1 : i % 4 = c ∧ i / 4 < R
      · rw [if_pos ⟨h1.1, h1.2, by omega⟩, if_pos h1]
        by_cases h2 : 4 ≤ i
        · rw [if_pos ⟨h2, by omega⟩, if_pos h2]
        · rw [if_neg (fun q => h2 q.1), if_neg h2]
      · rw [if_neg (fun q => h1 ⟨q.1, q.2.1⟩), if_neg h1]
    have b4 : ∀ i, s4 768 i = if i % 4 = c ∧ i / 4 < R then b2N N f (s2 768) i else s2 768 i := fun i => by
      rw [← hs4]
      simp only [hr2, if_true]
      by_cases h1 : i % 4 = c ∧ i / 4 < R
      · have h2 : i % 4 = c ∧ i / 4 < R ∧ R ≤ i / 4 + R := ⟨h1.1, h1.2, by omega⟩
        simp [h1, h2]
      · have h2 : ¬ (i % 4 = c ∧ i / 4 < R ∧ R ≤ i / 4 + R) := fun q => h1 ⟨q.1, q.2.1⟩
        simp only [if_neg h1, if_neg h2]
        simp
    have p4 : ∀ i, s4 832 i = if i = 4 * h + c then stP N f X B c else σ 832 i := fun i => by
      rw [← e2, ← hs4]
      simp only [hr2]
      by_cases h1 : i = 4 * h + c
      · simp only [h1, true_and, if_true, stP, hR]
        by_cases h0 : R = 0
        · simp [h0]
        · have h0' : ¬ (R : Int) = 0 := by omega
          simp [h0]
      · simp [h1, p3 i]
    have n4 : s4 128 = N := by rw [a4 _ (by decide) (by decide) (by decide), a3 _ (by decide), n2]
    have yb : ∀ i, i / 4 < R → i % 4 = c → 0 ≤ s4 704 i ∧ s4 704 i < 2147483648 := fun i h1 h2 => by
      rw [w4 i, if_pos ⟨h2, h1⟩]
      have v1 := rvN_v hN hR h1
      have xb : ∀ j, j / 4 < R → j % 4 = c → 0 ≤ x2N N f (s2 704) (s2 768) j ∧ x2N N f (s2 704) (s2 768) j ≤ 10078992 := fun j j1 j2 => by
        have q := x0 j j1 j2
        have := x2N_nn (N := N) (f := f) q.1 q.2.1
        omega
      have g1 := gon_bd (V := vlN N) (X := x2N N f (s2 704) (s2 768)) (f := f) (i := i) (xb i h1 h2).1 (by unfold vlN; omega) f0
      have := xb i h1 h2
      unfold y3N goN
      by_cases h4 : 4 ≤ i
      · rw [if_pos h4]
        have v2 := rvN_v hN hR (r := (i - 4) / 4) (by omega)
        have g2 := gon_bd (V := vlN N) (X := x2N N f (s2 704) (s2 768)) (f := f) (i := i - 4) (xb (i - 4) (by omega) (by omega)).1 (by unfold vlN; omega) f0
        have := xb (i - 4) (by omega) (by omega)
        omega
      · rw [if_neg h4]
        omega
    simp (disch := first | decide | omega) only [cE_K, vE_K, gE_K, o1K_0, o1K_i, o1_K, o2L_0, o2L_i, o2K_0, o2K_i, o2_K, thK_0, thK_i, th_K, dvL_0, dvL_i, dvK_0, dvK_i, dv_K, rmL_0, rmL_i, rmK_0, rmK_i, rm_K, dlL_0, dlL_i, dlK_0, dlK_i, dl_K, ldQ_0, ldQ_i, ldL_0, ldL_i, ldK_0, ldK_i, ld_K, kK_0, kK_i, k_K, aL_0, aL_i, aK_0, aK_i, aE_0, aE_1, clK_0, clK_i, cl_K, cBL_0, cBL_i, cBK_0, cBK_i, cB_K, zBK_0, zBK_i, zB_K, nBK_0, nBK_i, nB_K, andK_0, andK_i, and_K, orK_0, orK_i, or_K, tkK_0, tkK_i, tk_K, sk_K, stK_0, stK_i, st_K, exK_0, exK_i, ex_K, in_K, pfL_0, pfL_i, pfK_0, pfK_i, pf_K, pzL_0, pzL_i, pzK_0, pzK_i, pz_K, poL_0, poL_i, poK_0, poK_i, po_K, asQ_0, asQ_i, asM_0, asM_i, asL_0, asL_i, asK_0, asK_i, as_K, aoM_0, aoM_i, aoQ_0, aoQ_i, aoL_0, aoL_i, aoK_0, aoK_i, ao_K, sqK_0, sqK_1, sqK_2, sqK_3, sqK_4, sqK_i, sq_K, swK_0, swK_1, swK_2, swK_3, swK_4, swK_i, sw_K, ifK_0, ifK_i, if_K, br_K, ct_K, rv_K, thr_K, rtK_0, rtK_i, rt_K, mfK_0, mfK_i, mf_K, mzK_i, mzK_0, mz_K, cpK_0, cpT_0, cp_K, tsK_0, tsK_i, ts_K, tsP_hit, tsP_next, tsP_low, tsP_nil, ini_0, ini_1, rdU_0, rdU_i, rdB_0, rdB_1, rdB_2, rdB_3, rdB_4, rdB_i, rdC_0, rdC_i, rnd_K, cmpI, addI, subI, mulI, i2lI, l2iI, minI, maxI, idI, up, ok_some, ok_ite, w32_id, ix_id, Int.toNat_add, Int.toNat_mul, ltI_t, ltI_f, leI_t, leI_f, eqI_t, eqI_f, u2_s, u2_v, u2_i, w3_m2, w3_m1, w3_0, w3_1, w3_2, w3_3, w3_4, w3_5, w3_6, w3_7, w3_8, w3_9, w3_10, w3_12, w3_20, w3_23, w3_24, w3_25, w3_32, w3_40, w3_50, w3_100, w3_120, w3_168, w3_200, w3_240, w3_255, w3_500, w3_592, w3_600, w3_900, w3_940, w3_999, w3_1000, w3_1009, w3_1184, w3_3333, w3_9999, if_true, if_false, reduceIte, true_and, and_true, false_and, and_false, true_or, or_true, false_or, or_false, not_true_eq_false, not_false_eq_true, decide_true, decide_false, decide_eq_true_eq, Bool.not_true, Bool.not_false, Bool.false_eq_true, Bool.not_eq_true', Bool.not_eq_eq_eq_not, decide_eq_false_iff_not, Int.not_lt, Int.not_le, Nat.not_le, Nat.not_lt, Nat.le_refl, Int.le_refl, Nat.lt_irrefl, Int.lt_irrefl, reduceCtorEq, Nat.reduceEqDiff, Nat.reduceAdd, Nat.reduceMul, Nat.reduceBEq, Int.reduceNeg, Int.reduceAdd, Int.toNat_natCast, Int.reduceToNat, ne_eq, Nat.zero_ne_one, true_or, Int.ofNat_lt, Int.ofNat_le, Int.natCast_add, Int.cast_ofNat_Int, Int.natCast_zero]
    refine ok_sqK (hour_L3 (N := N) (Y := s4 704) (B := s4 768) (h := h) (c := c) hN n4 rfl rfl hR hh hc4 g1 g2 (by simp [up]) yb ?_)
    intro ρ
    simp only [sqK_0, rv_K, mfK_0, ok_some, true_and]
    rw [hQ]
    have sw : ∀ i, i / 4 < R → i % 4 = c → s4 704 i - s4 704 i * N (11 + 2 * (i / 4)) / 1000 = stW N f X B i ∧ s4 768 i + s4 704 i * N (11 + 2 * (i / 4)) / 1000 = stB N f X B i := fun i h1 h2 => by
      have ha : ((i / 4 : Nat) : Int) < N 0 ∧ ((i % 4 : Nat) : Int) < N 1 := by omega
      rw [← (e1 i h1 h2).1, ← (e1 i h1 h2).2, w4 i, b4 i, if_pos ⟨h2, h1⟩, if_pos ⟨h2, h1⟩]
      simp only [stW, stB, if_pos ha, and_self]
    refine ⟨?_, ?_, ?_, ?_, ?_, ?_, ?_, ?_⟩
    · intro v hv
      simp only [List.mem_cons, List.not_mem_nil, or_false, not_or] at hv
      obtain ⟨v1, v2, v3, v4, v5, v6⟩ := hv
      have : s4 v = σ v := by rw [a4 v v1 v2 v3, a3 v v3, a2 v v1, a1 v v1 v4]
      rw [← this]
      funext i
      simp [hr3, v1, v2, v5, v6]
    · intro i hi
      have : puM σ h c i = 0 := by
        unfold puM
        exact if_neg (fun q => hi (by omega))
      constructor
      · simp only [hr3, hi, false_and, if_false, if_true]
        rw [w4 i, if_neg (fun q => hi q.1), w2 i, w1 i, if_neg hi, this]
        omega
      · have h78 : ¬ (768 : Nat) = 704 := by decide
        simp only [hr3, hi, false_and, if_false, if_true, h78]
        rw [b4 i, if_neg (fun q => hi q.1), a2 _ (by decide), a1 _ (by decide) (by decide)]
    · intro i h1 h2
      have e3 : 40 * h + i - 40 * h = i := by omega
      simp [hr3, h1, h2, e3, sw i h1 h2]
    · simp [hr3, p4]
    · intro j hj
      simp [hr3, p4, hj]
    · have := q1 c
      simp only [if_true] at this
      simp [hr3, a4, a3, a2, this]
    · intro j hj
      have := q1 j
      simp only [if_neg hj] at this
      simp [hr3, a4, a3, a2, this]
    · intro j hj
      simp [hr3, hj, a4, a3, a2, a1]
  obtain ⟨⟨r1, r2⟩, h1, h2, h3⟩ := main
  simp only at h2 h3
  subst h2
  exact ⟨r2, h1, h3⟩
