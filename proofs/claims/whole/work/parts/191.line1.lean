def mxN (k : Nat) : Nat := if k = 0 then 10 else if k = 1 then 4 else 6
theorem bs_dis {R : Nat → Int} (hN : ctN R) {k r : Nat} (hk : k < 4) (hr : R k = r) (hm : r < mxN k) : bsN k + r < 26 ∧ R 0 + R 1 + R 2 + R 3 < 26 ∧ ∀ k' j : Nat, k' < 4 → (j : Int) < R k' → bsN k' + j ≠ bsN k + r := by
  obtain ⟨h0, h1, h2, h3⟩ := hN
  have a : k = 0 ∨ k = 1 ∨ k = 2 ∨ k = 3 := by omega
  refine ⟨?_, ?_, fun k' j hk' hj => ?_⟩
  · rcases a with rfl | rfl | rfl | rfl <;> simp [mxN] at hm <;> simp only [bs0, bs1, bs2, bs3] <;> omega
  · rcases a with rfl | rfl | rfl | rfl <;> simp [mxN] at hm <;> omega
  · have b : k' = 0 ∨ k' = 1 ∨ k' = 2 ∨ k' = 3 := by omega
    rcases a with rfl | rfl | rfl | rfl <;> rcases b with rfl | rfl | rfl | rfl <;> simp [mxN] at hm <;> simp only [bs0, bs1, bs2, bs3] <;> omega
theorem new_step {s m : Me} {y : Nat → Int} {L lim p w k r : Nat} (h : TR s m y L lim p) (hD : DR s m) (ha : atW m w = true) (hk : k < 4) (hr : m 192 k = r) (hm : r < mxN k) :
    ∃ s1 m1 s2 m2, m_Tape_advance [0] s = some (0, s1) ∧ m_M_go [0] m = some (0, m1) ∧ m_Names_takeNew [0, 0, k, r] s1 = some (0, s2) ∧ fr nxV s s2 ∧ fr nmV m m2 ∧ ((∃ p2, m_M_readNew [0, ((bsN k + r : Nat) : Int)] m1 = some (1, m2) ∧ TR s2 m2 y L lim p2 ∧ p < p2 ∧ nm0 (shf s2 2112) (fun i => if i = k then (r : Int) + 1 else m 192 i) (m2 448)) ∨ (m_M_readNew [0, ((bsN k + r : Nat) : Int)] m1 = some (0, m2) ∧ FL s2 m2 ∧ Qt s2 ∧ ∀ v, 2368 ≤ v → s2 v = s v)) ∧ m1 192 = m 192 ∧ (∀ v, 2368 ≤ v → s1 v = s v) := by
  obtain ⟨a1, a2⟩ := atW_k h ha
  obtain ⟨s1, m1, p1, b1, b2, b3, b4, b5, b6, b7⟩ := adv h (by omega)
  have hm1 : m1 192 = m 192 := b4 _ (by decide)
  have hm2 : m1 448 = m 448 := b4 _ (by decide)
  obtain ⟨d1, d2, d3⟩ := bs_dis hD.1.1 hk hr hm
  obtain ⟨s2, m2, c1, c2, c3, c4⟩ := new_ok (k := k) (r := r) b6 (by rw [hm1]; exact hD.1.1) (by rw [hm1, hm2]; exact nm_s hD.2 (fun v h1 h2 => tx_d b3 v (by omega))) hk (by rw [hm1]; exact hr) d1 (by rw [hm1]; exact d2) (by rw [hm1]; exact d3)
  refine ⟨s1, m1, s2, m2, b1, b2, c1, fr_trans (fr_sub b3 (by decide)) c2, fr_trans (fr_sub b4 (by decide)) c3, ?_, hm1, tx_d b3⟩
  rcases c4 with ⟨p2, e1, e2, e3, e4⟩ | ⟨e1, e2, e3, e5⟩
  · left
    rw [hm1] at e4
    exact ⟨p2, e1, e2, by omega, e4⟩
  · exact Or.inr ⟨e1, e2, Qt_FL e2 e3, fun v hv => by rw [trx_d e5 v hv, tx_d b3 v hv]⟩
theorem nx_f {s s' : Me} (h : fr nxV s s') : fX s s' := fX_fr h (by decide)
theorem nm_f {s s' : Me} (h : fr nmV s s') : fM s s' := fM_fr h (by decide)
theorem trx_f {s s' : Me} (h : fr trX s s') : fX s s' := fX_fr h (by decide)
theorem trm_f {s s' : Me} (h : fr trM s s') : fM s s' := fM_fr h (by decide)
theorem nx_d {s s' : Me} (h : fr nxV s s') : ∀ v, 2368 ≤ v → ¬ (2432 ≤ v ∧ v < 2688) → s' v = s v := fun v h1 h2 => h v (by simp [nxV]; omega)
theorem nm_d {m m' : Me} (h : fr nmV m m') : ∀ v, 14 ≤ v → v ≠ 448 → m' v = m v := fun v h1 h2 => h v (by simp [nmV]; omega)
set_option maxHeartbeats 4000000 in
theorem line_colour : lnO m_RiverText_readColour m_M_readColour 1 := by
  intro s m y L lim p h hD ha
  have c0 := hD.1.1
  unfold ctN at c0
  have cC := hD.1.2.2.1
  obtain ⟨r, hr⟩ : ∃ r : Nat, m 192 1 = r := ⟨(m 192 1).toNat, by omega⟩
  have hsr : s 2372 0 = r := by rw [cC.2.1, hr]
  by_cases c : r = 4
  · obtain ⟨x1, x2, x3⟩ := many_bad (k := 4) h ha (by omega)
    refine ⟨_, _, ?_, trx_f rx_fr, trm_f rm_fr, Or.inr ⟨?_, x3⟩⟩
    · simp only [m_RiverText_readColour, b_RiverText_readColour]
      simp (disch := first | decide | omega) only [cE_K, vE_K, gE_K, o1K_0, o1K_i, o1_K, o2L_0, o2L_i, o2K_0, o2K_i, o2_K, thK_0, thK_i, th_K, dvL_0, dvL_i, dvK_0, dvK_i, dv_K, rmL_0, rmL_i, rmK_0, rmK_i, rm_K, dlL_0, dlL_i, dlK_0, dlK_i, dl_K, ldQ_0, ldQ_i, ldL_0, ldL_i, ldK_0, ldK_i, ld_K, kK_0, kK_i, k_K, aL_0, aL_i, aK_0, aK_i, aE_0, aE_1, clK_0, clK_i, cl_K, cBL_0, cBL_i, cBK_0, cBK_i, cB_K, zBK_0, zBK_i, zB_K, nBK_0, nBK_i, nB_K, andK_0, andK_i, and_K, orK_0, orK_i, or_K, tkK_0, tkK_i, tk_K, sk_K, stK_0, stK_i, st_K, exK_0, exK_i, ex_K, in_K, pfL_0, pfL_i, pfK_0, pfK_i, pf_K, pzL_0, pzL_i, pzK_0, pzK_i, pz_K, poL_0, poL_i, poK_0, poK_i, po_K, asQ_0, asQ_i, asM_0, asM_i, asL_0, asL_i, asK_0, asK_i, as_K, aoM_0, aoM_i, aoQ_0, aoQ_i, aoL_0, aoL_i, aoK_0, aoK_i, ao_K, sqK_0, sqK_1, sqK_2, sqK_3, sqK_4, sqK_i, sq_K, swK_0, swK_1, swK_2, swK_3, swK_4, swK_i, sw_K, ifK_0, ifK_i, if_K, br_K, ct_K, rv_K, thr_K, rtK_0, rtK_i, rt_K, mfK_0, mfK_i, mf_K, mzK_i, mzK_0, mz_K, cpK_0, cpT_0, cp_K, tsK_0, tsK_i, ts_K, tsP_hit, tsP_next, tsP_low, tsP_nil, ini_0, ini_1, rdU_0, rdU_i, rdB_0, rdB_1, rdB_2, rdB_3, rdB_4, rdB_i, rdC_0, rdC_i, rnd_K, cmpI, addI, subI, mulI, i2lI, l2iI, minI, maxI, idI, up, ok_some, ok_ite, w32_id, ix_id, Int.toNat_add, Int.toNat_mul, ltI_t, ltI_f, leI_t, leI_f, eqI_t, eqI_f, u2_s, u2_v, u2_i, w3_m2, w3_m1, w3_0, w3_1, w3_2, w3_3, w3_4, w3_5, w3_6, w3_7, w3_8, w3_9, w3_10, w3_12, w3_20, w3_23, w3_24, w3_25, w3_32, w3_40, w3_50, w3_100, w3_120, w3_168, w3_200, w3_240, w3_255, w3_500, w3_592, w3_600, w3_900, w3_940, w3_999, w3_1000, w3_1009, w3_1184, w3_3333, w3_9999, if_true, if_false, reduceIte, true_and, and_true, false_and, and_false, true_or, or_true, false_or, or_false, not_true_eq_false, not_false_eq_true, decide_true, decide_false, decide_eq_true_eq, Bool.not_true, Bool.not_false, Bool.false_eq_true, Bool.not_eq_true', Bool.not_eq_eq_eq_not, decide_eq_false_iff_not, Int.not_lt, Int.not_le, Nat.not_le, Nat.not_lt, Nat.le_refl, Int.le_refl, Nat.lt_irrefl, Int.lt_irrefl, reduceCtorEq, Nat.reduceEqDiff, Nat.reduceAdd, Nat.reduceMul, Nat.reduceBEq, Int.reduceNeg, Int.reduceAdd, Int.toNat_natCast, Int.reduceToNat, ne_eq, Nat.zero_ne_one, true_or, Int.ofNat_lt, Int.ofNat_le, Int.natCast_add, Int.cast_ofNat_Int, Int.natCast_zero, hsr, x1]
    · simp only [m_M_readColour, b_M_readColour]
      simp (disch := first | decide | omega) only [cE_K, vE_K, gE_K, o1K_0, o1K_i, o1_K, o2L_0, o2L_i, o2K_0, o2K_i, o2_K, thK_0, thK_i, th_K, dvL_0, dvL_i, dvK_0, dvK_i, dv_K, rmL_0, rmL_i, rmK_0, rmK_i, rm_K, dlL_0, dlL_i, dlK_0, dlK_i, dl_K, ldQ_0, ldQ_i, ldL_0, ldL_i, ldK_0, ldK_i, ld_K, kK_0, kK_i, k_K, aL_0, aL_i, aK_0, aK_i, aE_0, aE_1, clK_0, clK_i, cl_K, cBL_0, cBL_i, cBK_0, cBK_i, cB_K, zBK_0, zBK_i, zB_K, nBK_0, nBK_i, nB_K, andK_0, andK_i, and_K, orK_0, orK_i, or_K, tkK_0, tkK_i, tk_K, sk_K, stK_0, stK_i, st_K, exK_0, exK_i, ex_K, in_K, pfL_0, pfL_i, pfK_0, pfK_i, pf_K, pzL_0, pzL_i, pzK_0, pzK_i, pz_K, poL_0, poL_i, poK_0, poK_i, po_K, asQ_0, asQ_i, asM_0, asM_i, asL_0, asL_i, asK_0, asK_i, as_K, aoM_0, aoM_i, aoQ_0, aoQ_i, aoL_0, aoL_i, aoK_0, aoK_i, ao_K, sqK_0, sqK_1, sqK_2, sqK_3, sqK_4, sqK_i, sq_K, swK_0, swK_1, swK_2, swK_3, swK_4, swK_i, sw_K, ifK_0, ifK_i, if_K, br_K, ct_K, rv_K, thr_K, rtK_0, rtK_i, rt_K, mfK_0, mfK_i, mf_K, mzK_i, mzK_0, mz_K, cpK_0, cpT_0, cp_K, tsK_0, tsK_i, ts_K, tsP_hit, tsP_next, tsP_low, tsP_nil, ini_0, ini_1, rdU_0, rdU_i, rdB_0, rdB_1, rdB_2, rdB_3, rdB_4, rdB_i, rdC_0, rdC_i, rnd_K, cmpI, addI, subI, mulI, i2lI, l2iI, minI, maxI, idI, up, ok_some, ok_ite, w32_id, ix_id, Int.toNat_add, Int.toNat_mul, ltI_t, ltI_f, leI_t, leI_f, eqI_t, eqI_f, u2_s, u2_v, u2_i, w3_m2, w3_m1, w3_0, w3_1, w3_2, w3_3, w3_4, w3_5, w3_6, w3_7, w3_8, w3_9, w3_10, w3_12, w3_20, w3_23, w3_24, w3_25, w3_32, w3_40, w3_50, w3_100, w3_120, w3_168, w3_200, w3_240, w3_255, w3_500, w3_592, w3_600, w3_900, w3_940, w3_999, w3_1000, w3_1009, w3_1184, w3_3333, w3_9999, if_true, if_false, reduceIte, true_and, and_true, false_and, and_false, true_or, or_true, false_or, or_false, not_true_eq_false, not_false_eq_true, decide_true, decide_false, decide_eq_true_eq, Bool.not_true, Bool.not_false, Bool.false_eq_true, Bool.not_eq_true', Bool.not_eq_eq_eq_not, decide_eq_false_iff_not, Int.not_lt, Int.not_le, Nat.not_le, Nat.not_lt, Nat.le_refl, Int.le_refl, Nat.lt_irrefl, Int.lt_irrefl, reduceCtorEq, Nat.reduceEqDiff, Nat.reduceAdd, Nat.reduceMul, Nat.reduceBEq, Int.reduceNeg, Int.reduceAdd, Int.toNat_natCast, Int.reduceToNat, ne_eq, Nat.zero_ne_one, true_or, Int.ofNat_lt, Int.ofNat_le, Int.natCast_add, Int.cast_ofNat_Int, Int.natCast_zero, hr, x2]
  · obtain ⟨s1, m1, s2, m2, b1, b2, b3, b4, b5, b6, b7, b8⟩ := new_step (k := 1) (r := r) h hD ha (by omega) hr (by simp [mxN]; omega)
    rw [bs1, show ((10 + r : Nat) : Int) = 10 + r by omega] at b6
    simp only [Int.cast_ofNat_Int] at b3
    have s2c : s2 2372 0 = r := by rw [nx_d b4 _ (by decide) (by decide)]; exact hsr
    refine ⟨u2 s2 2372 0 ((r : Int) + 1), ?_⟩
    have ex : m_RiverText_readColour [0, 0] s = some (0, u2 s2 2372 0 ((r : Int) + 1)) := by
      simp only [m_RiverText_readColour, b_RiverText_readColour]
      simp (disch := first | decide | omega) only [cE_K, vE_K, gE_K, o1K_0, o1K_i, o1_K, o2L_0, o2L_i, o2K_0, o2K_i, o2_K, thK_0, thK_i, th_K, dvL_0, dvL_i, dvK_0, dvK_i, dv_K, rmL_0, rmL_i, rmK_0, rmK_i, rm_K, dlL_0, dlL_i, dlK_0, dlK_i, dl_K, ldQ_0, ldQ_i, ldL_0, ldL_i, ldK_0, ldK_i, ld_K, kK_0, kK_i, k_K, aL_0, aL_i, aK_0, aK_i, aE_0, aE_1, clK_0, clK_i, cl_K, cBL_0, cBL_i, cBK_0, cBK_i, cB_K, zBK_0, zBK_i, zB_K, nBK_0, nBK_i, nB_K, andK_0, andK_i, and_K, orK_0, orK_i, or_K, tkK_0, tkK_i, tk_K, sk_K, stK_0, stK_i, st_K, exK_0, exK_i, ex_K, in_K, pfL_0, pfL_i, pfK_0, pfK_i, pf_K, pzL_0, pzL_i, pzK_0, pzK_i, pz_K, poL_0, poL_i, poK_0, poK_i, po_K, asQ_0, asQ_i, asM_0, asM_i, asL_0, asL_i, asK_0, asK_i, as_K, aoM_0, aoM_i, aoQ_0, aoQ_i, aoL_0, aoL_i, aoK_0, aoK_i, ao_K, sqK_0, sqK_1, sqK_2, sqK_3, sqK_4, sqK_i, sq_K, swK_0, swK_1, swK_2, swK_3, swK_4, swK_i, sw_K, ifK_0, ifK_i, if_K, br_K, ct_K, rv_K, thr_K, rtK_0, rtK_i, rt_K, mfK_0, mfK_i, mf_K, mzK_i, mzK_0, mz_K, cpK_0, cpT_0, cp_K, tsK_0, tsK_i, ts_K, tsP_hit, tsP_next, tsP_low, tsP_nil, ini_0, ini_1, rdU_0, rdU_i, rdB_0, rdB_1, rdB_2, rdB_3, rdB_4, rdB_i, rdC_0, rdC_i, rnd_K, cmpI, addI, subI, mulI, i2lI, l2iI, minI, maxI, idI, up, ok_some, ok_ite, w32_id, ix_id, Int.toNat_add, Int.toNat_mul, ltI_t, ltI_f, leI_t, leI_f, eqI_t, eqI_f, u2_s, u2_v, u2_i, w3_m2, w3_m1, w3_0, w3_1, w3_2, w3_3, w3_4, w3_5, w3_6, w3_7, w3_8, w3_9, w3_10, w3_12, w3_20, w3_23, w3_24, w3_25, w3_32, w3_40, w3_50, w3_100, w3_120, w3_168, w3_200, w3_240, w3_255, w3_500, w3_592, w3_600, w3_900, w3_940, w3_999, w3_1000, w3_1009, w3_1184, w3_3333, w3_9999, if_true, if_false, reduceIte, true_and, and_true, false_and, and_false, true_or, or_true, false_or, or_false, not_true_eq_false, not_false_eq_true, decide_true, decide_false, decide_eq_true_eq, Bool.not_true, Bool.not_false, Bool.false_eq_true, Bool.not_eq_true', Bool.not_eq_eq_eq_not, decide_eq_false_iff_not, Int.not_lt, Int.not_le, Nat.not_le, Nat.not_lt, Nat.le_refl, Int.le_refl, Nat.lt_irrefl, Int.lt_irrefl, reduceCtorEq, Nat.reduceEqDiff, Nat.reduceAdd, Nat.reduceMul, Nat.reduceBEq, Int.reduceNeg, Int.reduceAdd, Int.toNat_natCast, Int.reduceToNat, ne_eq, Nat.zero_ne_one, true_or, Int.ofNat_lt, Int.ofNat_le, Int.natCast_add, Int.cast_ofNat_Int, Int.natCast_zero, hsr, b1, b3]
    rcases b6 with ⟨p2, e1, e2, e3, e4⟩ | ⟨e1, e2, e3, _⟩
    · have rd : m2 192 = m 192 := nm_d b5 _ (by decide) (by decide)
      have r2 : m2 192 1 = r := by rw [rd, hr]
      refine ⟨u2 m2 192 1 ((r : Int) + 1), ex, fX_t (nx_f b4) (fX_u (by decide)), fM_t (nm_f b5) (fM_u (by decide)), Or.inl ⟨p2, ?_, TR_m (TR_u e2 (by decide)) (by decide), e3, ?_⟩⟩
      · simp only [m_M_readColour, b_M_readColour]
        simp (disch := first | decide | omega) only [cE_K, vE_K, gE_K, o1K_0, o1K_i, o1_K, o2L_0, o2L_i, o2K_0, o2K_i, o2_K, thK_0, thK_i, th_K, dvL_0, dvL_i, dvK_0, dvK_i, dv_K, rmL_0, rmL_i, rmK_0, rmK_i, rm_K, dlL_0, dlL_i, dlK_0, dlK_i, dl_K, ldQ_0, ldQ_i, ldL_0, ldL_i, ldK_0, ldK_i, ld_K, kK_0, kK_i, k_K, aL_0, aL_i, aK_0, aK_i, aE_0, aE_1, clK_0, clK_i, cl_K, cBL_0, cBL_i, cBK_0, cBK_i, cB_K, zBK_0, zBK_i, zB_K, nBK_0, nBK_i, nB_K, andK_0, andK_i, and_K, orK_0, orK_i, or_K, tkK_0, tkK_i, tk_K, sk_K, stK_0, stK_i, st_K, exK_0, exK_i, ex_K, in_K, pfL_0, pfL_i, pfK_0, pfK_i, pf_K, pzL_0, pzL_i, pzK_0, pzK_i, pz_K, poL_0, poL_i, poK_0, poK_i, po_K, asQ_0, asQ_i, asM_0, asM_i, asL_0, asL_i, asK_0, asK_i, as_K, aoM_0, aoM_i, aoQ_0, aoQ_i, aoL_0, aoL_i, aoK_0, aoK_i, ao_K, sqK_0, sqK_1, sqK_2, sqK_3, sqK_4, sqK_i, sq_K, swK_0, swK_1, swK_2, swK_3, swK_4, swK_i, sw_K, ifK_0, ifK_i, if_K, br_K, ct_K, rv_K, thr_K, rtK_0, rtK_i, rt_K, mfK_0, mfK_i, mf_K, mzK_i, mzK_0, mz_K, cpK_0, cpT_0, cp_K, tsK_0, tsK_i, ts_K, tsP_hit, tsP_next, tsP_low, tsP_nil, ini_0, ini_1, rdU_0, rdU_i, rdB_0, rdB_1, rdB_2, rdB_3, rdB_4, rdB_i, rdC_0, rdC_i, rnd_K, cmpI, addI, subI, mulI, i2lI, l2iI, minI, maxI, idI, up, ok_some, ok_ite, w32_id, ix_id, Int.toNat_add, Int.toNat_mul, ltI_t, ltI_f, leI_t, leI_f, eqI_t, eqI_f, u2_s, u2_v, u2_i, w3_m2, w3_m1, w3_0, w3_1, w3_2, w3_3, w3_4, w3_5, w3_6, w3_7, w3_8, w3_9, w3_10, w3_12, w3_20, w3_23, w3_24, w3_25, w3_32, w3_40, w3_50, w3_100, w3_120, w3_168, w3_200, w3_240, w3_255, w3_500, w3_592, w3_600, w3_900, w3_940, w3_999, w3_1000, w3_1009, w3_1184, w3_3333, w3_9999, if_true, if_false, reduceIte, true_and, and_true, false_and, and_false, true_or, or_true, false_or, or_false, not_true_eq_false, not_false_eq_true, decide_true, decide_false, decide_eq_true_eq, Bool.not_true, Bool.not_false, Bool.false_eq_true, Bool.not_eq_true', Bool.not_eq_eq_eq_not, decide_eq_false_iff_not, Int.not_lt, Int.not_le, Nat.not_le, Nat.not_lt, Nat.le_refl, Int.le_refl, Nat.lt_irrefl, Int.lt_irrefl, reduceCtorEq, Nat.reduceEqDiff, Nat.reduceAdd, Nat.reduceMul, Nat.reduceBEq, Int.reduceNeg, Int.reduceAdd, Int.toNat_natCast, Int.reduceToNat, ne_eq, Nat.zero_ne_one, true_or, Int.ofNat_lt, Int.ofNat_le, Int.natCast_add, Int.cast_ofNat_Int, Int.natCast_zero, hr, b2, e1, r2, Int.one_ne_zero]
      · have F : ∀ v, 2368 ≤ v → v < 3520 → ¬ (2432 ≤ v ∧ v < 2688) → v ≠ 2372 → u2 s2 2372 0 ((r : Int) + 1) v = s v := fun v h1 h2 h3 h4 => by
          rw [← nx_d b4 v h1 h3]
          funext i; simp [u2, h4]
        have RR : ∀ i, i ≠ 1 → u2 m2 192 1 ((r : Int) + 1) 192 i = m 192 i := fun i hi => by simp [u2, hi, rd]
        have R1 : u2 m2 192 1 ((r : Int) + 1) 192 1 = (r : Int) + 1 := by simp [u2]
        have hh : u2 m2 192 1 ((r : Int) + 1) 23 = m 23 := by rw [← nm_d b5 23 (by decide) (by decide)]; funext i; simp [u2]
        have hd : u2 m2 192 1 ((r : Int) + 1) 24 = m 24 := by rw [← nm_d b5 24 (by decide) (by decide)]; funext i; simp [u2]
        have hn : u2 m2 192 1 ((r : Int) + 1) 448 = m2 448 := by funext i; simp [u2]
        refine ⟨?_, ?_⟩
        · rw [hh, hd]
          obtain ⟨g1, g2, g3, g4, g5, g6, g7, g8, g9, g10⟩ := hD.1
          generalize u2 m2 192 1 ((r : Int) + 1) 192 = R' at RR R1
          refine ⟨?_, by rw [RR 4 (by decide)]; exact g2, ?_, ?_, ?_, ?_, ?_, ?_, ?_, ?_⟩
          · unfold ctN
            rw [RR 0 (by decide), RR 2 (by decide), RR 3 (by decide), R1]
            omega
          · unfold drC at *
            rw [F _ (by decide) (by decide) (by decide) (by decide), F 2373 (by decide) (by decide) (by decide) (by decide), F 2377 (by decide) (by decide) (by decide) (by decide), F 2384 (by decide) (by decide) (by decide) (by decide), RR 0 (by decide), RR 2 (by decide), RR 3 (by decide), RR 4 (by decide), R1]
            exact ⟨g3.1, by simp [u2], g3.2.2⟩
          · intro q hq
            rw [RR 0 (by decide)] at hq
            have := g4 q hq
            unfold drR at *
            rw [F _ (by decide) (by decide) (by decide) (by decide), F _ (by decide) (by decide) (by decide) (by decide), RR (10 + 2 * q) (by omega), RR (11 + 2 * q) (by omega)]
            exact this
          · intro q hq
            rw [RR 2 (by decide)] at hq
            have := g5 q hq
            unfold drG at *
            rw [F _ (by decide) (by decide) (by decide) (by decide), F _ (by decide) (by decide) (by decide) (by decide), F _ (by decide) (by decide) (by decide) (by decide), RR (30 + 6 * q) (by omega), RR (31 + 6 * q) (by omega), RR 0 (by decide)]
            exact ⟨this.1, this.2.1, this.2.2.1, this.2.2.2.1, fun c hc => by rw [RR (32 + 6 * q + c) (by omega)]; exact this.2.2.2.2 c hc⟩
          · intro q hq
            rw [RR 3 (by decide)] at hq
            have := g6 q hq
            unfold drU at *
            rw [F _ (by decide) (by decide) (by decide) (by decide), F _ (by decide) (by decide) (by decide) (by decide), F _ (by decide) (by decide) (by decide) (by decide), F _ (by decide) (by decide) (by decide) (by decide), RR (66 + 7 * q) (by omega), RR (67 + 7 * q) (by omega), RR (68 + 7 * q) (by omega), RR 0 (by decide)]
            exact ⟨this.1, this.2.1, this.2.2.1, this.2.2.2.1, this.2.2.2.2.1, fun c hc => by rw [RR (69 + 7 * q + c) (by omega)]; exact this.2.2.2.2.2 c hc⟩
          · intro d hd
            have := g7 d hd
            unfold drF at *
            rw [F _ (by decide) (by decide) (by decide) (by decide), RR (110 + d) (by omega)]
            exact this
          · unfold drD at *
            rw [F _ (by decide) (by decide) (by decide) (by decide), RR 5 (by decide)]
            exact g8
          · intro q hq
            rw [RR 4 (by decide)] at hq
            have := g9 q hq
            unfold drP at *
            rw [F _ (by decide) (by decide) (by decide) (by decide), F _ (by decide) (by decide) (by decide) (by decide), F _ (by decide) (by decide) (by decide) (by decide), RR (118 + 3 * q) (by omega), RR (119 + 3 * q) (by omega), RR (120 + 3 * q) (by omega), R1]
            exact ⟨this.1, this.2.1, this.2.2.1, by omega, this.2.2.2.2⟩
          · unfold drZ at *
            rw [F _ (by decide) (by decide) (by decide) (by decide), F _ (by decide) (by decide) (by decide) (by decide), RR 2 (by decide), RR 3 (by decide)]
            exact g10
        · rw [hn]
          refine nm_N (nm_s e4 (fun v h1 h2 => ?_)) (fun k hk => ?_)
          · have : v ≠ 2372 := by omega
            funext i; simp [u2, this]
          · by_cases e : k = 1
            · subst e; rw [R1, if_pos rfl]
            · rw [RR k e, if_neg e]
    · refine ⟨m2, ex, fX_t (nx_f b4) (fX_u (by decide)), nm_f b5, Or.inr ⟨?_, FL_u e2 (by decide)⟩⟩
      simp only [m_M_readColour, b_M_readColour]
      simp (disch := first | decide | omega) only [cE_K, vE_K, gE_K, o1K_0, o1K_i, o1_K, o2L_0, o2L_i, o2K_0, o2K_i, o2_K, thK_0, thK_i, th_K, dvL_0, dvL_i, dvK_0, dvK_i, dv_K, rmL_0, rmL_i, rmK_0, rmK_i, rm_K, dlL_0, dlL_i, dlK_0, dlK_i, dl_K, ldQ_0, ldQ_i, ldL_0, ldL_i, ldK_0, ldK_i, ld_K, kK_0, kK_i, k_K, aL_0, aL_i, aK_0, aK_i, aE_0, aE_1, clK_0, clK_i, cl_K, cBL_0, cBL_i, cBK_0, cBK_i, cB_K, zBK_0, zBK_i, zB_K, nBK_0, nBK_i, nB_K, andK_0, andK_i, and_K, orK_0, orK_i, or_K, tkK_0, tkK_i, tk_K, sk_K, stK_0, stK_i, st_K, exK_0, exK_i, ex_K, in_K, pfL_0, pfL_i, pfK_0, pfK_i, pf_K, pzL_0, pzL_i, pzK_0, pzK_i, pz_K, poL_0, poL_i, poK_0, poK_i, po_K, asQ_0, asQ_i, asM_0, asM_i, asL_0, asL_i, asK_0, asK_i, as_K, aoM_0, aoM_i, aoQ_0, aoQ_i, aoL_0, aoL_i, aoK_0, aoK_i, ao_K, sqK_0, sqK_1, sqK_2, sqK_3, sqK_4, sqK_i, sq_K, swK_0, swK_1, swK_2, swK_3, swK_4, swK_i, sw_K, ifK_0, ifK_i, if_K, br_K, ct_K, rv_K, thr_K, rtK_0, rtK_i, rt_K, mfK_0, mfK_i, mf_K, mzK_i, mzK_0, mz_K, cpK_0, cpT_0, cp_K, tsK_0, tsK_i, ts_K, tsP_hit, tsP_next, tsP_low, tsP_nil, ini_0, ini_1, rdU_0, rdU_i, rdB_0, rdB_1, rdB_2, rdB_3, rdB_4, rdB_i, rdC_0, rdC_i, rnd_K, cmpI, addI, subI, mulI, i2lI, l2iI, minI, maxI, idI, up, ok_some, ok_ite, w32_id, ix_id, Int.toNat_add, Int.toNat_mul, ltI_t, ltI_f, leI_t, leI_f, eqI_t, eqI_f, u2_s, u2_v, u2_i, w3_m2, w3_m1, w3_0, w3_1, w3_2, w3_3, w3_4, w3_5, w3_6, w3_7, w3_8, w3_9, w3_10, w3_12, w3_20, w3_23, w3_24, w3_25, w3_32, w3_40, w3_50, w3_100, w3_120, w3_168, w3_200, w3_240, w3_255, w3_500, w3_592, w3_600, w3_900, w3_940, w3_999, w3_1000, w3_1009, w3_1184, w3_3333, w3_9999, if_true, if_false, reduceIte, true_and, and_true, false_and, and_false, true_or, or_true, false_or, or_false, not_true_eq_false, not_false_eq_true, decide_true, decide_false, decide_eq_true_eq, Bool.not_true, Bool.not_false, Bool.false_eq_true, Bool.not_eq_true', Bool.not_eq_eq_eq_not, decide_eq_false_iff_not, Int.not_lt, Int.not_le, Nat.not_le, Nat.not_lt, Nat.le_refl, Int.le_refl, Nat.lt_irrefl, Int.lt_irrefl, reduceCtorEq, Nat.reduceEqDiff, Nat.reduceAdd, Nat.reduceMul, Nat.reduceBEq, Int.reduceNeg, Int.reduceAdd, Int.toNat_natCast, Int.reduceToNat, ne_eq, Nat.zero_ne_one, true_or, Int.ofNat_lt, Int.ofNat_le, Int.natCast_add, Int.cast_ofNat_Int, Int.natCast_zero, hr, b2, e1]
