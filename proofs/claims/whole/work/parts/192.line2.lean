theorem DB_upd {V : List Nat} {s t : Me} {R R' : Nat → Int} {had hd had' hd' : Int} (h : DB s R had hd) (F : ∀ v, 2368 ≤ v → v < 3520 → ¬ (2432 ≤ v ∧ v < 2688) → v ∉ V → t v = s v)
    (hc : ctN R') (h4 : 0 ≤ R' 4 ∧ R' 4 ≤ 12) (hC : drC t R') (M0 : R 0 ≤ R' 0) (M1 : R 1 ≤ R' 1)
    (hR : (∀ r : Nat, (r : Int) < R' 0 → drR t R' r) ∨ (R' 0 = R 0 ∧ 2688 ∉ V ∧ 2752 ∉ V ∧ ∀ i, 10 ≤ i → i < 30 → R' i = R i))
    (hG : (∀ g : Nat, (g : Int) < R' 2 → drG t R' g) ∨ (R' 2 = R 2 ∧ 2816 ∉ V ∧ 2880 ∉ V ∧ 2944 ∉ V ∧ ∀ i, 30 ≤ i → i < 66 → R' i = R i))
    (hU : (∀ u : Nat, (u : Int) < R' 3 → drU t R' u) ∨ (R' 3 = R 3 ∧ 3008 ∉ V ∧ 3072 ∉ V ∧ 3136 ∉ V ∧ 3200 ∉ V ∧ ∀ i, 66 ≤ i → i < 110 → R' i = R i))
    (hF : (∀ d, d < 7 → drF t R' hd' d) ∨ (3264 ∉ V ∧ hd' = hd ∧ ∀ i, 110 ≤ i → i < 118 → R' i = R i))
    (hD : drD t R' had' ∨ (2383 ∉ V ∧ had' = had ∧ R' 5 = R 5))
    (hP : (∀ k : Nat, (k : Int) < R' 4 → drP t R' k) ∨ (R' 4 = R 4 ∧ 3328 ∉ V ∧ 3392 ∉ V ∧ 3456 ∉ V ∧ ∀ i, 118 ≤ i → i < 160 → R' i = R i))
    (hZ : drZ t R' ∨ (R' 2 = R 2 ∧ R' 3 = R 3 ∧ 2944 ∉ V ∧ 3200 ∉ V)) : DB t R' had' hd' := by
  obtain ⟨g1, g2, g3, g4, g5, g6, g7, g8, g9, g10⟩ := h
  have c1 := g1
  unfold ctN at c1
  refine ⟨hc, h4, hC, ?_, ?_, ?_, ?_, ?_, ?_, ?_⟩
  · rcases hR with hR | ⟨a, b, c, e⟩
    · exact hR
    · intro q hq
      rw [a] at hq
      have := g4 q hq
      unfold drR at *
      rw [F _ (by decide) (by decide) (by decide) b, F _ (by decide) (by decide) (by decide) c, e (10 + 2 * q) (by omega) (by omega), e (11 + 2 * q) (by omega) (by omega)]
      exact this
  · rcases hG with hG | ⟨a, b, c, d, e⟩
    · exact hG
    · intro q hq
      rw [a] at hq
      have := g5 q hq
      unfold drG at *
      rw [F _ (by decide) (by decide) (by decide) b, F _ (by decide) (by decide) (by decide) c, F _ (by decide) (by decide) (by decide) d, e (30 + 6 * q) (by omega) (by omega), e (31 + 6 * q) (by omega) (by omega)]
      exact ⟨this.1, this.2.1, by omega, this.2.2.2.1, fun c hc => by rw [e (32 + 6 * q + c) (by omega) (by omega)]; exact this.2.2.2.2 c hc⟩
  · rcases hU with hU | ⟨a, b, c, d, f, e⟩
    · exact hU
    · intro q hq
      rw [a] at hq
      have := g6 q hq
      unfold drU at *
      rw [F _ (by decide) (by decide) (by decide) b, F _ (by decide) (by decide) (by decide) c, F _ (by decide) (by decide) (by decide) d, F _ (by decide) (by decide) (by decide) f, e (66 + 7 * q) (by omega) (by omega), e (67 + 7 * q) (by omega) (by omega), e (68 + 7 * q) (by omega) (by omega)]
      exact ⟨this.1, this.2.1, this.2.2.1, by omega, this.2.2.2.2.1, fun c hc => by rw [e (69 + 7 * q + c) (by omega) (by omega)]; exact this.2.2.2.2.2 c hc⟩
  · rcases hF with hF | ⟨a, b, e⟩
    · exact hF
    · intro d hd
      have := g7 d hd
      unfold drF at *
      rw [F _ (by decide) (by decide) (by decide) a, e (110 + d) (by omega) (by omega), b]
      exact this
  · rcases hD with hD | ⟨a, b, e⟩
    · exact hD
    · unfold drD at *
      rw [F _ (by decide) (by decide) (by decide) a, e, b]
      exact g8
  · rcases hP with hP | ⟨a, b, c, d, e⟩
    · exact hP
    · intro q hq
      rw [a] at hq
      have := g9 q hq
      unfold drP at *
      rw [F _ (by decide) (by decide) (by decide) b, F _ (by decide) (by decide) (by decide) c, F _ (by decide) (by decide) (by decide) d, e (118 + 3 * q) (by omega) (by omega), e (119 + 3 * q) (by omega) (by omega), e (120 + 3 * q) (by omega) (by omega)]
      exact ⟨this.1, this.2.1, this.2.2.1, by omega, this.2.2.2.2⟩
  · rcases hZ with hZ | ⟨a, b, c, d⟩
    · exact hZ
    · unfold drZ at *
      rw [F _ (by decide) (by decide) (by decide) c, F _ (by decide) (by decide) (by decide) d, a, b]
      exact g10
theorem u2_o {s : Me} {v w i : Nat} {x : Int} (h : w ≠ v) : u2 s v i x w = s w := by funext j; simp [u2, h]
set_option maxHeartbeats 4000000 in
theorem line_reach : lnO m_RiverText_readReach m_M_readReach 0 := by
  intro s m y L lim p h hD ha
  have c0 := hD.1.1
  unfold ctN at c0
  have cC := hD.1.2.2.1
  obtain ⟨r, hr⟩ : ∃ r : Nat, m 192 0 = r := ⟨(m 192 0).toNat, by omega⟩
  have hsr : s 2369 0 = r := by rw [cC.1, hr]
  by_cases c : r = 10
  · obtain ⟨x1, x2, x3⟩ := many_bad (k := 4) h ha (by omega)
    refine ⟨_, _, ?_, trx_f rx_fr, trm_f rm_fr, Or.inr ⟨?_, x3⟩⟩
    · simp only [m_RiverText_readReach, b_RiverText_readReach]
      simp (disch := first | decide | omega) only [cE_K, vE_K, gE_K, o1K_0, o1K_i, o1_K, o2L_0, o2L_i, o2K_0, o2K_i, o2_K, thK_0, thK_i, th_K, dvL_0, dvL_i, dvK_0, dvK_i, dv_K, rmL_0, rmL_i, rmK_0, rmK_i, rm_K, dlL_0, dlL_i, dlK_0, dlK_i, dl_K, ldQ_0, ldQ_i, ldL_0, ldL_i, ldK_0, ldK_i, ld_K, kK_0, kK_i, k_K, aL_0, aL_i, aK_0, aK_i, aE_0, aE_1, clK_0, clK_i, cl_K, cBL_0, cBL_i, cBK_0, cBK_i, cB_K, zBK_0, zBK_i, zB_K, nBK_0, nBK_i, nB_K, andK_0, andK_i, and_K, orK_0, orK_i, or_K, tkK_0, tkK_i, tk_K, sk_K, stK_0, stK_i, st_K, exK_0, exK_i, ex_K, in_K, pfL_0, pfL_i, pfK_0, pfK_i, pf_K, pzL_0, pzL_i, pzK_0, pzK_i, pz_K, poL_0, poL_i, poK_0, poK_i, po_K, asQ_0, asQ_i, asM_0, asM_i, asL_0, asL_i, asK_0, asK_i, as_K, aoM_0, aoM_i, aoQ_0, aoQ_i, aoL_0, aoL_i, aoK_0, aoK_i, ao_K, sqK_0, sqK_1, sqK_2, sqK_3, sqK_4, sqK_i, sq_K, swK_0, swK_1, swK_2, swK_3, swK_4, swK_i, sw_K, ifK_0, ifK_i, if_K, br_K, ct_K, rv_K, thr_K, rtK_0, rtK_i, rt_K, mfK_0, mfK_i, mf_K, mzK_i, mzK_0, mz_K, cpK_0, cpT_0, cp_K, tsK_0, tsK_i, ts_K, tsP_hit, tsP_next, tsP_low, tsP_nil, ini_0, ini_1, rdU_0, rdU_i, rdB_0, rdB_1, rdB_2, rdB_3, rdB_4, rdB_i, rdC_0, rdC_i, rnd_K, cmpI, addI, subI, mulI, i2lI, l2iI, minI, maxI, idI, up, ok_some, ok_ite, w32_id, ix_id, Int.toNat_add, Int.toNat_mul, ltI_t, ltI_f, leI_t, leI_f, eqI_t, eqI_f, u2_s, u2_v, u2_i, w3_m2, w3_m1, w3_0, w3_1, w3_2, w3_3, w3_4, w3_5, w3_6, w3_7, w3_8, w3_9, w3_10, w3_12, w3_20, w3_23, w3_24, w3_25, w3_32, w3_40, w3_50, w3_100, w3_120, w3_168, w3_200, w3_240, w3_255, w3_500, w3_592, w3_600, w3_900, w3_940, w3_999, w3_1000, w3_1009, w3_1184, w3_3333, w3_9999, if_true, if_false, reduceIte, true_and, and_true, false_and, and_false, true_or, or_true, false_or, or_false, not_true_eq_false, not_false_eq_true, decide_true, decide_false, decide_eq_true_eq, Bool.not_true, Bool.not_false, Bool.false_eq_true, Bool.not_eq_true', Bool.not_eq_eq_eq_not, decide_eq_false_iff_not, Int.not_lt, Int.not_le, Nat.not_le, Nat.not_lt, Nat.le_refl, Int.le_refl, Nat.lt_irrefl, Int.lt_irrefl, reduceCtorEq, Nat.reduceEqDiff, Nat.reduceAdd, Nat.reduceMul, Nat.reduceBEq, Int.reduceNeg, Int.reduceAdd, Int.toNat_natCast, Int.reduceToNat, ne_eq, Nat.zero_ne_one, true_or, Int.ofNat_lt, Int.ofNat_le, Int.natCast_add, Int.cast_ofNat_Int, Int.natCast_zero, hsr, x1]
    · simp only [m_M_readReach, b_M_readReach]
      simp (disch := first | decide | omega) only [cE_K, vE_K, gE_K, o1K_0, o1K_i, o1_K, o2L_0, o2L_i, o2K_0, o2K_i, o2_K, thK_0, thK_i, th_K, dvL_0, dvL_i, dvK_0, dvK_i, dv_K, rmL_0, rmL_i, rmK_0, rmK_i, rm_K, dlL_0, dlL_i, dlK_0, dlK_i, dl_K, ldQ_0, ldQ_i, ldL_0, ldL_i, ldK_0, ldK_i, ld_K, kK_0, kK_i, k_K, aL_0, aL_i, aK_0, aK_i, aE_0, aE_1, clK_0, clK_i, cl_K, cBL_0, cBL_i, cBK_0, cBK_i, cB_K, zBK_0, zBK_i, zB_K, nBK_0, nBK_i, nB_K, andK_0, andK_i, and_K, orK_0, orK_i, or_K, tkK_0, tkK_i, tk_K, sk_K, stK_0, stK_i, st_K, exK_0, exK_i, ex_K, in_K, pfL_0, pfL_i, pfK_0, pfK_i, pf_K, pzL_0, pzL_i, pzK_0, pzK_i, pz_K, poL_0, poL_i, poK_0, poK_i, po_K, asQ_0, asQ_i, asM_0, asM_i, asL_0, asL_i, asK_0, asK_i, as_K, aoM_0, aoM_i, aoQ_0, aoQ_i, aoL_0, aoL_i, aoK_0, aoK_i, ao_K, sqK_0, sqK_1, sqK_2, sqK_3, sqK_4, sqK_i, sq_K, swK_0, swK_1, swK_2, swK_3, swK_4, swK_i, sw_K, ifK_0, ifK_i, if_K, br_K, ct_K, rv_K, thr_K, rtK_0, rtK_i, rt_K, mfK_0, mfK_i, mf_K, mzK_i, mzK_0, mz_K, cpK_0, cpT_0, cp_K, tsK_0, tsK_i, ts_K, tsP_hit, tsP_next, tsP_low, tsP_nil, ini_0, ini_1, rdU_0, rdU_i, rdB_0, rdB_1, rdB_2, rdB_3, rdB_4, rdB_i, rdC_0, rdC_i, rnd_K, cmpI, addI, subI, mulI, i2lI, l2iI, minI, maxI, idI, up, ok_some, ok_ite, w32_id, ix_id, Int.toNat_add, Int.toNat_mul, ltI_t, ltI_f, leI_t, leI_f, eqI_t, eqI_f, u2_s, u2_v, u2_i, w3_m2, w3_m1, w3_0, w3_1, w3_2, w3_3, w3_4, w3_5, w3_6, w3_7, w3_8, w3_9, w3_10, w3_12, w3_20, w3_23, w3_24, w3_25, w3_32, w3_40, w3_50, w3_100, w3_120, w3_168, w3_200, w3_240, w3_255, w3_500, w3_592, w3_600, w3_900, w3_940, w3_999, w3_1000, w3_1009, w3_1184, w3_3333, w3_9999, if_true, if_false, reduceIte, true_and, and_true, false_and, and_false, true_or, or_true, false_or, or_false, not_true_eq_false, not_false_eq_true, decide_true, decide_false, decide_eq_true_eq, Bool.not_true, Bool.not_false, Bool.false_eq_true, Bool.not_eq_true', Bool.not_eq_eq_eq_not, decide_eq_false_iff_not, Int.not_lt, Int.not_le, Nat.not_le, Nat.not_lt, Nat.le_refl, Int.le_refl, Nat.lt_irrefl, Int.lt_irrefl, reduceCtorEq, Nat.reduceEqDiff, Nat.reduceAdd, Nat.reduceMul, Nat.reduceBEq, Int.reduceNeg, Int.reduceAdd, Int.toNat_natCast, Int.reduceToNat, ne_eq, Nat.zero_ne_one, true_or, Int.ofNat_lt, Int.ofNat_le, Int.natCast_add, Int.cast_ofNat_Int, Int.natCast_zero, hr, x2]
  · obtain ⟨s1, m1, s2, m2, b1, b2, b3, b4, b5, b6, b7, b8⟩ := new_step (k := 0) (r := r) h hD ha (by omega) hr (by simp [mxN]; omega)
    rw [bs0, show ((0 + r : Nat) : Int) = 0 + r by omega] at b6
    simp only [Int.natCast_zero] at b3
    rcases b6 with ⟨p2, e1, e2, e3, e4⟩ | ⟨e1, e2, e3, _⟩
    · obtain ⟨v, s3, m3, f1, f2, f3, f4⟩ := num_ok (a := 1) (b := 9999) e2 (by omega) (by omega)
      rcases f4 with ⟨p3, k1, k2, k3, k4, k5, k6, k7, k8, k9⟩ | ⟨k1, k2, k3, kk, k4⟩
      · have T4 : TR (u2 s3 2688 r v) (u2 m3 192 (10 + 2 * r) v) y L lim p3 := TR_m (TR_u k8 (by decide)) (by decide)
        obtain ⟨w, s4, m4, j1, j2, j3, j4⟩ := num_ok (a := 0) (b := 500) T4 (by omega) (by omega)
        have ex : m_RiverText_readReach [0, 0] s = some (0, u2 (u2 s4 2752 r w) 2369 0 ((r : Int) + 1)) := by
          simp only [m_RiverText_readReach, b_RiverText_readReach]
          simp (disch := first | decide | omega) only [cE_K, vE_K, gE_K, o1K_0, o1K_i, o1_K, o2L_0, o2L_i, o2K_0, o2K_i, o2_K, thK_0, thK_i, th_K, dvL_0, dvL_i, dvK_0, dvK_i, dv_K, rmL_0, rmL_i, rmK_0, rmK_i, rm_K, dlL_0, dlL_i, dlK_0, dlK_i, dl_K, ldQ_0, ldQ_i, ldL_0, ldL_i, ldK_0, ldK_i, ld_K, kK_0, kK_i, k_K, aL_0, aL_i, aK_0, aK_i, aE_0, aE_1, clK_0, clK_i, cl_K, cBL_0, cBL_i, cBK_0, cBK_i, cB_K, zBK_0, zBK_i, zB_K, nBK_0, nBK_i, nB_K, andK_0, andK_i, and_K, orK_0, orK_i, or_K, tkK_0, tkK_i, tk_K, sk_K, stK_0, stK_i, st_K, exK_0, exK_i, ex_K, in_K, pfL_0, pfL_i, pfK_0, pfK_i, pf_K, pzL_0, pzL_i, pzK_0, pzK_i, pz_K, poL_0, poL_i, poK_0, poK_i, po_K, asQ_0, asQ_i, asM_0, asM_i, asL_0, asL_i, asK_0, asK_i, as_K, aoM_0, aoM_i, aoQ_0, aoQ_i, aoL_0, aoL_i, aoK_0, aoK_i, ao_K, sqK_0, sqK_1, sqK_2, sqK_3, sqK_4, sqK_i, sq_K, swK_0, swK_1, swK_2, swK_3, swK_4, swK_i, sw_K, ifK_0, ifK_i, if_K, br_K, ct_K, rv_K, thr_K, rtK_0, rtK_i, rt_K, mfK_0, mfK_i, mf_K, mzK_i, mzK_0, mz_K, cpK_0, cpT_0, cp_K, tsK_0, tsK_i, ts_K, tsP_hit, tsP_next, tsP_low, tsP_nil, ini_0, ini_1, rdU_0, rdU_i, rdB_0, rdB_1, rdB_2, rdB_3, rdB_4, rdB_i, rdC_0, rdC_i, rnd_K, cmpI, addI, subI, mulI, i2lI, l2iI, minI, maxI, idI, up, ok_some, ok_ite, w32_id, ix_id, Int.toNat_add, Int.toNat_mul, ltI_t, ltI_f, leI_t, leI_f, eqI_t, eqI_f, u2_s, u2_v, u2_i, w3_m2, w3_m1, w3_0, w3_1, w3_2, w3_3, w3_4, w3_5, w3_6, w3_7, w3_8, w3_9, w3_10, w3_12, w3_20, w3_23, w3_24, w3_25, w3_32, w3_40, w3_50, w3_100, w3_120, w3_168, w3_200, w3_240, w3_255, w3_500, w3_592, w3_600, w3_900, w3_940, w3_999, w3_1000, w3_1009, w3_1184, w3_3333, w3_9999, if_true, if_false, reduceIte, true_and, and_true, false_and, and_false, true_or, or_true, false_or, or_false, not_true_eq_false, not_false_eq_true, decide_true, decide_false, decide_eq_true_eq, Bool.not_true, Bool.not_false, Bool.false_eq_true, Bool.not_eq_true', Bool.not_eq_eq_eq_not, decide_eq_false_iff_not, Int.not_lt, Int.not_le, Nat.not_le, Nat.not_lt, Nat.le_refl, Int.le_refl, Nat.lt_irrefl, Int.lt_irrefl, reduceCtorEq, Nat.reduceEqDiff, Nat.reduceAdd, Nat.reduceMul, Nat.reduceBEq, Int.reduceNeg, Int.reduceAdd, Int.toNat_natCast, Int.reduceToNat, ne_eq, Nat.zero_ne_one, true_or, Int.ofNat_lt, Int.ofNat_le, Int.natCast_add, Int.cast_ofNat_Int, Int.natCast_zero, hsr, b1, b3, f1, j1]
        rcases j4 with ⟨p4, l1, l2, l3, l4, l5, l6, l7, l8, l9⟩ | ⟨l1, l2, l3, l4⟩
        · have rd4 : m4 192 = u2 m3 192 (10 + 2 * r) v 192 := trm_d j3 _ (by decide)
          have rd3 : m3 192 = m 192 := by rw [trm_d f3 _ (by decide), nm_d b5 _ (by decide) (by decide)]
          have r40 : m4 192 0 = r := by rw [rd4]; simp [u2]; rw [if_neg (by omega), rd3, hr]
          have i1 : 10 + 2 * r + 1 = 11 + 2 * r := by omega
          refine ⟨_, u2 (u2 m4 192 (11 + 2 * r) w) 192 0 ((r : Int) + 1), ex, ?_, ?_, Or.inl ⟨p4, ?_, ?_, by omega, ?_, ?_⟩⟩
          · exact fX_t (fX_t (fX_t (fX_t (fX_t (nx_f b4) (trx_f f2)) (fX_u (by decide))) (trx_f j2)) (fX_u (by decide))) (fX_u (by decide))
          · exact fM_t (fM_t (fM_t (fM_t (fM_t (nm_f b5) (trm_f f3)) (fM_u (by decide))) (trm_f j3)) (fM_u (by decide))) (fM_u (by decide))
          · simp only [m_M_readReach, b_M_readReach]
            simp (disch := first | decide | omega) only [cE_K, vE_K, gE_K, o1K_0, o1K_i, o1_K, o2L_0, o2L_i, o2K_0, o2K_i, o2_K, thK_0, thK_i, th_K, dvL_0, dvL_i, dvK_0, dvK_i, dv_K, rmL_0, rmL_i, rmK_0, rmK_i, rm_K, dlL_0, dlL_i, dlK_0, dlK_i, dl_K, ldQ_0, ldQ_i, ldL_0, ldL_i, ldK_0, ldK_i, ld_K, kK_0, kK_i, k_K, aL_0, aL_i, aK_0, aK_i, aE_0, aE_1, clK_0, clK_i, cl_K, cBL_0, cBL_i, cBK_0, cBK_i, cB_K, zBK_0, zBK_i, zB_K, nBK_0, nBK_i, nB_K, andK_0, andK_i, and_K, orK_0, orK_i, or_K, tkK_0, tkK_i, tk_K, sk_K, stK_0, stK_i, st_K, exK_0, exK_i, ex_K, in_K, pfL_0, pfL_i, pfK_0, pfK_i, pf_K, pzL_0, pzL_i, pzK_0, pzK_i, pz_K, poL_0, poL_i, poK_0, poK_i, po_K, asQ_0, asQ_i, asM_0, asM_i, asL_0, asL_i, asK_0, asK_i, as_K, aoM_0, aoM_i, aoQ_0, aoQ_i, aoL_0, aoL_i, aoK_0, aoK_i, ao_K, sqK_0, sqK_1, sqK_2, sqK_3, sqK_4, sqK_i, sq_K, swK_0, swK_1, swK_2, swK_3, swK_4, swK_i, sw_K, ifK_0, ifK_i, if_K, br_K, ct_K, rv_K, thr_K, rtK_0, rtK_i, rt_K, mfK_0, mfK_i, mf_K, mzK_i, mzK_0, mz_K, cpK_0, cpT_0, cp_K, tsK_0, tsK_i, ts_K, tsP_hit, tsP_next, tsP_low, tsP_nil, ini_0, ini_1, rdU_0, rdU_i, rdB_0, rdB_1, rdB_2, rdB_3, rdB_4, rdB_i, rdC_0, rdC_i, rnd_K, cmpI, addI, subI, mulI, i2lI, l2iI, minI, maxI, idI, up, ok_some, ok_ite, w32_id, ix_id, Int.toNat_add, Int.toNat_mul, ltI_t, ltI_f, leI_t, leI_f, eqI_t, eqI_f, u2_s, u2_v, u2_i, w3_m2, w3_m1, w3_0, w3_1, w3_2, w3_3, w3_4, w3_5, w3_6, w3_7, w3_8, w3_9, w3_10, w3_12, w3_20, w3_23, w3_24, w3_25, w3_32, w3_40, w3_50, w3_100, w3_120, w3_168, w3_200, w3_240, w3_255, w3_500, w3_592, w3_600, w3_900, w3_940, w3_999, w3_1000, w3_1009, w3_1184, w3_3333, w3_9999, if_true, if_false, reduceIte, true_and, and_true, false_and, and_false, true_or, or_true, false_or, or_false, not_true_eq_false, not_false_eq_true, decide_true, decide_false, decide_eq_true_eq, Bool.not_true, Bool.not_false, Bool.false_eq_true, Bool.not_eq_true', Bool.not_eq_eq_eq_not, decide_eq_false_iff_not, Int.not_lt, Int.not_le, Nat.not_le, Nat.not_lt, Nat.le_refl, Int.le_refl, Nat.lt_irrefl, Int.lt_irrefl, reduceCtorEq, Nat.reduceEqDiff, Nat.reduceAdd, Nat.reduceMul, Nat.reduceBEq, Int.reduceNeg, Int.reduceAdd, Int.toNat_natCast, Int.reduceToNat, ne_eq, Nat.zero_ne_one, true_or, Int.ofNat_lt, Int.ofNat_le, Int.natCast_add, Int.cast_ofNat_Int, Int.natCast_zero, hr, b2, e1, k1, k6, l1, l6, r40, i1, Int.one_ne_zero]
          · exact TR_m (TR_m (TR_u (TR_u l8 (by decide)) (by decide)) (by decide)) (by decide)
          · have R0 : ∀ i, u2 (u2 m4 192 (11 + 2 * r) w) 192 0 ((r : Int) + 1) 192 i = if i = 0 then (r : Int) + 1 else if i = 11 + 2 * r then w else if i = 10 + 2 * r then v else m 192 i := fun i => by
              simp only [u2, true_and, rd4, rd3]
            have hh : u2 (u2 m4 192 (11 + 2 * r) w) 192 0 ((r : Int) + 1) 23 = m 23 := by
              rw [u2_o (by decide), u2_o (by decide), trm_d j3 _ (by decide), u2_o (by decide), trm_d f3 _ (by decide), nm_d b5 _ (by decide) (by decide)]
            have hd : u2 (u2 m4 192 (11 + 2 * r) w) 192 0 ((r : Int) + 1) 24 = m 24 := by
              rw [u2_o (by decide), u2_o (by decide), trm_d j3 _ (by decide), u2_o (by decide), trm_d f3 _ (by decide), nm_d b5 _ (by decide) (by decide)]
            rw [hh, hd]
            generalize u2 (u2 m4 192 (11 + 2 * r) w) 192 0 ((r : Int) + 1) 192 = R' at R0
            have RR : ∀ i, i ≠ 0 → i ≠ 11 + 2 * r → i ≠ 10 + 2 * r → R' i = m 192 i := fun i h1 h2 h3 => by rw [R0, if_neg h1, if_neg h2, if_neg h3]
            have R1 : R' 0 = (r : Int) + 1 := by rw [R0, if_pos rfl]
            have F : ∀ q, 2368 ≤ q → q < 3520 → ¬ (2432 ≤ q ∧ q < 2688) → q ∉ [2688, 2752, 2369] → u2 (u2 s4 2752 r w) 2369 0 ((r : Int) + 1) q = s q := fun q h1 h2 h3 h4 => by
              simp only [List.mem_cons, List.not_mem_nil, or_false, not_or] at h4
              rw [u2_o h4.2.2, u2_o h4.2.1, trx_d j2 q h1, u2_o h4.1, trx_d f2 q h1, nx_d b4 q h1 h3]
            have g3 := hD.1.2.2.1
            have g4 := hD.1.2.2.2.1
            refine DB_upd hD.1 F ?_ (by rw [RR 4 (by omega) (by omega) (by omega)]; exact hD.1.2.1) ?_ (by rw [R1]; omega) (by rw [RR 1 (by omega) (by omega) (by omega)]; exact Int.le_refl _) (Or.inl ?_) (Or.inr ⟨RR 2 (by omega) (by omega) (by omega), by decide, by decide, by decide, fun i a b => RR i (by omega) (by omega) (by omega)⟩) (Or.inr ⟨RR 3 (by omega) (by omega) (by omega), by decide, by decide, by decide, by decide, fun i a b => RR i (by omega) (by omega) (by omega)⟩) (Or.inr ⟨by decide, rfl, fun i a b => RR i (by omega) (by omega) (by omega)⟩) (Or.inr ⟨by decide, rfl, RR 5 (by omega) (by omega) (by omega)⟩) (Or.inr ⟨RR 4 (by omega) (by omega) (by omega), by decide, by decide, by decide, fun i a b => RR i (by omega) (by omega) (by omega)⟩) (Or.inr ⟨RR 2 (by omega) (by omega) (by omega), RR 3 (by omega) (by omega) (by omega), by decide, by decide⟩)
            · unfold ctN
              rw [RR 1 (by omega) (by omega) (by omega), RR 2 (by omega) (by omega) (by omega), RR 3 (by omega) (by omega) (by omega), R1]
              omega
            · unfold drC at *
              rw [F 2372 (by decide) (by decide) (by decide) (by decide), F 2373 (by decide) (by decide) (by decide) (by decide), F 2377 (by decide) (by decide) (by decide) (by decide), F 2384 (by decide) (by decide) (by decide) (by decide), RR 1 (by omega) (by omega) (by omega), RR 2 (by omega) (by omega) (by omega), RR 3 (by omega) (by omega) (by omega), RR 4 (by omega) (by omega) (by omega), R1]
              exact ⟨by simp [u2], g3.2⟩
            · intro q hq
              have e1 : u2 (u2 s4 2752 r w) 2369 0 ((r : Int) + 1) 2688 = u2 s3 2688 r v 2688 := by rw [u2_o (by decide), u2_o (by decide), trx_d j2 _ (by decide)]
              have e2 : s3 2688 = s 2688 := by rw [trx_d f2 _ (by decide), nx_d b4 _ (by decide) (by decide)]
              have e3 : s4 2752 = s 2752 := by rw [trx_d j2 _ (by decide), u2_o (by decide), trx_d f2 _ (by decide), nx_d b4 _ (by decide) (by decide)]
              have e4' : u2 (u2 s4 2752 r w) 2369 0 ((r : Int) + 1) 2752 = u2 s4 2752 r w 2752 := by rw [u2_o (by decide)]
              unfold drR
              by_cases eq : q = r
              · subst eq
                rw [e1, e4', R0, R0, if_neg (by omega), if_neg (by omega), if_pos rfl, if_neg (by omega), if_pos rfl]
                refine ⟨by simp [u2], by simp [u2], by omega, by omega⟩
              · have := g4 q (by omega)
                unfold drR at this
                rw [e1, e4', RR (10 + 2 * q) (by omega) (by omega) (by omega), RR (11 + 2 * q) (by omega) (by omega) (by omega)]
                refine ⟨?_, ?_, this.2.2⟩
                · simp only [u2, eq, and_false, if_false, e2]; exact this.1
                · simp only [u2, eq, and_false, if_false, e3]; exact this.2.1
          · have hn : u2 (u2 m4 192 (11 + 2 * r) w) 192 0 ((r : Int) + 1) 448 = m2 448 := by
              rw [u2_o (by decide), u2_o (by decide), trm_d j3 _ (by decide), u2_o (by decide), trm_d f3 _ (by decide)]
            rw [hn]
            refine nm_N (nm_s e4 (fun q h1 h2 => ?_)) (fun k hk => ?_)
            · rw [u2_o (by omega), u2_o (by omega), trx_d j2 q (by omega), u2_o (by omega), trx_d f2 q (by omega)]
            · simp only [u2, true_and, rd4, rd3]
              by_cases e : k = 0
              · rw [if_pos e, if_pos e]
              · rw [if_neg e, if_neg e, if_neg (by omega), if_neg (by omega)]
        · refine ⟨_, m4, ex, ?_, ?_, Or.inr ⟨?_, FL_u (FL_u l3 (by decide)) (by decide)⟩⟩
          · exact fX_t (fX_t (fX_t (fX_t (fX_t (nx_f b4) (trx_f f2)) (fX_u (by decide))) (trx_f j2)) (fX_u (by decide))) (fX_u (by decide))
          · exact fM_t (fM_t (fM_t (nm_f b5) (trm_f f3)) (fM_u (by decide))) (trm_f j3)
          · simp only [m_M_readReach, b_M_readReach]
            simp (disch := first | decide | omega) only [cE_K, vE_K, gE_K, o1K_0, o1K_i, o1_K, o2L_0, o2L_i, o2K_0, o2K_i, o2_K, thK_0, thK_i, th_K, dvL_0, dvL_i, dvK_0, dvK_i, dv_K, rmL_0, rmL_i, rmK_0, rmK_i, rm_K, dlL_0, dlL_i, dlK_0, dlK_i, dl_K, ldQ_0, ldQ_i, ldL_0, ldL_i, ldK_0, ldK_i, ld_K, kK_0, kK_i, k_K, aL_0, aL_i, aK_0, aK_i, aE_0, aE_1, clK_0, clK_i, cl_K, cBL_0, cBL_i, cBK_0, cBK_i, cB_K, zBK_0, zBK_i, zB_K, nBK_0, nBK_i, nB_K, andK_0, andK_i, and_K, orK_0, orK_i, or_K, tkK_0, tkK_i, tk_K, sk_K, stK_0, stK_i, st_K, exK_0, exK_i, ex_K, in_K, pfL_0, pfL_i, pfK_0, pfK_i, pf_K, pzL_0, pzL_i, pzK_0, pzK_i, pz_K, poL_0, poL_i, poK_0, poK_i, po_K, asQ_0, asQ_i, asM_0, asM_i, asL_0, asL_i, asK_0, asK_i, as_K, aoM_0, aoM_i, aoQ_0, aoQ_i, aoL_0, aoL_i, aoK_0, aoK_i, ao_K, sqK_0, sqK_1, sqK_2, sqK_3, sqK_4, sqK_i, sq_K, swK_0, swK_1, swK_2, swK_3, swK_4, swK_i, sw_K, ifK_0, ifK_i, if_K, br_K, ct_K, rv_K, thr_K, rtK_0, rtK_i, rt_K, mfK_0, mfK_i, mf_K, mzK_i, mzK_0, mz_K, cpK_0, cpT_0, cp_K, tsK_0, tsK_i, ts_K, tsP_hit, tsP_next, tsP_low, tsP_nil, ini_0, ini_1, rdU_0, rdU_i, rdB_0, rdB_1, rdB_2, rdB_3, rdB_4, rdB_i, rdC_0, rdC_i, rnd_K, cmpI, addI, subI, mulI, i2lI, l2iI, minI, maxI, idI, up, ok_some, ok_ite, w32_id, ix_id, Int.toNat_add, Int.toNat_mul, ltI_t, ltI_f, leI_t, leI_f, eqI_t, eqI_f, u2_s, u2_v, u2_i, w3_m2, w3_m1, w3_0, w3_1, w3_2, w3_3, w3_4, w3_5, w3_6, w3_7, w3_8, w3_9, w3_10, w3_12, w3_20, w3_23, w3_24, w3_25, w3_32, w3_40, w3_50, w3_100, w3_120, w3_168, w3_200, w3_240, w3_255, w3_500, w3_592, w3_600, w3_900, w3_940, w3_999, w3_1000, w3_1009, w3_1184, w3_3333, w3_9999, if_true, if_false, reduceIte, true_and, and_true, false_and, and_false, true_or, or_true, false_or, or_false, not_true_eq_false, not_false_eq_true, decide_true, decide_false, decide_eq_true_eq, Bool.not_true, Bool.not_false, Bool.false_eq_true, Bool.not_eq_true', Bool.not_eq_eq_eq_not, decide_eq_false_iff_not, Int.not_lt, Int.not_le, Nat.not_le, Nat.not_lt, Nat.le_refl, Int.le_refl, Nat.lt_irrefl, Int.lt_irrefl, reduceCtorEq, Nat.reduceEqDiff, Nat.reduceAdd, Nat.reduceMul, Nat.reduceBEq, Int.reduceNeg, Int.reduceAdd, Int.toNat_natCast, Int.reduceToNat, ne_eq, Nat.zero_ne_one, true_or, Int.ofNat_lt, Int.ofNat_le, Int.natCast_add, Int.cast_ofNat_Int, Int.natCast_zero, hr, b2, e1, k1, k6, l1, Int.one_ne_zero]
      · subst k2
        have q3 : Qt s3 := Qt_FL k3 (by rw [k4]; exact KB_rf (TR_KB e2))
        refine ⟨u2 (u2 (u2 s3 2688 r 0) 2752 r 0) 2369 0 ((r : Int) + 1), m3, ?_, ?_, ?_, Or.inr ⟨?_, FL_u (FL_u (FL_u k3 (by decide)) (by decide)) (by decide)⟩⟩
        · simp only [m_RiverText_readReach, b_RiverText_readReach]
          simp (disch := first | decide | omega) only [cE_K, vE_K, gE_K, o1K_0, o1K_i, o1_K, o2L_0, o2L_i, o2K_0, o2K_i, o2_K, thK_0, thK_i, th_K, dvL_0, dvL_i, dvK_0, dvK_i, dv_K, rmL_0, rmL_i, rmK_0, rmK_i, rm_K, dlL_0, dlL_i, dlK_0, dlK_i, dl_K, ldQ_0, ldQ_i, ldL_0, ldL_i, ldK_0, ldK_i, ld_K, kK_0, kK_i, k_K, aL_0, aL_i, aK_0, aK_i, aE_0, aE_1, clK_0, clK_i, cl_K, cBL_0, cBL_i, cBK_0, cBK_i, cB_K, zBK_0, zBK_i, zB_K, nBK_0, nBK_i, nB_K, andK_0, andK_i, and_K, orK_0, orK_i, or_K, tkK_0, tkK_i, tk_K, sk_K, stK_0, stK_i, st_K, exK_0, exK_i, ex_K, in_K, pfL_0, pfL_i, pfK_0, pfK_i, pf_K, pzL_0, pzL_i, pzK_0, pzK_i, pz_K, poL_0, poL_i, poK_0, poK_i, po_K, asQ_0, asQ_i, asM_0, asM_i, asL_0, asL_i, asK_0, asK_i, as_K, aoM_0, aoM_i, aoQ_0, aoQ_i, aoL_0, aoL_i, aoK_0, aoK_i, ao_K, sqK_0, sqK_1, sqK_2, sqK_3, sqK_4, sqK_i, sq_K, swK_0, swK_1, swK_2, swK_3, swK_4, swK_i, sw_K, ifK_0, ifK_i, if_K, br_K, ct_K, rv_K, thr_K, rtK_0, rtK_i, rt_K, mfK_0, mfK_i, mf_K, mzK_i, mzK_0, mz_K, cpK_0, cpT_0, cp_K, tsK_0, tsK_i, ts_K, tsP_hit, tsP_next, tsP_low, tsP_nil, ini_0, ini_1, rdU_0, rdU_i, rdB_0, rdB_1, rdB_2, rdB_3, rdB_4, rdB_i, rdC_0, rdC_i, rnd_K, cmpI, addI, subI, mulI, i2lI, l2iI, minI, maxI, idI, up, ok_some, ok_ite, w32_id, ix_id, Int.toNat_add, Int.toNat_mul, ltI_t, ltI_f, leI_t, leI_f, eqI_t, eqI_f, u2_s, u2_v, u2_i, w3_m2, w3_m1, w3_0, w3_1, w3_2, w3_3, w3_4, w3_5, w3_6, w3_7, w3_8, w3_9, w3_10, w3_12, w3_20, w3_23, w3_24, w3_25, w3_32, w3_40, w3_50, w3_100, w3_120, w3_168, w3_200, w3_240, w3_255, w3_500, w3_592, w3_600, w3_900, w3_940, w3_999, w3_1000, w3_1009, w3_1184, w3_3333, w3_9999, if_true, if_false, reduceIte, true_and, and_true, false_and, and_false, true_or, or_true, false_or, or_false, not_true_eq_false, not_false_eq_true, decide_true, decide_false, decide_eq_true_eq, Bool.not_true, Bool.not_false, Bool.false_eq_true, Bool.not_eq_true', Bool.not_eq_eq_eq_not, decide_eq_false_iff_not, Int.not_lt, Int.not_le, Nat.not_le, Nat.not_lt, Nat.le_refl, Int.le_refl, Nat.lt_irrefl, Int.lt_irrefl, reduceCtorEq, Nat.reduceEqDiff, Nat.reduceAdd, Nat.reduceMul, Nat.reduceBEq, Int.reduceNeg, Int.reduceAdd, Int.toNat_natCast, Int.reduceToNat, ne_eq, Nat.zero_ne_one, true_or, Int.ofNat_lt, Int.ofNat_le, Int.natCast_add, Int.cast_ofNat_Int, Int.natCast_zero, hsr, b1, b3, f1, num_q (Qt_u q3 (v := 2688) (i := r) (x := 0) (by decide))]
        · exact fX_t (fX_t (fX_t (fX_t (nx_f b4) (trx_f f2)) (fX_u (by decide))) (fX_u (by decide))) (fX_u (by decide))
        · exact fM_t (nm_f b5) (trm_f f3)
        · simp only [m_M_readReach, b_M_readReach]
          simp (disch := first | decide | omega) only [cE_K, vE_K, gE_K, o1K_0, o1K_i, o1_K, o2L_0, o2L_i, o2K_0, o2K_i, o2_K, thK_0, thK_i, th_K, dvL_0, dvL_i, dvK_0, dvK_i, dv_K, rmL_0, rmL_i, rmK_0, rmK_i, rm_K, dlL_0, dlL_i, dlK_0, dlK_i, dl_K, ldQ_0, ldQ_i, ldL_0, ldL_i, ldK_0, ldK_i, ld_K, kK_0, kK_i, k_K, aL_0, aL_i, aK_0, aK_i, aE_0, aE_1, clK_0, clK_i, cl_K, cBL_0, cBL_i, cBK_0, cBK_i, cB_K, zBK_0, zBK_i, zB_K, nBK_0, nBK_i, nB_K, andK_0, andK_i, and_K, orK_0, orK_i, or_K, tkK_0, tkK_i, tk_K, sk_K, stK_0, stK_i, st_K, exK_0, exK_i, ex_K, in_K, pfL_0, pfL_i, pfK_0, pfK_i, pf_K, pzL_0, pzL_i, pzK_0, pzK_i, pz_K, poL_0, poL_i, poK_0, poK_i, po_K, asQ_0, asQ_i, asM_0, asM_i, asL_0, asL_i, asK_0, asK_i, as_K, aoM_0, aoM_i, aoQ_0, aoQ_i, aoL_0, aoL_i, aoK_0, aoK_i, ao_K, sqK_0, sqK_1, sqK_2, sqK_3, sqK_4, sqK_i, sq_K, swK_0, swK_1, swK_2, swK_3, swK_4, swK_i, sw_K, ifK_0, ifK_i, if_K, br_K, ct_K, rv_K, thr_K, rtK_0, rtK_i, rt_K, mfK_0, mfK_i, mf_K, mzK_i, mzK_0, mz_K, cpK_0, cpT_0, cp_K, tsK_0, tsK_i, ts_K, tsP_hit, tsP_next, tsP_low, tsP_nil, ini_0, ini_1, rdU_0, rdU_i, rdB_0, rdB_1, rdB_2, rdB_3, rdB_4, rdB_i, rdC_0, rdC_i, rnd_K, cmpI, addI, subI, mulI, i2lI, l2iI, minI, maxI, idI, up, ok_some, ok_ite, w32_id, ix_id, Int.toNat_add, Int.toNat_mul, ltI_t, ltI_f, leI_t, leI_f, eqI_t, eqI_f, u2_s, u2_v, u2_i, w3_m2, w3_m1, w3_0, w3_1, w3_2, w3_3, w3_4, w3_5, w3_6, w3_7, w3_8, w3_9, w3_10, w3_12, w3_20, w3_23, w3_24, w3_25, w3_32, w3_40, w3_50, w3_100, w3_120, w3_168, w3_200, w3_240, w3_255, w3_500, w3_592, w3_600, w3_900, w3_940, w3_999, w3_1000, w3_1009, w3_1184, w3_3333, w3_9999, if_true, if_false, reduceIte, true_and, and_true, false_and, and_false, true_or, or_true, false_or, or_false, not_true_eq_false, not_false_eq_true, decide_true, decide_false, decide_eq_true_eq, Bool.not_true, Bool.not_false, Bool.false_eq_true, Bool.not_eq_true', Bool.not_eq_eq_eq_not, decide_eq_false_iff_not, Int.not_lt, Int.not_le, Nat.not_le, Nat.not_lt, Nat.le_refl, Int.le_refl, Nat.lt_irrefl, Int.lt_irrefl, reduceCtorEq, Nat.reduceEqDiff, Nat.reduceAdd, Nat.reduceMul, Nat.reduceBEq, Int.reduceNeg, Int.reduceAdd, Int.toNat_natCast, Int.reduceToNat, ne_eq, Nat.zero_ne_one, true_or, Int.ofNat_lt, Int.ofNat_le, Int.natCast_add, Int.cast_ofNat_Int, Int.natCast_zero, hr, b2, e1, k1, Int.one_ne_zero]
    · refine ⟨u2 (u2 (u2 s2 2688 r 0) 2752 r 0) 2369 0 ((r : Int) + 1), m2, ?_, ?_, nm_f b5, Or.inr ⟨?_, FL_u (FL_u (FL_u e2 (by decide)) (by decide)) (by decide)⟩⟩
      · simp only [m_RiverText_readReach, b_RiverText_readReach]
        simp (disch := first | decide | omega) only [cE_K, vE_K, gE_K, o1K_0, o1K_i, o1_K, o2L_0, o2L_i, o2K_0, o2K_i, o2_K, thK_0, thK_i, th_K, dvL_0, dvL_i, dvK_0, dvK_i, dv_K, rmL_0, rmL_i, rmK_0, rmK_i, rm_K, dlL_0, dlL_i, dlK_0, dlK_i, dl_K, ldQ_0, ldQ_i, ldL_0, ldL_i, ldK_0, ldK_i, ld_K, kK_0, kK_i, k_K, aL_0, aL_i, aK_0, aK_i, aE_0, aE_1, clK_0, clK_i, cl_K, cBL_0, cBL_i, cBK_0, cBK_i, cB_K, zBK_0, zBK_i, zB_K, nBK_0, nBK_i, nB_K, andK_0, andK_i, and_K, orK_0, orK_i, or_K, tkK_0, tkK_i, tk_K, sk_K, stK_0, stK_i, st_K, exK_0, exK_i, ex_K, in_K, pfL_0, pfL_i, pfK_0, pfK_i, pf_K, pzL_0, pzL_i, pzK_0, pzK_i, pz_K, poL_0, poL_i, poK_0, poK_i, po_K, asQ_0, asQ_i, asM_0, asM_i, asL_0, asL_i, asK_0, asK_i, as_K, aoM_0, aoM_i, aoQ_0, aoQ_i, aoL_0, aoL_i, aoK_0, aoK_i, ao_K, sqK_0, sqK_1, sqK_2, sqK_3, sqK_4, sqK_i, sq_K, swK_0, swK_1, swK_2, swK_3, swK_4, swK_i, sw_K, ifK_0, ifK_i, if_K, br_K, ct_K, rv_K, thr_K, rtK_0, rtK_i, rt_K, mfK_0, mfK_i, mf_K, mzK_i, mzK_0, mz_K, cpK_0, cpT_0, cp_K, tsK_0, tsK_i, ts_K, tsP_hit, tsP_next, tsP_low, tsP_nil, ini_0, ini_1, rdU_0, rdU_i, rdB_0, rdB_1, rdB_2, rdB_3, rdB_4, rdB_i, rdC_0, rdC_i, rnd_K, cmpI, addI, subI, mulI, i2lI, l2iI, minI, maxI, idI, up, ok_some, ok_ite, w32_id, ix_id, Int.toNat_add, Int.toNat_mul, ltI_t, ltI_f, leI_t, leI_f, eqI_t, eqI_f, u2_s, u2_v, u2_i, w3_m2, w3_m1, w3_0, w3_1, w3_2, w3_3, w3_4, w3_5, w3_6, w3_7, w3_8, w3_9, w3_10, w3_12, w3_20, w3_23, w3_24, w3_25, w3_32, w3_40, w3_50, w3_100, w3_120, w3_168, w3_200, w3_240, w3_255, w3_500, w3_592, w3_600, w3_900, w3_940, w3_999, w3_1000, w3_1009, w3_1184, w3_3333, w3_9999, if_true, if_false, reduceIte, true_and, and_true, false_and, and_false, true_or, or_true, false_or, or_false, not_true_eq_false, not_false_eq_true, decide_true, decide_false, decide_eq_true_eq, Bool.not_true, Bool.not_false, Bool.false_eq_true, Bool.not_eq_true', Bool.not_eq_eq_eq_not, decide_eq_false_iff_not, Int.not_lt, Int.not_le, Nat.not_le, Nat.not_lt, Nat.le_refl, Int.le_refl, Nat.lt_irrefl, Int.lt_irrefl, reduceCtorEq, Nat.reduceEqDiff, Nat.reduceAdd, Nat.reduceMul, Nat.reduceBEq, Int.reduceNeg, Int.reduceAdd, Int.toNat_natCast, Int.reduceToNat, ne_eq, Nat.zero_ne_one, true_or, Int.ofNat_lt, Int.ofNat_le, Int.natCast_add, Int.cast_ofNat_Int, Int.natCast_zero, hsr, b1, b3, num_q e3, num_q (Qt_u e3 (v := 2688) (i := r) (x := 0) (by decide))]
      · exact fX_t (fX_t (fX_t (nx_f b4) (fX_u (by decide))) (fX_u (by decide))) (fX_u (by decide))
      · simp only [m_M_readReach, b_M_readReach]
        simp (disch := first | decide | omega) only [cE_K, vE_K, gE_K, o1K_0, o1K_i, o1_K, o2L_0, o2L_i, o2K_0, o2K_i, o2_K, thK_0, thK_i, th_K, dvL_0, dvL_i, dvK_0, dvK_i, dv_K, rmL_0, rmL_i, rmK_0, rmK_i, rm_K, dlL_0, dlL_i, dlK_0, dlK_i, dl_K, ldQ_0, ldQ_i, ldL_0, ldL_i, ldK_0, ldK_i, ld_K, kK_0, kK_i, k_K, aL_0, aL_i, aK_0, aK_i, aE_0, aE_1, clK_0, clK_i, cl_K, cBL_0, cBL_i, cBK_0, cBK_i, cB_K, zBK_0, zBK_i, zB_K, nBK_0, nBK_i, nB_K, andK_0, andK_i, and_K, orK_0, orK_i, or_K, tkK_0, tkK_i, tk_K, sk_K, stK_0, stK_i, st_K, exK_0, exK_i, ex_K, in_K, pfL_0, pfL_i, pfK_0, pfK_i, pf_K, pzL_0, pzL_i, pzK_0, pzK_i, pz_K, poL_0, poL_i, poK_0, poK_i, po_K, asQ_0, asQ_i, asM_0, asM_i, asL_0, asL_i, asK_0, asK_i, as_K, aoM_0, aoM_i, aoQ_0, aoQ_i, aoL_0, aoL_i, aoK_0, aoK_i, ao_K, sqK_0, sqK_1, sqK_2, sqK_3, sqK_4, sqK_i, sq_K, swK_0, swK_1, swK_2, swK_3, swK_4, swK_i, sw_K, ifK_0, ifK_i, if_K, br_K, ct_K, rv_K, thr_K, rtK_0, rtK_i, rt_K, mfK_0, mfK_i, mf_K, mzK_i, mzK_0, mz_K, cpK_0, cpT_0, cp_K, tsK_0, tsK_i, ts_K, tsP_hit, tsP_next, tsP_low, tsP_nil, ini_0, ini_1, rdU_0, rdU_i, rdB_0, rdB_1, rdB_2, rdB_3, rdB_4, rdB_i, rdC_0, rdC_i, rnd_K, cmpI, addI, subI, mulI, i2lI, l2iI, minI, maxI, idI, up, ok_some, ok_ite, w32_id, ix_id, Int.toNat_add, Int.toNat_mul, ltI_t, ltI_f, leI_t, leI_f, eqI_t, eqI_f, u2_s, u2_v, u2_i, w3_m2, w3_m1, w3_0, w3_1, w3_2, w3_3, w3_4, w3_5, w3_6, w3_7, w3_8, w3_9, w3_10, w3_12, w3_20, w3_23, w3_24, w3_25, w3_32, w3_40, w3_50, w3_100, w3_120, w3_168, w3_200, w3_240, w3_255, w3_500, w3_592, w3_600, w3_900, w3_940, w3_999, w3_1000, w3_1009, w3_1184, w3_3333, w3_9999, if_true, if_false, reduceIte, true_and, and_true, false_and, and_false, true_or, or_true, false_or, or_false, not_true_eq_false, not_false_eq_true, decide_true, decide_false, decide_eq_true_eq, Bool.not_true, Bool.not_false, Bool.false_eq_true, Bool.not_eq_true', Bool.not_eq_eq_eq_not, decide_eq_false_iff_not, Int.not_lt, Int.not_le, Nat.not_le, Nat.not_lt, Nat.le_refl, Int.le_refl, Nat.lt_irrefl, Int.lt_irrefl, reduceCtorEq, Nat.reduceEqDiff, Nat.reduceAdd, Nat.reduceMul, Nat.reduceBEq, Int.reduceNeg, Int.reduceAdd, Int.toNat_natCast, Int.reduceToNat, ne_eq, Nat.zero_ne_one, true_or, Int.ofNat_lt, Int.ofNat_le, Int.natCast_add, Int.cast_ofNat_Int, Int.natCast_zero, hr, b2, e1, Int.one_ne_zero]
