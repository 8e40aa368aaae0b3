set_option maxHeartbeats 4000000 in
theorem xOnce_m {μ : Me} {N : Nat → Int} {hm : Int} {K : Nat} (hN : rvN N) (hB : blN N) (hb : μ 22 0 = 1) (hn : μ 128 = N) (hpu : μ 34 0 = -1) (hm8 : 0 ≤ hm ∧ hm ≤ 1008) (hK : N 160 = K) :
    ∃ v κ, m_M_exchangeOnce [0, hm] μ = some (v, κ) ∧ fr mwV μ κ ∧ κ 22 0 = 1 ∧ ((xno N hm K ∧ v = hm ∧ κ 128 = N) ∨ (∃ a b, xfs N hm K a b ∧ v = xhs N a b ∧ κ 128 = swp N a b)) := by
  have c0 := hN.1
  have b0 := hB.1
  have step : ∀ (s : Me) (a b : Nat), a < b → b < K → fr mwV μ s → s 22 0 = 1 → s 128 = N → ∃ s2, m_M_harmNow [0] (swM s a b) = some (xhs N a b, s2) ∧ fr mwV μ s2 ∧ s2 22 0 = 1 ∧ s2 128 = swp N a b := by
    intro s a b hab hb' hfr hbg hsn
    have uf : ∀ v, v ≠ 128 → swM s a b v = s v := fun v hv => by funext i; simp [swM, hv]
    have nn : swM s a b 128 = swp N a b := by funext i; simp only [swM, true_and, hsn, swp]
    obtain ⟨s2, q1, q2, q3, q4⟩ := M_harmNow_ok (μ := swM s a b) (N := swp N a b) (by rw [uf _ (by decide), hbg]; exact Or.inr rfl) (by rw [nwM_1 (by rw [uf _ (by decide), hbg]), nn]) (rvN_lo hN (fun i hi => swp_o (by omega) (by omega))) (swp_bl hB (by omega) (by omega)) (by rw [uf _ (by decide), hfr _ (by decide)]; exact hpu)
    refine ⟨s2, q1, ?_, q4, q3⟩
    intro v hv
    have : v ≠ 128 := fun q => by subst q; simp [mwV] at hv
    rw [q2 v hv, uf v this, hfr v hv]
  obtain ⟨QQ, hQQ⟩ : ∃ Q : Int × Me → Prop, ∀ q, Q q ↔ (fr mwV μ q.2 ∧ q.2 22 0 = 1 ∧ ((xno N hm K ∧ q.1 = hm ∧ q.2 128 = N) ∨ (∃ a b, xfs N hm K a b ∧ q.1 = xhs N a b ∧ q.2 128 = swp N a b))) := ⟨_, fun _ => Iff.rfl⟩
  have main : ok (m_M_exchangeOnce [0, hm] μ) QQ := by
    simp only [m_M_exchangeOnce, b_M_exchangeOnce, cE_K, vE_K, gE_K, o1K_0, o1K_i, o1_K, o2L_0, o2L_i, o2K_0, o2K_i, o2_K, thK_0, thK_i, th_K, dvL_0, dvL_i, dvK_0, dvK_i, dv_K, rmL_0, rmL_i, rmK_0, rmK_i, rm_K, dlL_0, dlL_i, dlK_0, dlK_i, dl_K, ldQ_0, ldQ_i, ldL_0, ldL_i, ldK_0, ldK_i, ld_K, kK_0, kK_i, k_K, aL_0, aL_i, aK_0, aK_i, aE_0, aE_1, clK_0, clK_i, cl_K, cBL_0, cBL_i, cBK_0, cBK_i, cB_K, zBK_0, zBK_i, zB_K, nBK_0, nBK_i, nB_K, andK_0, andK_i, and_K, orK_0, orK_i, or_K, tkK_0, tkK_i, tk_K, sk_K, stK_0, stK_i, st_K, exK_0, exK_i, ex_K, in_K, pfL_0, pfL_i, pfK_0, pfK_i, pf_K, pzL_0, pzL_i, pzK_0, pzK_i, pz_K, poL_0, poL_i, poK_0, poK_i, po_K, asQ_0, asQ_i, asM_0, asM_i, asL_0, asL_i, asK_0, asK_i, as_K, aoM_0, aoM_i, aoQ_0, aoQ_i, aoL_0, aoL_i, aoK_0, aoK_i, ao_K, sqK_0, sqK_1, sqK_2, sqK_3, sqK_4, sqK_i, sq_K, swK_0, swK_1, swK_2, swK_3, swK_4, swK_i, sw_K, ifK_0, ifK_i, if_K, br_K, ct_K, rv_K, thr_K, rtK_0, rtK_i, rt_K, mfK_0, mfK_i, mf_K, mzK_i, mzK_0, mz_K, cpK_0, cpT_0, cp_K, tsK_0, tsK_i, ts_K, tsP_hit, tsP_next, tsP_low, tsP_nil, ini_0, ini_1, rdU_0, rdU_i, rdB_0, rdB_1, rdB_2, rdB_3, rdB_4, rdB_i, rdC_0, rdC_i, rnd_K, cmpI, addI, subI, mulI, i2lI, l2iI, minI, maxI, idI, up, ok_some, ok_ite, if_true, if_false, reduceIte, true_and, and_true, false_and, and_false, true_or, or_true, false_or, or_false, not_true_eq_false, not_false_eq_true, decide_true, decide_false, decide_eq_true_eq, Bool.not_true, Bool.not_false, Bool.false_eq_true, Bool.not_eq_true', Bool.not_eq_eq_eq_not, decide_eq_false_iff_not, Int.not_lt, Int.not_le, Nat.not_le, Nat.not_lt, Nat.le_refl, Int.le_refl, Nat.lt_irrefl, Int.lt_irrefl, reduceCtorEq, Nat.reduceEqDiff, Nat.reduceAdd, Nat.reduceMul, Nat.reduceBEq, Int.reduceNeg, Int.reduceAdd, Int.toNat_natCast, Int.reduceToNat, ne_eq, Nat.zero_ne_one, true_or, Int.ofNat_lt, Int.ofNat_le, Int.natCast_add, Int.cast_ofNat_Int, Int.natCast_zero]
    obtain ⟨I, hI⟩ : ∃ I : Nat → Lo → Me → Prop, ∀ a ρ s, I a ρ s ↔ (ρ 1 = hm ∧ ρ 2 = a ∧ fr mwV μ s ∧ s 22 0 = 1 ∧ s 128 = N ∧ ∀ a' b', a' < b' → b' < K → a' < a → xbN N hm a' b' = false) := ⟨fun a ρ s => ρ 1 = hm ∧ ρ 2 = a ∧ fr mwV μ s ∧ s 22 0 = 1 ∧ s 128 = N ∧ ∀ a' b', a' < b' → b' < K → a' < a → xbN N hm a' b' = false, fun _ _ _ => Iff.rfl⟩
    refine ok_mfK (ok_sqK (wh_gen I K (by omega) ((hI _ _ _).mpr ⟨by simp [up], by simp [up], fr_rfl, hb, hn, fun a' b' _ _ q => by omega⟩) ?_))
    intro a ρ s ha hIa
    obtain ⟨g1, g2, g3, gb, gn, g4⟩ := (hI _ _ _).mp hIa
    have bl : s 128 160 = K := by rw [gn, hK]
    rcases Nat.lt_or_eq_of_le ha with ha | rfl
    · simp (disch := first | decide | omega) only [cE_K, vE_K, gE_K, o1K_0, o1K_i, o1_K, o2L_0, o2L_i, o2K_0, o2K_i, o2_K, thK_0, thK_i, th_K, dvL_0, dvL_i, dvK_0, dvK_i, dv_K, rmL_0, rmL_i, rmK_0, rmK_i, rm_K, dlL_0, dlL_i, dlK_0, dlK_i, dl_K, ldQ_0, ldQ_i, ldL_0, ldL_i, ldK_0, ldK_i, ld_K, kK_0, kK_i, k_K, aL_0, aL_i, aK_0, aK_i, aE_0, aE_1, clK_0, clK_i, cl_K, cBL_0, cBL_i, cBK_0, cBK_i, cB_K, zBK_0, zBK_i, zB_K, nBK_0, nBK_i, nB_K, andK_0, andK_i, and_K, orK_0, orK_i, or_K, tkK_0, tkK_i, tk_K, sk_K, stK_0, stK_i, st_K, exK_0, exK_i, ex_K, in_K, pfL_0, pfL_i, pfK_0, pfK_i, pf_K, pzL_0, pzL_i, pzK_0, pzK_i, pz_K, poL_0, poL_i, poK_0, poK_i, po_K, asQ_0, asQ_i, asM_0, asM_i, asL_0, asL_i, asK_0, asK_i, as_K, aoM_0, aoM_i, aoQ_0, aoQ_i, aoL_0, aoL_i, aoK_0, aoK_i, ao_K, sqK_0, sqK_1, sqK_2, sqK_3, sqK_4, sqK_i, sq_K, swK_0, swK_1, swK_2, swK_3, swK_4, swK_i, sw_K, ifK_0, ifK_i, if_K, br_K, ct_K, rv_K, thr_K, rtK_0, rtK_i, rt_K, mfK_0, mfK_i, mf_K, mzK_i, mzK_0, mz_K, cpK_0, cpT_0, cp_K, tsK_0, tsK_i, ts_K, tsP_hit, tsP_next, tsP_low, tsP_nil, ini_0, ini_1, rdU_0, rdU_i, rdB_0, rdB_1, rdB_2, rdB_3, rdB_4, rdB_i, rdC_0, rdC_i, rnd_K, cmpI, addI, subI, mulI, i2lI, l2iI, minI, maxI, idI, up, ok_some, ok_ite, w32_id, ix_id, Int.toNat_add, Int.toNat_mul, ltI_t, ltI_f, leI_t, leI_f, eqI_t, eqI_f, u2_s, u2_v, u2_i, w3_m2, w3_m1, w3_0, w3_1, w3_2, w3_3, w3_4, w3_5, w3_6, w3_7, w3_8, w3_9, w3_10, w3_12, w3_20, w3_23, w3_24, w3_25, w3_32, w3_40, w3_50, w3_100, w3_120, w3_168, w3_200, w3_240, w3_255, w3_500, w3_592, w3_600, w3_900, w3_940, w3_999, w3_1000, w3_1009, w3_1184, w3_3333, w3_9999, if_true, if_false, reduceIte, true_and, and_true, false_and, and_false, true_or, or_true, false_or, or_false, not_true_eq_false, not_false_eq_true, decide_true, decide_false, decide_eq_true_eq, Bool.not_true, Bool.not_false, Bool.false_eq_true, Bool.not_eq_true', Bool.not_eq_eq_eq_not, decide_eq_false_iff_not, Int.not_lt, Int.not_le, Nat.not_le, Nat.not_lt, Nat.le_refl, Int.le_refl, Nat.lt_irrefl, Int.lt_irrefl, reduceCtorEq, Nat.reduceEqDiff, Nat.reduceAdd, Nat.reduceMul, Nat.reduceBEq, Int.reduceNeg, Int.reduceAdd, Int.toNat_natCast, Int.reduceToNat, ne_eq, Nat.zero_ne_one, true_or, Int.ofNat_lt, Int.ofNat_le, Int.natCast_add, Int.cast_ofNat_Int, Int.natCast_zero, g1, g2, M_bells_eq, bl]
      obtain ⟨J, hJ⟩ : ∃ J : Nat → Lo → Me → Prop, ∀ m ρ s, J m ρ s ↔ (ρ 1 = hm ∧ ρ 2 = a ∧ ρ 3 = a + 1 + m ∧ fr mwV μ s ∧ s 22 0 = 1 ∧ s 128 = N ∧ ∀ b', a < b' → b' < a + 1 + m → xbN N hm a b' = false) := ⟨fun m ρ s => ρ 1 = hm ∧ ρ 2 = a ∧ ρ 3 = a + 1 + m ∧ fr mwV μ s ∧ s 22 0 = 1 ∧ s 128 = N ∧ ∀ b', a < b' → b' < a + 1 + m → xbN N hm a b' = false, fun _ _ _ => Iff.rfl⟩
      refine ok_rdB (wh_gen J (K - 1 - a) (by omega) ((hJ _ _ _).mpr ⟨by simp [up, g1], by simp [up, g2], by simp [up], g3, gb, gn, fun b' _ _ => by omega⟩) ?_)
      clear g1 g2 g3 bl hIa gb gn
      intro m ρ s hm' hJm
      obtain ⟨g1, g2, g3, g5, gb, gn, g6⟩ := (hJ _ _ _).mp hJm
      have bl : s 128 160 = K := by rw [gn, hK]
      rcases Nat.lt_or_eq_of_le hm' with hm' | hm'
      · obtain ⟨b, hbb⟩ : ∃ b : Nat, b = a + 1 + m := ⟨_, rfl⟩
        have hbK : b < K := by omega
        have hab : a < b := by omega
        have g3' : ρ 3 = b := by rw [g3]; omega
        have qa := hB.2 a (by omega)
        have qb := hB.2 b (by omega)
        have i1 : 161 + 3 * a + 1 = 162 + 3 * a := by omega
        have i2 : 161 + 3 * b + 1 = 162 + 3 * b := by omega
        by_cases d1 : N (162 + 3 * a) = N (162 + 3 * b)
        · have xf : xbN N hm a b = false := by simp [xbN, d1]
          simp (disch := first | decide | omega) only [cE_K, vE_K, gE_K, o1K_0, o1K_i, o1_K, o2L_0, o2L_i, o2K_0, o2K_i, o2_K, thK_0, thK_i, th_K, dvL_0, dvL_i, dvK_0, dvK_i, dv_K, rmL_0, rmL_i, rmK_0, rmK_i, rm_K, dlL_0, dlL_i, dlK_0, dlK_i, dl_K, ldQ_0, ldQ_i, ldL_0, ldL_i, ldK_0, ldK_i, ld_K, kK_0, kK_i, k_K, aL_0, aL_i, aK_0, aK_i, aE_0, aE_1, clK_0, clK_i, cl_K, cBL_0, cBL_i, cBK_0, cBK_i, cB_K, zBK_0, zBK_i, zB_K, nBK_0, nBK_i, nB_K, andK_0, andK_i, and_K, orK_0, orK_i, or_K, tkK_0, tkK_i, tk_K, sk_K, stK_0, stK_i, st_K, exK_0, exK_i, ex_K, in_K, pfL_0, pfL_i, pfK_0, pfK_i, pf_K, pzL_0, pzL_i, pzK_0, pzK_i, pz_K, poL_0, poL_i, poK_0, poK_i, po_K, asQ_0, asQ_i, asM_0, asM_i, asL_0, asL_i, asK_0, asK_i, as_K, aoM_0, aoM_i, aoQ_0, aoQ_i, aoL_0, aoL_i, aoK_0, aoK_i, ao_K, sqK_0, sqK_1, sqK_2, sqK_3, sqK_4, sqK_i, sq_K, swK_0, swK_1, swK_2, swK_3, swK_4, swK_i, sw_K, ifK_0, ifK_i, if_K, br_K, ct_K, rv_K, thr_K, rtK_0, rtK_i, rt_K, mfK_0, mfK_i, mf_K, mzK_i, mzK_0, mz_K, cpK_0, cpT_0, cp_K, tsK_0, tsK_i, ts_K, tsP_hit, tsP_next, tsP_low, tsP_nil, ini_0, ini_1, rdU_0, rdU_i, rdB_0, rdB_1, rdB_2, rdB_3, rdB_4, rdB_i, rdC_0, rdC_i, rnd_K, cmpI, addI, subI, mulI, i2lI, l2iI, minI, maxI, idI, up, ok_some, ok_ite, w32_id, ix_id, Int.toNat_add, Int.toNat_mul, ltI_t, ltI_f, leI_t, leI_f, eqI_t, eqI_f, u2_s, u2_v, u2_i, w3_m2, w3_m1, w3_0, w3_1, w3_2, w3_3, w3_4, w3_5, w3_6, w3_7, w3_8, w3_9, w3_10, w3_12, w3_20, w3_23, w3_24, w3_25, w3_32, w3_40, w3_50, w3_100, w3_120, w3_168, w3_200, w3_240, w3_255, w3_500, w3_592, w3_600, w3_900, w3_940, w3_999, w3_1000, w3_1009, w3_1184, w3_3333, w3_9999, if_true, if_false, reduceIte, true_and, and_true, false_and, and_false, true_or, or_true, false_or, or_false, not_true_eq_false, not_false_eq_true, decide_true, decide_false, decide_eq_true_eq, Bool.not_true, Bool.not_false, Bool.false_eq_true, Bool.not_eq_true', Bool.not_eq_eq_eq_not, decide_eq_false_iff_not, Int.not_lt, Int.not_le, Nat.not_le, Nat.not_lt, Nat.le_refl, Int.le_refl, Nat.lt_irrefl, Int.lt_irrefl, reduceCtorEq, Nat.reduceEqDiff, Nat.reduceAdd, Nat.reduceMul, Nat.reduceBEq, Int.reduceNeg, Int.reduceAdd, Int.toNat_natCast, Int.reduceToNat, ne_eq, Nat.zero_ne_one, true_or, Int.ofNat_lt, Int.ofNat_le, Int.natCast_add, Int.cast_ofNat_Int, Int.natCast_zero, g1, g2, g3', M_bells_eq, bl, gn, i1, i2, d1]
          refine ⟨hm', (hJ _ _ _).mpr ⟨by simp [up, g1], by simp [up, g2], by simp [up]; omega, g5, gb, gn, fun b' h1 h2 => ?_⟩⟩
          by_cases q : b' = b
          · subst q; exact xf
          · exact g6 b' h1 (by omega)
        · obtain ⟨s2, q1, q2, q3, q4⟩ := step s a b hab hbK g5 gb gn
          have sw := M_swap_eq (s := s) (a := a) (b := b) (by omega) (by omega)
          have xb := xhs_bd (a := a) (b := b) hN
          by_cases d2 : xhs N a b < hm
          · have fin : QQ (xhs N a b, s2) := (hQQ _).mpr ⟨q2, q3, Or.inr ⟨a, b, ⟨hab, hbK, by simp [xbN, d1, d2], fun a' b' h1 h2 h3 => by
              rcases h3 with h3 | ⟨rfl, h3⟩
              · exact g4 a' b' h1 h2 h3
              · exact g6 b' h1 (by omega)⟩, rfl, q4⟩⟩
            generalize xhs N a b = xh at q1 xb d2 fin
            clear hJm hQQ
            simp (disch := first | decide | omega) only [cE_K, vE_K, gE_K, o1K_0, o1K_i, o1_K, o2L_0, o2L_i, o2K_0, o2K_i, o2_K, thK_0, thK_i, th_K, dvL_0, dvL_i, dvK_0, dvK_i, dv_K, rmL_0, rmL_i, rmK_0, rmK_i, rm_K, dlL_0, dlL_i, dlK_0, dlK_i, dl_K, ldQ_0, ldQ_i, ldL_0, ldL_i, ldK_0, ldK_i, ld_K, kK_0, kK_i, k_K, aL_0, aL_i, aK_0, aK_i, aE_0, aE_1, clK_0, clK_i, cl_K, cBL_0, cBL_i, cBK_0, cBK_i, cB_K, zBK_0, zBK_i, zB_K, nBK_0, nBK_i, nB_K, andK_0, andK_i, and_K, orK_0, orK_i, or_K, tkK_0, tkK_i, tk_K, sk_K, stK_0, stK_i, st_K, exK_0, exK_i, ex_K, in_K, pfL_0, pfL_i, pfK_0, pfK_i, pf_K, pzL_0, pzL_i, pzK_0, pzK_i, pz_K, poL_0, poL_i, poK_0, poK_i, po_K, asQ_0, asQ_i, asM_0, asM_i, asL_0, asL_i, asK_0, asK_i, as_K, aoM_0, aoM_i, aoQ_0, aoQ_i, aoL_0, aoL_i, aoK_0, aoK_i, ao_K, sqK_0, sqK_1, sqK_2, sqK_3, sqK_4, sqK_i, sq_K, swK_0, swK_1, swK_2, swK_3, swK_4, swK_i, sw_K, ifK_0, ifK_i, if_K, br_K, ct_K, rv_K, thr_K, rtK_0, rtK_i, rt_K, mfK_0, mfK_i, mf_K, mzK_i, mzK_0, mz_K, cpK_0, cpT_0, cp_K, tsK_0, tsK_i, ts_K, tsP_hit, tsP_next, tsP_low, tsP_nil, ini_0, ini_1, rdU_0, rdU_i, rdB_0, rdB_1, rdB_2, rdB_3, rdB_4, rdB_i, rdC_0, rdC_i, rnd_K, cmpI, addI, subI, mulI, i2lI, l2iI, minI, maxI, idI, up, ok_some, ok_ite, w32_id, ix_id, Int.toNat_add, Int.toNat_mul, ltI_t, ltI_f, leI_t, leI_f, eqI_t, eqI_f, u2_s, u2_v, u2_i, w3_m2, w3_m1, w3_0, w3_1, w3_2, w3_3, w3_4, w3_5, w3_6, w3_7, w3_8, w3_9, w3_10, w3_12, w3_20, w3_23, w3_24, w3_25, w3_32, w3_40, w3_50, w3_100, w3_120, w3_168, w3_200, w3_240, w3_255, w3_500, w3_592, w3_600, w3_900, w3_940, w3_999, w3_1000, w3_1009, w3_1184, w3_3333, w3_9999, if_true, if_false, reduceIte, true_and, and_true, false_and, and_false, true_or, or_true, false_or, or_false, not_true_eq_false, not_false_eq_true, decide_true, decide_false, decide_eq_true_eq, Bool.not_true, Bool.not_false, Bool.false_eq_true, Bool.not_eq_true', Bool.not_eq_eq_eq_not, decide_eq_false_iff_not, Int.not_lt, Int.not_le, Nat.not_le, Nat.not_lt, Nat.le_refl, Int.le_refl, Nat.lt_irrefl, Int.lt_irrefl, reduceCtorEq, Nat.reduceEqDiff, Nat.reduceAdd, Nat.reduceMul, Nat.reduceBEq, Int.reduceNeg, Int.reduceAdd, Int.toNat_natCast, Int.reduceToNat, ne_eq, Nat.zero_ne_one, true_or, Int.ofNat_lt, Int.ofNat_le, Int.natCast_add, Int.cast_ofNat_Int, Int.natCast_zero, g1, g2, g3', M_bells_eq, bl, gn, i1, i2, sw, q1]
            exact fin
          · have xf : xbN N hm a b = false := by simp [xbN, d2]
            have sw2 := M_swap_eq (s := s2) (a := a) (b := b) (by omega) (by omega)
            have F2 : fr mwV μ (swM s2 a b) := by
              intro v hv
              have : v ≠ 128 := fun q => by subst q; simp [mwV] at hv
              rw [← q2 v hv]
              funext i
              simp [swM, this]
            have B2 : swM s2 a b 22 0 = 1 := by simp [swM, q3]
            have N2 : swM s2 a b 128 = N := by
              funext i
              simp only [swM, true_and, q4]
              by_cases e1 : i = 162 + 3 * b
              · subst e1; rw [if_pos rfl, swp_a (by omega)]
              · rw [if_neg e1]
                by_cases e2 : i = 162 + 3 * a
                · subst e2; rw [if_pos rfl, swp_b]
                · rw [if_neg e2, swp_o e2 e1]
            generalize xhs N a b = xh at q1 xb d2
            clear hJm hQQ
            simp (disch := first | decide | omega) only [cE_K, vE_K, gE_K, o1K_0, o1K_i, o1_K, o2L_0, o2L_i, o2K_0, o2K_i, o2_K, thK_0, thK_i, th_K, dvL_0, dvL_i, dvK_0, dvK_i, dv_K, rmL_0, rmL_i, rmK_0, rmK_i, rm_K, dlL_0, dlL_i, dlK_0, dlK_i, dl_K, ldQ_0, ldQ_i, ldL_0, ldL_i, ldK_0, ldK_i, ld_K, kK_0, kK_i, k_K, aL_0, aL_i, aK_0, aK_i, aE_0, aE_1, clK_0, clK_i, cl_K, cBL_0, cBL_i, cBK_0, cBK_i, cB_K, zBK_0, zBK_i, zB_K, nBK_0, nBK_i, nB_K, andK_0, andK_i, and_K, orK_0, orK_i, or_K, tkK_0, tkK_i, tk_K, sk_K, stK_0, stK_i, st_K, exK_0, exK_i, ex_K, in_K, pfL_0, pfL_i, pfK_0, pfK_i, pf_K, pzL_0, pzL_i, pzK_0, pzK_i, pz_K, poL_0, poL_i, poK_0, poK_i, po_K, asQ_0, asQ_i, asM_0, asM_i, asL_0, asL_i, asK_0, asK_i, as_K, aoM_0, aoM_i, aoQ_0, aoQ_i, aoL_0, aoL_i, aoK_0, aoK_i, ao_K, sqK_0, sqK_1, sqK_2, sqK_3, sqK_4, sqK_i, sq_K, swK_0, swK_1, swK_2, swK_3, swK_4, swK_i, sw_K, ifK_0, ifK_i, if_K, br_K, ct_K, rv_K, thr_K, rtK_0, rtK_i, rt_K, mfK_0, mfK_i, mf_K, mzK_i, mzK_0, mz_K, cpK_0, cpT_0, cp_K, tsK_0, tsK_i, ts_K, tsP_hit, tsP_next, tsP_low, tsP_nil, ini_0, ini_1, rdU_0, rdU_i, rdB_0, rdB_1, rdB_2, rdB_3, rdB_4, rdB_i, rdC_0, rdC_i, rnd_K, cmpI, addI, subI, mulI, i2lI, l2iI, minI, maxI, idI, up, ok_some, ok_ite, w32_id, ix_id, Int.toNat_add, Int.toNat_mul, ltI_t, ltI_f, leI_t, leI_f, eqI_t, eqI_f, u2_s, u2_v, u2_i, w3_m2, w3_m1, w3_0, w3_1, w3_2, w3_3, w3_4, w3_5, w3_6, w3_7, w3_8, w3_9, w3_10, w3_12, w3_20, w3_23, w3_24, w3_25, w3_32, w3_40, w3_50, w3_100, w3_120, w3_168, w3_200, w3_240, w3_255, w3_500, w3_592, w3_600, w3_900, w3_940, w3_999, w3_1000, w3_1009, w3_1184, w3_3333, w3_9999, if_true, if_false, reduceIte, true_and, and_true, false_and, and_false, true_or, or_true, false_or, or_false, not_true_eq_false, not_false_eq_true, decide_true, decide_false, decide_eq_true_eq, Bool.not_true, Bool.not_false, Bool.false_eq_true, Bool.not_eq_true', Bool.not_eq_eq_eq_not, decide_eq_false_iff_not, Int.not_lt, Int.not_le, Nat.not_le, Nat.not_lt, Nat.le_refl, Int.le_refl, Nat.lt_irrefl, Int.lt_irrefl, reduceCtorEq, Nat.reduceEqDiff, Nat.reduceAdd, Nat.reduceMul, Nat.reduceBEq, Int.reduceNeg, Int.reduceAdd, Int.toNat_natCast, Int.reduceToNat, ne_eq, Nat.zero_ne_one, true_or, Int.ofNat_lt, Int.ofNat_le, Int.natCast_add, Int.cast_ofNat_Int, Int.natCast_zero, g1, g2, g3', M_bells_eq, bl, gn, i1, i2, sw, sw2, q1]
            refine ⟨hm', (hJ _ _ _).mpr ⟨by simp [up, g1], by simp [up, g2], by simp [up]; omega, F2, B2, N2, fun b' h1 h2 => ?_⟩⟩
            by_cases q : b' = b
            · subst q; exact xf
            · exact g6 b' h1 (by omega)
      · have e : (a : Int) + 1 + m = K := by omega
        rw [e] at g3
        simp (disch := first | decide | omega) only [cE_K, vE_K, gE_K, o1K_0, o1K_i, o1_K, o2L_0, o2L_i, o2K_0, o2K_i, o2_K, thK_0, thK_i, th_K, dvL_0, dvL_i, dvK_0, dvK_i, dv_K, rmL_0, rmL_i, rmK_0, rmK_i, rm_K, dlL_0, dlL_i, dlK_0, dlK_i, dl_K, ldQ_0, ldQ_i, ldL_0, ldL_i, ldK_0, ldK_i, ld_K, kK_0, kK_i, k_K, aL_0, aL_i, aK_0, aK_i, aE_0, aE_1, clK_0, clK_i, cl_K, cBL_0, cBL_i, cBK_0, cBK_i, cB_K, zBK_0, zBK_i, zB_K, nBK_0, nBK_i, nB_K, andK_0, andK_i, and_K, orK_0, orK_i, or_K, tkK_0, tkK_i, tk_K, sk_K, stK_0, stK_i, st_K, exK_0, exK_i, ex_K, in_K, pfL_0, pfL_i, pfK_0, pfK_i, pf_K, pzL_0, pzL_i, pzK_0, pzK_i, pz_K, poL_0, poL_i, poK_0, poK_i, po_K, asQ_0, asQ_i, asM_0, asM_i, asL_0, asL_i, asK_0, asK_i, as_K, aoM_0, aoM_i, aoQ_0, aoQ_i, aoL_0, aoL_i, aoK_0, aoK_i, ao_K, sqK_0, sqK_1, sqK_2, sqK_3, sqK_4, sqK_i, sq_K, swK_0, swK_1, swK_2, swK_3, swK_4, swK_i, sw_K, ifK_0, ifK_i, if_K, br_K, ct_K, rv_K, thr_K, rtK_0, rtK_i, rt_K, mfK_0, mfK_i, mf_K, mzK_i, mzK_0, mz_K, cpK_0, cpT_0, cp_K, tsK_0, tsK_i, ts_K, tsP_hit, tsP_next, tsP_low, tsP_nil, ini_0, ini_1, rdU_0, rdU_i, rdB_0, rdB_1, rdB_2, rdB_3, rdB_4, rdB_i, rdC_0, rdC_i, rnd_K, cmpI, addI, subI, mulI, i2lI, l2iI, minI, maxI, idI, up, ok_some, ok_ite, w32_id, ix_id, Int.toNat_add, Int.toNat_mul, ltI_t, ltI_f, leI_t, leI_f, eqI_t, eqI_f, u2_s, u2_v, u2_i, w3_m2, w3_m1, w3_0, w3_1, w3_2, w3_3, w3_4, w3_5, w3_6, w3_7, w3_8, w3_9, w3_10, w3_12, w3_20, w3_23, w3_24, w3_25, w3_32, w3_40, w3_50, w3_100, w3_120, w3_168, w3_200, w3_240, w3_255, w3_500, w3_592, w3_600, w3_900, w3_940, w3_999, w3_1000, w3_1009, w3_1184, w3_3333, w3_9999, if_true, if_false, reduceIte, true_and, and_true, false_and, and_false, true_or, or_true, false_or, or_false, not_true_eq_false, not_false_eq_true, decide_true, decide_false, decide_eq_true_eq, Bool.not_true, Bool.not_false, Bool.false_eq_true, Bool.not_eq_true', Bool.not_eq_eq_eq_not, decide_eq_false_iff_not, Int.not_lt, Int.not_le, Nat.not_le, Nat.not_lt, Nat.le_refl, Int.le_refl, Nat.lt_irrefl, Int.lt_irrefl, reduceCtorEq, Nat.reduceEqDiff, Nat.reduceAdd, Nat.reduceMul, Nat.reduceBEq, Int.reduceNeg, Int.reduceAdd, Int.toNat_natCast, Int.reduceToNat, ne_eq, Nat.zero_ne_one, true_or, Int.ofNat_lt, Int.ofNat_le, Int.natCast_add, Int.cast_ofNat_Int, Int.natCast_zero, g1, g2, g3, M_bells_eq, bl]
        refine ⟨ha, (hI _ _ _).mpr ⟨by simp [up, g1], by simp [up], g5, gb, gn, fun a' b' h1 h2 h3 => ?_⟩⟩
        by_cases q : a' = a
        · subst q; exact g6 b' h1 (by omega)
        · exact g4 a' b' h1 h2 (by omega)
    · simp (disch := first | decide | omega) only [cE_K, vE_K, gE_K, o1K_0, o1K_i, o1_K, o2L_0, o2L_i, o2K_0, o2K_i, o2_K, thK_0, thK_i, th_K, dvL_0, dvL_i, dvK_0, dvK_i, dv_K, rmL_0, rmL_i, rmK_0, rmK_i, rm_K, dlL_0, dlL_i, dlK_0, dlK_i, dl_K, ldQ_0, ldQ_i, ldL_0, ldL_i, ldK_0, ldK_i, ld_K, kK_0, kK_i, k_K, aL_0, aL_i, aK_0, aK_i, aE_0, aE_1, clK_0, clK_i, cl_K, cBL_0, cBL_i, cBK_0, cBK_i, cB_K, zBK_0, zBK_i, zB_K, nBK_0, nBK_i, nB_K, andK_0, andK_i, and_K, orK_0, orK_i, or_K, tkK_0, tkK_i, tk_K, sk_K, stK_0, stK_i, st_K, exK_0, exK_i, ex_K, in_K, pfL_0, pfL_i, pfK_0, pfK_i, pf_K, pzL_0, pzL_i, pzK_0, pzK_i, pz_K, poL_0, poL_i, poK_0, poK_i, po_K, asQ_0, asQ_i, asM_0, asM_i, asL_0, asL_i, asK_0, asK_i, as_K, aoM_0, aoM_i, aoQ_0, aoQ_i, aoL_0, aoL_i, aoK_0, aoK_i, ao_K, sqK_0, sqK_1, sqK_2, sqK_3, sqK_4, sqK_i, sq_K, swK_0, swK_1, swK_2, swK_3, swK_4, swK_i, sw_K, ifK_0, ifK_i, if_K, br_K, ct_K, rv_K, thr_K, rtK_0, rtK_i, rt_K, mfK_0, mfK_i, mf_K, mzK_i, mzK_0, mz_K, cpK_0, cpT_0, cp_K, tsK_0, tsK_i, ts_K, tsP_hit, tsP_next, tsP_low, tsP_nil, ini_0, ini_1, rdU_0, rdU_i, rdB_0, rdB_1, rdB_2, rdB_3, rdB_4, rdB_i, rdC_0, rdC_i, rnd_K, cmpI, addI, subI, mulI, i2lI, l2iI, minI, maxI, idI, up, ok_some, ok_ite, w32_id, ix_id, Int.toNat_add, Int.toNat_mul, ltI_t, ltI_f, leI_t, leI_f, eqI_t, eqI_f, u2_s, u2_v, u2_i, w3_m2, w3_m1, w3_0, w3_1, w3_2, w3_3, w3_4, w3_5, w3_6, w3_7, w3_8, w3_9, w3_10, w3_12, w3_20, w3_23, w3_24, w3_25, w3_32, w3_40, w3_50, w3_100, w3_120, w3_168, w3_200, w3_240, w3_255, w3_500, w3_592, w3_600, w3_900, w3_940, w3_999, w3_1000, w3_1009, w3_1184, w3_3333, w3_9999, if_true, if_false, reduceIte, true_and, and_true, false_and, and_false, true_or, or_true, false_or, or_false, not_true_eq_false, not_false_eq_true, decide_true, decide_false, decide_eq_true_eq, Bool.not_true, Bool.not_false, Bool.false_eq_true, Bool.not_eq_true', Bool.not_eq_eq_eq_not, decide_eq_false_iff_not, Int.not_lt, Int.not_le, Nat.not_le, Nat.not_lt, Nat.le_refl, Int.le_refl, Nat.lt_irrefl, Int.lt_irrefl, reduceCtorEq, Nat.reduceEqDiff, Nat.reduceAdd, Nat.reduceMul, Nat.reduceBEq, Int.reduceNeg, Int.reduceAdd, Int.toNat_natCast, Int.reduceToNat, ne_eq, Nat.zero_ne_one, true_or, Int.ofNat_lt, Int.ofNat_le, Int.natCast_add, Int.cast_ofNat_Int, Int.natCast_zero, g1, g2, M_bells_eq, bl]
      exact (hQQ _).mpr ⟨g3, gb, Or.inl ⟨fun a' b' h1 h2 => g4 a' b' h1 h2 (by omega), rfl, gn⟩⟩
  obtain ⟨⟨r1, r2⟩, h1, h2⟩ := main
  obtain ⟨k1, k2, k3⟩ := (hQQ _).mp h2
  exact ⟨r1, r2, h1, k1, k2, k3⟩
/-- one exchange, or none, on both sides -/
theorem x_both {σ μ : Me} {N : Nat → Int} {hm : Int} (h : Rl σ μ) (hb : μ 22 0 = 1) (hn : μ 128 = N) (hhm : hm = hsN N (floN N) (ppW N (wsN N (-1)))) :
    ∃ v θ κ, m_D_exchangeFirst [0, hm] σ = some (v, θ) ∧ m_M_exchangeOnce [0, hm] μ = some (v, κ) ∧ Rl θ κ ∧ κ 22 0 = 1 ∧ v = hsN (κ 128) (floN (κ 128)) (ppW (κ 128) (wsN (κ 128) (-1))) ∧ 0 ≤ v ∧ v ≤ hm ∧ (v = hm → Rl σ κ) ∧ fr mwV μ κ ∧ θ 15 = σ 15 := by
  have hnw : nwM μ = N := by rw [nwM_1 hb, hn]
  have st := h.1.2.1
  rw [hnw] at st
  have hN := st.1.1
  have hB := st.1.2.1
  have b0 := hB.1
  obtain ⟨K, hK⟩ : ∃ K : Nat, N 160 = K := ⟨(N 160).toNat, by omega⟩
  have hm8 : 0 ≤ hm ∧ hm ≤ 1008 := by
    have := hpN_bd (N := N) (fl := floN N) (PP := ppW N (wsN N (-1))) (n := 168) hN
    rw [hp_hs] at this
    omega
  obtain ⟨v, θ, τ, c1, c2, c3, c4⟩ := xFirst_c h hnw hhm hK
  obtain ⟨v', κ, m1, m2, m3, m4⟩ := xOnce_m hN hB hb hn h.1.2.2.2.2.2.2.2.2.2 hm8 hK
  have st2 := c2.1.2.1
  rw [hnw] at st2
  rcases c4 with ⟨c4, c5, c6⟩ | ⟨a, b, c4, c5, s, c6, c7⟩
  · rcases m4 with ⟨m4, m5, m6⟩ | ⟨a', b', m4, m5, m6⟩
    · subst c5 m5
      have nk : nwM κ = nwM μ := by rw [nwM_1 m3, m6, hnw]
      refine ⟨v', θ, κ, c1, m1, Rl_mu (Rl_we c2 c6) (agM_fr m2 (by decide)) (Or.inr m3) nk, m3, by rw [m6]; exact hhm, hm8.1, Int.le_refl _, fun _ => Rl_mu h (agM_fr m2 (by decide)) (Or.inr m3) nk, m2, by rw [c6 _ (by decide), c3 _ (by decide)]⟩
    · have := c4 a' b' m4.1 m4.2.1
      rw [m4.2.2.1] at this
      cases this
  · rcases m4 with ⟨m4, m5, m6⟩ | ⟨a', b', m4, m5, m6⟩
    · have := m4 a b c4.1 c4.2.1
      rw [c4.2.2.1] at this
      cases this
    · obtain ⟨rfl, rfl⟩ := xfs_u c4 m4
      rw [← m5] at c5
      subst c5
      have lt : v < hm := by
        have := c4.2.2.1
        rw [xbN, ← m5] at this
        simp at this
        exact this.2
      have v0 := (xhs_bd (a := a) (b := b) hN).1
      rw [← m5] at v0
      have ha : (a : Int) < N 160 := by have := c4.1; have := c4.2.1; omega
      have hb' : (b : Int) < N 160 := by have := c4.2.1; omega
      have uf : ∀ w, w ≠ 1536 → swX τ a b w = τ w := fun w hw => by funext i; simp [swX, hw]
      have tf : ∀ w, w ≠ 10 → w ∉ weV → θ w = swX τ a b w := fun w h1 h2 => by
        rw [← c6 w h2, c7]
        funext i
        simp [u2, h1]
      refine ⟨v, θ, κ, c1, m1, ?_, m3, by rw [m6]; exact m5, v0, by omega, fun q => by omega, m2, ?_⟩
      · refine Rl_now c2 (fun w h1 h2 h3 => ?_) (agM_fr m2 (by decide)) m3 ?_ (Or.inl (by rw [c7]; simp [u2]))
        · rw [tf w h2 (fun hm => by
            simp only [weV, List.mem_cons, List.not_mem_nil, or_false] at hm
            rcases hm with rfl | rfl | rfl | rfl | rfl | rfl <;> revert h3 <;> decide), uf w (by omega)]
        · rw [m6]
          exact sce_ag (swX_sce st2 ha hb') (fun w w1 w2 => tf w (by omega) (by simp [weV]; omega))
      · rw [tf _ (by decide) (by decide), uf _ (by decide), c3 _ (by decide)]
theorem Rl_ex {σ μ : Me} {x : Int} (h : Rl σ μ) (x0 : 0 ≤ x) (x1 : x ≤ 50) : Rl (u2 σ 15 0 x) (u2 μ 45 0 x) := by
  have f1 : ∀ v, v ≠ 15 → u2 σ 15 0 x v = σ v := fun v hv => by funext i; simp [u2, hv]
  have f2 : ∀ v, v ≠ 45 → u2 μ 45 0 x v = μ v := fun v hv => by funext i; simp [u2, hv]
  obtain ⟨⟨h1, h2, h3, h4, h5, h6⟩, h7⟩ := h
  have nk : nwM (u2 μ 45 0 x) = nwM μ := by
    unfold nwM
    rw [f2 _ (by decide), f2 _ (by decide)]
  have kp : ∀ k f, k < 2 → f ≠ 15 → kpR σ μ k f → kpR (u2 σ 15 0 x) (u2 μ 45 0 x) k f := by
    intro k f hk hf hh
    obtain ⟨q1, q2⟩ := hh
    refine ⟨by rw [f1 f hf, f2 _ (by decide)]; exact q1, ?_⟩
    rw [f2 576 (by decide), f2 256 (by decide), f2 512 (by decide)]
    rcases q2 with q2 | ⟨q2, q3⟩
    · exact Or.inl q2
    · exact Or.inr ⟨q2, sce_ag q3 (fun v v1 v2 => f1 _ (by omega))⟩
  refine ⟨⟨by rw [f2 _ (by decide)]; exact h1, ?_, kp 0 _ (by omega) (by decide) h3, kp 1 _ (by omega) (by decide) h4, ?_, ?_⟩, ?_⟩
  · rw [nk, f2 _ (by decide)]
    exact sce_ag h2 (fun v v1 v2 => f1 _ (by omega))
  · unfold tpR at *
    rw [f1 _ (by decide), f1 _ (by decide), f2 _ (by decide), f2 _ (by decide)]
    exact h5
  · unfold msR at *
    rw [f1 1 (by decide), f1 14 (by decide), f1 9664 (by decide), f1 9728 (by decide), f2 10 (by decide), f2 44 (by decide), f2 1408 (by decide), f2 1472 (by decide), f2 34 (by decide)]
    refine ⟨h6.1, h6.2.1, ⟨by simp [u2], by simp [u2]; exact x0, by simp [u2]; exact x1⟩, h6.2.2.2⟩
  · rw [nk]
    exact RP_ag h7 (fun v hv => f1 v (fun e => by subst e; revert hv; decide))
