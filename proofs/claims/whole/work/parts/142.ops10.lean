/-! dam, rain -/
theorem rdX_vol {s : Me} {N M : Nat → Int} (hN : rvN N) (h : rdX s N) (e : ∀ i, i < 160 → (i < 10 ∨ 30 ≤ i ∨ i % 2 = 1) → M i = N i) : rdX s M := by
  obtain ⟨⟨h1, h2, h3, h4, h5⟩, h6, h7, h8⟩ := h
  have c0 := hN.1
  unfold rdX
  rw [e 0 (by omega) (by omega), e 1 (by omega) (by omega), e 2 (by omega) (by omega), e 3 (by omega) (by omega), e 5 (by omega) (by omega)]
  refine ⟨⟨h1, h2, h3, h4, h5⟩, fun r hr => by rw [e _ (by omega) (by omega)]; exact h6 r hr, fun g hg => ?_, fun u hu => ?_⟩
  · obtain ⟨a1, a2⟩ := h7 g hg
    exact ⟨by rw [e _ (by omega) (by omega)]; exact a1, fun c hc => by rw [e _ (by omega) (by omega)]; exact a2 c hc⟩
  · obtain ⟨a1, a2, a3, a4⟩ := h8 u hu
    exact ⟨by rw [e _ (by omega) (by omega)]; exact a1, by rw [e _ (by omega) (by omega)]; exact a2, by rw [e _ (by omega) (by omega)]; exact a3, fun c hc => by rw [e _ (by omega) (by omega)]; exact a4 c hc⟩
theorem op_dam {σ μ : Me} {x v : Int} (h : Rl σ μ) (hx : rg x) (hv : rg v) : opR (m_D_dam [0, x, v] σ) (m_M_dam [0, x, v] μ) := by
  obtain ⟨ν, p1, p2, p3, p4, p5, p6, p7⟩ := rl_pre h
  have hs := p7.1.2.1
  rw [p6] at hs
  generalize hNN : nwM μ = N at *
  have c0 := hs.1.1.1
  have x1 : σ 257 0 = N 0 := hs.2.1.1.1.1
  unfold rg at hx hv
  by_cases c1 : 0 ≤ x ∧ x < N 0
  · by_cases c2 : 1 ≤ v ∧ v ≤ 9999
    · have hN := hs.1.1
      obtain ⟨r, rfl⟩ : ∃ r : Nat, x = r := ⟨x.toNat, by omega⟩
      have vr := hN.2.1 r c1.2
      obtain ⟨M, hM⟩ : ∃ M : Nat → Int, ∀ i, M i = if i = 10 + 2 * r then v else N i := ⟨_, fun _ => rfl⟩
      have e : ∀ i, i ≠ 10 + 2 * r → M i = N i := fun i hi => by rw [hM, if_neg hi]
      have e2 : M (10 + 2 * r) = v := by rw [hM, if_pos rfl]
      have hM' : rvN M := by
        obtain ⟨h1, h2, h3, h4, h5, h6⟩ := hN
        unfold rvN
        rw [e 0 (by omega), e 1 (by omega), e 2 (by omega), e 3 (by omega), e 4 (by omega), e 5 (by omega)]
        refine ⟨h1, fun q hq => ?_, fun g hg => ?_, fun u hu => ?_, fun d hd => ?_, fun k hk => ?_⟩
        · have := h2 q hq
          rw [e (11 + 2 * q) (by omega)]
          by_cases eq : q = r
          · subst eq; rw [e2]; omega
          · rw [e _ (by omega)]; exact this
        · obtain ⟨a1, a2, a3, a4, a5⟩ := h3 g hg
          rw [e _ (by omega), e _ (by omega)]
          exact ⟨a1, a2, a3, a4, fun c hc => by rw [e _ (by omega)]; exact a5 c hc⟩
        · obtain ⟨a1, a2, a3, a4, a5, a6⟩ := h4 u hu
          rw [e _ (by omega), e _ (by omega), e _ (by omega)]
          exact ⟨a1, a2, a3, a4, a5, fun c hc => by rw [e _ (by omega)]; exact a6 c hc⟩
        · rw [e _ (by omega)]; exact h5 d hd
        · rw [e _ (by omega), e _ (by omega), e _ (by omega)]; exact h6 k hk
      have hB' : blN M := by
        obtain ⟨h1, h2⟩ := hs.1.2.1
        unfold blN
        rw [e 160 (by omega), e 2 (by omega)]
        exact ⟨h1, fun k hk => by rw [e _ (by omega), e _ (by omega), e _ (by omega)]; exact h2 k hk⟩
      have ews : ∀ h, wsN M (-1) h = wsN N (-1) h := fun h => by
        unfold wsN
        rw [e 160 (by omega)]
        exact wkF_N _ (fun k hk => ⟨e _ (by omega), e _ (by omega), e _ (by omega)⟩)
      obtain ⟨A, hA⟩ : ∃ A : Int, A = hsN M (floN M) (ppW M (wsN M (-1))) := ⟨_, rfl⟩
      have hA8 : A ≤ 1008 := by
        have := hpN_bd (N := M) (fl := floN M) (PP := ppW M (wsN M (-1))) (n := 168) hM'
        rw [hp_hs] at this
        omega
      obtain ⟨s1, r1, r2, r3, r4, r5⟩ := rl_prep p7 p6
      have E2 : enX (u2 s1 8704 r v) M (floN M) (ppW M (wsN M (-1))) 0 := by
        obtain ⟨a1, a2, a3, a4⟩ := r3
        have uf : ∀ w, w ≠ 8704 → u2 s1 8704 r v w = s1 w := fun w hw => by funext i; simp [u2, hw]
        refine ⟨rdX_vol hN (rdX_lo a1 (fun w hw => uf w (by omega))) (fun i h1 h2 => e i (by omega)), fun q hq => ?_, fun d hd => ?_, fun h i _ hh _ _ => ?_⟩
        · rw [e 0 (by omega)] at hq
          by_cases eq : q = r
          · subst eq; rw [e2]; simp [u2]
          · rw [e _ (by omega), ← a2 q hq]; simp [u2, eq]
        · rw [uf _ (by decide), a3 d hd]
          exact (e _ (by omega)).symm
        · rw [uf _ (by decide), r4 h hh, ← ews]
          rfl
      obtain ⟨ra, s3, k1, k2, k3, k4, k5, k6⟩ := harmOfAll_ok (en := 1009) hM' (ppW_pp hM') (floN_fl hM') E2 (by omega) (by omega)
      rw [← hA] at k5 k6
      have k7 := k5 (by omega)
      subst k7
      -- the reference
      have nt : u2 ν 128 (10 + 2 * r) v 128 = M := by funext i; simp only [u2, true_and, hM, p2]
      have ft : ∀ w, w ≠ 128 → u2 ν 128 (10 + 2 * r) v w = ν w := fun w hw => by funext i; simp [u2, hw]
      obtain ⟨κ, m1, m2, m3, m4⟩ := M_harmNow_ok (μ := u2 ν 128 (10 + 2 * r) v) (N := M) (by rw [ft _ (by decide), p3]; exact Or.inr rfl) (by rw [nwM_1 (by rw [ft _ (by decide), p3]), nt]) hM' hB' (by rw [ft _ (by decide)]; exact p7.1.2.2.2.2.2.2.2.2.2)
      rw [← hA] at m1
      refine opR_mk (a := ra) (σ' := s3) (μ' := u2 κ 128 (10 + 2 * r) (N (10 + 2 * r))) ?_ ?_ ?_
      · simp only [m_D_dam, b_D_dam]
        simp (disch := first | decide | omega) only [cE_K, vE_K, gE_K, o1K_0, o1K_i, o1_K, o2L_0, o2L_i, o2K_0, o2K_i, o2_K, thK_0, thK_i, th_K, dvL_0, dvL_i, dvK_0, dvK_i, dv_K, rmL_0, rmL_i, rmK_0, rmK_i, rm_K, dlL_0, dlL_i, dlK_0, dlK_i, dl_K, ldQ_0, ldQ_i, ldL_0, ldL_i, ldK_0, ldK_i, ld_K, kK_0, kK_i, k_K, aL_0, aL_i, aK_0, aK_i, aE_0, aE_1, clK_0, clK_i, cl_K, cBL_0, cBL_i, cBK_0, cBK_i, cB_K, zBK_0, zBK_i, zB_K, nBK_0, nBK_i, nB_K, andK_0, andK_i, and_K, orK_0, orK_i, or_K, tkK_0, tkK_i, tk_K, sk_K, stK_0, stK_i, st_K, exK_0, exK_i, ex_K, in_K, pfL_0, pfL_i, pfK_0, pfK_i, pf_K, pzL_0, pzL_i, pzK_0, pzK_i, pz_K, poL_0, poL_i, poK_0, poK_i, po_K, asQ_0, asQ_i, asM_0, asM_i, asL_0, asL_i, asK_0, asK_i, as_K, aoM_0, aoM_i, aoQ_0, aoQ_i, aoL_0, aoL_i, aoK_0, aoK_i, ao_K, sqK_0, sqK_1, sqK_2, sqK_3, sqK_4, sqK_i, sq_K, swK_0, swK_1, swK_2, swK_3, swK_4, swK_i, sw_K, ifK_0, ifK_i, if_K, br_K, ct_K, rv_K, thr_K, rtK_0, rtK_i, rt_K, mfK_0, mfK_i, mf_K, mzK_i, mzK_0, mz_K, cpK_0, cpT_0, cp_K, tsK_0, tsK_i, ts_K, tsP_hit, tsP_next, tsP_low, tsP_nil, ini_0, ini_1, rdU_0, rdU_i, rdB_0, rdB_1, rdB_2, rdB_3, rdB_4, rdB_i, rdC_0, rdC_i, rnd_K, cmpI, addI, subI, mulI, i2lI, l2iI, minI, maxI, idI, up, ok_some, ok_ite, w32_id, ix_id, Int.toNat_add, Int.toNat_mul, ltI_t, ltI_f, leI_t, leI_f, eqI_t, eqI_f, u2_s, u2_v, u2_i, w3_m2, w3_m1, w3_0, w3_1, w3_2, w3_3, w3_4, w3_5, w3_6, w3_7, w3_8, w3_9, w3_10, w3_12, w3_20, w3_23, w3_24, w3_25, w3_32, w3_40, w3_50, w3_100, w3_120, w3_168, w3_200, w3_240, w3_255, w3_500, w3_592, w3_600, w3_900, w3_940, w3_999, w3_1000, w3_1009, w3_1184, w3_3333, w3_9999, if_true, if_false, reduceIte, true_and, and_true, false_and, and_false, true_or, or_true, false_or, or_false, not_true_eq_false, not_false_eq_true, decide_true, decide_false, decide_eq_true_eq, Bool.not_true, Bool.not_false, Bool.false_eq_true, Bool.not_eq_true', Bool.not_eq_eq_eq_not, decide_eq_false_iff_not, Int.not_lt, Int.not_le, Nat.not_le, Nat.not_lt, Nat.le_refl, Int.le_refl, Nat.lt_irrefl, Int.lt_irrefl, reduceCtorEq, Nat.reduceEqDiff, Nat.reduceAdd, Nat.reduceMul, Nat.reduceBEq, Int.reduceNeg, Int.reduceAdd, Int.toNat_natCast, Int.reduceToNat, ne_eq, Nat.zero_ne_one, true_or, Int.ofNat_lt, Int.ofNat_le, Int.natCast_add, Int.cast_ofNat_Int, Int.natCast_zero, D_isReach_eq, z1, x1, r1, k1]
      · simp only [m_M_dam, b_M_dam]
        simp (disch := first | decide | omega) only [cE_K, vE_K, gE_K, o1K_0, o1K_i, o1_K, o2L_0, o2L_i, o2K_0, o2K_i, o2_K, thK_0, thK_i, th_K, dvL_0, dvL_i, dvK_0, dvK_i, dv_K, rmL_0, rmL_i, rmK_0, rmK_i, rm_K, dlL_0, dlL_i, dlK_0, dlK_i, dl_K, ldQ_0, ldQ_i, ldL_0, ldL_i, ldK_0, ldK_i, ld_K, kK_0, kK_i, k_K, aL_0, aL_i, aK_0, aK_i, aE_0, aE_1, clK_0, clK_i, cl_K, cBL_0, cBL_i, cBK_0, cBK_i, cB_K, zBK_0, zBK_i, zB_K, nBK_0, nBK_i, nB_K, andK_0, andK_i, and_K, orK_0, orK_i, or_K, tkK_0, tkK_i, tk_K, sk_K, stK_0, stK_i, st_K, exK_0, exK_i, ex_K, in_K, pfL_0, pfL_i, pfK_0, pfK_i, pf_K, pzL_0, pzL_i, pzK_0, pzK_i, pz_K, poL_0, poL_i, poK_0, poK_i, po_K, asQ_0, asQ_i, asM_0, asM_i, asL_0, asL_i, asK_0, asK_i, as_K, aoM_0, aoM_i, aoQ_0, aoQ_i, aoL_0, aoL_i, aoK_0, aoK_i, ao_K, sqK_0, sqK_1, sqK_2, sqK_3, sqK_4, sqK_i, sq_K, swK_0, swK_1, swK_2, swK_3, swK_4, swK_i, sw_K, ifK_0, ifK_i, if_K, br_K, ct_K, rv_K, thr_K, rtK_0, rtK_i, rt_K, mfK_0, mfK_i, mf_K, mzK_i, mzK_0, mz_K, cpK_0, cpT_0, cp_K, tsK_0, tsK_i, ts_K, tsP_hit, tsP_next, tsP_low, tsP_nil, ini_0, ini_1, rdU_0, rdU_i, rdB_0, rdB_1, rdB_2, rdB_3, rdB_4, rdB_i, rdC_0, rdC_i, rnd_K, cmpI, addI, subI, mulI, i2lI, l2iI, minI, maxI, idI, up, ok_some, ok_ite, w32_id, ix_id, Int.toNat_add, Int.toNat_mul, ltI_t, ltI_f, leI_t, leI_f, eqI_t, eqI_f, u2_s, u2_v, u2_i, w3_m2, w3_m1, w3_0, w3_1, w3_2, w3_3, w3_4, w3_5, w3_6, w3_7, w3_8, w3_9, w3_10, w3_12, w3_20, w3_23, w3_24, w3_25, w3_32, w3_40, w3_50, w3_100, w3_120, w3_168, w3_200, w3_240, w3_255, w3_500, w3_592, w3_600, w3_900, w3_940, w3_999, w3_1000, w3_1009, w3_1184, w3_3333, w3_9999, if_true, if_false, reduceIte, true_and, and_true, false_and, and_false, true_or, or_true, false_or, or_false, not_true_eq_false, not_false_eq_true, decide_true, decide_false, decide_eq_true_eq, Bool.not_true, Bool.not_false, Bool.false_eq_true, Bool.not_eq_true', Bool.not_eq_eq_eq_not, decide_eq_false_iff_not, Int.not_lt, Int.not_le, Nat.not_le, Nat.not_lt, Nat.le_refl, Int.le_refl, Nat.lt_irrefl, Int.lt_irrefl, reduceCtorEq, Nat.reduceEqDiff, Nat.reduceAdd, Nat.reduceMul, Nat.reduceBEq, Int.reduceNeg, Int.reduceAdd, Int.toNat_natCast, Int.reduceToNat, ne_eq, Nat.zero_ne_one, true_or, Int.ofNat_lt, Int.ofNat_le, Int.natCast_add, Int.cast_ofNat_Int, Int.natCast_zero, p1, M_isReach_eq, M_isIn_eq, p2, z1, m1]
      · have nk : u2 κ 128 (10 + 2 * r) (N (10 + 2 * r)) 128 = N := by
          funext i
          by_cases ei : i = 10 + 2 * r
          · subst ei; simp [u2]
          · simp [u2, ei, m3, e i ei]
        have fk : ∀ w, w ≠ 128 → u2 κ 128 (10 + 2 * r) (N (10 + 2 * r)) w = κ w := fun w hw => by funext i; simp [u2, hw]
        refine Rl_mu (Rl_we p7 (fr_trans (fr_sub r2 (by decide)) (fr_trans (V := weV) ?_ (fr_sub k2 (by decide))))) (fun w hw => ?_) (by rw [fk _ (by decide), m4]; exact Or.inr rfl) (by rw [nwM_1 (by rw [fk _ (by decide), m4]), nk, p6])
        · intro w hw
          simp only [weV, List.mem_cons, List.not_mem_nil, or_false, not_or] at hw
          funext i
          simp [u2, hw]
        · have w1 : w ≠ 128 := fun q => by subst q; revert hw; decide
          rw [fk w w1, agM_fr m2 (by decide) w hw, ft w w1]
    · have c4 : ¬ (1 ≤ w32 v ∧ w32 v ≤ 9999) := by rw [w32_id hv.1 hv.2]; exact c2
      refine opR_mk (a := -1) (σ' := σ) (μ' := ν) ?_ ?_ p7
      · simp only [m_D_dam, b_D_dam]
        by_cases c5 : v < 1
        · simp (disch := first | decide | omega) only [cE_K, vE_K, gE_K, o1K_0, o1K_i, o1_K, o2L_0, o2L_i, o2K_0, o2K_i, o2_K, thK_0, thK_i, th_K, dvL_0, dvL_i, dvK_0, dvK_i, dv_K, rmL_0, rmL_i, rmK_0, rmK_i, rm_K, dlL_0, dlL_i, dlK_0, dlK_i, dl_K, ldQ_0, ldQ_i, ldL_0, ldL_i, ldK_0, ldK_i, ld_K, kK_0, kK_i, k_K, aL_0, aL_i, aK_0, aK_i, aE_0, aE_1, clK_0, clK_i, cl_K, cBL_0, cBL_i, cBK_0, cBK_i, cB_K, zBK_0, zBK_i, zB_K, nBK_0, nBK_i, nB_K, andK_0, andK_i, and_K, orK_0, orK_i, or_K, tkK_0, tkK_i, tk_K, sk_K, stK_0, stK_i, st_K, exK_0, exK_i, ex_K, in_K, pfL_0, pfL_i, pfK_0, pfK_i, pf_K, pzL_0, pzL_i, pzK_0, pzK_i, pz_K, poL_0, poL_i, poK_0, poK_i, po_K, asQ_0, asQ_i, asM_0, asM_i, asL_0, asL_i, asK_0, asK_i, as_K, aoM_0, aoM_i, aoQ_0, aoQ_i, aoL_0, aoL_i, aoK_0, aoK_i, ao_K, sqK_0, sqK_1, sqK_2, sqK_3, sqK_4, sqK_i, sq_K, swK_0, swK_1, swK_2, swK_3, swK_4, swK_i, sw_K, ifK_0, ifK_i, if_K, br_K, ct_K, rv_K, thr_K, rtK_0, rtK_i, rt_K, mfK_0, mfK_i, mf_K, mzK_i, mzK_0, mz_K, cpK_0, cpT_0, cp_K, tsK_0, tsK_i, ts_K, tsP_hit, tsP_next, tsP_low, tsP_nil, ini_0, ini_1, rdU_0, rdU_i, rdB_0, rdB_1, rdB_2, rdB_3, rdB_4, rdB_i, rdC_0, rdC_i, rnd_K, cmpI, addI, subI, mulI, i2lI, l2iI, minI, maxI, idI, up, ok_some, ok_ite, w32_id, ix_id, Int.toNat_add, Int.toNat_mul, ltI_t, ltI_f, leI_t, leI_f, eqI_t, eqI_f, u2_s, u2_v, u2_i, w3_m2, w3_m1, w3_0, w3_1, w3_2, w3_3, w3_4, w3_5, w3_6, w3_7, w3_8, w3_9, w3_10, w3_12, w3_20, w3_23, w3_24, w3_25, w3_32, w3_40, w3_50, w3_100, w3_120, w3_168, w3_200, w3_240, w3_255, w3_500, w3_592, w3_600, w3_900, w3_940, w3_999, w3_1000, w3_1009, w3_1184, w3_3333, w3_9999, if_true, if_false, reduceIte, true_and, and_true, false_and, and_false, true_or, or_true, false_or, or_false, not_true_eq_false, not_false_eq_true, decide_true, decide_false, decide_eq_true_eq, Bool.not_true, Bool.not_false, Bool.false_eq_true, Bool.not_eq_true', Bool.not_eq_eq_eq_not, decide_eq_false_iff_not, Int.not_lt, Int.not_le, Nat.not_le, Nat.not_lt, Nat.le_refl, Int.le_refl, Nat.lt_irrefl, Int.lt_irrefl, reduceCtorEq, Nat.reduceEqDiff, Nat.reduceAdd, Nat.reduceMul, Nat.reduceBEq, Int.reduceNeg, Int.reduceAdd, Int.toNat_natCast, Int.reduceToNat, ne_eq, Nat.zero_ne_one, true_or, Int.ofNat_lt, Int.ofNat_le, Int.natCast_add, Int.cast_ofNat_Int, Int.natCast_zero, D_isReach_eq, z1, x1]
        · simp (disch := first | decide | omega) only [cE_K, vE_K, gE_K, o1K_0, o1K_i, o1_K, o2L_0, o2L_i, o2K_0, o2K_i, o2_K, thK_0, thK_i, th_K, dvL_0, dvL_i, dvK_0, dvK_i, dv_K, rmL_0, rmL_i, rmK_0, rmK_i, rm_K, dlL_0, dlL_i, dlK_0, dlK_i, dl_K, ldQ_0, ldQ_i, ldL_0, ldL_i, ldK_0, ldK_i, ld_K, kK_0, kK_i, k_K, aL_0, aL_i, aK_0, aK_i, aE_0, aE_1, clK_0, clK_i, cl_K, cBL_0, cBL_i, cBK_0, cBK_i, cB_K, zBK_0, zBK_i, zB_K, nBK_0, nBK_i, nB_K, andK_0, andK_i, and_K, orK_0, orK_i, or_K, tkK_0, tkK_i, tk_K, sk_K, stK_0, stK_i, st_K, exK_0, exK_i, ex_K, in_K, pfL_0, pfL_i, pfK_0, pfK_i, pf_K, pzL_0, pzL_i, pzK_0, pzK_i, pz_K, poL_0, poL_i, poK_0, poK_i, po_K, asQ_0, asQ_i, asM_0, asM_i, asL_0, asL_i, asK_0, asK_i, as_K, aoM_0, aoM_i, aoQ_0, aoQ_i, aoL_0, aoL_i, aoK_0, aoK_i, ao_K, sqK_0, sqK_1, sqK_2, sqK_3, sqK_4, sqK_i, sq_K, swK_0, swK_1, swK_2, swK_3, swK_4, swK_i, sw_K, ifK_0, ifK_i, if_K, br_K, ct_K, rv_K, thr_K, rtK_0, rtK_i, rt_K, mfK_0, mfK_i, mf_K, mzK_i, mzK_0, mz_K, cpK_0, cpT_0, cp_K, tsK_0, tsK_i, ts_K, tsP_hit, tsP_next, tsP_low, tsP_nil, ini_0, ini_1, rdU_0, rdU_i, rdB_0, rdB_1, rdB_2, rdB_3, rdB_4, rdB_i, rdC_0, rdC_i, rnd_K, cmpI, addI, subI, mulI, i2lI, l2iI, minI, maxI, idI, up, ok_some, ok_ite, w32_id, ix_id, Int.toNat_add, Int.toNat_mul, ltI_t, ltI_f, leI_t, leI_f, eqI_t, eqI_f, u2_s, u2_v, u2_i, w3_m2, w3_m1, w3_0, w3_1, w3_2, w3_3, w3_4, w3_5, w3_6, w3_7, w3_8, w3_9, w3_10, w3_12, w3_20, w3_23, w3_24, w3_25, w3_32, w3_40, w3_50, w3_100, w3_120, w3_168, w3_200, w3_240, w3_255, w3_500, w3_592, w3_600, w3_900, w3_940, w3_999, w3_1000, w3_1009, w3_1184, w3_3333, w3_9999, if_true, if_false, reduceIte, true_and, and_true, false_and, and_false, true_or, or_true, false_or, or_false, not_true_eq_false, not_false_eq_true, decide_true, decide_false, decide_eq_true_eq, Bool.not_true, Bool.not_false, Bool.false_eq_true, Bool.not_eq_true', Bool.not_eq_eq_eq_not, decide_eq_false_iff_not, Int.not_lt, Int.not_le, Nat.not_le, Nat.not_lt, Nat.le_refl, Int.le_refl, Nat.lt_irrefl, Int.lt_irrefl, reduceCtorEq, Nat.reduceEqDiff, Nat.reduceAdd, Nat.reduceMul, Nat.reduceBEq, Int.reduceNeg, Int.reduceAdd, Int.toNat_natCast, Int.reduceToNat, ne_eq, Nat.zero_ne_one, true_or, Int.ofNat_lt, Int.ofNat_le, Int.natCast_add, Int.cast_ofNat_Int, Int.natCast_zero, D_isReach_eq, z1, x1]
      · simp only [m_M_dam, b_M_dam]
        simp (disch := first | decide | omega) only [cE_K, vE_K, gE_K, o1K_0, o1K_i, o1_K, o2L_0, o2L_i, o2K_0, o2K_i, o2_K, thK_0, thK_i, th_K, dvL_0, dvL_i, dvK_0, dvK_i, dv_K, rmL_0, rmL_i, rmK_0, rmK_i, rm_K, dlL_0, dlL_i, dlK_0, dlK_i, dl_K, ldQ_0, ldQ_i, ldL_0, ldL_i, ldK_0, ldK_i, ld_K, kK_0, kK_i, k_K, aL_0, aL_i, aK_0, aK_i, aE_0, aE_1, clK_0, clK_i, cl_K, cBL_0, cBL_i, cBK_0, cBK_i, cB_K, zBK_0, zBK_i, zB_K, nBK_0, nBK_i, nB_K, andK_0, andK_i, and_K, orK_0, orK_i, or_K, tkK_0, tkK_i, tk_K, sk_K, stK_0, stK_i, st_K, exK_0, exK_i, ex_K, in_K, pfL_0, pfL_i, pfK_0, pfK_i, pf_K, pzL_0, pzL_i, pzK_0, pzK_i, pz_K, poL_0, poL_i, poK_0, poK_i, po_K, asQ_0, asQ_i, asM_0, asM_i, asL_0, asL_i, asK_0, asK_i, as_K, aoM_0, aoM_i, aoQ_0, aoQ_i, aoL_0, aoL_i, aoK_0, aoK_i, ao_K, sqK_0, sqK_1, sqK_2, sqK_3, sqK_4, sqK_i, sq_K, swK_0, swK_1, swK_2, swK_3, swK_4, swK_i, sw_K, ifK_0, ifK_i, if_K, br_K, ct_K, rv_K, thr_K, rtK_0, rtK_i, rt_K, mfK_0, mfK_i, mf_K, mzK_i, mzK_0, mz_K, cpK_0, cpT_0, cp_K, tsK_0, tsK_i, ts_K, tsP_hit, tsP_next, tsP_low, tsP_nil, ini_0, ini_1, rdU_0, rdU_i, rdB_0, rdB_1, rdB_2, rdB_3, rdB_4, rdB_i, rdC_0, rdC_i, rnd_K, cmpI, addI, subI, mulI, i2lI, l2iI, minI, maxI, idI, up, ok_some, ok_ite, w32_id, ix_id, Int.toNat_add, Int.toNat_mul, ltI_t, ltI_f, leI_t, leI_f, eqI_t, eqI_f, u2_s, u2_v, u2_i, w3_m2, w3_m1, w3_0, w3_1, w3_2, w3_3, w3_4, w3_5, w3_6, w3_7, w3_8, w3_9, w3_10, w3_12, w3_20, w3_23, w3_24, w3_25, w3_32, w3_40, w3_50, w3_100, w3_120, w3_168, w3_200, w3_240, w3_255, w3_500, w3_592, w3_600, w3_900, w3_940, w3_999, w3_1000, w3_1009, w3_1184, w3_3333, w3_9999, if_true, if_false, reduceIte, true_and, and_true, false_and, and_false, true_or, or_true, false_or, or_false, not_true_eq_false, not_false_eq_true, decide_true, decide_false, decide_eq_true_eq, Bool.not_true, Bool.not_false, Bool.false_eq_true, Bool.not_eq_true', Bool.not_eq_eq_eq_not, decide_eq_false_iff_not, Int.not_lt, Int.not_le, Nat.not_le, Nat.not_lt, Nat.le_refl, Int.le_refl, Nat.lt_irrefl, Int.lt_irrefl, reduceCtorEq, Nat.reduceEqDiff, Nat.reduceAdd, Nat.reduceMul, Nat.reduceBEq, Int.reduceNeg, Int.reduceAdd, Int.toNat_natCast, Int.reduceToNat, ne_eq, Nat.zero_ne_one, true_or, Int.ofNat_lt, Int.ofNat_le, Int.natCast_add, Int.cast_ofNat_Int, Int.natCast_zero, p1, M_isReach_eq, M_isIn_eq, p2, z1, c4]
  · have c4 : ¬ (0 ≤ w32 x ∧ w32 x < w32 (N 0)) := by rw [w32_id hx.1 hx.2, w32_id (by omega) (by omega)]; exact c1
    refine opR_mk (a := -1) (σ' := σ) (μ' := ν) ?_ ?_ p7
    · simp only [m_D_dam, b_D_dam]
      simp (disch := first | decide | omega) only [cE_K, vE_K, gE_K, o1K_0, o1K_i, o1_K, o2L_0, o2L_i, o2K_0, o2K_i, o2_K, thK_0, thK_i, th_K, dvL_0, dvL_i, dvK_0, dvK_i, dv_K, rmL_0, rmL_i, rmK_0, rmK_i, rm_K, dlL_0, dlL_i, dlK_0, dlK_i, dl_K, ldQ_0, ldQ_i, ldL_0, ldL_i, ldK_0, ldK_i, ld_K, kK_0, kK_i, k_K, aL_0, aL_i, aK_0, aK_i, aE_0, aE_1, clK_0, clK_i, cl_K, cBL_0, cBL_i, cBK_0, cBK_i, cB_K, zBK_0, zBK_i, zB_K, nBK_0, nBK_i, nB_K, andK_0, andK_i, and_K, orK_0, orK_i, or_K, tkK_0, tkK_i, tk_K, sk_K, stK_0, stK_i, st_K, exK_0, exK_i, ex_K, in_K, pfL_0, pfL_i, pfK_0, pfK_i, pf_K, pzL_0, pzL_i, pzK_0, pzK_i, pz_K, poL_0, poL_i, poK_0, poK_i, po_K, asQ_0, asQ_i, asM_0, asM_i, asL_0, asL_i, asK_0, asK_i, as_K, aoM_0, aoM_i, aoQ_0, aoQ_i, aoL_0, aoL_i, aoK_0, aoK_i, ao_K, sqK_0, sqK_1, sqK_2, sqK_3, sqK_4, sqK_i, sq_K, swK_0, swK_1, swK_2, swK_3, swK_4, swK_i, sw_K, ifK_0, ifK_i, if_K, br_K, ct_K, rv_K, thr_K, rtK_0, rtK_i, rt_K, mfK_0, mfK_i, mf_K, mzK_i, mzK_0, mz_K, cpK_0, cpT_0, cp_K, tsK_0, tsK_i, ts_K, tsP_hit, tsP_next, tsP_low, tsP_nil, ini_0, ini_1, rdU_0, rdU_i, rdB_0, rdB_1, rdB_2, rdB_3, rdB_4, rdB_i, rdC_0, rdC_i, rnd_K, cmpI, addI, subI, mulI, i2lI, l2iI, minI, maxI, idI, up, ok_some, ok_ite, w32_id, ix_id, Int.toNat_add, Int.toNat_mul, ltI_t, ltI_f, leI_t, leI_f, eqI_t, eqI_f, u2_s, u2_v, u2_i, w3_m2, w3_m1, w3_0, w3_1, w3_2, w3_3, w3_4, w3_5, w3_6, w3_7, w3_8, w3_9, w3_10, w3_12, w3_20, w3_23, w3_24, w3_25, w3_32, w3_40, w3_50, w3_100, w3_120, w3_168, w3_200, w3_240, w3_255, w3_500, w3_592, w3_600, w3_900, w3_940, w3_999, w3_1000, w3_1009, w3_1184, w3_3333, w3_9999, if_true, if_false, reduceIte, true_and, and_true, false_and, and_false, true_or, or_true, false_or, or_false, not_true_eq_false, not_false_eq_true, decide_true, decide_false, decide_eq_true_eq, Bool.not_true, Bool.not_false, Bool.false_eq_true, Bool.not_eq_true', Bool.not_eq_eq_eq_not, decide_eq_false_iff_not, Int.not_lt, Int.not_le, Nat.not_le, Nat.not_lt, Nat.le_refl, Int.le_refl, Nat.lt_irrefl, Int.lt_irrefl, reduceCtorEq, Nat.reduceEqDiff, Nat.reduceAdd, Nat.reduceMul, Nat.reduceBEq, Int.reduceNeg, Int.reduceAdd, Int.toNat_natCast, Int.reduceToNat, ne_eq, Nat.zero_ne_one, true_or, Int.ofNat_lt, Int.ofNat_le, Int.natCast_add, Int.cast_ofNat_Int, Int.natCast_zero, D_isReach_eq, z1, x1, c4]
    · simp only [m_M_dam, b_M_dam]
      simp (disch := first | decide | omega) only [cE_K, vE_K, gE_K, o1K_0, o1K_i, o1_K, o2L_0, o2L_i, o2K_0, o2K_i, o2_K, thK_0, thK_i, th_K, dvL_0, dvL_i, dvK_0, dvK_i, dv_K, rmL_0, rmL_i, rmK_0, rmK_i, rm_K, dlL_0, dlL_i, dlK_0, dlK_i, dl_K, ldQ_0, ldQ_i, ldL_0, ldL_i, ldK_0, ldK_i, ld_K, kK_0, kK_i, k_K, aL_0, aL_i, aK_0, aK_i, aE_0, aE_1, clK_0, clK_i, cl_K, cBL_0, cBL_i, cBK_0, cBK_i, cB_K, zBK_0, zBK_i, zB_K, nBK_0, nBK_i, nB_K, andK_0, andK_i, and_K, orK_0, orK_i, or_K, tkK_0, tkK_i, tk_K, sk_K, stK_0, stK_i, st_K, exK_0, exK_i, ex_K, in_K, pfL_0, pfL_i, pfK_0, pfK_i, pf_K, pzL_0, pzL_i, pzK_0, pzK_i, pz_K, poL_0, poL_i, poK_0, poK_i, po_K, asQ_0, asQ_i, asM_0, asM_i, asL_0, asL_i, asK_0, asK_i, as_K, aoM_0, aoM_i, aoQ_0, aoQ_i, aoL_0, aoL_i, aoK_0, aoK_i, ao_K, sqK_0, sqK_1, sqK_2, sqK_3, sqK_4, sqK_i, sq_K, swK_0, swK_1, swK_2, swK_3, swK_4, swK_i, sw_K, ifK_0, ifK_i, if_K, br_K, ct_K, rv_K, thr_K, rtK_0, rtK_i, rt_K, mfK_0, mfK_i, mf_K, mzK_i, mzK_0, mz_K, cpK_0, cpT_0, cp_K, tsK_0, tsK_i, ts_K, tsP_hit, tsP_next, tsP_low, tsP_nil, ini_0, ini_1, rdU_0, rdU_i, rdB_0, rdB_1, rdB_2, rdB_3, rdB_4, rdB_i, rdC_0, rdC_i, rnd_K, cmpI, addI, subI, mulI, i2lI, l2iI, minI, maxI, idI, up, ok_some, ok_ite, w32_id, ix_id, Int.toNat_add, Int.toNat_mul, ltI_t, ltI_f, leI_t, leI_f, eqI_t, eqI_f, u2_s, u2_v, u2_i, w3_m2, w3_m1, w3_0, w3_1, w3_2, w3_3, w3_4, w3_5, w3_6, w3_7, w3_8, w3_9, w3_10, w3_12, w3_20, w3_23, w3_24, w3_25, w3_32, w3_40, w3_50, w3_100, w3_120, w3_168, w3_200, w3_240, w3_255, w3_500, w3_592, w3_600, w3_900, w3_940, w3_999, w3_1000, w3_1009, w3_1184, w3_3333, w3_9999, if_true, if_false, reduceIte, true_and, and_true, false_and, and_false, true_or, or_true, false_or, or_false, not_true_eq_false, not_false_eq_true, decide_true, decide_false, decide_eq_true_eq, Bool.not_true, Bool.not_false, Bool.false_eq_true, Bool.not_eq_true', Bool.not_eq_eq_eq_not, decide_eq_false_iff_not, Int.not_lt, Int.not_le, Nat.not_le, Nat.not_lt, Nat.le_refl, Int.le_refl, Nat.lt_irrefl, Int.lt_irrefl, reduceCtorEq, Nat.reduceEqDiff, Nat.reduceAdd, Nat.reduceMul, Nat.reduceBEq, Int.reduceNeg, Int.reduceAdd, Int.toNat_natCast, Int.reduceToNat, ne_eq, Nat.zero_ne_one, true_or, Int.ofNat_lt, Int.ofNat_le, Int.natCast_add, Int.cast_ofNat_Int, Int.natCast_zero, p1, M_isReach_eq, M_isIn_eq, p2, z1, c4]
