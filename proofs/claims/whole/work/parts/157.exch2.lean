theorem fr_swX2 {t s : Me} {a b : Nat} (hab : a ≠ b) (h : fr weV (swX t a b) s) : fr weV t (swX s a b) := by
  have g : s 1536 = swX t a b 1536 := h _ (by decide)
  intro v hv
  funext i
  by_cases q : v = 1536
  · subst q
    simp only [swX, g, true_and]
    by_cases e1 : i = b
    · subst e1; simp [hab]
    · by_cases e2 : i = a
      · subst e2; simp [e1]
      · simp [e1, e2]
  · simp only [swX, q, false_and, if_false]
    rw [h v hv]
    simp [swX, q]
set_option maxHeartbeats 4000000 in
theorem xFirst_c {σ μ : Me} {N : Nat → Int} {hm : Int} {K : Nat} (h : Rl σ μ) (hn : nwM μ = N) (hhm : hm = hsN N (floN N) (ppW N (wsN N (-1)))) (hK : N 160 = K) :
    ∃ v θ τ, m_D_exchangeFirst [0, hm] σ = some (v, θ) ∧ Rl τ μ ∧ fr wkV σ τ ∧ ((xno N hm K ∧ v = hm ∧ fr weV τ θ) ∨ (∃ a b, xfs N hm K a b ∧ v = xhs N a b ∧ ∃ s, fr weV (swX τ a b) s ∧ θ = u2 s 10 0 1)) := by
  obtain ⟨τ, t1, t2, t3, t4, t5⟩ := rl_past h
  rw [hn] at t3
  have st := t5.1.2.1
  rw [hn] at st
  have hN := st.1.1
  have hB := st.1.2.1
  have c0 := hN.1
  have b0 := hB.1
  have hm8 : 0 ≤ hm ∧ hm ≤ 1008 := by
    have := hpN_bd (N := N) (fl := floN N) (PP := ppW N (wsN N (-1))) (n := 168) hN
    rw [hp_hs] at this
    omega
  have bell : ∀ a, a < K → τ 1472 a = N (161 + 3 * a) ∧ τ 1536 a = N (162 + 3 * a) ∧ 0 ≤ N (161 + 3 * a) ∧ N (161 + 3 * a) < 168 ∧ 0 ≤ N (162 + 3 * a) ∧ N (162 + 3 * a) < 6 := fun a ha => by
    have q1 := st.2.1.2.1.2.2.2 a (by omega)
    have q2 := hB.2 a (by omega)
    omega
  have step : ∀ (s : Me) (a b : Nat), a < b → b < K → fr weV τ s → ∃ s1 r s2, m_Week_prepare [0, 0, 0] (swX s a b) = some (0, s1) ∧ m_Week_harmFrom [0, 0, 0, minI (N (161 + 3 * a)) (N (161 + 3 * b)), hm] s1 = some (r, s2) ∧ fr weV (swX τ a b) s2 ∧ fr weV (swX s a b) s1 ∧ 0 ≤ r ∧ r ≤ 1008 ∧ (r < hm ↔ xhs N a b < hm) ∧ (xhs N a b < hm → r = xhs N a b) := by
    intro s a b hab hb hfr
    have qa := bell a (by omega)
    have qb := bell b hb
    have ff : fr weV (swX τ a b) (swX s a b) := by
      intro v hv
      funext i
      simp only [swX]
      rw [hfr 1536 (by decide), hfr v hv]
    have uf : ∀ v, v ≠ 1536 → swX τ a b v = τ v := fun v hv => by funext i; simp [swX, hv]
    have rd : rdX (swX s a b) N := by
      refine rdX_ag hN st.2.1.1 (fun _ _ => rfl) (fun v v1 v2 => ?_)
      rw [ff v (by simp [weV]; omega), uf v (by omega)]
    have bd : bdX (swX s a b) (swp N a b) := by
      have := swX_bd hN st.2.1.2.1 (a := a) (b := b) (by omega) (by omega)
      exact bdX_lo this (fun v hv => ff v (by simp [weV]; omega))
    have ps : psX (swX s a b) N 168 := by
      refine psX_ag (σ := swX τ a b) ?_ ff
      unfold psX
      rw [uf 9152 (by decide), uf 9216 (by decide), uf 9280 (by decide), uf 9344 (by decide), uf 9408 (by decide), uf 9472 (by decide)]
      exact t3
    obtain ⟨A, hA, hA2⟩ : ∃ A : Nat, minI (N (161 + 3 * a)) (N (161 + 3 * b)) = A ∧ ((A : Int) ≤ N (161 + 3 * a) ∧ (A : Int) ≤ N (161 + 3 * b) ∧ A < 168) := by
      refine ⟨(minI (N (161 + 3 * a)) (N (161 + 3 * b))).toNat, ?_, ?_⟩
      · unfold minI
        rw [w32_id (by omega) (by omega), w32_id (by omega) (by omega)]
        split <;> omega
      · unfold minI
        rw [w32_id (by omega) (by omega), w32_id (by omega) (by omega)]
        split <;> omega
    obtain ⟨s1, r, s2, q1, q2, q3, q4, q5, q6, q7, q8⟩ := tryM (en := hm) hN (swp_bl hB (by omega) (by omega)) (fun i hi => swp_o (by omega) (by omega)) rd bd ps (show A ≤ 168 by omega) (fun h hh => swp_ws (by omega) (by omega)) (by omega) (by omega)
    rw [hA]
    refine ⟨s1, r, s2, q1, q2, fr_trans ff q3, q4, q5, q6, ⟨fun hr => ?_, fun hr => ?_⟩, q7⟩
    · rcases Int.lt_or_le (xhs N a b) hm with q | q
      · exact q
      · have := q8 q; omega
    · have := q7 hr
      unfold xhs at hr
      omega
  obtain ⟨QQ, hQQ⟩ : ∃ Q : Int × Me → Prop, ∀ q, Q q ↔ ((xno N hm K ∧ q.1 = hm ∧ fr weV τ q.2) ∨ (∃ a b, xfs N hm K a b ∧ q.1 = xhs N a b ∧ ∃ s, fr weV (swX τ a b) s ∧ q.2 = u2 s 10 0 1)) := ⟨_, fun _ => Iff.rfl⟩
  have main : ok (m_D_exchangeFirst [0, hm] σ) QQ := by
    simp only [m_D_exchangeFirst, b_D_exchangeFirst]
    simp (disch := first | decide | omega) only [cE_K, vE_K, gE_K, o1K_0, o1K_i, o1_K, o2L_0, o2L_i, o2K_0, o2K_i, o2_K, thK_0, thK_i, th_K, dvL_0, dvL_i, dvK_0, dvK_i, dv_K, rmL_0, rmL_i, rmK_0, rmK_i, rm_K, dlL_0, dlL_i, dlK_0, dlK_i, dl_K, ldQ_0, ldQ_i, ldL_0, ldL_i, ldK_0, ldK_i, ld_K, kK_0, kK_i, k_K, aL_0, aL_i, aK_0, aK_i, aE_0, aE_1, clK_0, clK_i, cl_K, cBL_0, cBL_i, cBK_0, cBK_i, cB_K, zBK_0, zBK_i, zB_K, nBK_0, nBK_i, nB_K, andK_0, andK_i, and_K, orK_0, orK_i, or_K, tkK_0, tkK_i, tk_K, sk_K, stK_0, stK_i, st_K, exK_0, exK_i, ex_K, in_K, pfL_0, pfL_i, pfK_0, pfK_i, pf_K, pzL_0, pzL_i, pzK_0, pzK_i, pz_K, poL_0, poL_i, poK_0, poK_i, po_K, asQ_0, asQ_i, asM_0, asM_i, asL_0, asL_i, asK_0, asK_i, as_K, aoM_0, aoM_i, aoQ_0, aoQ_i, aoL_0, aoL_i, aoK_0, aoK_i, ao_K, sqK_0, sqK_1, sqK_2, sqK_3, sqK_4, sqK_i, sq_K, swK_0, swK_1, swK_2, swK_3, swK_4, swK_i, sw_K, ifK_0, ifK_i, if_K, br_K, ct_K, rv_K, thr_K, rtK_0, rtK_i, rt_K, mfK_0, mfK_i, mf_K, mzK_i, mzK_0, mz_K, cpK_0, cpT_0, cp_K, tsK_0, tsK_i, ts_K, tsP_hit, tsP_next, tsP_low, tsP_nil, ini_0, ini_1, rdU_0, rdU_i, rdB_0, rdB_1, rdB_2, rdB_3, rdB_4, rdB_i, rdC_0, rdC_i, rnd_K, cmpI, addI, subI, mulI, i2lI, l2iI, minI, maxI, idI, up, ok_some, ok_ite, w32_id, ix_id, Int.toNat_add, Int.toNat_mul, ltI_t, ltI_f, leI_t, leI_f, eqI_t, eqI_f, u2_s, u2_v, u2_i, w3_m2, w3_m1, w3_0, w3_1, w3_2, w3_3, w3_4, w3_5, w3_6, w3_7, w3_8, w3_9, w3_10, w3_12, w3_20, w3_23, w3_24, w3_25, w3_32, w3_40, w3_50, w3_100, w3_120, w3_168, w3_200, w3_240, w3_255, w3_500, w3_592, w3_600, w3_900, w3_940, w3_999, w3_1000, w3_1009, w3_1184, w3_3333, w3_9999, if_true, if_false, reduceIte, true_and, and_true, false_and, and_false, true_or, or_true, false_or, or_false, not_true_eq_false, not_false_eq_true, decide_true, decide_false, decide_eq_true_eq, Bool.not_true, Bool.not_false, Bool.false_eq_true, Bool.not_eq_true', Bool.not_eq_eq_eq_not, decide_eq_false_iff_not, Int.not_lt, Int.not_le, Nat.not_le, Nat.not_lt, Nat.le_refl, Int.le_refl, Nat.lt_irrefl, Int.lt_irrefl, reduceCtorEq, Nat.reduceEqDiff, Nat.reduceAdd, Nat.reduceMul, Nat.reduceBEq, Int.reduceNeg, Int.reduceAdd, Int.toNat_natCast, Int.reduceToNat, ne_eq, Nat.zero_ne_one, true_or, Int.ofNat_lt, Int.ofNat_le, Int.natCast_add, Int.cast_ofNat_Int, Int.natCast_zero, t1]
    obtain ⟨I, hI⟩ : ∃ I : Nat → Lo → Me → Prop, ∀ a ρ s, I a ρ s ↔ (ρ 1 = hm ∧ ρ 4 = a ∧ fr weV τ s ∧ ∀ a' b', a' < b' → b' < K → a' < a → xbN N hm a' b' = false) := ⟨fun a ρ s => ρ 1 = hm ∧ ρ 4 = a ∧ fr weV τ s ∧ ∀ a' b', a' < b' → b' < K → a' < a → xbN N hm a' b' = false, fun _ _ _ => Iff.rfl⟩
    refine ok_mfK (ok_sqK (wh_gen I K (by omega) ((hI _ _ _).mpr ⟨by simp [up], by simp [up], fr_rfl, fun a' b' _ _ q => by omega⟩) ?_))
    intro a ρ s ha hIa
    obtain ⟨g1, g2, g3, g4⟩ := (hI _ _ _).mp hIa
    have bl : s 1408 0 = K := by rw [g3 _ (by decide), st.2.1.2.1.2.2.1, hK]
    rcases Nat.lt_or_eq_of_le ha with ha | rfl
    · simp (disch := first | decide | omega) only [cE_K, vE_K, gE_K, o1K_0, o1K_i, o1_K, o2L_0, o2L_i, o2K_0, o2K_i, o2_K, thK_0, thK_i, th_K, dvL_0, dvL_i, dvK_0, dvK_i, dv_K, rmL_0, rmL_i, rmK_0, rmK_i, rm_K, dlL_0, dlL_i, dlK_0, dlK_i, dl_K, ldQ_0, ldQ_i, ldL_0, ldL_i, ldK_0, ldK_i, ld_K, kK_0, kK_i, k_K, aL_0, aL_i, aK_0, aK_i, aE_0, aE_1, clK_0, clK_i, cl_K, cBL_0, cBL_i, cBK_0, cBK_i, cB_K, zBK_0, zBK_i, zB_K, nBK_0, nBK_i, nB_K, andK_0, andK_i, and_K, orK_0, orK_i, or_K, tkK_0, tkK_i, tk_K, sk_K, stK_0, stK_i, st_K, exK_0, exK_i, ex_K, in_K, pfL_0, pfL_i, pfK_0, pfK_i, pf_K, pzL_0, pzL_i, pzK_0, pzK_i, pz_K, poL_0, poL_i, poK_0, poK_i, po_K, asQ_0, asQ_i, asM_0, asM_i, asL_0, asL_i, asK_0, asK_i, as_K, aoM_0, aoM_i, aoQ_0, aoQ_i, aoL_0, aoL_i, aoK_0, aoK_i, ao_K, sqK_0, sqK_1, sqK_2, sqK_3, sqK_4, sqK_i, sq_K, swK_0, swK_1, swK_2, swK_3, swK_4, swK_i, sw_K, ifK_0, ifK_i, if_K, br_K, ct_K, rv_K, thr_K, rtK_0, rtK_i, rt_K, mfK_0, mfK_i, mf_K, mzK_i, mzK_0, mz_K, cpK_0, cpT_0, cp_K, tsK_0, tsK_i, ts_K, tsP_hit, tsP_next, tsP_low, tsP_nil, ini_0, ini_1, rdU_0, rdU_i, rdB_0, rdB_1, rdB_2, rdB_3, rdB_4, rdB_i, rdC_0, rdC_i, rnd_K, cmpI, addI, subI, mulI, i2lI, l2iI, minI, maxI, idI, up, ok_some, ok_ite, w32_id, ix_id, Int.toNat_add, Int.toNat_mul, ltI_t, ltI_f, leI_t, leI_f, eqI_t, eqI_f, u2_s, u2_v, u2_i, w3_m2, w3_m1, w3_0, w3_1, w3_2, w3_3, w3_4, w3_5, w3_6, w3_7, w3_8, w3_9, w3_10, w3_12, w3_20, w3_23, w3_24, w3_25, w3_32, w3_40, w3_50, w3_100, w3_120, w3_168, w3_200, w3_240, w3_255, w3_500, w3_592, w3_600, w3_900, w3_940, w3_999, w3_1000, w3_1009, w3_1184, w3_3333, w3_9999, if_true, if_false, reduceIte, true_and, and_true, false_and, and_false, true_or, or_true, false_or, or_false, not_true_eq_false, not_false_eq_true, decide_true, decide_false, decide_eq_true_eq, Bool.not_true, Bool.not_false, Bool.false_eq_true, Bool.not_eq_true', Bool.not_eq_eq_eq_not, decide_eq_false_iff_not, Int.not_lt, Int.not_le, Nat.not_le, Nat.not_lt, Nat.le_refl, Int.le_refl, Nat.lt_irrefl, Int.lt_irrefl, reduceCtorEq, Nat.reduceEqDiff, Nat.reduceAdd, Nat.reduceMul, Nat.reduceBEq, Int.reduceNeg, Int.reduceAdd, Int.toNat_natCast, Int.reduceToNat, ne_eq, Nat.zero_ne_one, true_or, Int.ofNat_lt, Int.ofNat_le, Int.natCast_add, Int.cast_ofNat_Int, Int.natCast_zero, g1, g2, bl]
      obtain ⟨J, hJ⟩ : ∃ J : Nat → Lo → Me → Prop, ∀ m ρ s, J m ρ s ↔ (ρ 1 = hm ∧ ρ 4 = a ∧ ρ 5 = a + 1 + m ∧ fr weV τ s ∧ ∀ b', a < b' → b' < a + 1 + m → xbN N hm a b' = false) := ⟨fun m ρ s => ρ 1 = hm ∧ ρ 4 = a ∧ ρ 5 = a + 1 + m ∧ fr weV τ s ∧ ∀ b', a < b' → b' < a + 1 + m → xbN N hm a b' = false, fun _ _ _ => Iff.rfl⟩
      refine ok_rdB (wh_gen J (K - 1 - a) (by omega) ((hJ _ _ _).mpr ⟨by simp [up, g1], by simp [up, g2], by simp [up], g3, fun b' _ _ => by omega⟩) ?_)
      clear g1 g2 g3 bl hIa
      intro m ρ s hm' hJm
      obtain ⟨g1, g2, g3, g5, g6⟩ := (hJ _ _ _).mp hJm
      have bl : s 1408 0 = K := by rw [g5 _ (by decide), st.2.1.2.1.2.2.1, hK]
      rcases Nat.lt_or_eq_of_le hm' with hm' | hm'
      · obtain ⟨b, hb⟩ : ∃ b : Nat, b = a + 1 + m := ⟨_, rfl⟩
        have hbK : b < K := by omega
        have hab : a < b := by omega
        have g3' : ρ 5 = b := by rw [g3]; omega
        have qa := bell a ha
        have qb := bell b hbK
        have ea : s 1536 a = N (162 + 3 * a) := by rw [g5 _ (by decide)]; exact qa.2.1
        have eb : s 1536 b = N (162 + 3 * b) := by rw [g5 _ (by decide)]; exact qb.2.1
        by_cases d1 : N (162 + 3 * a) = N (162 + 3 * b)
        · have xf : xbN N hm a b = false := by simp [xbN, d1]
          simp (disch := first | decide | omega) only [cE_K, vE_K, gE_K, o1K_0, o1K_i, o1_K, o2L_0, o2L_i, o2K_0, o2K_i, o2_K, thK_0, thK_i, th_K, dvL_0, dvL_i, dvK_0, dvK_i, dv_K, rmL_0, rmL_i, rmK_0, rmK_i, rm_K, dlL_0, dlL_i, dlK_0, dlK_i, dl_K, ldQ_0, ldQ_i, ldL_0, ldL_i, ldK_0, ldK_i, ld_K, kK_0, kK_i, k_K, aL_0, aL_i, aK_0, aK_i, aE_0, aE_1, clK_0, clK_i, cl_K, cBL_0, cBL_i, cBK_0, cBK_i, cB_K, zBK_0, zBK_i, zB_K, nBK_0, nBK_i, nB_K, andK_0, andK_i, and_K, orK_0, orK_i, or_K, tkK_0, tkK_i, tk_K, sk_K, stK_0, stK_i, st_K, exK_0, exK_i, ex_K, in_K, pfL_0, pfL_i, pfK_0, pfK_i, pf_K, pzL_0, pzL_i, pzK_0, pzK_i, pz_K, poL_0, poL_i, poK_0, poK_i, po_K, asQ_0, asQ_i, asM_0, asM_i, asL_0, asL_i, asK_0, asK_i, as_K, aoM_0, aoM_i, aoQ_0, aoQ_i, aoL_0, aoL_i, aoK_0, aoK_i, ao_K, sqK_0, sqK_1, sqK_2, sqK_3, sqK_4, sqK_i, sq_K, swK_0, swK_1, swK_2, swK_3, swK_4, swK_i, sw_K, ifK_0, ifK_i, if_K, br_K, ct_K, rv_K, thr_K, rtK_0, rtK_i, rt_K, mfK_0, mfK_i, mf_K, mzK_i, mzK_0, mz_K, cpK_0, cpT_0, cp_K, tsK_0, tsK_i, ts_K, tsP_hit, tsP_next, tsP_low, tsP_nil, ini_0, ini_1, rdU_0, rdU_i, rdB_0, rdB_1, rdB_2, rdB_3, rdB_4, rdB_i, rdC_0, rdC_i, rnd_K, cmpI, addI, subI, mulI, i2lI, l2iI, minI, maxI, idI, up, ok_some, ok_ite, w32_id, ix_id, Int.toNat_add, Int.toNat_mul, ltI_t, ltI_f, leI_t, leI_f, eqI_t, eqI_f, u2_s, u2_v, u2_i, w3_m2, w3_m1, w3_0, w3_1, w3_2, w3_3, w3_4, w3_5, w3_6, w3_7, w3_8, w3_9, w3_10, w3_12, w3_20, w3_23, w3_24, w3_25, w3_32, w3_40, w3_50, w3_100, w3_120, w3_168, w3_200, w3_240, w3_255, w3_500, w3_592, w3_600, w3_900, w3_940, w3_999, w3_1000, w3_1009, w3_1184, w3_3333, w3_9999, if_true, if_false, reduceIte, true_and, and_true, false_and, and_false, true_or, or_true, false_or, or_false, not_true_eq_false, not_false_eq_true, decide_true, decide_false, decide_eq_true_eq, Bool.not_true, Bool.not_false, Bool.false_eq_true, Bool.not_eq_true', Bool.not_eq_eq_eq_not, decide_eq_false_iff_not, Int.not_lt, Int.not_le, Nat.not_le, Nat.not_lt, Nat.le_refl, Int.le_refl, Nat.lt_irrefl, Int.lt_irrefl, reduceCtorEq, Nat.reduceEqDiff, Nat.reduceAdd, Nat.reduceMul, Nat.reduceBEq, Int.reduceNeg, Int.reduceAdd, Int.toNat_natCast, Int.reduceToNat, ne_eq, Nat.zero_ne_one, true_or, Int.ofNat_lt, Int.ofNat_le, Int.natCast_add, Int.cast_ofNat_Int, Int.natCast_zero, g1, g2, g3', bl, ea, eb, d1]
          refine ⟨hm', (hJ _ _ _).mpr ⟨by simp [up, g1], by simp [up, g2], by simp [up]; omega, g5, fun b' h1 h2 => ?_⟩⟩
          by_cases q : b' = b
          · subst q; exact xf
          · exact g6 b' h1 (by omega)
        · obtain ⟨s1, r, s2, q1, q2, q3, q4, q5, q6, q7, q8⟩ := step s a b hab hbK g5
          have sw := swapGuilds_eq (s := s) (a := a) (b := b) (by omega) (by omega)
          have ha1 : s1 1472 a = N (161 + 3 * a) := by
            rw [q4 _ (by decide)]
            have : swX s a b 1472 = s 1472 := by funext i; simp [swX]
            rw [this, g5 _ (by decide)]
            exact qa.1
          have hb1 : s1 1472 b = N (161 + 3 * b) := by
            rw [q4 _ (by decide)]
            have : swX s a b 1472 = s 1472 := by funext i; simp [swX]
            rw [this, g5 _ (by decide)]
            exact qb.1
          generalize hmi : minI (N (161 + 3 * a)) (N (161 + 3 * b)) = mi at q2
          by_cases d2 : r < hm
          · have x1 := q7.mp d2
            have x2 := q8 x1
            have fin : QQ (r, u2 s2 10 0 1) := (hQQ _).mpr (Or.inr ⟨a, b, ⟨hab, hbK, by simp [xbN, d1, x1], fun a' b' h1 h2 h3 => by
              rcases h3 with h3 | ⟨rfl, h3⟩
              · exact g4 a' b' h1 h2 h3
              · exact g6 b' h1 (by omega)⟩, x2, s2, q3, rfl⟩)
            clear hJm q7 q8 hQQ hI hJ
            simp (disch := first | decide | omega) only [cE_K, vE_K, gE_K, o2_K, o2K_0, o2L_0, th_K, thK_0, cl_K, clK_0, aE_0, aE_1, aK_0, aL_0, zB_K, zBK_0, nB_K, nBK_0, cB_K, cBK_0, cBL_0, if_K, ifK_0, sq_K, sqK_0, sqK_1, sqK_2, sqK_3, sqK_4, st_K, stK_0, ex_K, exK_0, ld_K, ldK_0, ldL_0, ldQ_0, rt_K, rtK_0, mfK_0, pz_K, pzK_0, pzL_0, rnd_K, rdC_0, rdB_0, rdB_1, rdB_2, rdB_3, rdB_4, rdU_0, in_K, sk_K, cmpI, addI, up, ok_some, w32_id, ix_id, Int.toNat_add, Int.toNat_mul, ltI_t, ltI_f, leI_t, leI_f, eqI_t, eqI_f, u2_s, u2_v, u2_i, w3_m2, w3_m1, w3_0, w3_1, w3_2, w3_3, w3_4, w3_5, w3_6, w3_7, w3_8, w3_9, w3_10, w3_12, w3_20, w3_23, w3_24, w3_25, w3_32, w3_40, w3_50, w3_100, w3_120, w3_168, w3_200, w3_240, w3_255, w3_500, w3_592, w3_600, w3_900, w3_940, w3_999, w3_1000, w3_1009, w3_1184, w3_3333, w3_9999, if_true, if_false, reduceIte, true_and, and_true, false_and, and_false, true_or, or_true, false_or, or_false, not_true_eq_false, not_false_eq_true, decide_true, decide_false, decide_eq_true_eq, Bool.not_true, Bool.not_false, Bool.false_eq_true, Bool.not_eq_true', Bool.not_eq_eq_eq_not, decide_eq_false_iff_not, Int.not_lt, Int.not_le, Nat.not_le, Nat.not_lt, Nat.le_refl, Int.le_refl, Nat.lt_irrefl, Int.lt_irrefl, reduceCtorEq, Nat.reduceEqDiff, Nat.reduceAdd, Nat.reduceMul, Nat.reduceBEq, Int.reduceNeg, Int.reduceAdd, Int.toNat_natCast, Int.reduceToNat, ne_eq, Nat.zero_ne_one, true_or, Int.ofNat_lt, Int.ofNat_le, Int.natCast_add, Int.cast_ofNat_Int, Int.natCast_zero, g1, g2, g3', bl, ea, eb, sw, q1, ha1, hb1, hmi, q2, Int.one_ne_zero]
            exact fin
          · have xf : xbN N hm a b = false := by
              have : ¬ xhs N a b < hm := fun q => d2 (q7.mpr q)
              simp [xbN, this]
            have sw2 := swapGuilds_eq (s := s2) (a := a) (b := b) (by omega) (by omega)
            have F2 := fr_swX2 (show a ≠ b by omega) q3
            clear hJm q7 q8 hQQ
            simp (disch := first | decide | omega) only [cE_K, vE_K, gE_K, o2_K, o2K_0, o2L_0, th_K, thK_0, cl_K, clK_0, aE_0, aE_1, aK_0, aL_0, zB_K, zBK_0, nB_K, nBK_0, cB_K, cBK_0, cBL_0, if_K, ifK_0, sq_K, sqK_0, sqK_1, sqK_2, sqK_3, sqK_4, st_K, stK_0, ex_K, exK_0, ld_K, ldK_0, ldL_0, ldQ_0, rt_K, rtK_0, mfK_0, pz_K, pzK_0, pzL_0, rnd_K, rdC_0, rdB_0, rdB_1, rdB_2, rdB_3, rdB_4, rdU_0, in_K, sk_K, cmpI, addI, up, ok_some, w32_id, ix_id, Int.toNat_add, Int.toNat_mul, ltI_t, ltI_f, leI_t, leI_f, eqI_t, eqI_f, u2_s, u2_v, u2_i, w3_m2, w3_m1, w3_0, w3_1, w3_2, w3_3, w3_4, w3_5, w3_6, w3_7, w3_8, w3_9, w3_10, w3_12, w3_20, w3_23, w3_24, w3_25, w3_32, w3_40, w3_50, w3_100, w3_120, w3_168, w3_200, w3_240, w3_255, w3_500, w3_592, w3_600, w3_900, w3_940, w3_999, w3_1000, w3_1009, w3_1184, w3_3333, w3_9999, if_true, if_false, reduceIte, true_and, and_true, false_and, and_false, true_or, or_true, false_or, or_false, not_true_eq_false, not_false_eq_true, decide_true, decide_false, decide_eq_true_eq, Bool.not_true, Bool.not_false, Bool.false_eq_true, Bool.not_eq_true', Bool.not_eq_eq_eq_not, decide_eq_false_iff_not, Int.not_lt, Int.not_le, Nat.not_le, Nat.not_lt, Nat.le_refl, Int.le_refl, Nat.lt_irrefl, Int.lt_irrefl, reduceCtorEq, Nat.reduceEqDiff, Nat.reduceAdd, Nat.reduceMul, Nat.reduceBEq, Int.reduceNeg, Int.reduceAdd, Int.toNat_natCast, Int.reduceToNat, ne_eq, Nat.zero_ne_one, true_or, Int.ofNat_lt, Int.ofNat_le, Int.natCast_add, Int.cast_ofNat_Int, Int.natCast_zero, g1, g2, g3', bl, ea, eb, sw, sw2, q1, ha1, hb1, hmi, q2]
            refine ⟨hm', (hJ _ _ _).mpr ⟨by simp [up, g1], by simp [up, g2], by simp [up]; omega, F2, fun b' h1 h2 => ?_⟩⟩
            by_cases q : b' = b
            · subst q; exact xf
            · exact g6 b' h1 (by omega)
      · have e : (a : Int) + 1 + m = K := by omega
        rw [e] at g3
        simp (disch := first | decide | omega) only [cE_K, vE_K, gE_K, o1K_0, o1K_i, o1_K, o2L_0, o2L_i, o2K_0, o2K_i, o2_K, thK_0, thK_i, th_K, dvL_0, dvL_i, dvK_0, dvK_i, dv_K, rmL_0, rmL_i, rmK_0, rmK_i, rm_K, dlL_0, dlL_i, dlK_0, dlK_i, dl_K, ldQ_0, ldQ_i, ldL_0, ldL_i, ldK_0, ldK_i, ld_K, kK_0, kK_i, k_K, aL_0, aL_i, aK_0, aK_i, aE_0, aE_1, clK_0, clK_i, cl_K, cBL_0, cBL_i, cBK_0, cBK_i, cB_K, zBK_0, zBK_i, zB_K, nBK_0, nBK_i, nB_K, andK_0, andK_i, and_K, orK_0, orK_i, or_K, tkK_0, tkK_i, tk_K, sk_K, stK_0, stK_i, st_K, exK_0, exK_i, ex_K, in_K, pfL_0, pfL_i, pfK_0, pfK_i, pf_K, pzL_0, pzL_i, pzK_0, pzK_i, pz_K, poL_0, poL_i, poK_0, poK_i, po_K, asQ_0, asQ_i, asM_0, asM_i, asL_0, asL_i, asK_0, asK_i, as_K, aoM_0, aoM_i, aoQ_0, aoQ_i, aoL_0, aoL_i, aoK_0, aoK_i, ao_K, sqK_0, sqK_1, sqK_2, sqK_3, sqK_4, sqK_i, sq_K, swK_0, swK_1, swK_2, swK_3, swK_4, swK_i, sw_K, ifK_0, ifK_i, if_K, br_K, ct_K, rv_K, thr_K, rtK_0, rtK_i, rt_K, mfK_0, mfK_i, mf_K, mzK_i, mzK_0, mz_K, cpK_0, cpT_0, cp_K, tsK_0, tsK_i, ts_K, tsP_hit, tsP_next, tsP_low, tsP_nil, ini_0, ini_1, rdU_0, rdU_i, rdB_0, rdB_1, rdB_2, rdB_3, rdB_4, rdB_i, rdC_0, rdC_i, rnd_K, cmpI, addI, subI, mulI, i2lI, l2iI, minI, maxI, idI, up, ok_some, ok_ite, w32_id, ix_id, Int.toNat_add, Int.toNat_mul, ltI_t, ltI_f, leI_t, leI_f, eqI_t, eqI_f, u2_s, u2_v, u2_i, w3_m2, w3_m1, w3_0, w3_1, w3_2, w3_3, w3_4, w3_5, w3_6, w3_7, w3_8, w3_9, w3_10, w3_12, w3_20, w3_23, w3_24, w3_25, w3_32, w3_40, w3_50, w3_100, w3_120, w3_168, w3_200, w3_240, w3_255, w3_500, w3_592, w3_600, w3_900, w3_940, w3_999, w3_1000, w3_1009, w3_1184, w3_3333, w3_9999, if_true, if_false, reduceIte, true_and, and_true, false_and, and_false, true_or, or_true, false_or, or_false, not_true_eq_false, not_false_eq_true, decide_true, decide_false, decide_eq_true_eq, Bool.not_true, Bool.not_false, Bool.false_eq_true, Bool.not_eq_true', Bool.not_eq_eq_eq_not, decide_eq_false_iff_not, Int.not_lt, Int.not_le, Nat.not_le, Nat.not_lt, Nat.le_refl, Int.le_refl, Nat.lt_irrefl, Int.lt_irrefl, reduceCtorEq, Nat.reduceEqDiff, Nat.reduceAdd, Nat.reduceMul, Nat.reduceBEq, Int.reduceNeg, Int.reduceAdd, Int.toNat_natCast, Int.reduceToNat, ne_eq, Nat.zero_ne_one, true_or, Int.ofNat_lt, Int.ofNat_le, Int.natCast_add, Int.cast_ofNat_Int, Int.natCast_zero, g1, g2, g3, bl]
        refine ⟨ha, (hI _ _ _).mpr ⟨by simp [up, g1], by simp [up], g5, fun a' b' h1 h2 h3 => ?_⟩⟩
        by_cases q : a' = a
        · subst q; exact g6 b' h1 (by omega)
        · exact g4 a' b' h1 h2 (by omega)
    · simp (disch := first | decide | omega) only [cE_K, vE_K, gE_K, o1K_0, o1K_i, o1_K, o2L_0, o2L_i, o2K_0, o2K_i, o2_K, thK_0, thK_i, th_K, dvL_0, dvL_i, dvK_0, dvK_i, dv_K, rmL_0, rmL_i, rmK_0, rmK_i, rm_K, dlL_0, dlL_i, dlK_0, dlK_i, dl_K, ldQ_0, ldQ_i, ldL_0, ldL_i, ldK_0, ldK_i, ld_K, kK_0, kK_i, k_K, aL_0, aL_i, aK_0, aK_i, aE_0, aE_1, clK_0, clK_i, cl_K, cBL_0, cBL_i, cBK_0, cBK_i, cB_K, zBK_0, zBK_i, zB_K, nBK_0, nBK_i, nB_K, andK_0, andK_i, and_K, orK_0, orK_i, or_K, tkK_0, tkK_i, tk_K, sk_K, stK_0, stK_i, st_K, exK_0, exK_i, ex_K, in_K, pfL_0, pfL_i, pfK_0, pfK_i, pf_K, pzL_0, pzL_i, pzK_0, pzK_i, pz_K, poL_0, poL_i, poK_0, poK_i, po_K, asQ_0, asQ_i, asM_0, asM_i, asL_0, asL_i, asK_0, asK_i, as_K, aoM_0, aoM_i, aoQ_0, aoQ_i, aoL_0, aoL_i, aoK_0, aoK_i, ao_K, sqK_0, sqK_1, sqK_2, sqK_3, sqK_4, sqK_i, sq_K, swK_0, swK_1, swK_2, swK_3, swK_4, swK_i, sw_K, ifK_0, ifK_i, if_K, br_K, ct_K, rv_K, thr_K, rtK_0, rtK_i, rt_K, mfK_0, mfK_i, mf_K, mzK_i, mzK_0, mz_K, cpK_0, cpT_0, cp_K, tsK_0, tsK_i, ts_K, tsP_hit, tsP_next, tsP_low, tsP_nil, ini_0, ini_1, rdU_0, rdU_i, rdB_0, rdB_1, rdB_2, rdB_3, rdB_4, rdB_i, rdC_0, rdC_i, rnd_K, cmpI, addI, subI, mulI, i2lI, l2iI, minI, maxI, idI, up, ok_some, ok_ite, w32_id, ix_id, Int.toNat_add, Int.toNat_mul, ltI_t, ltI_f, leI_t, leI_f, eqI_t, eqI_f, u2_s, u2_v, u2_i, w3_m2, w3_m1, w3_0, w3_1, w3_2, w3_3, w3_4, w3_5, w3_6, w3_7, w3_8, w3_9, w3_10, w3_12, w3_20, w3_23, w3_24, w3_25, w3_32, w3_40, w3_50, w3_100, w3_120, w3_168, w3_200, w3_240, w3_255, w3_500, w3_592, w3_600, w3_900, w3_940, w3_999, w3_1000, w3_1009, w3_1184, w3_3333, w3_9999, if_true, if_false, reduceIte, true_and, and_true, false_and, and_false, true_or, or_true, false_or, or_false, not_true_eq_false, not_false_eq_true, decide_true, decide_false, decide_eq_true_eq, Bool.not_true, Bool.not_false, Bool.false_eq_true, Bool.not_eq_true', Bool.not_eq_eq_eq_not, decide_eq_false_iff_not, Int.not_lt, Int.not_le, Nat.not_le, Nat.not_lt, Nat.le_refl, Int.le_refl, Nat.lt_irrefl, Int.lt_irrefl, reduceCtorEq, Nat.reduceEqDiff, Nat.reduceAdd, Nat.reduceMul, Nat.reduceBEq, Int.reduceNeg, Int.reduceAdd, Int.toNat_natCast, Int.reduceToNat, ne_eq, Nat.zero_ne_one, true_or, Int.ofNat_lt, Int.ofNat_le, Int.natCast_add, Int.cast_ofNat_Int, Int.natCast_zero, g1, g2, bl]
      exact (hQQ _).mpr (Or.inl ⟨fun a' b' h1 h2 => g4 a' b' h1 h2 (by omega), rfl, g3⟩)
  obtain ⟨⟨r1, r2⟩, h1, h2⟩ := main
  exact ⟨r1, r2, τ, h1, t5, t2, (hQQ _).mp h2⟩
