/-! the class: the week as told, kept -/
def psX (σ : Me) (N : Nat → Int) (n : Nat) : Prop :=
  (∀ h i, h < n → i < 40 → σ 9152 (40 * h + i) = (wkS N (floN N) (ppW N (wsN N (-1))) (h + 1)).1 i ∧ σ 9216 (40 * h + i) = (wkS N (floN N) (ppW N (wsN N (-1))) (h + 1)).2 i) ∧
  (∀ h c : Nat, h < n → (c : Int) < N 1 → σ 9280 (4 * h + c) = wkP N (floN N) (ppW N (wsN N (-1))) h c) ∧
  (∀ h, h < n → σ 9344 h = wsN N (-1) h ∧ σ 9408 h = bitsF (fun u => hmN N (wkS N (floN N) (ppW N (wsN N (-1))) (h + 1)).1 u h) (N 3).toNat) ∧
  (∀ h, h ≤ n → σ 9472 h = hpN N (floN N) (ppW N (wsN N (-1))) h)
theorem keep_ok {σ : Me} {N : Nat → Int} {a n : Nat} (hN : rvN N) (hE : enX σ N (floN N) (ppW N (wsN N (-1))) a) (hc : csX σ N (floN N) (ppW N (wsN N (-1))) (n + 1)) (hn : n < 168) (hp : psX σ N n) (hq : ∀ c : Nat, (c : Int) < N 1 → σ 9024 c = wkP N (floN N) (ppW N (wsN N (-1))) n c) (hw : σ 8832 n = wsN N (-1) n) :
    ∃ τ, m_Past_keep [0, 0, 0, n] σ = some (0, τ) ∧ fr [9152, 9216, 9280, 9344, 9408, 9472] σ τ ∧ psX τ N (n + 1) := by
  have hu0 := hN.1.2.2.2.1
  have hc0 := hN.1.2.1
  generalize hfl : floN N = fl at *
  generalize hPP : ppW N (wsN N (-1)) = PP at *
  have hflo : flN fl := by rw [← hfl]; exact floN_fl hN
  have hppp : ppN PP (N 0).toNat := by rw [← hPP]; exact ppW_pp hN
  obtain ⟨s1, hs1⟩ : ∃ s1 : Me, s1 = cpM (cpM (cpM σ 8896 9152 0 (n * 40) 40) 8960 9216 0 (n * 40) 40) 9024 9280 0 (n * 4) 4 := ⟨_, rfl⟩
  obtain ⟨s2, hs2⟩ : ∃ s2 : Me, s2 = u2 s1 9344 n (s1 8832 n) := ⟨_, rfl⟩
  have lo2 : fr [9152, 9216, 9280, 9344] σ s2 := by
    intro v hv
    simp only [List.mem_cons, List.not_mem_nil, or_false, not_or] at hv
    rw [hs2, hs1]
    funext i
    simp [u2, cpM, hv]
  have hE2 := enX_fr hE lo2 (by decide)
  have hc2 : csX s2 N fl PP (n + 1) := by
    intro i hi
    rw [lo2 _ (by decide), lo2 _ (by decide)]
    exact hc i hi
  have e2 := harmedBehind_eq (σ := s2) (h := n) hN hE2.1 (wtX_of hN hppp hflo hE2 hc2 (by omega)) hn
  generalize hbf : bitsF (fun u => hmN N (wkS N fl PP (n + 1)).1 u n) (N 3).toNat = bf at e2
  have e3 : pcI bf = hhN N fl PP n := by rw [← hbf]; exact pc_bits (by omega)
  have hb2 : s2 9472 n = hpN N fl PP n := by
    rw [lo2 _ (by decide)]
    have := hp.2.2.2 n (Nat.le_refl _)
    simp only [hfl, hPP] at this
    exact this
  refine ⟨u2 (u2 s2 9408 n bf) 9472 (n + 1) (hpN N fl PP n + hhN N fl PP n), ?_, ?_, ?_⟩
  · simp only [m_Past_keep, b_Past_keep]
    have a1 : ∀ v i, u2 s2 9408 n bf v i = if v = 9408 ∧ i = n then bf else s2 v i := fun v i => rfl
    simp (disch := first | decide | omega) only [cE_K, vE_K, gE_K, o1K_0, o1K_i, o1_K, o2L_0, o2L_i, o2K_0, o2K_i, o2_K, thK_0, thK_i, th_K, dvL_0, dvL_i, dvK_0, dvK_i, dv_K, rmL_0, rmL_i, rmK_0, rmK_i, rm_K, dlL_0, dlL_i, dlK_0, dlK_i, dl_K, ldQ_0, ldQ_i, ldL_0, ldL_i, ldK_0, ldK_i, ld_K, kK_0, kK_i, k_K, aL_0, aL_i, aK_0, aK_i, aE_0, aE_1, clK_0, clK_i, cl_K, cBL_0, cBL_i, cBK_0, cBK_i, cB_K, zBK_0, zBK_i, zB_K, nBK_0, nBK_i, nB_K, andK_0, andK_i, and_K, orK_0, orK_i, or_K, tkK_0, tkK_i, tk_K, sk_K, stK_0, stK_i, st_K, exK_0, exK_i, ex_K, in_K, pfL_0, pfL_i, pfK_0, pfK_i, pf_K, pzL_0, pzL_i, pzK_0, pzK_i, pz_K, poL_0, poL_i, poK_0, poK_i, po_K, asQ_0, asQ_i, asM_0, asM_i, asL_0, asL_i, asK_0, asK_i, as_K, aoM_0, aoM_i, aoQ_0, aoQ_i, aoL_0, aoL_i, aoK_0, aoK_i, ao_K, sqK_0, sqK_1, sqK_2, sqK_3, sqK_4, sqK_i, sq_K, swK_0, swK_1, swK_2, swK_3, swK_4, swK_i, sw_K, ifK_0, ifK_i, if_K, br_K, ct_K, rv_K, thr_K, rtK_0, rtK_i, rt_K, mfK_0, mfK_i, mf_K, mzK_i, mzK_0, mz_K, cpK_0, cpT_0, cp_K, tsK_0, tsK_i, ts_K, tsP_hit, tsP_next, tsP_low, tsP_nil, ini_0, ini_1, rdU_0, rdU_i, rdB_0, rdB_1, rdB_2, rdB_3, rdB_4, rdB_i, rdC_0, rdC_i, rnd_K, cmpI, addI, subI, mulI, i2lI, l2iI, minI, maxI, idI, up, ok_some, ok_ite, w32_id, ix_id, Int.toNat_add, Int.toNat_mul, ltI_t, ltI_f, leI_t, leI_f, eqI_t, eqI_f, u2_s, u2_v, u2_i, w3_m2, w3_m1, w3_0, w3_1, w3_2, w3_3, w3_4, w3_5, w3_6, w3_7, w3_8, w3_9, w3_10, w3_12, w3_20, w3_23, w3_24, w3_25, w3_32, w3_40, w3_50, w3_100, w3_120, w3_168, w3_200, w3_240, w3_255, w3_500, w3_592, w3_600, w3_900, w3_940, w3_999, w3_1000, w3_1009, w3_1184, w3_3333, w3_9999, if_true, if_false, reduceIte, true_and, and_true, false_and, and_false, true_or, or_true, false_or, or_false, not_true_eq_false, not_false_eq_true, decide_true, decide_false, decide_eq_true_eq, Bool.not_true, Bool.not_false, Bool.false_eq_true, Bool.not_eq_true', Bool.not_eq_eq_eq_not, decide_eq_false_iff_not, Int.not_lt, Int.not_le, Nat.not_le, Nat.not_lt, Nat.le_refl, Int.le_refl, Nat.lt_irrefl, Int.lt_irrefl, reduceCtorEq, Nat.reduceEqDiff, Nat.reduceAdd, Nat.reduceMul, Nat.reduceBEq, Int.reduceNeg, Int.reduceAdd, Int.toNat_natCast, Int.reduceToNat, ne_eq, Nat.zero_ne_one, true_or, Int.ofNat_lt, Int.ofNat_le, Int.natCast_add, Int.cast_ofNat_Int, Int.natCast_zero, ← hs1, ← hs2, e2, bitCount_eq, e3, hb2]
  · intro v hv
    simp only [List.mem_cons, List.not_mem_nil, or_false, not_or] at hv
    rw [← lo2 v (by simp [hv])]
    funext i
    simp [u2, hv]
  · have r1 : ∀ v, v ≠ 9408 → v ≠ 9472 → u2 (u2 s2 9408 n bf) 9472 (n + 1) (hpN N fl PP n + hhN N fl PP n) v = s2 v := fun v h1 h2 => by funext i; simp [u2, h1, h2]
    unfold psX
    simp only [hfl, hPP]
    refine ⟨fun h i hh hi => ?_, fun h c hh hcc => ?_, fun h hh => ⟨?_, ?_⟩, fun h hh => ?_⟩
    · rw [r1 _ (by decide) (by decide), r1 _ (by decide) (by decide), hs2, hs1]
      by_cases he : h = n
      · subst he
        have q1 : h * 40 ≤ 40 * h + i ∧ 40 * h + i < h * 40 + 40 := by omega
        have q2 : 0 + (40 * h + i - h * 40) = i := by omega
        have q3 : 40 * h + i - h * 40 = i := by omega
        simp [u2, cpM, q1, q3]
        exact hc i hi
      · have q1 : ¬ (n * 40 ≤ 40 * h + i ∧ 40 * h + i < n * 40 + 40) := by omega
        have q4 : n * 40 ≤ 40 * h + i → ¬ 40 * h + i < n * 40 + 40 := by omega
        simp [u2, cpM]
        rw [if_neg q1, if_neg q1]
        have := hp.1 h i (by omega) hi
        simp only [hfl, hPP] at this
        exact this
    · rw [r1 _ (by decide) (by decide), hs2, hs1]
      by_cases he : h = n
      · subst he
        have q1 : h * 4 ≤ 4 * h + c ∧ 4 * h + c < h * 4 + 4 := by omega
        have q3 : 4 * h + c - h * 4 = c := by omega
        simp [u2, cpM, q1, q3]
        exact hq c hcc
      · have q1 : ¬ (n * 4 ≤ 4 * h + c ∧ 4 * h + c < n * 4 + 4) := by omega
        simp [u2, cpM]
        rw [if_neg q1]
        have := hp.2.1 h c (by omega) hcc
        simp only [hfl, hPP] at this
        exact this
    · rw [r1 _ (by decide) (by decide), hs2, hs1]
      by_cases he : h = n
      · subst he
        simp [u2, cpM, hw]
      · simp [u2, cpM, he]
        exact (hp.2.2.1 h (by omega)).1
    · by_cases he : h = n
      · subst he
        simp [u2, hbf]
      · simp [u2, he]
        rw [lo2 _ (by decide)]
        have := (hp.2.2.1 h (by omega)).2
        simp only [hfl, hPP] at this
        exact this
    · by_cases he : h = n + 1
      · subst he
        simp [u2, hpN_s]
      · simp [u2, he]
        rw [lo2 _ (by decide)]
        have := hp.2.2.2 h (by omega)
        simp only [hfl, hPP] at this
        exact this
def wkV : List Nat := [10, 8704, 8768, 8832, 8896, 8960, 9024, 9152, 9216, 9280, 9344, 9408, 9472]
theorem past_ok {σ : Me} {N : Nat → Int} (hN : rvN N) (hB : blN N) (hX : rdX σ N) (hD : bdX σ N) (ho : σ 10 0 = 0 ∨ σ 10 0 = 1) (hb0 : σ 9472 0 = 0) (hp : σ 10 0 = 0 → psX σ N 168) :
    ∃ τ, m_D_past [0] σ = some (0, τ) ∧ fr wkV σ τ ∧ τ 10 0 = 0 ∧ psX τ N 168 := by
  rcases ho with ho | ho
  · refine ⟨σ, ?_, fr_rfl, ho, hp ho⟩
    simp only [m_D_past, b_D_past]
    simp (disch := first | decide | omega) only [cE_K, vE_K, gE_K, o1K_0, o1K_i, o1_K, o2L_0, o2L_i, o2K_0, o2K_i, o2_K, thK_0, thK_i, th_K, dvL_0, dvL_i, dvK_0, dvK_i, dv_K, rmL_0, rmL_i, rmK_0, rmK_i, rm_K, dlL_0, dlL_i, dlK_0, dlK_i, dl_K, ldQ_0, ldQ_i, ldL_0, ldL_i, ldK_0, ldK_i, ld_K, kK_0, kK_i, k_K, aL_0, aL_i, aK_0, aK_i, aE_0, aE_1, clK_0, clK_i, cl_K, cBL_0, cBL_i, cBK_0, cBK_i, cB_K, zBK_0, zBK_i, zB_K, nBK_0, nBK_i, nB_K, andK_0, andK_i, and_K, orK_0, orK_i, or_K, tkK_0, tkK_i, tk_K, sk_K, stK_0, stK_i, st_K, exK_0, exK_i, ex_K, in_K, pfL_0, pfL_i, pfK_0, pfK_i, pf_K, pzL_0, pzL_i, pzK_0, pzK_i, pz_K, poL_0, poL_i, poK_0, poK_i, po_K, asQ_0, asQ_i, asM_0, asM_i, asL_0, asL_i, asK_0, asK_i, as_K, aoM_0, aoM_i, aoQ_0, aoQ_i, aoL_0, aoL_i, aoK_0, aoK_i, ao_K, sqK_0, sqK_1, sqK_2, sqK_3, sqK_4, sqK_i, sq_K, swK_0, swK_1, swK_2, swK_3, swK_4, swK_i, sw_K, ifK_0, ifK_i, if_K, br_K, ct_K, rv_K, thr_K, rtK_0, rtK_i, rt_K, mfK_0, mfK_i, mf_K, mzK_i, mzK_0, mz_K, cpK_0, cpT_0, cp_K, tsK_0, tsK_i, ts_K, tsP_hit, tsP_next, tsP_low, tsP_nil, ini_0, ini_1, rdU_0, rdU_i, rdB_0, rdB_1, rdB_2, rdB_3, rdB_4, rdB_i, rdC_0, rdC_i, rnd_K, cmpI, addI, subI, mulI, i2lI, l2iI, minI, maxI, idI, up, ok_some, ok_ite, w32_id, ix_id, Int.toNat_add, Int.toNat_mul, ltI_t, ltI_f, leI_t, leI_f, eqI_t, eqI_f, u2_s, u2_v, u2_i, w3_m2, w3_m1, w3_0, w3_1, w3_2, w3_3, w3_4, w3_5, w3_6, w3_7, w3_8, w3_9, w3_10, w3_12, w3_20, w3_23, w3_24, w3_25, w3_32, w3_40, w3_50, w3_100, w3_120, w3_168, w3_200, w3_240, w3_255, w3_500, w3_592, w3_600, w3_900, w3_940, w3_999, w3_1000, w3_1009, w3_1184, w3_3333, w3_9999, if_true, if_false, reduceIte, true_and, and_true, false_and, and_false, true_or, or_true, false_or, or_false, not_true_eq_false, not_false_eq_true, decide_true, decide_false, decide_eq_true_eq, Bool.not_true, Bool.not_false, Bool.false_eq_true, Bool.not_eq_true', Bool.not_eq_eq_eq_not, decide_eq_false_iff_not, Int.not_lt, Int.not_le, Nat.not_le, Nat.not_lt, Nat.le_refl, Int.le_refl, Nat.lt_irrefl, Int.lt_irrefl, reduceCtorEq, Nat.reduceEqDiff, Nat.reduceAdd, Nat.reduceMul, Nat.reduceBEq, Int.reduceNeg, Int.reduceAdd, Int.toNat_natCast, Int.reduceToNat, ne_eq, Nat.zero_ne_one, true_or, Int.ofNat_lt, Int.ofNat_le, Int.natCast_add, Int.cast_ofNat_Int, Int.natCast_zero, ho]
  · obtain ⟨s1, p1, f1, v1, l1, w1⟩ := prepare_ok hD hN hB
    have lo1 : loX σ s1 := fun v hv => f1 v (by simp; omega)
    have p2 := empty_eq (σ := s1)
    generalize hs2 : (fun v i => if (v = 8896 ∨ v = 8960) ∧ i < 40 then 0 else s1 v i) = s2 at p2
    have a2 : ∀ v, v ≠ 8896 → v ≠ 8960 → s2 v = s1 v := fun v h1 h2 => by rw [← hs2]; funext i; simp [h1, h2]
    have hg := hN.1.2.2.1
    have E2 : enX s2 N (floN N) (ppW N (wsN N (-1))) 0 := by
      refine ⟨rdX_lo (rdX_lo hX lo1) (fun v hv => a2 v (by omega) (by omega)), ?_, ?_, ?_⟩
      · rw [a2 _ (by decide) (by decide)]; exact v1
      · rw [a2 _ (by decide) (by decide)]; exact l1
      · intro h i _ hh _ _
        rw [a2 _ (by decide) (by decide), w1 h hh]
        rfl
    have w2 : ∀ h, h < 168 → s2 8832 h = wsN N (-1) h := fun h hh => by rw [a2 _ (by decide) (by decide), w1 h hh]
    have f2 : fr wkV σ s2 := by
      intro v hv
      simp only [wkV, List.mem_cons, List.not_mem_nil, or_false, not_or] at hv
      rw [a2 v hv.2.2.2.2.1 hv.2.2.2.2.2.1]
      exact f1 v (by simp [hv])
    have main : ok (m_D_past [0] σ) (fun r => r.1 = 0 ∧ fr wkV σ r.2 ∧ r.2 10 0 = 0 ∧ psX r.2 N 168) := by
      obtain ⟨Q, hQ⟩ : ∃ Q : Me → Prop, Q = (fun t => fr wkV σ t ∧ t 10 0 = 0 ∧ psX t N 168) := ⟨_, rfl⟩
      have hQ' : ∀ t : Me, (fr wkV σ t ∧ t 10 0 = 0 ∧ psX t N 168) = Q t := fun t => by rw [hQ]
      simp only [hQ']
      simp only [m_D_past, b_D_past]
      simp (disch := first | decide | omega) only [cE_K, vE_K, gE_K, o1K_0, o1K_i, o1_K, o2L_0, o2L_i, o2K_0, o2K_i, o2_K, thK_0, thK_i, th_K, dvL_0, dvL_i, dvK_0, dvK_i, dv_K, rmL_0, rmL_i, rmK_0, rmK_i, rm_K, dlL_0, dlL_i, dlK_0, dlK_i, dl_K, ldQ_0, ldQ_i, ldL_0, ldL_i, ldK_0, ldK_i, ld_K, kK_0, kK_i, k_K, aL_0, aL_i, aK_0, aK_i, aE_0, aE_1, clK_0, clK_i, cl_K, cBL_0, cBL_i, cBK_0, cBK_i, cB_K, zBK_0, zBK_i, zB_K, nBK_0, nBK_i, nB_K, andK_0, andK_i, and_K, orK_0, orK_i, or_K, tkK_0, tkK_i, tk_K, sk_K, stK_0, stK_i, st_K, exK_0, exK_i, ex_K, in_K, pfL_0, pfL_i, pfK_0, pfK_i, pf_K, pzL_0, pzL_i, pzK_0, pzK_i, pz_K, poL_0, poL_i, poK_0, poK_i, po_K, asQ_0, asQ_i, asM_0, asM_i, asL_0, asL_i, asK_0, asK_i, as_K, aoM_0, aoM_i, aoQ_0, aoQ_i, aoL_0, aoL_i, aoK_0, aoK_i, ao_K, sqK_0, sqK_1, sqK_2, sqK_3, sqK_4, sqK_i, sq_K, swK_0, swK_1, swK_2, swK_3, swK_4, swK_i, sw_K, ifK_0, ifK_i, if_K, br_K, ct_K, rv_K, thr_K, rtK_0, rtK_i, rt_K, mfK_0, mfK_i, mf_K, mzK_i, mzK_0, mz_K, cpK_0, cpT_0, cp_K, tsK_0, tsK_i, ts_K, tsP_hit, tsP_next, tsP_low, tsP_nil, ini_0, ini_1, rdU_0, rdU_i, rdB_0, rdB_1, rdB_2, rdB_3, rdB_4, rdB_i, rdC_0, rdC_i, rnd_K, cmpI, addI, subI, mulI, i2lI, l2iI, minI, maxI, idI, up, ok_some, ok_ite, w32_id, ix_id, Int.toNat_add, Int.toNat_mul, ltI_t, ltI_f, leI_t, leI_f, eqI_t, eqI_f, u2_s, u2_v, u2_i, w3_m2, w3_m1, w3_0, w3_1, w3_2, w3_3, w3_4, w3_5, w3_6, w3_7, w3_8, w3_9, w3_10, w3_12, w3_20, w3_23, w3_24, w3_25, w3_32, w3_40, w3_50, w3_100, w3_120, w3_168, w3_200, w3_240, w3_255, w3_500, w3_592, w3_600, w3_900, w3_940, w3_999, w3_1000, w3_1009, w3_1184, w3_3333, w3_9999, if_true, if_false, reduceIte, true_and, and_true, false_and, and_false, true_or, or_true, false_or, or_false, not_true_eq_false, not_false_eq_true, decide_true, decide_false, decide_eq_true_eq, Bool.not_true, Bool.not_false, Bool.false_eq_true, Bool.not_eq_true', Bool.not_eq_eq_eq_not, decide_eq_false_iff_not, Int.not_lt, Int.not_le, Nat.not_le, Nat.not_lt, Nat.le_refl, Int.le_refl, Nat.lt_irrefl, Int.lt_irrefl, reduceCtorEq, Nat.reduceEqDiff, Nat.reduceAdd, Nat.reduceMul, Nat.reduceBEq, Int.reduceNeg, Int.reduceAdd, Int.toNat_natCast, Int.reduceToNat, ne_eq, Nat.zero_ne_one, true_or, Int.ofNat_lt, Int.ofNat_le, Int.natCast_add, Int.cast_ofNat_Int, Int.natCast_zero, ho, p1, p2]
      obtain ⟨I, hI⟩ : ∃ I : Nat → Lo → Me → Prop, ∀ n ρ s, I n ρ s ↔ (ρ 1 = n ∧ fr wkV σ s ∧ enX s N (floN N) (ppW N (wsN N (-1))) 0 ∧ csX s N (floN N) (ppW N (wsN N (-1))) n ∧ psX s N n ∧ (∀ h, h < 168 → s 8832 h = wsN N (-1) h)) := ⟨fun n ρ s => ρ 1 = n ∧ fr wkV σ s ∧ enX s N (floN N) (ppW N (wsN N (-1))) 0 ∧ csX s N (floN N) (ppW N (wsN N (-1))) n ∧ psX s N n ∧ (∀ h, h < 168 → s 8832 h = wsN N (-1) h), fun _ _ _ => Iff.rfl⟩
      refine ok_mfK (ok_sqK (ok_sqK (wh_gen I 168 (by omega) ((hI _ _ _).mpr ⟨by simp [up], f2, E2, ?_, ?_, w2⟩) ?_)))
      · intro i hi
        rw [← hs2]
        simp [hi, wkS]
      · refine ⟨fun h i hh => by omega, fun h c hh => by omega, fun h hh => by omega, fun h hh => ?_⟩
        have : h = 0 := by omega
        subst this
        rw [a2 _ (by decide) (by decide), f1 _ (by decide), hb0]
        rfl
      · intro n ρ s hn hIn
        obtain ⟨g1, g2, g3, g4, g5, g6⟩ := (hI _ _ _).mp hIn
        rcases Nat.lt_or_eq_of_le hn with hn | rfl
        · obtain ⟨τ, t1, t2, t3, t4⟩ := pass_st hN (ppW_pp hN) (floN_fl hN) g3 g4 (Nat.zero_le n) hn
          have g5' : psX τ N n := by
            unfold psX
            rw [t2 9152 (by decide), t2 9216 (by decide), t2 9280 (by decide), t2 9344 (by decide), t2 9408 (by decide), t2 9472 (by decide)]
            exact g5
          have w5 : ∀ h, h < 168 → τ 8832 h = wsN N (-1) h := fun h hh => by rw [t2 _ (by decide)]; exact g6 h hh
          obtain ⟨υ, u1, u2', u3⟩ := keep_ok hN (enX_fr g3 t2 (by decide)) t3 hn g5' t4 (w5 n hn)
          simp (disch := first | decide | omega) only [cE_K, vE_K, gE_K, o1K_0, o1K_i, o1_K, o2L_0, o2L_i, o2K_0, o2K_i, o2_K, thK_0, thK_i, th_K, dvL_0, dvL_i, dvK_0, dvK_i, dv_K, rmL_0, rmL_i, rmK_0, rmK_i, rm_K, dlL_0, dlL_i, dlK_0, dlK_i, dl_K, ldQ_0, ldQ_i, ldL_0, ldL_i, ldK_0, ldK_i, ld_K, kK_0, kK_i, k_K, aL_0, aL_i, aK_0, aK_i, aE_0, aE_1, clK_0, clK_i, cl_K, cBL_0, cBL_i, cBK_0, cBK_i, cB_K, zBK_0, zBK_i, zB_K, nBK_0, nBK_i, nB_K, andK_0, andK_i, and_K, orK_0, orK_i, or_K, tkK_0, tkK_i, tk_K, sk_K, stK_0, stK_i, st_K, exK_0, exK_i, ex_K, in_K, pfL_0, pfL_i, pfK_0, pfK_i, pf_K, pzL_0, pzL_i, pzK_0, pzK_i, pz_K, poL_0, poL_i, poK_0, poK_i, po_K, asQ_0, asQ_i, asM_0, asM_i, asL_0, asL_i, asK_0, asK_i, as_K, aoM_0, aoM_i, aoQ_0, aoQ_i, aoL_0, aoL_i, aoK_0, aoK_i, ao_K, sqK_0, sqK_1, sqK_2, sqK_3, sqK_4, sqK_i, sq_K, swK_0, swK_1, swK_2, swK_3, swK_4, swK_i, sw_K, ifK_0, ifK_i, if_K, br_K, ct_K, rv_K, thr_K, rtK_0, rtK_i, rt_K, mfK_0, mfK_i, mf_K, mzK_i, mzK_0, mz_K, cpK_0, cpT_0, cp_K, tsK_0, tsK_i, ts_K, tsP_hit, tsP_next, tsP_low, tsP_nil, ini_0, ini_1, rdU_0, rdU_i, rdB_0, rdB_1, rdB_2, rdB_3, rdB_4, rdB_i, rdC_0, rdC_i, rnd_K, cmpI, addI, subI, mulI, i2lI, l2iI, minI, maxI, idI, up, ok_some, ok_ite, w32_id, ix_id, Int.toNat_add, Int.toNat_mul, ltI_t, ltI_f, leI_t, leI_f, eqI_t, eqI_f, u2_s, u2_v, u2_i, w3_m2, w3_m1, w3_0, w3_1, w3_2, w3_3, w3_4, w3_5, w3_6, w3_7, w3_8, w3_9, w3_10, w3_12, w3_20, w3_23, w3_24, w3_25, w3_32, w3_40, w3_50, w3_100, w3_120, w3_168, w3_200, w3_240, w3_255, w3_500, w3_592, w3_600, w3_900, w3_940, w3_999, w3_1000, w3_1009, w3_1184, w3_3333, w3_9999, if_true, if_false, reduceIte, true_and, and_true, false_and, and_false, true_or, or_true, false_or, or_false, not_true_eq_false, not_false_eq_true, decide_true, decide_false, decide_eq_true_eq, Bool.not_true, Bool.not_false, Bool.false_eq_true, Bool.not_eq_true', Bool.not_eq_eq_eq_not, decide_eq_false_iff_not, Int.not_lt, Int.not_le, Nat.not_le, Nat.not_lt, Nat.le_refl, Int.le_refl, Nat.lt_irrefl, Int.lt_irrefl, reduceCtorEq, Nat.reduceEqDiff, Nat.reduceAdd, Nat.reduceMul, Nat.reduceBEq, Int.reduceNeg, Int.reduceAdd, Int.toNat_natCast, Int.reduceToNat, ne_eq, Nat.zero_ne_one, true_or, Int.ofNat_lt, Int.ofNat_le, Int.natCast_add, Int.cast_ofNat_Int, Int.natCast_zero, g1, t1, u1]
          refine ⟨hn, (hI _ _ _).mpr ⟨by simp [up], ?_, enX_fr (enX_fr g3 t2 (by decide)) u2' (by decide), ?_, u3, fun h hh => by rw [u2' _ (by decide)]; exact w5 h hh⟩⟩
          · exact fr_trans g2 (fr_trans (fr_sub t2 (by decide)) (fr_sub u2' (by decide)))
          · intro i hi
            rw [u2' _ (by decide), u2' _ (by decide)]
            exact t3 i hi
        · simp (disch := first | decide | omega) only [cE_K, vE_K, gE_K, o1K_0, o1K_i, o1_K, o2L_0, o2L_i, o2K_0, o2K_i, o2_K, thK_0, thK_i, th_K, dvL_0, dvL_i, dvK_0, dvK_i, dv_K, rmL_0, rmL_i, rmK_0, rmK_i, rm_K, dlL_0, dlL_i, dlK_0, dlK_i, dl_K, ldQ_0, ldQ_i, ldL_0, ldL_i, ldK_0, ldK_i, ld_K, kK_0, kK_i, k_K, aL_0, aL_i, aK_0, aK_i, aE_0, aE_1, clK_0, clK_i, cl_K, cBL_0, cBL_i, cBK_0, cBK_i, cB_K, zBK_0, zBK_i, zB_K, nBK_0, nBK_i, nB_K, andK_0, andK_i, and_K, orK_0, orK_i, or_K, tkK_0, tkK_i, tk_K, sk_K, stK_0, stK_i, st_K, exK_0, exK_i, ex_K, in_K, pfL_0, pfL_i, pfK_0, pfK_i, pf_K, pzL_0, pzL_i, pzK_0, pzK_i, pz_K, poL_0, poL_i, poK_0, poK_i, po_K, asQ_0, asQ_i, asM_0, asM_i, asL_0, asL_i, asK_0, asK_i, as_K, aoM_0, aoM_i, aoQ_0, aoQ_i, aoL_0, aoL_i, aoK_0, aoK_i, ao_K, sqK_0, sqK_1, sqK_2, sqK_3, sqK_4, sqK_i, sq_K, swK_0, swK_1, swK_2, swK_3, swK_4, swK_i, sw_K, ifK_0, ifK_i, if_K, br_K, ct_K, rv_K, thr_K, rtK_0, rtK_i, rt_K, mfK_0, mfK_i, mf_K, mzK_i, mzK_0, mz_K, cpK_0, cpT_0, cp_K, tsK_0, tsK_i, ts_K, tsP_hit, tsP_next, tsP_low, tsP_nil, ini_0, ini_1, rdU_0, rdU_i, rdB_0, rdB_1, rdB_2, rdB_3, rdB_4, rdB_i, rdC_0, rdC_i, rnd_K, cmpI, addI, subI, mulI, i2lI, l2iI, minI, maxI, idI, up, ok_some, ok_ite, w32_id, ix_id, Int.toNat_add, Int.toNat_mul, ltI_t, ltI_f, leI_t, leI_f, eqI_t, eqI_f, u2_s, u2_v, u2_i, w3_m2, w3_m1, w3_0, w3_1, w3_2, w3_3, w3_4, w3_5, w3_6, w3_7, w3_8, w3_9, w3_10, w3_12, w3_20, w3_23, w3_24, w3_25, w3_32, w3_40, w3_50, w3_100, w3_120, w3_168, w3_200, w3_240, w3_255, w3_500, w3_592, w3_600, w3_900, w3_940, w3_999, w3_1000, w3_1009, w3_1184, w3_3333, w3_9999, if_true, if_false, reduceIte, true_and, and_true, false_and, and_false, true_or, or_true, false_or, or_false, not_true_eq_false, not_false_eq_true, decide_true, decide_false, decide_eq_true_eq, Bool.not_true, Bool.not_false, Bool.false_eq_true, Bool.not_eq_true', Bool.not_eq_eq_eq_not, decide_eq_false_iff_not, Int.not_lt, Int.not_le, Nat.not_le, Nat.not_lt, Nat.le_refl, Int.le_refl, Nat.lt_irrefl, Int.lt_irrefl, reduceCtorEq, Nat.reduceEqDiff, Nat.reduceAdd, Nat.reduceMul, Nat.reduceBEq, Int.reduceNeg, Int.reduceAdd, Int.toNat_natCast, Int.reduceToNat, ne_eq, Nat.zero_ne_one, true_or, Int.ofNat_lt, Int.ofNat_le, Int.natCast_add, Int.cast_ofNat_Int, Int.natCast_zero, g1]
          rw [hQ]
          refine ⟨?_, by simp [u2], ?_⟩
          · refine fr_trans g2 ?_
            intro v hv
            simp only [wkV, List.mem_cons, List.not_mem_nil, or_false, not_or] at hv
            funext i
            simp [u2, hv]
          · have e : ∀ v, v ≠ 10 → u2 s 10 0 0 v = s v := fun v h1 => by funext i; simp [u2, h1]
            unfold psX
            rw [e _ (by decide), e _ (by decide), e _ (by decide), e _ (by decide), e _ (by decide), e _ (by decide)]
            exact g5
    obtain ⟨⟨r1, r2⟩, h1, h2, h3⟩ := main
    simp only at h2 h3
    subst h2
    exact ⟨r2, h1, h3⟩
