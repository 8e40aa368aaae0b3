theorem takeFrom_ok {σ : Me} {N : Nat → Int} (hX : bdX σ N) : ∃ τ, m_Week_takeFrom [0, 0] σ = some (0, τ) ∧ fr [8704, 8768] σ τ ∧ (∀ r, r < 10 → τ 8704 r = σ 576 r) ∧ (∀ d, d < 7 → τ 8768 d = N (110 + d)) := by
  have main : ok (m_Week_takeFrom [0, 0] σ) (fun r => r.1 = 0 ∧ r.2 = fun v i => if v = 8704 ∧ i < 10 then σ 576 i else if v = 8768 ∧ i < 7 then N (110 + i) else σ v i) := by
    generalize hQ : (fun v i => if v = 8704 ∧ i < 10 then σ 576 i else if v = 8768 ∧ i < 7 then N (110 + i) else σ v i) = Q
    simp only [m_Week_takeFrom, b_Week_takeFrom]
    simp (disch := first | decide | omega) only [cE_K, vE_K, gE_K, o1K_0, o1K_i, o1_K, o2L_0, o2L_i, o2K_0, o2K_i, o2_K, thK_0, thK_i, th_K, dvL_0, dvL_i, dvK_0, dvK_i, dv_K, rmL_0, rmL_i, rmK_0, rmK_i, rm_K, dlL_0, dlL_i, dlK_0, dlK_i, dl_K, ldQ_0, ldQ_i, ldL_0, ldL_i, ldK_0, ldK_i, ld_K, kK_0, kK_i, k_K, aL_0, aL_i, aK_0, aK_i, aE_0, aE_1, clK_0, clK_i, cl_K, cBL_0, cBL_i, cBK_0, cBK_i, cB_K, zBK_0, zBK_i, zB_K, nBK_0, nBK_i, nB_K, andK_0, andK_i, and_K, orK_0, orK_i, or_K, tkK_0, tkK_i, tk_K, sk_K, stK_0, stK_i, st_K, exK_0, exK_i, ex_K, in_K, pfL_0, pfL_i, pfK_0, pfK_i, pf_K, pzL_0, pzL_i, pzK_0, pzK_i, pz_K, poL_0, poL_i, poK_0, poK_i, po_K, asQ_0, asQ_i, asM_0, asM_i, asL_0, asL_i, asK_0, asK_i, as_K, aoM_0, aoM_i, aoQ_0, aoQ_i, aoL_0, aoL_i, aoK_0, aoK_i, ao_K, sqK_0, sqK_1, sqK_2, sqK_3, sqK_4, sqK_i, sq_K, swK_0, swK_1, swK_2, swK_3, swK_4, swK_i, sw_K, ifK_0, ifK_i, if_K, br_K, ct_K, rv_K, thr_K, rtK_0, rtK_i, rt_K, mfK_0, mfK_i, mf_K, mzK_i, mzK_0, mz_K, cpK_0, cpT_0, cp_K, tsK_0, tsK_i, ts_K, tsP_hit, tsP_next, tsP_low, tsP_nil, ini_0, ini_1, rdU_0, rdU_i, rdB_0, rdB_1, rdB_2, rdB_3, rdB_4, rdB_i, rdC_0, rdC_i, rnd_K, cmpI, addI, subI, mulI, i2lI, l2iI, minI, maxI, idI, up, ok_some, ok_ite, w32_id, ix_id, Int.toNat_add, Int.toNat_mul, ltI_t, ltI_f, leI_t, leI_f, eqI_t, eqI_f, u2_s, u2_v, u2_i, w3_m2, w3_m1, w3_0, w3_1, w3_2, w3_3, w3_4, w3_5, w3_6, w3_7, w3_8, w3_9, w3_10, w3_12, w3_20, w3_23, w3_24, w3_25, w3_32, w3_40, w3_50, w3_100, w3_120, w3_168, w3_200, w3_240, w3_255, w3_500, w3_592, w3_600, w3_900, w3_940, w3_999, w3_1000, w3_1009, w3_1184, w3_3333, w3_9999, if_true, if_false, reduceIte, true_and, and_true, false_and, and_false, true_or, or_true, false_or, or_false, not_true_eq_false, not_false_eq_true, decide_true, decide_false, decide_eq_true_eq, Bool.not_true, Bool.not_false, Bool.false_eq_true, Bool.not_eq_true', Bool.not_eq_eq_eq_not, decide_eq_false_iff_not, Int.not_lt, Int.not_le, Nat.not_le, Nat.not_lt, Nat.le_refl, Int.le_refl, Nat.lt_irrefl, Int.lt_irrefl, reduceCtorEq, Nat.reduceEqDiff, Nat.reduceAdd, Nat.reduceMul, Nat.reduceBEq, Int.reduceNeg, Int.reduceAdd, Int.toNat_natCast, Int.reduceToNat, ne_eq, Nat.zero_ne_one, true_or, Int.ofNat_lt, Int.ofNat_le, Int.natCast_add, Int.cast_ofNat_Int, Int.natCast_zero]
    obtain ⟨I, hI⟩ : ∃ I : Nat → Lo → Me → Prop, ∀ n ρ s, I n ρ s ↔ (ρ 2 = n ∧ s = fun v i => if v = 8704 ∧ i < 10 then σ 576 i else if v = 8768 ∧ i < n then N (110 + i) else σ v i) := ⟨fun n ρ s => ρ 2 = n ∧ s = fun v i => if v = 8704 ∧ i < 10 then σ 576 i else if v = 8768 ∧ i < n then N (110 + i) else σ v i, fun _ _ _ => Iff.rfl⟩
    refine ok_mfK (ok_sqK (wh_gen I 7 (by omega) ((hI _ _ _).mpr ⟨by simp [up], by funext v i; simp [cpM]⟩) ?_))
    intro n ρ s hn hIn
    obtain ⟨g1, hs⟩ := (hI _ _ _).mp hIn
    rcases Nat.lt_or_eq_of_le hn with hn | rfl
    · obtain ⟨f1, f2, f3⟩ := hX.2.1 n hn
      have e := River_flowOn_eq (σ := s) (d := n) (f := σ 1152 n) hn (by rw [hs]; simp) f1 f2
      rw [f3] at e
      simp (disch := first | decide | omega) only [cE_K, vE_K, gE_K, o1K_0, o1K_i, o1_K, o2L_0, o2L_i, o2K_0, o2K_i, o2_K, thK_0, thK_i, th_K, dvL_0, dvL_i, dvK_0, dvK_i, dv_K, rmL_0, rmL_i, rmK_0, rmK_i, rm_K, dlL_0, dlL_i, dlK_0, dlK_i, dl_K, ldQ_0, ldQ_i, ldL_0, ldL_i, ldK_0, ldK_i, ld_K, kK_0, kK_i, k_K, aL_0, aL_i, aK_0, aK_i, aE_0, aE_1, clK_0, clK_i, cl_K, cBL_0, cBL_i, cBK_0, cBK_i, cB_K, zBK_0, zBK_i, zB_K, nBK_0, nBK_i, nB_K, andK_0, andK_i, and_K, orK_0, orK_i, or_K, tkK_0, tkK_i, tk_K, sk_K, stK_0, stK_i, st_K, exK_0, exK_i, ex_K, in_K, pfL_0, pfL_i, pfK_0, pfK_i, pf_K, pzL_0, pzL_i, pzK_0, pzK_i, pz_K, poL_0, poL_i, poK_0, poK_i, po_K, asQ_0, asQ_i, asM_0, asM_i, asL_0, asL_i, asK_0, asK_i, as_K, aoM_0, aoM_i, aoQ_0, aoQ_i, aoL_0, aoL_i, aoK_0, aoK_i, ao_K, sqK_0, sqK_1, sqK_2, sqK_3, sqK_4, sqK_i, sq_K, swK_0, swK_1, swK_2, swK_3, swK_4, swK_i, sw_K, ifK_0, ifK_i, if_K, br_K, ct_K, rv_K, thr_K, rtK_0, rtK_i, rt_K, mfK_0, mfK_i, mf_K, mzK_i, mzK_0, mz_K, cpK_0, cpT_0, cp_K, tsK_0, tsK_i, ts_K, tsP_hit, tsP_next, tsP_low, tsP_nil, ini_0, ini_1, rdU_0, rdU_i, rdB_0, rdB_1, rdB_2, rdB_3, rdB_4, rdB_i, rdC_0, rdC_i, rnd_K, cmpI, addI, subI, mulI, i2lI, l2iI, minI, maxI, idI, up, ok_some, ok_ite, w32_id, ix_id, Int.toNat_add, Int.toNat_mul, ltI_t, ltI_f, leI_t, leI_f, eqI_t, eqI_f, u2_s, u2_v, u2_i, w3_m2, w3_m1, w3_0, w3_1, w3_2, w3_3, w3_4, w3_5, w3_6, w3_7, w3_8, w3_9, w3_10, w3_12, w3_20, w3_23, w3_24, w3_25, w3_32, w3_40, w3_50, w3_100, w3_120, w3_168, w3_200, w3_240, w3_255, w3_500, w3_592, w3_600, w3_900, w3_940, w3_999, w3_1000, w3_1009, w3_1184, w3_3333, w3_9999, if_true, if_false, reduceIte, true_and, and_true, false_and, and_false, true_or, or_true, false_or, or_false, not_true_eq_false, not_false_eq_true, decide_true, decide_false, decide_eq_true_eq, Bool.not_true, Bool.not_false, Bool.false_eq_true, Bool.not_eq_true', Bool.not_eq_eq_eq_not, decide_eq_false_iff_not, Int.not_lt, Int.not_le, Nat.not_le, Nat.not_lt, Nat.le_refl, Int.le_refl, Nat.lt_irrefl, Int.lt_irrefl, reduceCtorEq, Nat.reduceEqDiff, Nat.reduceAdd, Nat.reduceMul, Nat.reduceBEq, Int.reduceNeg, Int.reduceAdd, Int.toNat_natCast, Int.reduceToNat, ne_eq, Nat.zero_ne_one, true_or, Int.ofNat_lt, Int.ofNat_le, Int.natCast_add, Int.cast_ofNat_Int, Int.natCast_zero, g1, e]
      refine ⟨hn, (hI _ _ _).mpr ⟨by simp [up], ?_⟩⟩
      rw [hs]
      funext v i
      simp only [u2]
      clear hI hQ hIn hs hX e f3
      grind
    · simp (disch := first | decide | omega) only [cE_K, vE_K, gE_K, o1K_0, o1K_i, o1_K, o2L_0, o2L_i, o2K_0, o2K_i, o2_K, thK_0, thK_i, th_K, dvL_0, dvL_i, dvK_0, dvK_i, dv_K, rmL_0, rmL_i, rmK_0, rmK_i, rm_K, dlL_0, dlL_i, dlK_0, dlK_i, dl_K, ldQ_0, ldQ_i, ldL_0, ldL_i, ldK_0, ldK_i, ld_K, kK_0, kK_i, k_K, aL_0, aL_i, aK_0, aK_i, aE_0, aE_1, clK_0, clK_i, cl_K, cBL_0, cBL_i, cBK_0, cBK_i, cB_K, zBK_0, zBK_i, zB_K, nBK_0, nBK_i, nB_K, andK_0, andK_i, and_K, orK_0, orK_i, or_K, tkK_0, tkK_i, tk_K, sk_K, stK_0, stK_i, st_K, exK_0, exK_i, ex_K, in_K, pfL_0, pfL_i, pfK_0, pfK_i, pf_K, pzL_0, pzL_i, pzK_0, pzK_i, pz_K, poL_0, poL_i, poK_0, poK_i, po_K, asQ_0, asQ_i, asM_0, asM_i, asL_0, asL_i, asK_0, asK_i, as_K, aoM_0, aoM_i, aoQ_0, aoQ_i, aoL_0, aoL_i, aoK_0, aoK_i, ao_K, sqK_0, sqK_1, sqK_2, sqK_3, sqK_4, sqK_i, sq_K, swK_0, swK_1, swK_2, swK_3, swK_4, swK_i, sw_K, ifK_0, ifK_i, if_K, br_K, ct_K, rv_K, thr_K, rtK_0, rtK_i, rt_K, mfK_0, mfK_i, mf_K, mzK_i, mzK_0, mz_K, cpK_0, cpT_0, cp_K, tsK_0, tsK_i, ts_K, tsP_hit, tsP_next, tsP_low, tsP_nil, ini_0, ini_1, rdU_0, rdU_i, rdB_0, rdB_1, rdB_2, rdB_3, rdB_4, rdB_i, rdC_0, rdC_i, rnd_K, cmpI, addI, subI, mulI, i2lI, l2iI, minI, maxI, idI, up, ok_some, ok_ite, w32_id, ix_id, Int.toNat_add, Int.toNat_mul, ltI_t, ltI_f, leI_t, leI_f, eqI_t, eqI_f, u2_s, u2_v, u2_i, w3_m2, w3_m1, w3_0, w3_1, w3_2, w3_3, w3_4, w3_5, w3_6, w3_7, w3_8, w3_9, w3_10, w3_12, w3_20, w3_23, w3_24, w3_25, w3_32, w3_40, w3_50, w3_100, w3_120, w3_168, w3_200, w3_240, w3_255, w3_500, w3_592, w3_600, w3_900, w3_940, w3_999, w3_1000, w3_1009, w3_1184, w3_3333, w3_9999, if_true, if_false, reduceIte, true_and, and_true, false_and, and_false, true_or, or_true, false_or, or_false, not_true_eq_false, not_false_eq_true, decide_true, decide_false, decide_eq_true_eq, Bool.not_true, Bool.not_false, Bool.false_eq_true, Bool.not_eq_true', Bool.not_eq_eq_eq_not, decide_eq_false_iff_not, Int.not_lt, Int.not_le, Nat.not_le, Nat.not_lt, Nat.le_refl, Int.le_refl, Nat.lt_irrefl, Int.lt_irrefl, reduceCtorEq, Nat.reduceEqDiff, Nat.reduceAdd, Nat.reduceMul, Nat.reduceBEq, Int.reduceNeg, Int.reduceAdd, Int.toNat_natCast, Int.reduceToNat, ne_eq, Nat.zero_ne_one, true_or, Int.ofNat_lt, Int.ofNat_le, Int.natCast_add, Int.cast_ofNat_Int, Int.natCast_zero, g1]
      rw [hs]
      exact hQ
  obtain ⟨⟨r1, r2⟩, h1, h2, h3⟩ := main
  simp only at h2 h3
  subst h2
  refine ⟨r2, h1, ?_, fun r hr => by rw [h3]; simp [hr], fun d hd => by rw [h3]; simp [hd]⟩
  intro v hv
  simp only [List.mem_cons, List.not_mem_nil, or_false, not_or] at hv
  rw [h3]
  funext i
  simp [hv]
theorem prepare_ok {σ : Me} {N : Nat → Int} (hX : bdX σ N) (hN : rvN N) (hB : blN N) : ∃ τ, m_Week_prepare [0, 0, 0] σ = some (0, τ) ∧ fr [8704, 8768, 8832] σ τ ∧ (∀ r : Nat, (r : Int) < N 0 → τ 8704 r = N (10 + 2 * r)) ∧ (∀ d, d < 7 → τ 8768 d = N (110 + d)) ∧ (∀ h, h < 168 → τ 8832 h = wsN N (-1) h) := by
  obtain ⟨s1, p1, f1, v1, l1⟩ := takeFrom_ok hX
  have p2 := rest_eq (σ := s1)
  generalize hs2 : (fun v i => if v = 8832 ∧ i < 168 then 0 else s1 v i) = s2 at p2
  obtain ⟨K, hK⟩ : ∃ K : Nat, N 160 = K := ⟨(N 160).toNat, by have := hB.1; omega⟩
  have h40 : K ≤ 40 := by have := hB.1; omega
  have h6 := hN.1.2.2.1
  have lo2 : ∀ v, v ≠ 8704 → v ≠ 8768 → v ≠ 8832 → s2 v = σ v := fun v h1 h2 h3 => by
    rw [← f1 v (by simp [h1, h2]), ← hs2]
    funext i
    simp [h3]
  have main : ok (m_Week_prepare [0, 0, 0] σ) (fun r => r.1 = 0 ∧ r.2 = fun v i => if v = 8832 ∧ i < 168 then wkF (fun k => N (161 + 3 * k)) (fun k => N (162 + 3 * k)) (fun k => N (163 + 3 * k)) (-1) K i else s2 v i) := by
    generalize hQ : (fun v i => if v = 8832 ∧ i < 168 then wkF (fun k => N (161 + 3 * k)) (fun k => N (162 + 3 * k)) (fun k => N (163 + 3 * k)) (-1) K i else s2 v i) = Q
    simp only [m_Week_prepare, b_Week_prepare]
    simp (disch := first | decide | omega) only [cE_K, vE_K, gE_K, o1K_0, o1K_i, o1_K, o2L_0, o2L_i, o2K_0, o2K_i, o2_K, thK_0, thK_i, th_K, dvL_0, dvL_i, dvK_0, dvK_i, dv_K, rmL_0, rmL_i, rmK_0, rmK_i, rm_K, dlL_0, dlL_i, dlK_0, dlK_i, dl_K, ldQ_0, ldQ_i, ldL_0, ldL_i, ldK_0, ldK_i, ld_K, kK_0, kK_i, k_K, aL_0, aL_i, aK_0, aK_i, aE_0, aE_1, clK_0, clK_i, cl_K, cBL_0, cBL_i, cBK_0, cBK_i, cB_K, zBK_0, zBK_i, zB_K, nBK_0, nBK_i, nB_K, andK_0, andK_i, and_K, orK_0, orK_i, or_K, tkK_0, tkK_i, tk_K, sk_K, stK_0, stK_i, st_K, exK_0, exK_i, ex_K, in_K, pfL_0, pfL_i, pfK_0, pfK_i, pf_K, pzL_0, pzL_i, pzK_0, pzK_i, pz_K, poL_0, poL_i, poK_0, poK_i, po_K, asQ_0, asQ_i, asM_0, asM_i, asL_0, asL_i, asK_0, asK_i, as_K, aoM_0, aoM_i, aoQ_0, aoQ_i, aoL_0, aoL_i, aoK_0, aoK_i, ao_K, sqK_0, sqK_1, sqK_2, sqK_3, sqK_4, sqK_i, sq_K, swK_0, swK_1, swK_2, swK_3, swK_4, swK_i, sw_K, ifK_0, ifK_i, if_K, br_K, ct_K, rv_K, thr_K, rtK_0, rtK_i, rt_K, mfK_0, mfK_i, mf_K, mzK_i, mzK_0, mz_K, cpK_0, cpT_0, cp_K, tsK_0, tsK_i, ts_K, tsP_hit, tsP_next, tsP_low, tsP_nil, ini_0, ini_1, rdU_0, rdU_i, rdB_0, rdB_1, rdB_2, rdB_3, rdB_4, rdB_i, rdC_0, rdC_i, rnd_K, cmpI, addI, subI, mulI, i2lI, l2iI, minI, maxI, idI, up, ok_some, ok_ite, w32_id, ix_id, Int.toNat_add, Int.toNat_mul, ltI_t, ltI_f, leI_t, leI_f, eqI_t, eqI_f, u2_s, u2_v, u2_i, w3_m2, w3_m1, w3_0, w3_1, w3_2, w3_3, w3_4, w3_5, w3_6, w3_7, w3_8, w3_9, w3_10, w3_12, w3_20, w3_23, w3_24, w3_25, w3_32, w3_40, w3_50, w3_100, w3_120, w3_168, w3_200, w3_240, w3_255, w3_500, w3_592, w3_600, w3_900, w3_940, w3_999, w3_1000, w3_1009, w3_1184, w3_3333, w3_9999, if_true, if_false, reduceIte, true_and, and_true, false_and, and_false, true_or, or_true, false_or, or_false, not_true_eq_false, not_false_eq_true, decide_true, decide_false, decide_eq_true_eq, Bool.not_true, Bool.not_false, Bool.false_eq_true, Bool.not_eq_true', Bool.not_eq_eq_eq_not, decide_eq_false_iff_not, Int.not_lt, Int.not_le, Nat.not_le, Nat.not_lt, Nat.le_refl, Int.le_refl, Nat.lt_irrefl, Int.lt_irrefl, reduceCtorEq, Nat.reduceEqDiff, Nat.reduceAdd, Nat.reduceMul, Nat.reduceBEq, Int.reduceNeg, Int.reduceAdd, Int.toNat_natCast, Int.reduceToNat, ne_eq, Nat.zero_ne_one, true_or, Int.ofNat_lt, Int.ofNat_le, Int.natCast_add, Int.cast_ofNat_Int, Int.natCast_zero, p1, p2]
    obtain ⟨I, hI⟩ : ∃ I : Nat → Lo → Me → Prop, ∀ n ρ s, I n ρ s ↔ (ρ 3 = n ∧ s = fun v i => if v = 8832 ∧ i < 168 then wkF (fun k => N (161 + 3 * k)) (fun k => N (162 + 3 * k)) (fun k => N (163 + 3 * k)) (-1) n i else s2 v i) := ⟨fun n ρ s => ρ 3 = n ∧ s = fun v i => if v = 8832 ∧ i < 168 then wkF (fun k => N (161 + 3 * k)) (fun k => N (162 + 3 * k)) (fun k => N (163 + 3 * k)) (-1) n i else s2 v i, fun _ _ _ => Iff.rfl⟩
    refine ok_mfK (ok_sqK (wh_gen I K (by omega) ((hI _ _ _).mpr ⟨by simp [up], by rw [← hs2]; funext v i; simp only [wkF]; grind⟩) ?_))
    intro n ρ s hn hIn
    obtain ⟨g1, hs⟩ := (hI _ _ _).mp hIn
    have a1 : s 1408 0 = K := by rw [hs]; simp; rw [lo2 _ (by decide) (by decide) (by decide), hX.2.2.1, hK]
    rcases Nat.lt_or_eq_of_le hn with hn | rfl
    · obtain ⟨x1, x2, x3⟩ := hX.2.2.2 n (by omega)
      obtain ⟨y1, y2, y3, y4, y5, y6⟩ := hB.2 n (by omega)
      have a2 : s 1472 n = N (161 + 3 * n) := by rw [hs]; simp; rw [lo2 _ (by decide) (by decide) (by decide), x1]
      have a3 : s 1536 n = N (162 + 3 * n) := by rw [hs]; simp; rw [lo2 _ (by decide) (by decide) (by decide), x2]
      have a4 : s 1600 n = N (163 + 3 * n) := by rw [hs]; simp; rw [lo2 _ (by decide) (by decide) (by decide), x3]
      obtain ⟨A, hA⟩ : ∃ A : Nat, N (161 + 3 * n) = A := ⟨(N (161 + 3 * n)).toNat, by omega⟩
      obtain ⟨g, hg⟩ : ∃ g : Nat, N (162 + 3 * n) = g := ⟨(N (162 + 3 * n)).toNat, by omega⟩
      obtain ⟨H, hH⟩ : ∃ H : Nat, N (163 + 3 * n) = H := ⟨(N (163 + 3 * n)).toNat, by omega⟩
      have e := setWork_ok (σ := s) (g := g) (A := A) (H := H) (by omega) (by omega) (by omega)
      rw [hA] at a2
      rw [hg] at a3
      rw [hH] at a4
      simp (disch := first | decide | omega) only [cE_K, vE_K, gE_K, o1K_0, o1K_i, o1_K, o2L_0, o2L_i, o2K_0, o2K_i, o2_K, thK_0, thK_i, th_K, dvL_0, dvL_i, dvK_0, dvK_i, dv_K, rmL_0, rmL_i, rmK_0, rmK_i, rm_K, dlL_0, dlL_i, dlK_0, dlK_i, dl_K, ldQ_0, ldQ_i, ldL_0, ldL_i, ldK_0, ldK_i, ld_K, kK_0, kK_i, k_K, aL_0, aL_i, aK_0, aK_i, aE_0, aE_1, clK_0, clK_i, cl_K, cBL_0, cBL_i, cBK_0, cBK_i, cB_K, zBK_0, zBK_i, zB_K, nBK_0, nBK_i, nB_K, andK_0, andK_i, and_K, orK_0, orK_i, or_K, tkK_0, tkK_i, tk_K, sk_K, stK_0, stK_i, st_K, exK_0, exK_i, ex_K, in_K, pfL_0, pfL_i, pfK_0, pfK_i, pf_K, pzL_0, pzL_i, pzK_0, pzK_i, pz_K, poL_0, poL_i, poK_0, poK_i, po_K, asQ_0, asQ_i, asM_0, asM_i, asL_0, asL_i, asK_0, asK_i, as_K, aoM_0, aoM_i, aoQ_0, aoQ_i, aoL_0, aoL_i, aoK_0, aoK_i, ao_K, sqK_0, sqK_1, sqK_2, sqK_3, sqK_4, sqK_i, sq_K, swK_0, swK_1, swK_2, swK_3, swK_4, swK_i, sw_K, ifK_0, ifK_i, if_K, br_K, ct_K, rv_K, thr_K, rtK_0, rtK_i, rt_K, mfK_0, mfK_i, mf_K, mzK_i, mzK_0, mz_K, cpK_0, cpT_0, cp_K, tsK_0, tsK_i, ts_K, tsP_hit, tsP_next, tsP_low, tsP_nil, ini_0, ini_1, rdU_0, rdU_i, rdB_0, rdB_1, rdB_2, rdB_3, rdB_4, rdB_i, rdC_0, rdC_i, rnd_K, cmpI, addI, subI, mulI, i2lI, l2iI, minI, maxI, idI, up, ok_some, ok_ite, w32_id, ix_id, Int.toNat_add, Int.toNat_mul, ltI_t, ltI_f, leI_t, leI_f, eqI_t, eqI_f, u2_s, u2_v, u2_i, w3_m2, w3_m1, w3_0, w3_1, w3_2, w3_3, w3_4, w3_5, w3_6, w3_7, w3_8, w3_9, w3_10, w3_12, w3_20, w3_23, w3_24, w3_25, w3_32, w3_40, w3_50, w3_100, w3_120, w3_168, w3_200, w3_240, w3_255, w3_500, w3_592, w3_600, w3_900, w3_940, w3_999, w3_1000, w3_1009, w3_1184, w3_3333, w3_9999, if_true, if_false, reduceIte, true_and, and_true, false_and, and_false, true_or, or_true, false_or, or_false, not_true_eq_false, not_false_eq_true, decide_true, decide_false, decide_eq_true_eq, Bool.not_true, Bool.not_false, Bool.false_eq_true, Bool.not_eq_true', Bool.not_eq_eq_eq_not, decide_eq_false_iff_not, Int.not_lt, Int.not_le, Nat.not_le, Nat.not_lt, Nat.le_refl, Int.le_refl, Nat.lt_irrefl, Int.lt_irrefl, reduceCtorEq, Nat.reduceEqDiff, Nat.reduceAdd, Nat.reduceMul, Nat.reduceBEq, Int.reduceNeg, Int.reduceAdd, Int.toNat_natCast, Int.reduceToNat, ne_eq, Nat.zero_ne_one, true_or, Int.ofNat_lt, Int.ofNat_le, Int.natCast_add, Int.cast_ofNat_Int, Int.natCast_zero, g1, a1, a2, a3, a4, e]
      refine ⟨hn, (hI _ _ _).mpr ⟨by simp [up], ?_⟩⟩
      rw [hs]
      funext v i
      have hne : ¬ ((g : Int) = -1) := by omega
      simp only [wkF, hA, hg, hH, ne_eq, hne, not_false_eq_true, true_and]
      by_cases hv : v = 8832
      · by_cases hi : i < 168
        · by_cases hc : (A : Int) ≤ i ∧ (i : Int) < A + H
          · subst hv
            rw [if_pos ⟨rfl, by omega, by omega, hi⟩]
            simp [hi, hc]
          · rw [if_neg (by omega), if_pos ⟨hv, hi⟩, if_pos ⟨hv, hi⟩, if_neg hc]
        · simp [hi]
      · simp [hv]
    · simp (disch := first | decide | omega) only [cE_K, vE_K, gE_K, o1K_0, o1K_i, o1_K, o2L_0, o2L_i, o2K_0, o2K_i, o2_K, thK_0, thK_i, th_K, dvL_0, dvL_i, dvK_0, dvK_i, dv_K, rmL_0, rmL_i, rmK_0, rmK_i, rm_K, dlL_0, dlL_i, dlK_0, dlK_i, dl_K, ldQ_0, ldQ_i, ldL_0, ldL_i, ldK_0, ldK_i, ld_K, kK_0, kK_i, k_K, aL_0, aL_i, aK_0, aK_i, aE_0, aE_1, clK_0, clK_i, cl_K, cBL_0, cBL_i, cBK_0, cBK_i, cB_K, zBK_0, zBK_i, zB_K, nBK_0, nBK_i, nB_K, andK_0, andK_i, and_K, orK_0, orK_i, or_K, tkK_0, tkK_i, tk_K, sk_K, stK_0, stK_i, st_K, exK_0, exK_i, ex_K, in_K, pfL_0, pfL_i, pfK_0, pfK_i, pf_K, pzL_0, pzL_i, pzK_0, pzK_i, pz_K, poL_0, poL_i, poK_0, poK_i, po_K, asQ_0, asQ_i, asM_0, asM_i, asL_0, asL_i, asK_0, asK_i, as_K, aoM_0, aoM_i, aoQ_0, aoQ_i, aoL_0, aoL_i, aoK_0, aoK_i, ao_K, sqK_0, sqK_1, sqK_2, sqK_3, sqK_4, sqK_i, sq_K, swK_0, swK_1, swK_2, swK_3, swK_4, swK_i, sw_K, ifK_0, ifK_i, if_K, br_K, ct_K, rv_K, thr_K, rtK_0, rtK_i, rt_K, mfK_0, mfK_i, mf_K, mzK_i, mzK_0, mz_K, cpK_0, cpT_0, cp_K, tsK_0, tsK_i, ts_K, tsP_hit, tsP_next, tsP_low, tsP_nil, ini_0, ini_1, rdU_0, rdU_i, rdB_0, rdB_1, rdB_2, rdB_3, rdB_4, rdB_i, rdC_0, rdC_i, rnd_K, cmpI, addI, subI, mulI, i2lI, l2iI, minI, maxI, idI, up, ok_some, ok_ite, w32_id, ix_id, Int.toNat_add, Int.toNat_mul, ltI_t, ltI_f, leI_t, leI_f, eqI_t, eqI_f, u2_s, u2_v, u2_i, w3_m2, w3_m1, w3_0, w3_1, w3_2, w3_3, w3_4, w3_5, w3_6, w3_7, w3_8, w3_9, w3_10, w3_12, w3_20, w3_23, w3_24, w3_25, w3_32, w3_40, w3_50, w3_100, w3_120, w3_168, w3_200, w3_240, w3_255, w3_500, w3_592, w3_600, w3_900, w3_940, w3_999, w3_1000, w3_1009, w3_1184, w3_3333, w3_9999, if_true, if_false, reduceIte, true_and, and_true, false_and, and_false, true_or, or_true, false_or, or_false, not_true_eq_false, not_false_eq_true, decide_true, decide_false, decide_eq_true_eq, Bool.not_true, Bool.not_false, Bool.false_eq_true, Bool.not_eq_true', Bool.not_eq_eq_eq_not, decide_eq_false_iff_not, Int.not_lt, Int.not_le, Nat.not_le, Nat.not_lt, Nat.le_refl, Int.le_refl, Nat.lt_irrefl, Int.lt_irrefl, reduceCtorEq, Nat.reduceEqDiff, Nat.reduceAdd, Nat.reduceMul, Nat.reduceBEq, Int.reduceNeg, Int.reduceAdd, Int.toNat_natCast, Int.reduceToNat, ne_eq, Nat.zero_ne_one, true_or, Int.ofNat_lt, Int.ofNat_le, Int.natCast_add, Int.cast_ofNat_Int, Int.natCast_zero, g1, a1]
      rw [hs]
      exact hQ
  obtain ⟨⟨r1, r2⟩, h1, h2, h3⟩ := main
  simp only at h2 h3
  subst h2
  have h10 := hN.1.1
  refine ⟨r2, h1, ?_, fun r hr => ?_, fun d hd => ?_, fun h hh => ?_⟩
  · intro v hv
    simp only [List.mem_cons, List.not_mem_nil, or_false, not_or] at hv
    rw [h3, ← lo2 v hv.1 hv.2.1 hv.2.2]
    funext i
    simp [hv.2.2]
  · rw [h3, ← hX.1 r hr, ← v1 r (by omega), ← hs2]
    simp
  · rw [h3, ← l1 d hd, ← hs2]
    simp
  · rw [h3]
    simp [hh, wsN, hK]
def bitsF (b : Nat → Bool) : Nat → Int
  | 0 => 0
  | u + 1 => if b u = true then iorI (bitsF b u) (shlI 1 u) else bitsF b u
theorem bitsF_bt {b : Nat → Bool} {U : Nat} (hU : U ≤ 32) : ∀ g : Nat, g < 32 → bt (bitsF b U) g = (decide (g < U) && b g) := by
  induction U with
  | zero => intro g hg; rw [bitsF, bt_0 hg]; simp
  | succ U ih =>
    intro g hg
    rw [bitsF]
    by_cases hb : b U = true
    · rw [if_pos hb, bt_or hg, bt_shl1 (by omega) hg, ih (by omega) g hg]
      by_cases e : g = U
      · subst e; simp [hb]
      · have : (g < U + 1) ↔ (g < U) := by omega
        simp [e, this]
    · rw [if_neg hb, ih (by omega) g hg]
      by_cases e : g = U
      · subst e; simp at hb; simp [hb]
      · have : (g < U + 1) ↔ (g < U) := by omega
        simp [this]
def pcI (x0 : Int) : Int :=
  let x1 := x0 - andI (usrI x0 1) 1431655765
  let x2 := andI x1 858993459 + andI (usrI x1 2) 858993459
  let x3 := andI (x2 + usrI x2 4) 252645135
  let x4 := x3 + usrI x3 8
  let x5 := x4 + usrI x4 16
  andI x5 63
theorem bitCount_eq {x : Int} {σ : Me} : m_Integer_bitCount [x] σ = some (pcI x, σ) := by
  simp only [m_Integer_bitCount, b_Integer_bitCount]
  simp (disch := first | decide | omega) only [cE_K, vE_K, gE_K, o1K_0, o1K_i, o1_K, o2L_0, o2L_i, o2K_0, o2K_i, o2_K, thK_0, thK_i, th_K, dvL_0, dvL_i, dvK_0, dvK_i, dv_K, rmL_0, rmL_i, rmK_0, rmK_i, rm_K, dlL_0, dlL_i, dlK_0, dlK_i, dl_K, ldQ_0, ldQ_i, ldL_0, ldL_i, ldK_0, ldK_i, ld_K, kK_0, kK_i, k_K, aL_0, aL_i, aK_0, aK_i, aE_0, aE_1, clK_0, clK_i, cl_K, cBL_0, cBL_i, cBK_0, cBK_i, cB_K, zBK_0, zBK_i, zB_K, nBK_0, nBK_i, nB_K, andK_0, andK_i, and_K, orK_0, orK_i, or_K, tkK_0, tkK_i, tk_K, sk_K, stK_0, stK_i, st_K, exK_0, exK_i, ex_K, in_K, pfL_0, pfL_i, pfK_0, pfK_i, pf_K, pzL_0, pzL_i, pzK_0, pzK_i, pz_K, poL_0, poL_i, poK_0, poK_i, po_K, asQ_0, asQ_i, asM_0, asM_i, asL_0, asL_i, asK_0, asK_i, as_K, aoM_0, aoM_i, aoQ_0, aoQ_i, aoL_0, aoL_i, aoK_0, aoK_i, ao_K, sqK_0, sqK_1, sqK_2, sqK_3, sqK_4, sqK_i, sq_K, swK_0, swK_1, swK_2, swK_3, swK_4, swK_i, sw_K, ifK_0, ifK_i, if_K, br_K, ct_K, rv_K, thr_K, rtK_0, rtK_i, rt_K, mfK_0, mfK_i, mf_K, mzK_i, mzK_0, mz_K, cpK_0, cpT_0, cp_K, tsK_0, tsK_i, ts_K, tsP_hit, tsP_next, tsP_low, tsP_nil, ini_0, ini_1, rdU_0, rdU_i, rdB_0, rdB_1, rdB_2, rdB_3, rdB_4, rdB_i, rdC_0, rdC_i, rnd_K, cmpI, addI, subI, mulI, i2lI, l2iI, minI, maxI, idI, up, ok_some, ok_ite, w32_id, ix_id, Int.toNat_add, Int.toNat_mul, ltI_t, ltI_f, leI_t, leI_f, eqI_t, eqI_f, u2_s, u2_v, u2_i, w3_m2, w3_m1, w3_0, w3_1, w3_2, w3_3, w3_4, w3_5, w3_6, w3_7, w3_8, w3_9, w3_10, w3_12, w3_20, w3_23, w3_24, w3_25, w3_32, w3_40, w3_50, w3_100, w3_120, w3_168, w3_200, w3_240, w3_255, w3_500, w3_592, w3_600, w3_900, w3_940, w3_999, w3_1000, w3_1009, w3_1184, w3_3333, w3_9999, if_true, if_false, reduceIte, true_and, and_true, false_and, and_false, true_or, or_true, false_or, or_false, not_true_eq_false, not_false_eq_true, decide_true, decide_false, decide_eq_true_eq, Bool.not_true, Bool.not_false, Bool.false_eq_true, Bool.not_eq_true', Bool.not_eq_eq_eq_not, decide_eq_false_iff_not, Int.not_lt, Int.not_le, Nat.not_le, Nat.not_lt, Nat.le_refl, Int.le_refl, Nat.lt_irrefl, Int.lt_irrefl, reduceCtorEq, Nat.reduceEqDiff, Nat.reduceAdd, Nat.reduceMul, Nat.reduceBEq, Int.reduceNeg, Int.reduceAdd, Int.toNat_natCast, Int.reduceToNat, ne_eq, Nat.zero_ne_one, true_or, Int.ofNat_lt, Int.ofNat_le, Int.natCast_add, Int.cast_ofNat_Int, Int.natCast_zero]
  rfl
def pc6 (a b c d e f : Bool) : Int :=
  let y0 : Int := if a = true then iorI 0 (shlI 1 0) else 0
  let y1 : Int := if b = true then iorI y0 (shlI 1 1) else y0
  let y2 : Int := if c = true then iorI y1 (shlI 1 2) else y1
  let y3 : Int := if d = true then iorI y2 (shlI 1 3) else y2
  let y4 : Int := if e = true then iorI y3 (shlI 1 4) else y3
  if f = true then iorI y4 (shlI 1 5) else y4
theorem pc6_eq : ∀ a b c d e f : Bool, pcI (pc6 a b c d e f) = z1 a + z1 b + z1 c + z1 d + z1 e + z1 f := by decide +kernel
theorem bitsF_cut {b : Nat → Bool} {U : Nat} : ∀ k, U ≤ k → bitsF (fun u => decide (u < U) && b u) k = bitsF b U := by
  have e : ∀ n, n ≤ U → bitsF (fun u => decide (u < U) && b u) n = bitsF b n := by
    intro n
    induction n with
    | zero => intro _; rfl
    | succ n ih =>
      intro hn
      have : n < U := by omega
      simp [bitsF, ih (by omega), this]
  intro k
  induction k with
  | zero => intro hk; exact e 0 (by omega) ▸ (by have : U = 0 := by omega
                                                 subst this; rfl)
  | succ k ih =>
    intro hk
    by_cases hU : U = k + 1
    · subst hU; exact e _ (Nat.le_refl _)
    · have : ¬ k < U := by omega
      rw [bitsF]
      simp [this, ih (by omega)]
theorem sm_cut {b : Nat → Bool} {U : Nat} : ∀ k, U ≤ k → sm (fun u => z1 (decide (u < U) && b u)) k = sm (fun u => z1 (b u)) U := by
  intro k
  induction k with
  | zero => intro hk; have : U = 0 := by omega
            subst this; rfl
  | succ k ih =>
    intro hk
    by_cases hU : U = k + 1
    · subst hU
      exact sm_eq (fun i hi => by simp [hi])
    · have : ¬ k < U := by omega
      rw [sm_s, ih (by omega)]
      simp [this, z1]
theorem pc_bits {b : Nat → Bool} {U : Nat} (hU : U ≤ 6) : pcI (bitsF b U) = sm (fun u => z1 (b u)) U := by
  rw [← bitsF_cut 6 hU, ← sm_cut 6 hU]
  obtain ⟨c, hc⟩ : ∃ c : Nat → Bool, c = fun u => decide (u < U) && b u := ⟨_, rfl⟩
  have e0 : (fun u => z1 (decide (u < U) && b u)) = fun u => z1 (c u) := by rw [hc]
  rw [← hc, e0]
  have h := pc6_eq (c 0) (c 1) (c 2) (c 3) (c 4) (c 5)
  have e1 : bitsF c 6 = pc6 (c 0) (c 1) (c 2) (c 3) (c 4) (c 5) := rfl
  have e2 : sm (fun u => z1 (c u)) 6 = 0 + z1 (c 0) + z1 (c 1) + z1 (c 2) + z1 (c 3) + z1 (c 4) + z1 (c 5) := rfl
  rw [e1, h, e2]
  omega
