/-! the class: its Week as it passes -/
/-- its Week has VOLS, flows, and works from HOUR a on, of this week -/
def enX (σ : Me) (N fl : Nat → Int) (PP : Nat → Nat → Int) (a : Nat) : Prop :=
  rdX σ N ∧ (∀ r : Nat, (r : Int) < N 0 → σ 8704 r = N (10 + 2 * r)) ∧ (∀ d, d < 7 → σ 8768 d = fl d) ∧ (∀ h i : Nat, a ≤ h → h < 168 → ((i / 4 : Nat) : Int) < N 0 → ((i % 4 : Nat) : Int) < N 1 → poN N (σ 8832 h) (N 2).toNat i = PP h i)
/-- it stands behind h HOURS -/
def csX (σ : Me) (N fl : Nat → Int) (PP : Nat → Nat → Int) (h : Nat) : Prop := ∀ i, i < 40 → σ 8896 i = (wkS N fl PP h).1 i ∧ σ 8960 i = (wkS N fl PP h).2 i
/-- what passes a Week touches -/
theorem enX_fr {σ τ : Me} {N fl : Nat → Int} {PP : Nat → Nat → Int} {a : Nat} {V : List Nat} (h : enX σ N fl PP a) (hf : fr V σ τ) (hV : V.all (fun v => decide (8896 ≤ v)) = true) : enX τ N fl PP a := by
  have lo : ∀ v, v < 8896 → τ v = σ v := fun v hv => hf v (fun hm => by
    have := List.all_eq_true.mp hV v hm
    simp only [decide_eq_true_eq] at this
    omega)
  obtain ⟨h1, h2, h3, h4⟩ := h
  refine ⟨rdX_lo h1 (fun v hv => lo v (by omega)), ?_, ?_, ?_⟩
  · rw [lo _ (by decide)]; exact h2
  · rw [lo _ (by decide)]; exact h3
  · rw [lo 8832 (by decide)]; exact h4
theorem enX_le {σ : Me} {N fl : Nat → Int} {PP : Nat → Nat → Int} {a b : Nat} (h : enX σ N fl PP a) (hab : a ≤ b) : enX σ N fl PP b := ⟨h.1, h.2.1, h.2.2.1, fun q i h1 => h.2.2.2 q i (by omega)⟩
theorem pass_st {σ : Me} {N fl : Nat → Int} {PP : Nat → Nat → Int} {a h : Nat} (hN : rvN N) (hpp : ppN PP (N 0).toNat) (hfl : flN fl) (hE : enX σ N fl PP a) (hc : csX σ N fl PP h) (ha : a ≤ h) (hh : h < 168) :
    ∃ τ, m_Week_pass [0, 0, h] σ = some (0, τ) ∧ fr [8896, 8960, 9024] σ τ ∧ csX τ N fl PP (h + 1) ∧ ∀ c : Nat, (c : Int) < N 1 → τ 9024 c = wkP N fl PP h c := by
  have hr0 := hN.1.1
  have hc0 := hN.1.2.1
  have hg0 := hN.1.2.2.1
  obtain ⟨R, hR⟩ : ∃ R : Nat, N 0 = R := ⟨(N 0).toNat, by omega⟩
  obtain ⟨C, hC⟩ : ∃ C : Nat, N 1 = C := ⟨(N 1).toNat, by omega⟩
  obtain ⟨G, hG⟩ : ∃ G : Nat, N 2 = G := ⟨(N 2).toNat, by omega⟩
  rw [hR, Int.toNat_natCast] at hpp
  obtain ⟨x1, x2⟩ := wkX_bd hN hR hC hpp hfl hh
  obtain ⟨e1, e2, e3, e4⟩ := hE
  have hf := hfl (h / 24) (by omega)
  obtain ⟨τ, t1, t2, t3, t4⟩ := pass_ok (σ := σ) (N := N) (X := wkX N fl PP h) (B := (wkS N fl PP h).2) (h := h) (f := fl (h / 24)) hN e1 hR hC hG hh (fun r hr => e2 r (by omega)) (e3 _ (by omega)) hf.1 hf.2
    (fun i hi h1 h2 => by
      have := e4 h i ha hh (by omega) (by omega)
      rw [hG, Int.toNat_natCast] at this
      rw [(hc i hi).1, this]
      rfl)
    (fun i hi h1 h2 => (hc i hi).2)
    (fun i hi hn => by
      rw [(hc i hi).1, (hc i hi).2]
      exact wkS_out (by omega))
    (fun i => (x1 i).1) (fun i => (x1 i).2) x2
  refine ⟨τ, t1, fun v hv => ?_, fun i hi => ?_, fun c hcc => t4 c (by omega)⟩
  · simp only [List.mem_cons, List.not_mem_nil, or_false, not_or] at hv
    exact t2 v hv.1 hv.2.1 hv.2.2
  · rw [wkS_W, wkS_B]
    exact t3 i hi
theorem wtX_of {σ : Me} {N fl : Nat → Int} {PP : Nat → Nat → Int} {a h : Nat} (hN : rvN N) (hpp : ppN PP (N 0).toNat) (hfl : flN fl) (hE : enX σ N fl PP a) (hc : csX σ N fl PP h) (hh : h ≤ 168) : wtX σ N (wkS N fl PP h).1 := by
  have hr0 := hN.1.1
  have hc0 := hN.1.2.1
  obtain ⟨R, hR⟩ : ∃ R : Nat, N 0 = R := ⟨(N 0).toNat, by omega⟩
  obtain ⟨C, hC⟩ : ∃ C : Nat, N 1 = C := ⟨(N 1).toNat, by omega⟩
  rw [hR, Int.toNat_natCast] at hpp
  refine ⟨hE.2.1, fun i h1 h2 => ?_⟩
  have := wkW_bd hN hR hC hpp hfl hh i (by omega) (by omega)
  exact ⟨(hc i (by omega)).1, this⟩
/-- Week.addHarm: r is the HOURS HARMED, or at least 'enough' -/
theorem addHarm_ok {σ : Me} {N fl : Nat → Int} {PP : Nat → Nat → Int} {a : Nat} {en : Int} (hN : rvN N) (hpp : ppN PP (N 0).toNat) (hfl : flN fl) (hE : enX σ N fl PP a) (hc : csX σ N fl PP a) (ha : a ≤ 168) (en0 : -10000 < en) (en1 : en < 10000) :
    ∃ r τ, m_Week_addHarm [0, 0, a, hpN N fl PP a, en] σ = some (r, τ) ∧ fr [8896, 8960, 9024] σ τ ∧ 0 ≤ r ∧ r ≤ 1008 ∧ (hsN N fl PP < en → r = hsN N fl PP) ∧ (en ≤ hsN N fl PP → en ≤ r) := by
  have hu0 := hN.1.2.2.2.1
  have main : ok (m_Week_addHarm [0, 0, a, hpN N fl PP a, en] σ) (fun q => fr [8896, 8960, 9024] σ q.2 ∧ 0 ≤ q.1 ∧ q.1 ≤ 1008 ∧ (hsN N fl PP < en → q.1 = hsN N fl PP) ∧ (en ≤ hsN N fl PP → en ≤ q.1)) := by
    obtain ⟨Q, hQ⟩ : ∃ Q : Int × Me → Prop, Q = (fun q => fr [8896, 8960, 9024] σ q.2 ∧ 0 ≤ q.1 ∧ q.1 ≤ 1008 ∧ (hsN N fl PP < en → q.1 = hsN N fl PP) ∧ (en ≤ hsN N fl PP → en ≤ q.1)) := ⟨_, rfl⟩
    rw [← hQ]
    simp only [m_Week_addHarm, b_Week_addHarm, cE_K, vE_K, gE_K, o1K_0, o1K_i, o1_K, o2L_0, o2L_i, o2K_0, o2K_i, o2_K, thK_0, thK_i, th_K, dvL_0, dvL_i, dvK_0, dvK_i, dv_K, rmL_0, rmL_i, rmK_0, rmK_i, rm_K, dlL_0, dlL_i, dlK_0, dlK_i, dl_K, ldQ_0, ldQ_i, ldL_0, ldL_i, ldK_0, ldK_i, ld_K, kK_0, kK_i, k_K, aL_0, aL_i, aK_0, aK_i, aE_0, aE_1, clK_0, clK_i, cl_K, cBL_0, cBL_i, cBK_0, cBK_i, cB_K, zBK_0, zBK_i, zB_K, nBK_0, nBK_i, nB_K, andK_0, andK_i, and_K, orK_0, orK_i, or_K, tkK_0, tkK_i, tk_K, sk_K, stK_0, stK_i, st_K, exK_0, exK_i, ex_K, in_K, pfL_0, pfL_i, pfK_0, pfK_i, pf_K, pzL_0, pzL_i, pzK_0, pzK_i, pz_K, poL_0, poL_i, poK_0, poK_i, po_K, asQ_0, asQ_i, asM_0, asM_i, asL_0, asL_i, asK_0, asK_i, as_K, aoM_0, aoM_i, aoQ_0, aoQ_i, aoL_0, aoL_i, aoK_0, aoK_i, ao_K, sqK_0, sqK_1, sqK_2, sqK_3, sqK_4, sqK_i, sq_K, swK_0, swK_1, swK_2, swK_3, swK_4, swK_i, sw_K, ifK_0, ifK_i, if_K, br_K, ct_K, rv_K, thr_K, rtK_0, rtK_i, rt_K, mfK_0, mfK_i, mf_K, mzK_i, mzK_0, mz_K, cpK_0, cpT_0, cp_K, tsK_0, tsK_i, ts_K, tsP_hit, tsP_next, tsP_low, tsP_nil, ini_0, ini_1, rdU_0, rdU_i, rdB_0, rdB_1, rdB_2, rdB_3, rdB_4, rdB_i, rdC_0, rdC_i, rnd_K, cmpI, addI, subI, mulI, i2lI, l2iI, minI, maxI, idI, up, ok_some, ok_ite, if_true, if_false, reduceIte, true_and, and_true, false_and, and_false, true_or, or_true, false_or, or_false, not_true_eq_false, not_false_eq_true, decide_true, decide_false, decide_eq_true_eq, Bool.not_true, Bool.not_false, Bool.false_eq_true, Bool.not_eq_true', Bool.not_eq_eq_eq_not, decide_eq_false_iff_not, Int.not_lt, Int.not_le, Nat.not_le, Nat.not_lt, Nat.le_refl, Int.le_refl, Nat.lt_irrefl, Int.lt_irrefl, reduceCtorEq, Nat.reduceEqDiff, Nat.reduceAdd, Nat.reduceMul, Nat.reduceBEq, Int.reduceNeg, Int.reduceAdd, Int.toNat_natCast, Int.reduceToNat, ne_eq, Nat.zero_ne_one, true_or, Int.ofNat_lt, Int.ofNat_le, Int.natCast_add, Int.cast_ofNat_Int, Int.natCast_zero]
    obtain ⟨I, hI⟩ : ∃ I : Nat → Lo → Me → Prop, ∀ n ρ s, I n ρ s ↔ (ρ 4 = en ∧ ρ 5 = hpN N fl PP (a + n) ∧ ρ 6 = a + n ∧ fr [8896, 8960, 9024] σ s ∧ csX s N fl PP (a + n)) := ⟨fun n ρ s => ρ 4 = en ∧ ρ 5 = hpN N fl PP (a + n) ∧ ρ 6 = a + n ∧ fr [8896, 8960, 9024] σ s ∧ csX s N fl PP (a + n), fun _ _ _ => Iff.rfl⟩
    refine ok_mfK (ok_sqK (wh_gen I (168 - a) (by omega) ((hI _ _ _).mpr ⟨by simp [up], by simp [up], by simp [up], fr_rfl, hc⟩) ?_))
    intro n ρ s hn hIn
    obtain ⟨g1, g2, g3, g4, g5⟩ := (hI _ _ _).mp hIn
    have hb := hpN_bd (fl := fl) (PP := PP) (n := a + n) hN
    rcases Nat.lt_or_eq_of_le hn with hn | hn
    · have hE' := enX_fr hE g4 (by decide)
      by_cases le : hpN N fl PP (a + n) < en
      · obtain ⟨τ, t1, t2, t3, t4⟩ := pass_st hN hpp hfl hE' g5 (show a ≤ a + n by omega) (show a + n < 168 by omega)
        have hE2 := enX_fr hE' t2 (by decide)
        have e2 := harmedBehind_eq (σ := τ) (h := a + n) hN hE2.1 (wtX_of hN hpp hfl hE2 t3 (by omega)) (by omega)
        have e3 := pc_bits (b := fun u => hmN N (wkS N fl PP (a + n + 1)).1 u (a + n)) (U := (N 3).toNat) (by omega)
        rw [Int.natCast_add] at t1 e2
        simp (disch := first | decide | omega) only [cE_K, vE_K, gE_K, o1K_0, o1K_i, o1_K, o2L_0, o2L_i, o2K_0, o2K_i, o2_K, thK_0, thK_i, th_K, dvL_0, dvL_i, dvK_0, dvK_i, dv_K, rmL_0, rmL_i, rmK_0, rmK_i, rm_K, dlL_0, dlL_i, dlK_0, dlK_i, dl_K, ldQ_0, ldQ_i, ldL_0, ldL_i, ldK_0, ldK_i, ld_K, kK_0, kK_i, k_K, aL_0, aL_i, aK_0, aK_i, aE_0, aE_1, clK_0, clK_i, cl_K, cBL_0, cBL_i, cBK_0, cBK_i, cB_K, zBK_0, zBK_i, zB_K, nBK_0, nBK_i, nB_K, andK_0, andK_i, and_K, orK_0, orK_i, or_K, tkK_0, tkK_i, tk_K, sk_K, stK_0, stK_i, st_K, exK_0, exK_i, ex_K, in_K, pfL_0, pfL_i, pfK_0, pfK_i, pf_K, pzL_0, pzL_i, pzK_0, pzK_i, pz_K, poL_0, poL_i, poK_0, poK_i, po_K, asQ_0, asQ_i, asM_0, asM_i, asL_0, asL_i, asK_0, asK_i, as_K, aoM_0, aoM_i, aoQ_0, aoQ_i, aoL_0, aoL_i, aoK_0, aoK_i, ao_K, sqK_0, sqK_1, sqK_2, sqK_3, sqK_4, sqK_i, sq_K, swK_0, swK_1, swK_2, swK_3, swK_4, swK_i, sw_K, ifK_0, ifK_i, if_K, br_K, ct_K, rv_K, thr_K, rtK_0, rtK_i, rt_K, mfK_0, mfK_i, mf_K, mzK_i, mzK_0, mz_K, cpK_0, cpT_0, cp_K, tsK_0, tsK_i, ts_K, tsP_hit, tsP_next, tsP_low, tsP_nil, ini_0, ini_1, rdU_0, rdU_i, rdB_0, rdB_1, rdB_2, rdB_3, rdB_4, rdB_i, rdC_0, rdC_i, rnd_K, cmpI, addI, subI, mulI, i2lI, l2iI, minI, maxI, idI, up, ok_some, ok_ite, w32_id, ix_id, Int.toNat_add, Int.toNat_mul, ltI_t, ltI_f, leI_t, leI_f, eqI_t, eqI_f, u2_s, u2_v, u2_i, w3_m2, w3_m1, w3_0, w3_1, w3_2, w3_3, w3_4, w3_5, w3_6, w3_7, w3_8, w3_9, w3_10, w3_12, w3_20, w3_23, w3_24, w3_25, w3_32, w3_40, w3_50, w3_100, w3_120, w3_168, w3_200, w3_240, w3_255, w3_500, w3_592, w3_600, w3_900, w3_940, w3_999, w3_1000, w3_1009, w3_1184, w3_3333, w3_9999, if_true, if_false, reduceIte, true_and, and_true, false_and, and_false, true_or, or_true, false_or, or_false, not_true_eq_false, not_false_eq_true, decide_true, decide_false, decide_eq_true_eq, Bool.not_true, Bool.not_false, Bool.false_eq_true, Bool.not_eq_true', Bool.not_eq_eq_eq_not, decide_eq_false_iff_not, Int.not_lt, Int.not_le, Nat.not_le, Nat.not_lt, Nat.le_refl, Int.le_refl, Nat.lt_irrefl, Int.lt_irrefl, reduceCtorEq, Nat.reduceEqDiff, Nat.reduceAdd, Nat.reduceMul, Nat.reduceBEq, Int.reduceNeg, Int.reduceAdd, Int.toNat_natCast, Int.reduceToNat, ne_eq, Nat.zero_ne_one, true_or, Int.ofNat_lt, Int.ofNat_le, Int.natCast_add, Int.cast_ofNat_Int, Int.natCast_zero, g1, g2, g3, t1, e2, bitCount_eq, e3]
        refine ⟨hn, (hI _ _ _).mpr ⟨by simp [up, g1], ?_, by simp [up]; omega, fr_trans g4 t2, t3⟩⟩
        simp only [up]
        simp
        rfl
      · simp (disch := first | decide | omega) only [cE_K, vE_K, gE_K, o1K_0, o1K_i, o1_K, o2L_0, o2L_i, o2K_0, o2K_i, o2_K, thK_0, thK_i, th_K, dvL_0, dvL_i, dvK_0, dvK_i, dv_K, rmL_0, rmL_i, rmK_0, rmK_i, rm_K, dlL_0, dlL_i, dlK_0, dlK_i, dl_K, ldQ_0, ldQ_i, ldL_0, ldL_i, ldK_0, ldK_i, ld_K, kK_0, kK_i, k_K, aL_0, aL_i, aK_0, aK_i, aE_0, aE_1, clK_0, clK_i, cl_K, cBL_0, cBL_i, cBK_0, cBK_i, cB_K, zBK_0, zBK_i, zB_K, nBK_0, nBK_i, nB_K, andK_0, andK_i, and_K, orK_0, orK_i, or_K, tkK_0, tkK_i, tk_K, sk_K, stK_0, stK_i, st_K, exK_0, exK_i, ex_K, in_K, pfL_0, pfL_i, pfK_0, pfK_i, pf_K, pzL_0, pzL_i, pzK_0, pzK_i, pz_K, poL_0, poL_i, poK_0, poK_i, po_K, asQ_0, asQ_i, asM_0, asM_i, asL_0, asL_i, asK_0, asK_i, as_K, aoM_0, aoM_i, aoQ_0, aoQ_i, aoL_0, aoL_i, aoK_0, aoK_i, ao_K, sqK_0, sqK_1, sqK_2, sqK_3, sqK_4, sqK_i, sq_K, swK_0, swK_1, swK_2, swK_3, swK_4, swK_i, sw_K, ifK_0, ifK_i, if_K, br_K, ct_K, rv_K, thr_K, rtK_0, rtK_i, rt_K, mfK_0, mfK_i, mf_K, mzK_i, mzK_0, mz_K, cpK_0, cpT_0, cp_K, tsK_0, tsK_i, ts_K, tsP_hit, tsP_next, tsP_low, tsP_nil, ini_0, ini_1, rdU_0, rdU_i, rdB_0, rdB_1, rdB_2, rdB_3, rdB_4, rdB_i, rdC_0, rdC_i, rnd_K, cmpI, addI, subI, mulI, i2lI, l2iI, minI, maxI, idI, up, ok_some, ok_ite, w32_id, ix_id, Int.toNat_add, Int.toNat_mul, ltI_t, ltI_f, leI_t, leI_f, eqI_t, eqI_f, u2_s, u2_v, u2_i, w3_m2, w3_m1, w3_0, w3_1, w3_2, w3_3, w3_4, w3_5, w3_6, w3_7, w3_8, w3_9, w3_10, w3_12, w3_20, w3_23, w3_24, w3_25, w3_32, w3_40, w3_50, w3_100, w3_120, w3_168, w3_200, w3_240, w3_255, w3_500, w3_592, w3_600, w3_900, w3_940, w3_999, w3_1000, w3_1009, w3_1184, w3_3333, w3_9999, if_true, if_false, reduceIte, true_and, and_true, false_and, and_false, true_or, or_true, false_or, or_false, not_true_eq_false, not_false_eq_true, decide_true, decide_false, decide_eq_true_eq, Bool.not_true, Bool.not_false, Bool.false_eq_true, Bool.not_eq_true', Bool.not_eq_eq_eq_not, decide_eq_false_iff_not, Int.not_lt, Int.not_le, Nat.not_le, Nat.not_lt, Nat.le_refl, Int.le_refl, Nat.lt_irrefl, Int.lt_irrefl, reduceCtorEq, Nat.reduceEqDiff, Nat.reduceAdd, Nat.reduceMul, Nat.reduceBEq, Int.reduceNeg, Int.reduceAdd, Int.toNat_natCast, Int.reduceToNat, ne_eq, Nat.zero_ne_one, true_or, Int.ofNat_lt, Int.ofNat_le, Int.natCast_add, Int.cast_ofNat_Int, Int.natCast_zero, g1, g2, g3]
        rw [hQ]
        have hm := hpN_mono (fl := fl) (PP := PP) (m := a + n) (n := 168) hN (by omega)
        rw [hp_hs] at hm
        exact ⟨g4, by simp only; omega, by simp only; omega, fun h => by omega, fun h => by simp only; omega⟩
    · have e : a + n = 168 := by omega
      have e' : (a : Int) + n = 168 := by omega
      rw [e] at g2 hb
      simp (disch := first | decide | omega) only [cE_K, vE_K, gE_K, o1K_0, o1K_i, o1_K, o2L_0, o2L_i, o2K_0, o2K_i, o2_K, thK_0, thK_i, th_K, dvL_0, dvL_i, dvK_0, dvK_i, dv_K, rmL_0, rmL_i, rmK_0, rmK_i, rm_K, dlL_0, dlL_i, dlK_0, dlK_i, dl_K, ldQ_0, ldQ_i, ldL_0, ldL_i, ldK_0, ldK_i, ld_K, kK_0, kK_i, k_K, aL_0, aL_i, aK_0, aK_i, aE_0, aE_1, clK_0, clK_i, cl_K, cBL_0, cBL_i, cBK_0, cBK_i, cB_K, zBK_0, zBK_i, zB_K, nBK_0, nBK_i, nB_K, andK_0, andK_i, and_K, orK_0, orK_i, or_K, tkK_0, tkK_i, tk_K, sk_K, stK_0, stK_i, st_K, exK_0, exK_i, ex_K, in_K, pfL_0, pfL_i, pfK_0, pfK_i, pf_K, pzL_0, pzL_i, pzK_0, pzK_i, pz_K, poL_0, poL_i, poK_0, poK_i, po_K, asQ_0, asQ_i, asM_0, asM_i, asL_0, asL_i, asK_0, asK_i, as_K, aoM_0, aoM_i, aoQ_0, aoQ_i, aoL_0, aoL_i, aoK_0, aoK_i, ao_K, sqK_0, sqK_1, sqK_2, sqK_3, sqK_4, sqK_i, sq_K, swK_0, swK_1, swK_2, swK_3, swK_4, swK_i, sw_K, ifK_0, ifK_i, if_K, br_K, ct_K, rv_K, thr_K, rtK_0, rtK_i, rt_K, mfK_0, mfK_i, mf_K, mzK_i, mzK_0, mz_K, cpK_0, cpT_0, cp_K, tsK_0, tsK_i, ts_K, tsP_hit, tsP_next, tsP_low, tsP_nil, ini_0, ini_1, rdU_0, rdU_i, rdB_0, rdB_1, rdB_2, rdB_3, rdB_4, rdB_i, rdC_0, rdC_i, rnd_K, cmpI, addI, subI, mulI, i2lI, l2iI, minI, maxI, idI, up, ok_some, ok_ite, w32_id, ix_id, Int.toNat_add, Int.toNat_mul, ltI_t, ltI_f, leI_t, leI_f, eqI_t, eqI_f, u2_s, u2_v, u2_i, w3_m2, w3_m1, w3_0, w3_1, w3_2, w3_3, w3_4, w3_5, w3_6, w3_7, w3_8, w3_9, w3_10, w3_12, w3_20, w3_23, w3_24, w3_25, w3_32, w3_40, w3_50, w3_100, w3_120, w3_168, w3_200, w3_240, w3_255, w3_500, w3_592, w3_600, w3_900, w3_940, w3_999, w3_1000, w3_1009, w3_1184, w3_3333, w3_9999, if_true, if_false, reduceIte, true_and, and_true, false_and, and_false, true_or, or_true, false_or, or_false, not_true_eq_false, not_false_eq_true, decide_true, decide_false, decide_eq_true_eq, Bool.not_true, Bool.not_false, Bool.false_eq_true, Bool.not_eq_true', Bool.not_eq_eq_eq_not, decide_eq_false_iff_not, Int.not_lt, Int.not_le, Nat.not_le, Nat.not_lt, Nat.le_refl, Int.le_refl, Nat.lt_irrefl, Int.lt_irrefl, reduceCtorEq, Nat.reduceEqDiff, Nat.reduceAdd, Nat.reduceMul, Nat.reduceBEq, Int.reduceNeg, Int.reduceAdd, Int.toNat_natCast, Int.reduceToNat, ne_eq, Nat.zero_ne_one, true_or, Int.ofNat_lt, Int.ofNat_le, Int.natCast_add, Int.cast_ofNat_Int, Int.natCast_zero, g1, g2, g3, e']
      rw [hQ]
      rw [hp_hs] at hb ⊢
      exact ⟨g4, by simp only; omega, by simp only; omega, fun h => rfl, fun h => h⟩
  obtain ⟨⟨r1, r2⟩, h1, h2⟩ := main
  exact ⟨r1, r2, h1, h2⟩
