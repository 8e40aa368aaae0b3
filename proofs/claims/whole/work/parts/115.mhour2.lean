def mn (a b : Int) : Int := if w32 b ≤ w32 a then b else a
theorem kmin36 {ρ : Lo} {σ : Me} : kE (nB (cB 3 (vE 3) (vE 6))) (vE 3) (vE 6) ρ σ = some (mn (ρ 3) (ρ 6), σ) := by
  simp only [k_K, nB_K, cB_K, vE_K, cBK_0, cBL_0, nBK_0, kK_0, cmpI, mn]
  by_cases h : w32 (ρ 6) ≤ w32 (ρ 3)
  · simp [h]
  · simp [h]
theorem mn_eq {f v : Int} (f0 : 0 ≤ f) (f1 : f ≤ 9999) (v0 : 0 ≤ v) (v1 : v ≤ 9999) : mn f v = if v < f then v else f := by
  rw [mn, w32_id (by omega) (by omega), w32_id (by omega) (by omega)]
  split <;> split <;> omega
def hnd (R k i : Nat) : Prop := i / 4 < R ∧ R ≤ i / 4 + k
theorem hnd_iff {R k i : Nat} : hnd R k i ↔ (i / 4 < R ∧ R ≤ i / 4 + k) := Iff.rfl
def hr2 (σ : Me) (X B b2 x2 go : Nat → Int) (R c p k : Nat) : Me := fun v i => if v = 704 then (if i % 4 = c ∧ i / 4 < R ∧ R ≤ i / 4 + k then x2 i - go i + (if 4 ≤ i ∧ R ≤ (i - 4) / 4 + k then go (i - 4) else 0) else X i) else if v = 768 then (if i % 4 = c ∧ i / 4 < R ∧ R ≤ i / 4 + k then b2 i else B i) else if v = 832 ∧ i = p then (if k = 0 then 0 else go (4 * (R - 1) + c)) else σ v i
theorem hour_L2 {ρ : Lo} {σ : Me} {h c R : Nat} {f : Int} {N X B : Nat → Int} {P : Nat × Int × Lo × Me → Prop} (hN : rvN N) (hn : σ 128 = N) (hX : σ 704 = X) (hB : σ 768 = B) (hR : N 0 = R) (hh : h < 168) (hc : c < 4) (f0 : 0 ≤ f) (f1 : f ≤ 9999) (r1 : ρ 1 = h) (r2 : ρ 2 = c) (r3 : ρ 3 = f) (r4 : ρ 4 = R - 1) (hp0 : σ 832 (4 * h + c) = 0)
    (hx0 : ∀ i, i / 4 < R → i % 4 = c → 0 ≤ X i ∧ 0 ≤ B i ∧ X i + B i ≤ 10078992)
    (hP : ∀ ρ' : Lo, ρ' 1 = h → ρ' 2 = c → ρ' 3 = f → P (0, 0, ρ', hr2 σ X B (b2N N f B) (x2N N f X B) (goN N f X B) R c (4 * h + c) R)) : ok ((whS (nB (zB 2 (vE 4))) (sq (stS 5 (o2 addI (o2 mulI (cE 4) (vE 4)) (vE 2))) (sq (stS 6 (ldE 128 592 (thE (cE 0) (cE 0)) (o2 addI (cE 10) (o2 mulI (cE 2) (vE 4))))) (sq (ifS (nB (cB 2 (vE 3) (ldE 128 592 (thE (cE 0) (cE 0)) (cE 5)))) (sq (stS 7 (dvE (ldE 768 40 (thE (cE 0) (cE 0)) (vE 5)) (cE 2))) (sq (aoS 768 40 subI (thE (cE 0) (cE 0)) (vE 5) (vE 7)) (aoS 704 40 addI (thE (cE 0) (cE 0)) (vE 5) (vE 7)))) skS) (sq (stS 7 (o1 l2iI (dlE (o2 mulI (o1 i2lI (ldE 704 40 (thE (cE 0) (cE 0)) (vE 5))) (o1 i2lI (kE (nB (cB 3 (vE 3) (vE 6))) (vE 3) (vE 6)))) (o1 i2lI (vE 6))))) (sq (aoS 704 40 subI (thE (cE 0) (cE 0)) (vE 5) (vE 7)) (ifS (nB (cB 1 (vE 4) (o2 subI (clE m_M_reaches [(cE 0)]) (cE 1)))) (aoS 832 672 addI (thE (cE 0) (cE 0)) (o2 addI (o2 mulI (cE 4) (vE 1)) (vE 2)) (vE 7)) (aoS 704 40 addI (thE (cE 0) (cE 0)) (o2 addI (vE 5) (cE 4)) (vE 7)))))))) (inS 4 (-1)) FU) ρ σ) P := by
  have h10 : R ≤ 10 := by have := hN.1.1; omega
  have n5 := hN.1.2.2.2.2.2
  generalize hb2 : b2N N f B = b2 at hP
  generalize hx2 : x2N N f X B = x2 at hP
  generalize hgo : goN N f X B = go at hP
  obtain ⟨I, hI⟩ : ∃ I : Nat → Lo → Me → Prop, ∀ k ρ s, I k ρ s ↔ (ρ 1 = h ∧ ρ 2 = c ∧ ρ 3 = f ∧ ρ 4 = R - 1 - k ∧ s = hr2 σ X B b2 x2 go R c (4 * h + c) k) := ⟨fun k ρ s => ρ 1 = h ∧ ρ 2 = c ∧ ρ 3 = f ∧ ρ 4 = R - 1 - k ∧ s = hr2 σ X B b2 x2 go R c (4 * h + c) k, fun _ _ _ => Iff.rfl⟩
  refine wh_gen I R (by omega) ((hI _ _ _).mpr ⟨r1, r2, r3, by omega, by clear hI hP hx0; funext v i; simp only [hr2]; grind⟩) ?_
  intro k ρ s hk hIk
  obtain ⟨g1, g2, g3, g4, hs⟩ := (hI _ _ _).mp hIk
  rcases Nat.lt_or_eq_of_le hk with hk | rfl
  · obtain ⟨r, hr⟩ : ∃ r : Nat, r + k + 1 = R := ⟨R - 1 - k, by omega⟩
    replace g4 : ρ 4 = r := by omega
    have n1 : s 128 = N := by rw [hs, ← hn]; funext i; simp [hr2]
    have d1 : (4 * r + c) / 4 = r := by omega
    have d2 : (4 * r + c) % 4 = c := by omega
    have hnk : ¬ R ≤ r + k := by omega
    have aw : s 704 (4 * r + c) = X (4 * r + c) := by rw [hs]; simp [hr2, d1, d2, hnk]
    have ab : s 768 (4 * r + c) = B (4 * r + c) := by rw [hs]; simp [hr2, d1, d2, hnk]
    obtain ⟨c1, c2, c3⟩ := hx0 (4 * r + c) (by omega) d2
    obtain ⟨v0, v1, _, _⟩ := rvN_v hN hR (r := r) (by omega)
    have t1 := x2N_nn (N := N) (f := f) c1 c2
    rw [hx2, hb2] at t1
    have t2 : go (4 * r + c) = x2 (4 * r + c) * mn f (N (10 + 2 * r)) / N (10 + 2 * r) := by
      rw [← hgo, mn_eq f0 f1 (by omega) v1]
      simp only [goN, gon, vlN, d1, hx2]
    have m0 : 0 ≤ mn f (N (10 + 2 * r)) ∧ mn f (N (10 + 2 * r)) ≤ 9999 := by rw [mn_eq f0 f1 (by omega) v1]; split <;> omega
    generalize hm : mn f (N (10 + 2 * r)) = m at t2 m0
    have e64 : w64 (x2 (4 * r + c) * m) = x2 (4 * r + c) * m := by
      have q1 : 0 ≤ x2 (4 * r + c) * m := Int.mul_nonneg t1.1 m0.1
      have q2 := Int.mul_le_mul (show x2 (4 * r + c) ≤ 10078992 by omega) m0.2 m0.1 (by omega)
      exact w64_id (by omega) (by omega)
    have etd : (x2 (4 * r + c) * m).tdiv (N (10 + 2 * r)) = go (4 * r + c) := by rw [t2, tdiv_nn (Int.mul_nonneg t1.1 m0.1)]
    have eV : w64 (N (10 + 2 * r)) = N (10 + 2 * r) := w64_id (by omega) (by omega)
    clear t2
    replace hm := hid_of hm
    have d1 := hid_of d1
    have d2 := hid_of d2
    have hR2 : s 128 0 = R := by rw [n1, hR]
    by_cases hfd : N 5 ≤ f
    · have u1 : X (4 * r + c) + B (4 * r + c) / 2 = x2 (4 * r + c) := by rw [← hx2]; simp [x2N, hfd]
      have u2' : B (4 * r + c) - B (4 * r + c) / 2 = b2 (4 * r + c) := by rw [← hb2]; simp [b2N, hfd]
      by_cases hk0 : k = 0
      · have e1 : (r : Int) = R - 1 := by omega
        have ap : s 832 (4 * h + c) = 0 := by rw [hs]; simp [hr2, hk0]
        simp (disch := first | decide | omega) only [↓kmin36, cE_K, vE_K, gE_K, o1K_0, o1K_i, o1_K, o2L_0, o2L_i, o2K_0, o2K_i, o2_K, thK_0, thK_i, th_K, dvL_0, dvL_i, dvK_0, dvK_i, dv_K, rmL_0, rmL_i, rmK_0, rmK_i, rm_K, dlL_0, dlL_i, dlK_0, dlK_i, dl_K, ldQ_0, ldQ_i, ldL_0, ldL_i, ldK_0, ldK_i, ld_K, kK_0, kK_i, k_K, aL_0, aL_i, aK_0, aK_i, aE_0, aE_1, clK_0, clK_i, cl_K, cBL_0, cBL_i, cBK_0, cBK_i, cB_K, zBK_0, zBK_i, zB_K, nBK_0, nBK_i, nB_K, andK_0, andK_i, and_K, orK_0, orK_i, or_K, tkK_0, tkK_i, tk_K, sk_K, stK_0, stK_i, st_K, exK_0, exK_i, ex_K, in_K, pfL_0, pfL_i, pfK_0, pfK_i, pf_K, pzL_0, pzL_i, pzK_0, pzK_i, pz_K, poL_0, poL_i, poK_0, poK_i, po_K, asQ_0, asQ_i, asM_0, asM_i, asL_0, asL_i, asK_0, asK_i, as_K, aoM_0, aoM_i, aoQ_0, aoQ_i, aoL_0, aoL_i, aoK_0, aoK_i, ao_K, sqK_0, sqK_1, sqK_2, sqK_3, sqK_4, sqK_i, sq_K, swK_0, swK_1, swK_2, swK_3, swK_4, swK_i, sw_K, ifK_0, ifK_i, if_K, br_K, ct_K, rv_K, thr_K, rtK_0, rtK_i, rt_K, mfK_0, mfK_i, mf_K, mzK_i, mzK_0, mz_K, cpK_0, cpT_0, cp_K, tsK_0, tsK_i, ts_K, tsP_hit, tsP_next, tsP_low, tsP_nil, ini_0, ini_1, rdU_0, rdU_i, rdB_0, rdB_1, rdB_2, rdB_3, rdB_4, rdB_i, rdC_0, rdC_i, rnd_K, cmpI, addI, subI, mulI, i2lI, l2iI, minI, maxI, idI, up, ok_some, ok_ite, w32_id, ix_id, Int.toNat_add, Int.toNat_mul, ltI_t, ltI_f, leI_t, leI_f, eqI_t, eqI_f, u2_s, u2_v, u2_i, w3_m2, w3_m1, w3_0, w3_1, w3_2, w3_3, w3_4, w3_5, w3_6, w3_7, w3_8, w3_9, w3_10, w3_12, w3_20, w3_23, w3_24, w3_25, w3_32, w3_40, w3_50, w3_100, w3_120, w3_168, w3_200, w3_240, w3_255, w3_500, w3_592, w3_600, w3_900, w3_940, w3_999, w3_1000, w3_1009, w3_1184, w3_3333, w3_9999, if_true, if_false, reduceIte, true_and, and_true, false_and, and_false, true_or, or_true, false_or, or_false, not_true_eq_false, not_false_eq_true, decide_true, decide_false, decide_eq_true_eq, Bool.not_true, Bool.not_false, Bool.false_eq_true, Bool.not_eq_true', Bool.not_eq_eq_eq_not, decide_eq_false_iff_not, Int.not_lt, Int.not_le, Nat.not_le, Nat.not_lt, Nat.le_refl, Int.le_refl, Nat.lt_irrefl, Int.lt_irrefl, reduceCtorEq, Nat.reduceEqDiff, Nat.reduceAdd, Nat.reduceMul, Nat.reduceBEq, Int.reduceNeg, Int.reduceAdd, Int.toNat_natCast, Int.reduceToNat, ne_eq, Nat.zero_ne_one, true_or, Int.ofNat_lt, Int.ofNat_le, Int.natCast_add, Int.cast_ofNat_Int, Int.natCast_zero, g1, g2, g3, g4, n1, aw, ab, tdiv_nn, u1, u2', un hm, e64, eV, etd, M_reaches_eq, hR, ap]
        refine ⟨hk, (hI _ _ _).mpr ⟨g1, g2, g3, by simp [up]; omega, ?_⟩⟩
        rw [hs]
        clear hI hP hx0 hm e64 etd eV u1 u2' hfd hs
        have d1 := un d1
        have d2 := un d2
        funext v i
        simp only [u2, hr2]
        grind
      · have e1 : ¬ (r : Int) = R - 1 := by omega
        simp (disch := first | decide | omega) only [↓kmin36, cE_K, vE_K, gE_K, o1K_0, o1K_i, o1_K, o2L_0, o2L_i, o2K_0, o2K_i, o2_K, thK_0, thK_i, th_K, dvL_0, dvL_i, dvK_0, dvK_i, dv_K, rmL_0, rmL_i, rmK_0, rmK_i, rm_K, dlL_0, dlL_i, dlK_0, dlK_i, dl_K, ldQ_0, ldQ_i, ldL_0, ldL_i, ldK_0, ldK_i, ld_K, kK_0, kK_i, k_K, aL_0, aL_i, aK_0, aK_i, aE_0, aE_1, clK_0, clK_i, cl_K, cBL_0, cBL_i, cBK_0, cBK_i, cB_K, zBK_0, zBK_i, zB_K, nBK_0, nBK_i, nB_K, andK_0, andK_i, and_K, orK_0, orK_i, or_K, tkK_0, tkK_i, tk_K, sk_K, stK_0, stK_i, st_K, exK_0, exK_i, ex_K, in_K, pfL_0, pfL_i, pfK_0, pfK_i, pf_K, pzL_0, pzL_i, pzK_0, pzK_i, pz_K, poL_0, poL_i, poK_0, poK_i, po_K, asQ_0, asQ_i, asM_0, asM_i, asL_0, asL_i, asK_0, asK_i, as_K, aoM_0, aoM_i, aoQ_0, aoQ_i, aoL_0, aoL_i, aoK_0, aoK_i, ao_K, sqK_0, sqK_1, sqK_2, sqK_3, sqK_4, sqK_i, sq_K, swK_0, swK_1, swK_2, swK_3, swK_4, swK_i, sw_K, ifK_0, ifK_i, if_K, br_K, ct_K, rv_K, thr_K, rtK_0, rtK_i, rt_K, mfK_0, mfK_i, mf_K, mzK_i, mzK_0, mz_K, cpK_0, cpT_0, cp_K, tsK_0, tsK_i, ts_K, tsP_hit, tsP_next, tsP_low, tsP_nil, ini_0, ini_1, rdU_0, rdU_i, rdB_0, rdB_1, rdB_2, rdB_3, rdB_4, rdB_i, rdC_0, rdC_i, rnd_K, cmpI, addI, subI, mulI, i2lI, l2iI, minI, maxI, idI, up, ok_some, ok_ite, w32_id, ix_id, Int.toNat_add, Int.toNat_mul, ltI_t, ltI_f, leI_t, leI_f, eqI_t, eqI_f, u2_s, u2_v, u2_i, w3_m2, w3_m1, w3_0, w3_1, w3_2, w3_3, w3_4, w3_5, w3_6, w3_7, w3_8, w3_9, w3_10, w3_12, w3_20, w3_23, w3_24, w3_25, w3_32, w3_40, w3_50, w3_100, w3_120, w3_168, w3_200, w3_240, w3_255, w3_500, w3_592, w3_600, w3_900, w3_940, w3_999, w3_1000, w3_1009, w3_1184, w3_3333, w3_9999, if_true, if_false, reduceIte, true_and, and_true, false_and, and_false, true_or, or_true, false_or, or_false, not_true_eq_false, not_false_eq_true, decide_true, decide_false, decide_eq_true_eq, Bool.not_true, Bool.not_false, Bool.false_eq_true, Bool.not_eq_true', Bool.not_eq_eq_eq_not, decide_eq_false_iff_not, Int.not_lt, Int.not_le, Nat.not_le, Nat.not_lt, Nat.le_refl, Int.le_refl, Nat.lt_irrefl, Int.lt_irrefl, reduceCtorEq, Nat.reduceEqDiff, Nat.reduceAdd, Nat.reduceMul, Nat.reduceBEq, Int.reduceNeg, Int.reduceAdd, Int.toNat_natCast, Int.reduceToNat, ne_eq, Nat.zero_ne_one, true_or, Int.ofNat_lt, Int.ofNat_le, Int.natCast_add, Int.cast_ofNat_Int, Int.natCast_zero, g1, g2, g3, g4, n1, aw, ab, tdiv_nn, u1, u2', un hm, e64, eV, etd, M_reaches_eq, hR]
        refine ⟨hk, (hI _ _ _).mpr ⟨g1, g2, g3, by simp [up]; omega, ?_⟩⟩
        rw [hs]
        clear hI hP hx0 hm e64 etd eV u1 u2' hfd hs
        have d1 := un d1
        have d2 := un d2
        funext v i
        simp only [u2, hr2]
        grind
    · have u1 : X (4 * r + c) = x2 (4 * r + c) := by rw [← hx2]; simp [x2N, hfd]
      have u2' : B (4 * r + c) = b2 (4 * r + c) := by rw [← hb2]; simp [b2N, hfd]
      by_cases hk0 : k = 0
      · have e1 : (r : Int) = R - 1 := by omega
        have ap : s 832 (4 * h + c) = 0 := by rw [hs]; simp [hr2, hk0]
        simp (disch := first | decide | omega) only [↓kmin36, cE_K, vE_K, gE_K, o1K_0, o1K_i, o1_K, o2L_0, o2L_i, o2K_0, o2K_i, o2_K, thK_0, thK_i, th_K, dvL_0, dvL_i, dvK_0, dvK_i, dv_K, rmL_0, rmL_i, rmK_0, rmK_i, rm_K, dlL_0, dlL_i, dlK_0, dlK_i, dl_K, ldQ_0, ldQ_i, ldL_0, ldL_i, ldK_0, ldK_i, ld_K, kK_0, kK_i, k_K, aL_0, aL_i, aK_0, aK_i, aE_0, aE_1, clK_0, clK_i, cl_K, cBL_0, cBL_i, cBK_0, cBK_i, cB_K, zBK_0, zBK_i, zB_K, nBK_0, nBK_i, nB_K, andK_0, andK_i, and_K, orK_0, orK_i, or_K, tkK_0, tkK_i, tk_K, sk_K, stK_0, stK_i, st_K, exK_0, exK_i, ex_K, in_K, pfL_0, pfL_i, pfK_0, pfK_i, pf_K, pzL_0, pzL_i, pzK_0, pzK_i, pz_K, poL_0, poL_i, poK_0, poK_i, po_K, asQ_0, asQ_i, asM_0, asM_i, asL_0, asL_i, asK_0, asK_i, as_K, aoM_0, aoM_i, aoQ_0, aoQ_i, aoL_0, aoL_i, aoK_0, aoK_i, ao_K, sqK_0, sqK_1, sqK_2, sqK_3, sqK_4, sqK_i, sq_K, swK_0, swK_1, swK_2, swK_3, swK_4, swK_i, sw_K, ifK_0, ifK_i, if_K, br_K, ct_K, rv_K, thr_K, rtK_0, rtK_i, rt_K, mfK_0, mfK_i, mf_K, mzK_i, mzK_0, mz_K, cpK_0, cpT_0, cp_K, tsK_0, tsK_i, ts_K, tsP_hit, tsP_next, tsP_low, tsP_nil, ini_0, ini_1, rdU_0, rdU_i, rdB_0, rdB_1, rdB_2, rdB_3, rdB_4, rdB_i, rdC_0, rdC_i, rnd_K, cmpI, addI, subI, mulI, i2lI, l2iI, minI, maxI, idI, up, ok_some, ok_ite, w32_id, ix_id, Int.toNat_add, Int.toNat_mul, ltI_t, ltI_f, leI_t, leI_f, eqI_t, eqI_f, u2_s, u2_v, u2_i, w3_m2, w3_m1, w3_0, w3_1, w3_2, w3_3, w3_4, w3_5, w3_6, w3_7, w3_8, w3_9, w3_10, w3_12, w3_20, w3_23, w3_24, w3_25, w3_32, w3_40, w3_50, w3_100, w3_120, w3_168, w3_200, w3_240, w3_255, w3_500, w3_592, w3_600, w3_900, w3_940, w3_999, w3_1000, w3_1009, w3_1184, w3_3333, w3_9999, if_true, if_false, reduceIte, true_and, and_true, false_and, and_false, true_or, or_true, false_or, or_false, not_true_eq_false, not_false_eq_true, decide_true, decide_false, decide_eq_true_eq, Bool.not_true, Bool.not_false, Bool.false_eq_true, Bool.not_eq_true', Bool.not_eq_eq_eq_not, decide_eq_false_iff_not, Int.not_lt, Int.not_le, Nat.not_le, Nat.not_lt, Nat.le_refl, Int.le_refl, Nat.lt_irrefl, Int.lt_irrefl, reduceCtorEq, Nat.reduceEqDiff, Nat.reduceAdd, Nat.reduceMul, Nat.reduceBEq, Int.reduceNeg, Int.reduceAdd, Int.toNat_natCast, Int.reduceToNat, ne_eq, Nat.zero_ne_one, true_or, Int.ofNat_lt, Int.ofNat_le, Int.natCast_add, Int.cast_ofNat_Int, Int.natCast_zero, g1, g2, g3, g4, n1, aw, ab, tdiv_nn, u1, u2', un hm, e64, eV, etd, M_reaches_eq, hR, ap]
        refine ⟨hk, (hI _ _ _).mpr ⟨g1, g2, g3, by simp [up]; omega, ?_⟩⟩
        rw [hs]
        clear hI hP hx0 hm e64 etd eV hfd hs
        have d1 := un d1
        have d2 := un d2
        funext v i
        simp only [u2, hr2]
        grind
      · have e1 : ¬ (r : Int) = R - 1 := by omega
        simp (disch := first | decide | omega) only [↓kmin36, cE_K, vE_K, gE_K, o1K_0, o1K_i, o1_K, o2L_0, o2L_i, o2K_0, o2K_i, o2_K, thK_0, thK_i, th_K, dvL_0, dvL_i, dvK_0, dvK_i, dv_K, rmL_0, rmL_i, rmK_0, rmK_i, rm_K, dlL_0, dlL_i, dlK_0, dlK_i, dl_K, ldQ_0, ldQ_i, ldL_0, ldL_i, ldK_0, ldK_i, ld_K, kK_0, kK_i, k_K, aL_0, aL_i, aK_0, aK_i, aE_0, aE_1, clK_0, clK_i, cl_K, cBL_0, cBL_i, cBK_0, cBK_i, cB_K, zBK_0, zBK_i, zB_K, nBK_0, nBK_i, nB_K, andK_0, andK_i, and_K, orK_0, orK_i, or_K, tkK_0, tkK_i, tk_K, sk_K, stK_0, stK_i, st_K, exK_0, exK_i, ex_K, in_K, pfL_0, pfL_i, pfK_0, pfK_i, pf_K, pzL_0, pzL_i, pzK_0, pzK_i, pz_K, poL_0, poL_i, poK_0, poK_i, po_K, asQ_0, asQ_i, asM_0, asM_i, asL_0, asL_i, asK_0, asK_i, as_K, aoM_0, aoM_i, aoQ_0, aoQ_i, aoL_0, aoL_i, aoK_0, aoK_i, ao_K, sqK_0, sqK_1, sqK_2, sqK_3, sqK_4, sqK_i, sq_K, swK_0, swK_1, swK_2, swK_3, swK_4, swK_i, sw_K, ifK_0, ifK_i, if_K, br_K, ct_K, rv_K, thr_K, rtK_0, rtK_i, rt_K, mfK_0, mfK_i, mf_K, mzK_i, mzK_0, mz_K, cpK_0, cpT_0, cp_K, tsK_0, tsK_i, ts_K, tsP_hit, tsP_next, tsP_low, tsP_nil, ini_0, ini_1, rdU_0, rdU_i, rdB_0, rdB_1, rdB_2, rdB_3, rdB_4, rdB_i, rdC_0, rdC_i, rnd_K, cmpI, addI, subI, mulI, i2lI, l2iI, minI, maxI, idI, up, ok_some, ok_ite, w32_id, ix_id, Int.toNat_add, Int.toNat_mul, ltI_t, ltI_f, leI_t, leI_f, eqI_t, eqI_f, u2_s, u2_v, u2_i, w3_m2, w3_m1, w3_0, w3_1, w3_2, w3_3, w3_4, w3_5, w3_6, w3_7, w3_8, w3_9, w3_10, w3_12, w3_20, w3_23, w3_24, w3_25, w3_32, w3_40, w3_50, w3_100, w3_120, w3_168, w3_200, w3_240, w3_255, w3_500, w3_592, w3_600, w3_900, w3_940, w3_999, w3_1000, w3_1009, w3_1184, w3_3333, w3_9999, if_true, if_false, reduceIte, true_and, and_true, false_and, and_false, true_or, or_true, false_or, or_false, not_true_eq_false, not_false_eq_true, decide_true, decide_false, decide_eq_true_eq, Bool.not_true, Bool.not_false, Bool.false_eq_true, Bool.not_eq_true', Bool.not_eq_eq_eq_not, decide_eq_false_iff_not, Int.not_lt, Int.not_le, Nat.not_le, Nat.not_lt, Nat.le_refl, Int.le_refl, Nat.lt_irrefl, Int.lt_irrefl, reduceCtorEq, Nat.reduceEqDiff, Nat.reduceAdd, Nat.reduceMul, Nat.reduceBEq, Int.reduceNeg, Int.reduceAdd, Int.toNat_natCast, Int.reduceToNat, ne_eq, Nat.zero_ne_one, true_or, Int.ofNat_lt, Int.ofNat_le, Int.natCast_add, Int.cast_ofNat_Int, Int.natCast_zero, g1, g2, g3, g4, n1, aw, ab, tdiv_nn, u1, u2', un hm, e64, eV, etd, M_reaches_eq, hR]
        refine ⟨hk, (hI _ _ _).mpr ⟨g1, g2, g3, by simp [up]; omega, ?_⟩⟩
        rw [hs]
        clear hI hP hx0 hm e64 etd eV hfd hs
        have d1 := un d1
        have d2 := un d2
        funext v i
        simp only [u2, hr2]
        grind
  · simp (disch := first | decide | omega) only [cE_K, vE_K, gE_K, o1K_0, o1K_i, o1_K, o2L_0, o2L_i, o2K_0, o2K_i, o2_K, thK_0, thK_i, th_K, dvL_0, dvL_i, dvK_0, dvK_i, dv_K, rmL_0, rmL_i, rmK_0, rmK_i, rm_K, dlL_0, dlL_i, dlK_0, dlK_i, dl_K, ldQ_0, ldQ_i, ldL_0, ldL_i, ldK_0, ldK_i, ld_K, kK_0, kK_i, k_K, aL_0, aL_i, aK_0, aK_i, aE_0, aE_1, clK_0, clK_i, cl_K, cBL_0, cBL_i, cBK_0, cBK_i, cB_K, zBK_0, zBK_i, zB_K, nBK_0, nBK_i, nB_K, andK_0, andK_i, and_K, orK_0, orK_i, or_K, tkK_0, tkK_i, tk_K, sk_K, stK_0, stK_i, st_K, exK_0, exK_i, ex_K, in_K, pfL_0, pfL_i, pfK_0, pfK_i, pf_K, pzL_0, pzL_i, pzK_0, pzK_i, pz_K, poL_0, poL_i, poK_0, poK_i, po_K, asQ_0, asQ_i, asM_0, asM_i, asL_0, asL_i, asK_0, asK_i, as_K, aoM_0, aoM_i, aoQ_0, aoQ_i, aoL_0, aoL_i, aoK_0, aoK_i, ao_K, sqK_0, sqK_1, sqK_2, sqK_3, sqK_4, sqK_i, sq_K, swK_0, swK_1, swK_2, swK_3, swK_4, swK_i, sw_K, ifK_0, ifK_i, if_K, br_K, ct_K, rv_K, thr_K, rtK_0, rtK_i, rt_K, mfK_0, mfK_i, mf_K, mzK_i, mzK_0, mz_K, cpK_0, cpT_0, cp_K, tsK_0, tsK_i, ts_K, tsP_hit, tsP_next, tsP_low, tsP_nil, ini_0, ini_1, rdU_0, rdU_i, rdB_0, rdB_1, rdB_2, rdB_3, rdB_4, rdB_i, rdC_0, rdC_i, rnd_K, cmpI, addI, subI, mulI, i2lI, l2iI, minI, maxI, idI, up, ok_some, ok_ite, w32_id, ix_id, Int.toNat_add, Int.toNat_mul, ltI_t, ltI_f, leI_t, leI_f, eqI_t, eqI_f, u2_s, u2_v, u2_i, w3_m2, w3_m1, w3_0, w3_1, w3_2, w3_3, w3_4, w3_5, w3_6, w3_7, w3_8, w3_9, w3_10, w3_12, w3_20, w3_23, w3_24, w3_25, w3_32, w3_40, w3_50, w3_100, w3_120, w3_168, w3_200, w3_240, w3_255, w3_500, w3_592, w3_600, w3_900, w3_940, w3_999, w3_1000, w3_1009, w3_1184, w3_3333, w3_9999, if_true, if_false, reduceIte, true_and, and_true, false_and, and_false, true_or, or_true, false_or, or_false, not_true_eq_false, not_false_eq_true, decide_true, decide_false, decide_eq_true_eq, Bool.not_true, Bool.not_false, Bool.false_eq_true, Bool.not_eq_true', Bool.not_eq_eq_eq_not, decide_eq_false_iff_not, Int.not_lt, Int.not_le, Nat.not_le, Nat.not_lt, Nat.le_refl, Int.le_refl, Nat.lt_irrefl, Int.lt_irrefl, reduceCtorEq, Nat.reduceEqDiff, Nat.reduceAdd, Nat.reduceMul, Nat.reduceBEq, Int.reduceNeg, Int.reduceAdd, Int.toNat_natCast, Int.reduceToNat, ne_eq, Nat.zero_ne_one, true_or, Int.ofNat_lt, Int.ofNat_le, Int.natCast_add, Int.cast_ofNat_Int, Int.natCast_zero, g4]
    rw [hs]
    exact hP _ g1 g2 g3
def hr3 (σ : Me) (wd bd : Nat → Int) (c h k : Nat) : Me := fun v i => if v = 704 then (if i % 4 = c ∧ i / 4 < k then wd i else σ 704 i) else if v = 768 then (if i % 4 = c ∧ i / 4 < k then bd i else σ 768 i) else if v = 1024 then (if 40 * h ≤ i ∧ (i - 40 * h) % 4 = c ∧ (i - 40 * h) / 4 < k then wd (i - 40 * h) else σ 1024 i) else if v = 1088 then (if 40 * h ≤ i ∧ (i - 40 * h) % 4 = c ∧ (i - 40 * h) / 4 < k then bd (i - 40 * h) else σ 1088 i) else σ v i
theorem hour_L3 {ρ : Lo} {σ : Me} {h c R : Nat} {N Y B : Nat → Int} {P : Nat × Int × Lo × Me → Prop} (hN : rvN N) (hn : σ 128 = N) (hY : σ 704 = Y) (hB : σ 768 = B) (hR : N 0 = R) (hh : h < 168) (hc : c < 4) (r1 : ρ 1 = h) (r2 : ρ 2 = c) (r4 : ρ 4 = 0)
    (hy0 : ∀ i, i / 4 < R → i % 4 = c → 0 ≤ Y i ∧ Y i < 2147483648)
    (hP : ∀ ρ' : Lo, P (0, 0, ρ', hr3 σ (fun i => Y i - Y i * N (11 + 2 * (i / 4)) / 1000) (fun i => B i + Y i * N (11 + 2 * (i / 4)) / 1000) c h R)) : ok ((whS (nB (cB 3 (vE 4) (clE m_M_reaches [(cE 0)]))) (sq (stS 5 (o2 addI (o2 mulI (cE 4) (vE 4)) (vE 2))) (sq (stS 6 (o1 l2iI (dlE (o2 mulI (o1 i2lI (ldE 704 40 (thE (cE 0) (cE 0)) (vE 5))) (o1 i2lI (ldE 128 592 (thE (cE 0) (cE 0)) (o2 addI (o2 addI (cE 10) (o2 mulI (cE 2) (vE 4))) (cE 1))))) (cE 1000)))) (sq (aoS 704 40 subI (thE (cE 0) (cE 0)) (vE 5) (vE 6)) (sq (aoS 768 40 addI (thE (cE 0) (cE 0)) (vE 5) (vE 6)) (sq (asS 1024 6720 idI (thE (cE 0) (cE 0)) (o2 addI (o2 mulI (cE 40) (vE 1)) (vE 5)) (ldE 704 40 (thE (cE 0) (cE 0)) (vE 5))) (asS 1088 6720 idI (thE (cE 0) (cE 0)) (o2 addI (o2 mulI (cE 40) (vE 1)) (vE 5)) (ldE 768 40 (thE (cE 0) (cE 0)) (vE 5)))))))) (inS 4 1) FU) ρ σ) P := by
  have h10 : R ≤ 10 := by have := hN.1.1; omega
  generalize hwd : (fun i => Y i - Y i * N (11 + 2 * (i / 4)) / 1000) = wd at hP
  generalize hbd : (fun i => B i + Y i * N (11 + 2 * (i / 4)) / 1000) = bd at hP
  obtain ⟨I, hI⟩ : ∃ I : Nat → Lo → Me → Prop, ∀ k ρ s, I k ρ s ↔ (ρ 1 = h ∧ ρ 2 = c ∧ ρ 4 = k ∧ s = hr3 σ wd bd c h k) := ⟨fun k ρ s => ρ 1 = h ∧ ρ 2 = c ∧ ρ 4 = k ∧ s = hr3 σ wd bd c h k, fun _ _ _ => Iff.rfl⟩
  refine wh_gen I R (by omega) ((hI _ _ _).mpr ⟨r1, r2, r4, by clear hI hP hy0; funext v i; simp only [hr3]; grind⟩) ?_
  intro k ρ s hk hIk
  obtain ⟨g1, g2, g4, hs⟩ := (hI _ _ _).mp hIk
  have n1 : s 128 = N := by rw [hs, ← hn]; funext i; simp [hr3]
  rcases Nat.lt_or_eq_of_le hk with hk | rfl
  · have d1 : (4 * k + c) / 4 = k := by omega
    have d2 : (4 * k + c) % 4 = c := by omega
    have aw : s 704 (4 * k + c) = Y (4 * k + c) := by rw [hs]; simp [hr3, d1, d2, hY]
    have ab : s 768 (4 * k + c) = B (4 * k + c) := by rw [hs]; simp [hr3, d1, d2, hB]
    obtain ⟨c1, c2⟩ := hy0 (4 * k + c) (by omega) d2
    obtain ⟨_, _, v0, v1⟩ := rvN_v hN hR (r := k) (by omega)
    have e0 : 10 + 2 * k + 1 = 11 + 2 * k := by omega
    have e64 : w64 (Y (4 * k + c) * N (11 + 2 * k)) = Y (4 * k + c) * N (11 + 2 * k) := by
      have q1 : 0 ≤ Y (4 * k + c) * N (11 + 2 * k) := Int.mul_nonneg c1 v0
      have q2 := Int.mul_le_mul (show Y (4 * k + c) ≤ 2147483648 by omega) v1 v0 (by omega)
      exact w64_id (by omega) (by omega)
    have etd : (Y (4 * k + c) * N (11 + 2 * k)).tdiv 1000 = Y (4 * k + c) * N (11 + 2 * k) / 1000 := tdiv_nn (Int.mul_nonneg c1 v0)
    have e1000 : w64 1000 = 1000 := by decide
    have u1 : Y (4 * k + c) - Y (4 * k + c) * N (11 + 2 * k) / 1000 = wd (4 * k + c) := by rw [← hwd]; simp only [d1]
    have u3 : B (4 * k + c) + Y (4 * k + c) * N (11 + 2 * k) / 1000 = bd (4 * k + c) := by rw [← hbd]; simp only [d1]
    replace u1 := hid_of u1
    replace u3 := hid_of u3
    replace etd := hid_of etd
    replace e64 := hid_of e64
    have d1 := hid_of d1
    have d2 := hid_of d2
    simp (disch := first | decide | omega) only [cE_K, vE_K, gE_K, o1K_0, o1K_i, o1_K, o2L_0, o2L_i, o2K_0, o2K_i, o2_K, thK_0, thK_i, th_K, dvL_0, dvL_i, dvK_0, dvK_i, dv_K, rmL_0, rmL_i, rmK_0, rmK_i, rm_K, dlL_0, dlL_i, dlK_0, dlK_i, dl_K, ldQ_0, ldQ_i, ldL_0, ldL_i, ldK_0, ldK_i, ld_K, kK_0, kK_i, k_K, aL_0, aL_i, aK_0, aK_i, aE_0, aE_1, clK_0, clK_i, cl_K, cBL_0, cBL_i, cBK_0, cBK_i, cB_K, zBK_0, zBK_i, zB_K, nBK_0, nBK_i, nB_K, andK_0, andK_i, and_K, orK_0, orK_i, or_K, tkK_0, tkK_i, tk_K, sk_K, stK_0, stK_i, st_K, exK_0, exK_i, ex_K, in_K, pfL_0, pfL_i, pfK_0, pfK_i, pf_K, pzL_0, pzL_i, pzK_0, pzK_i, pz_K, poL_0, poL_i, poK_0, poK_i, po_K, asQ_0, asQ_i, asM_0, asM_i, asL_0, asL_i, asK_0, asK_i, as_K, aoM_0, aoM_i, aoQ_0, aoQ_i, aoL_0, aoL_i, aoK_0, aoK_i, ao_K, sqK_0, sqK_1, sqK_2, sqK_3, sqK_4, sqK_i, sq_K, swK_0, swK_1, swK_2, swK_3, swK_4, swK_i, sw_K, ifK_0, ifK_i, if_K, br_K, ct_K, rv_K, thr_K, rtK_0, rtK_i, rt_K, mfK_0, mfK_i, mf_K, mzK_i, mzK_0, mz_K, cpK_0, cpT_0, cp_K, tsK_0, tsK_i, ts_K, tsP_hit, tsP_next, tsP_low, tsP_nil, ini_0, ini_1, rdU_0, rdU_i, rdB_0, rdB_1, rdB_2, rdB_3, rdB_4, rdB_i, rdC_0, rdC_i, rnd_K, cmpI, addI, subI, mulI, i2lI, l2iI, minI, maxI, idI, up, ok_some, ok_ite, w32_id, ix_id, Int.toNat_add, Int.toNat_mul, ltI_t, ltI_f, leI_t, leI_f, eqI_t, eqI_f, u2_s, u2_v, u2_i, w3_m2, w3_m1, w3_0, w3_1, w3_2, w3_3, w3_4, w3_5, w3_6, w3_7, w3_8, w3_9, w3_10, w3_12, w3_20, w3_23, w3_24, w3_25, w3_32, w3_40, w3_50, w3_100, w3_120, w3_168, w3_200, w3_240, w3_255, w3_500, w3_592, w3_600, w3_900, w3_940, w3_999, w3_1000, w3_1009, w3_1184, w3_3333, w3_9999, if_true, if_false, reduceIte, true_and, and_true, false_and, and_false, true_or, or_true, false_or, or_false, not_true_eq_false, not_false_eq_true, decide_true, decide_false, decide_eq_true_eq, Bool.not_true, Bool.not_false, Bool.false_eq_true, Bool.not_eq_true', Bool.not_eq_eq_eq_not, decide_eq_false_iff_not, Int.not_lt, Int.not_le, Nat.not_le, Nat.not_lt, Nat.le_refl, Int.le_refl, Nat.lt_irrefl, Int.lt_irrefl, reduceCtorEq, Nat.reduceEqDiff, Nat.reduceAdd, Nat.reduceMul, Nat.reduceBEq, Int.reduceNeg, Int.reduceAdd, Int.toNat_natCast, Int.reduceToNat, ne_eq, Nat.zero_ne_one, true_or, Int.ofNat_lt, Int.ofNat_le, Int.natCast_add, Int.cast_ofNat_Int, Int.natCast_zero, g1, g2, g4, n1, aw, ab, e0, un e64, e1000, un etd, un u1, un u3, M_reaches_eq, hR]
    refine ⟨hk, (hI _ _ _).mpr ⟨g1, g2, by simp [up], ?_⟩⟩
    rw [hs]
    clear hI hP hy0 e64 etd u1 u3 hs hwd hbd aw ab n1
    have d1 := un d1
    have d2 := un d2
    funext v i
    simp only [u2, hr3]
    grind
  · simp (disch := first | decide | omega) only [cE_K, vE_K, gE_K, o1K_0, o1K_i, o1_K, o2L_0, o2L_i, o2K_0, o2K_i, o2_K, thK_0, thK_i, th_K, dvL_0, dvL_i, dvK_0, dvK_i, dv_K, rmL_0, rmL_i, rmK_0, rmK_i, rm_K, dlL_0, dlL_i, dlK_0, dlK_i, dl_K, ldQ_0, ldQ_i, ldL_0, ldL_i, ldK_0, ldK_i, ld_K, kK_0, kK_i, k_K, aL_0, aL_i, aK_0, aK_i, aE_0, aE_1, clK_0, clK_i, cl_K, cBL_0, cBL_i, cBK_0, cBK_i, cB_K, zBK_0, zBK_i, zB_K, nBK_0, nBK_i, nB_K, andK_0, andK_i, and_K, orK_0, orK_i, or_K, tkK_0, tkK_i, tk_K, sk_K, stK_0, stK_i, st_K, exK_0, exK_i, ex_K, in_K, pfL_0, pfL_i, pfK_0, pfK_i, pf_K, pzL_0, pzL_i, pzK_0, pzK_i, pz_K, poL_0, poL_i, poK_0, poK_i, po_K, asQ_0, asQ_i, asM_0, asM_i, asL_0, asL_i, asK_0, asK_i, as_K, aoM_0, aoM_i, aoQ_0, aoQ_i, aoL_0, aoL_i, aoK_0, aoK_i, ao_K, sqK_0, sqK_1, sqK_2, sqK_3, sqK_4, sqK_i, sq_K, swK_0, swK_1, swK_2, swK_3, swK_4, swK_i, sw_K, ifK_0, ifK_i, if_K, br_K, ct_K, rv_K, thr_K, rtK_0, rtK_i, rt_K, mfK_0, mfK_i, mf_K, mzK_i, mzK_0, mz_K, cpK_0, cpT_0, cp_K, tsK_0, tsK_i, ts_K, tsP_hit, tsP_next, tsP_low, tsP_nil, ini_0, ini_1, rdU_0, rdU_i, rdB_0, rdB_1, rdB_2, rdB_3, rdB_4, rdB_i, rdC_0, rdC_i, rnd_K, cmpI, addI, subI, mulI, i2lI, l2iI, minI, maxI, idI, up, ok_some, ok_ite, w32_id, ix_id, Int.toNat_add, Int.toNat_mul, ltI_t, ltI_f, leI_t, leI_f, eqI_t, eqI_f, u2_s, u2_v, u2_i, w3_m2, w3_m1, w3_0, w3_1, w3_2, w3_3, w3_4, w3_5, w3_6, w3_7, w3_8, w3_9, w3_10, w3_12, w3_20, w3_23, w3_24, w3_25, w3_32, w3_40, w3_50, w3_100, w3_120, w3_168, w3_200, w3_240, w3_255, w3_500, w3_592, w3_600, w3_900, w3_940, w3_999, w3_1000, w3_1009, w3_1184, w3_3333, w3_9999, if_true, if_false, reduceIte, true_and, and_true, false_and, and_false, true_or, or_true, false_or, or_false, not_true_eq_false, not_false_eq_true, decide_true, decide_false, decide_eq_true_eq, Bool.not_true, Bool.not_false, Bool.false_eq_true, Bool.not_eq_true', Bool.not_eq_eq_eq_not, decide_eq_false_iff_not, Int.not_lt, Int.not_le, Nat.not_le, Nat.not_lt, Nat.le_refl, Int.le_refl, Nat.lt_irrefl, Int.lt_irrefl, reduceCtorEq, Nat.reduceEqDiff, Nat.reduceAdd, Nat.reduceMul, Nat.reduceBEq, Int.reduceNeg, Int.reduceAdd, Int.toNat_natCast, Int.reduceToNat, ne_eq, Nat.zero_ne_one, true_or, Int.ofNat_lt, Int.ofNat_le, Int.natCast_add, Int.cast_ofNat_Int, Int.natCast_zero, g4, n1, M_reaches_eq, hR]
    rw [hs]
    exact hP _
