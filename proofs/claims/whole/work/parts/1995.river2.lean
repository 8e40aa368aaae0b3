set_option maxHeartbeats 8000000 in
theorem op_river {σ μ : Me} (h : Rl σ μ) : opR (m_D_river [0] σ) (m_M_river [0] μ) := by
  obtain ⟨σ1, f1, f2, f3, f4, f5, f6⟩ := Scene_forget_ok (σ := σ)
  have R1 : Rl σ1 μ := ⟨RA_ag h.1 (fun v hv => f2 v (fun q => by
      simp only [relX, Bool.or_eq_true, Bool.and_eq_true, decide_eq_true_eq, beq_iff_eq] at hv
      omega)) (fun _ _ => rfl) h.1.1 rfl, RP_ag h.2 (fun v hv => f2 v (fun q => by
      simp only [relP, Bool.or_eq_true, Bool.and_eq_true, decide_eq_true_eq, beq_iff_eq] at hv
      omega))⟩
  obtain ⟨ν, s, m, y, T, p, b1, b2, b3, b4, b5, b6, b7, b8, b9, b10, b11⟩ := begin_ok (lim := 900) R1 (by omega)
  simp only [Int.cast_ofNat_Int] at b5 b6
  have st := M_standard2_eq (μ := m)
  obtain ⟨mR, hmR⟩ : ∃ mR : Me, mR = fun v i => if v = 192 then stR (m 192) i else m v i := ⟨_, rfl⟩
  rw [← hmR] at st
  obtain ⟨m0, hm0⟩ : ∃ m0, m0 = u2 (u2 mR 23 0 0) 24 0 0 := ⟨_, rfl⟩
  have mf : ∀ v, v ≠ 192 → v ≠ 23 → v ≠ 24 → m0 v = m v := fun v h1 h2 h3 => by
    rw [hm0, u2_o h3, u2_o h2, hmR]; funext i; simp [h1]
  have T0 : TR s m0 y T 900 p := TR_fr b7 (fun _ _ => rfl) (fun v hv => mf v (by omega) (by omega) (by omega))
  have D0 : DR s m0 := DR_0 (by
      unfold FG at *
      rw [b10 _ (by decide), b10 _ (by decide), b10 _ (by decide), b10 _ (by decide), b10 _ (by decide), b10 _ (by decide), b10 _ (by decide), b10 _ (by decide), b10 _ (by decide), b10 _ (by decide)]
      exact f3) (fun i hi => by rw [hm0, u2_o (by decide), u2_o (by decide), hmR]; simp [stR, hi]) (by rw [hm0, u2_o (by decide)]; simp [u2]) (by rw [hm0]; simp [u2])
  obtain ⟨n, s', x1, x2, x3⟩ := readLines_ok (by omega) T0 D0
  have sX : ∀ v, ¬ (65 ≤ v ∧ v ≤ 75) → ¬ (2368 ≤ v ∧ v < 4096) → s' v = σ v := fun v h1 h2 => by
    rw [x2 v (by omega) (by omega), b10 v h1, f2 v h2]
  have mX : ∀ m' : Me, fM m0 m' → ∀ v, ¬ (2 ≤ v ∧ v ≤ 13) → v ≠ 192 → v ≠ 448 → v ≠ 23 → v ≠ 24 → m' v = ν v := fun m' hf v h1 h2 h3 h4 h5 => by
    rw [hf v (by omega) h2 h3 h4 h5, mf v h2 h4 h5, b11 v h1]
  have nrel : ∀ v, relM v = true → v ≠ 2 → v ≠ 10 → ¬ (2 ≤ v ∧ v ≤ 13) ∧ v ≠ 192 ∧ v ≠ 448 ∧ v ≠ 23 ∧ v ≠ 24 := fun v hv h1 h2 => by
    simp only [relM, Bool.or_eq_true, Bool.and_eq_true, decide_eq_true_eq, beq_iff_eq] at hv
    omega
  have len : ∀ t : Me, (∀ v, v ≠ 1 → t v = s' v) → t 65 0 = 0 := fun t ht => by
    rw [ht _ (by decide), x2 _ (by decide) (by decide)]; exact b8
  -- the reference up to its loop
  have head : ∀ P : Int × Me → Prop, (∀ ρ' : Lo, ρ' 1 = 0 → ok ((whS (nB (zB 0 (thE (cE 0) (gE 7)))) (sq (ifS (nB (zB 1 (clE m_M_readLine [(cE 0)]))) (rtS (o2 subI (cE (-1)) (thE (cE 0) (gE 11)))) skS) (inS 1 1)) skS FU) ρ' m0) (fun x => ok (sqK (sq (sq (stS 2 (cE 0)) (whS (nB (cB 3 (vE 2) (cE 160))) (asS 128 592 idI (thE (cE 0) (cE 0)) (vE 2) (ldE 192 160 (thE (cE 0) (cE 0)) (vE 2))) (inS 2 1) FU)) (sq (sq (stS 2 (cE 0)) (whS (nB (cB 3 (vE 2) (cE 26))) (asS 384 26 idI (thE (cE 0) (cE 0)) (vE 2) (ldE 448 26 (thE (cE 0) (cE 0)) (vE 2))) (inS 2 1) FU)) (sq (asS 128 592 idI (thE (cE 0) (cE 0)) (cE 160) (cE 0)) (sq (asS 128 592 idI (thE (cE 0) (cE 0)) (cE 285) (cE 0)) (sq (asS 128 592 idI (thE (cE 0) (cE 0)) (cE 350) (cE 0)) (rtS (vE 1))))))) (some x)) (fun x => ok (mfK (some x)) P))) → ok (m_M_river [0] μ) P := by
    intro P hP
    clear x3 mX nrel len
    simp only [m_M_river, b_M_river]
    simp (disch := first | decide | omega) only [cE_K, vE_K, gE_K, o1K_0, o1K_i, o1_K, o2L_0, o2L_i, o2K_0, o2K_i, o2_K, thK_0, thK_i, th_K, dvL_0, dvL_i, dvK_0, dvK_i, dv_K, rmL_0, rmL_i, rmK_0, rmK_i, rm_K, dlL_0, dlL_i, dlK_0, dlK_i, dl_K, ldQ_0, ldQ_i, ldL_0, ldL_i, ldK_0, ldK_i, ld_K, kK_0, kK_i, k_K, aL_0, aL_i, aK_0, aK_i, aE_0, aE_1, clK_0, clK_i, cl_K, cBL_0, cBL_i, cBK_0, cBK_i, cB_K, zBK_0, zBK_i, zB_K, nBK_0, nBK_i, nB_K, andK_0, andK_i, and_K, orK_0, orK_i, or_K, tkK_0, tkK_i, tk_K, sk_K, stK_0, stK_i, st_K, exK_0, exK_i, ex_K, in_K, pfL_0, pfL_i, pfK_0, pfK_i, pf_K, pzL_0, pzL_i, pzK_0, pzK_i, pz_K, poL_0, poL_i, poK_0, poK_i, po_K, asQ_0, asQ_i, asM_0, asM_i, asL_0, asL_i, asK_0, asK_i, as_K, aoM_0, aoM_i, aoQ_0, aoQ_i, aoL_0, aoL_i, aoK_0, aoK_i, ao_K, sqK_0, sqK_1, sqK_2, sqK_3, sqK_4, sqK_i, sq_K, swK_0, swK_1, swK_2, swK_3, swK_4, swK_i, sw_K, ifK_0, ifK_i, if_K, br_K, ct_K, rv_K, thr_K, rtK_0, rtK_i, rt_K, mfK_0, mfK_i, mf_K, mzK_i, mzK_0, mz_K, cpK_0, cpT_0, cp_K, tsK_0, tsK_i, ts_K, tsP_hit, tsP_next, tsP_low, tsP_nil, ini_0, ini_1, rdU_0, rdU_i, rdB_0, rdB_1, rdB_2, rdB_3, rdB_4, rdB_i, rdC_0, rdC_i, rnd_K, cmpI, addI, subI, mulI, i2lI, l2iI, minI, maxI, idI, up, ok_some, ok_ite, w32_id, ix_id, Int.toNat_add, Int.toNat_mul, ltI_t, ltI_f, leI_t, leI_f, eqI_t, eqI_f, u2_s, u2_v, u2_i, w3_m2, w3_m1, w3_0, w3_1, w3_2, w3_3, w3_4, w3_5, w3_6, w3_7, w3_8, w3_9, w3_10, w3_12, w3_20, w3_23, w3_24, w3_25, w3_32, w3_40, w3_50, w3_100, w3_120, w3_168, w3_200, w3_240, w3_255, w3_500, w3_592, w3_600, w3_900, w3_940, w3_999, w3_1000, w3_1009, w3_1184, w3_3333, w3_9999, if_true, if_false, reduceIte, true_and, and_true, false_and, and_false, true_or, or_true, false_or, or_false, not_true_eq_false, not_false_eq_true, decide_true, decide_false, decide_eq_true_eq, Bool.not_true, Bool.not_false, Bool.false_eq_true, Bool.not_eq_true', Bool.not_eq_eq_eq_not, decide_eq_false_iff_not, Int.not_lt, Int.not_le, Nat.not_le, Nat.not_lt, Nat.le_refl, Int.le_refl, Nat.lt_irrefl, Int.lt_irrefl, reduceCtorEq, Nat.reduceEqDiff, Nat.reduceAdd, Nat.reduceMul, Nat.reduceBEq, Int.reduceNeg, Int.reduceAdd, Int.toNat_natCast, Int.reduceToNat, ne_eq, Nat.zero_ne_one, true_or, Int.ofNat_lt, Int.ofNat_le, Int.natCast_add, Int.cast_ofNat_Int, Int.natCast_zero, b6, st]
    rw [← hm0]
    exact ok_mfK (ok_sqK (hP _ (by simp [up])))
  rcases x3 with ⟨m', z1', z2, z3, z4, z5⟩ | ⟨m', z1', z2, z3⟩
  · -- all is read
    have cp := Scene_copy (σ := u2 s' 1 0 0)
    obtain ⟨τ, hτ⟩ : ∃ τ, τ = u2 (cpL 2112 0 L0 (u2 s' 1 0 0)) 10 0 1 := ⟨_, rfl⟩
    have tf : ∀ v, v ≠ 10 → v < 256 ∨ 2304 ≤ v → τ v = u2 s' 1 0 0 v := fun v h1 h2 => by
      rw [hτ, ← cpL0_out (a := 2112) (b := 0) (s := u2 s' 1 0 0) (w := v) (by omega), u2_o h1]
    have ex : m_D_river [0] σ = some ((n : Int), τ) := by
      rw [hτ]
      simp only [m_D_river, b_D_river, m_D_isRefused, b_D_isRefused]
      clear head mX nrel len
      simp (disch := first | decide | omega) only [cE_K, vE_K, gE_K, o1K_0, o1K_i, o1_K, o2L_0, o2L_i, o2K_0, o2K_i, o2_K, thK_0, thK_i, th_K, dvL_0, dvL_i, dvK_0, dvK_i, dv_K, rmL_0, rmL_i, rmK_0, rmK_i, rm_K, dlL_0, dlL_i, dlK_0, dlK_i, dl_K, ldQ_0, ldQ_i, ldL_0, ldL_i, ldK_0, ldK_i, ld_K, kK_0, kK_i, k_K, aL_0, aL_i, aK_0, aK_i, aE_0, aE_1, clK_0, clK_i, cl_K, cBL_0, cBL_i, cBK_0, cBK_i, cB_K, zBK_0, zBK_i, zB_K, nBK_0, nBK_i, nB_K, andK_0, andK_i, and_K, orK_0, orK_i, or_K, tkK_0, tkK_i, tk_K, sk_K, stK_0, stK_i, st_K, exK_0, exK_i, ex_K, in_K, pfL_0, pfL_i, pfK_0, pfK_i, pf_K, pzL_0, pzL_i, pzK_0, pzK_i, pz_K, poL_0, poL_i, poK_0, poK_i, po_K, asQ_0, asQ_i, asM_0, asM_i, asL_0, asL_i, asK_0, asK_i, as_K, aoM_0, aoM_i, aoQ_0, aoQ_i, aoL_0, aoL_i, aoK_0, aoK_i, ao_K, sqK_0, sqK_1, sqK_2, sqK_3, sqK_4, sqK_i, sq_K, swK_0, swK_1, swK_2, swK_3, swK_4, swK_i, sw_K, ifK_0, ifK_i, if_K, br_K, ct_K, rv_K, thr_K, rtK_0, rtK_i, rt_K, mfK_0, mfK_i, mf_K, mzK_i, mzK_0, mz_K, cpK_0, cpT_0, cp_K, tsK_0, tsK_i, ts_K, tsP_hit, tsP_next, tsP_low, tsP_nil, ini_0, ini_1, rdU_0, rdU_i, rdB_0, rdB_1, rdB_2, rdB_3, rdB_4, rdB_i, rdC_0, rdC_i, rnd_K, cmpI, addI, subI, mulI, i2lI, l2iI, minI, maxI, idI, up, ok_some, ok_ite, w32_id, ix_id, Int.toNat_add, Int.toNat_mul, ltI_t, ltI_f, leI_t, leI_f, eqI_t, eqI_f, u2_s, u2_v, u2_i, w3_m2, w3_m1, w3_0, w3_1, w3_2, w3_3, w3_4, w3_5, w3_6, w3_7, w3_8, w3_9, w3_10, w3_12, w3_20, w3_23, w3_24, w3_25, w3_32, w3_40, w3_50, w3_100, w3_120, w3_168, w3_200, w3_240, w3_255, w3_500, w3_592, w3_600, w3_900, w3_940, w3_999, w3_1000, w3_1009, w3_1184, w3_3333, w3_9999, if_true, if_false, reduceIte, true_and, and_true, false_and, and_false, true_or, or_true, false_or, or_false, not_true_eq_false, not_false_eq_true, decide_true, decide_false, decide_eq_true_eq, Bool.not_true, Bool.not_false, Bool.false_eq_true, Bool.not_eq_true', Bool.not_eq_eq_eq_not, decide_eq_false_iff_not, Int.not_lt, Int.not_le, Nat.not_le, Nat.not_lt, Nat.le_refl, Int.le_refl, Nat.lt_irrefl, Int.lt_irrefl, reduceCtorEq, Nat.reduceEqDiff, Nat.reduceAdd, Nat.reduceMul, Nat.reduceBEq, Int.reduceNeg, Int.reduceAdd, Int.toNat_natCast, Int.reduceToNat, ne_eq, Nat.zero_ne_one, true_or, Int.ofNat_lt, Int.ofNat_le, Int.natCast_add, Int.cast_ofNat_Int, Int.natCast_zero, f1, b5, x1, z2, cp]
    have md : ∃ κ, m_M_river [0] μ = some ((n : Int), κ) ∧ (∀ v, v ≠ 128 → v ≠ 384 → κ v = m' v) ∧ (∀ i, i < 160 → κ 128 i = m' 192 i) ∧ (∀ i, i < 26 → κ 384 i = m' 448 i) ∧ κ 128 160 = 0 ∧ κ 128 285 = 0 ∧ κ 128 350 = 0 := by
      obtain ⟨QQ, hQQ⟩ : ∃ Q : Int × Me → Prop, ∀ z t, Q (z, t) ↔ (z = (n : Int) ∧ (∀ v, v ≠ 128 → v ≠ 384 → t v = m' v) ∧ (∀ i, i < 160 → t 128 i = m' 192 i) ∧ (∀ i, i < 26 → t 384 i = m' 448 i) ∧ t 128 160 = 0 ∧ t 128 285 = 0 ∧ t 128 350 = 0) := ⟨fun qQ9 => (fun (z : Int) (t : Me) => (z = (n : Int) ∧ (∀ v, v ≠ 128 → v ≠ 384 → t v = m' v) ∧ (∀ i, i < 160 → t 128 i = m' 192 i) ∧ (∀ i, i < 26 → t 384 i = m' 448 i) ∧ t 128 160 = 0 ∧ t 128 285 = 0 ∧ t 128 350 = 0)) qQ9.1 qQ9.2, fun _ _ => Iff.rfl⟩
      have main : ok (m_M_river [0] μ) QQ := by
        refine head _ (fun ρ' h0 => ok_mono (z1' ρ' h0) ?_)
        rintro ⟨x, b, c', d⟩ ⟨h1, h2', h3'⟩
        simp only at h1 h2' h3'
        subst h1 h3'
        clear head mX nrel len z1'
        simp (disch := first | decide | omega) only [cE_K, vE_K, gE_K, o1K_0, o1K_i, o1_K, o2L_0, o2L_i, o2K_0, o2K_i, o2_K, thK_0, thK_i, th_K, dvL_0, dvL_i, dvK_0, dvK_i, dv_K, rmL_0, rmL_i, rmK_0, rmK_i, rm_K, dlL_0, dlL_i, dlK_0, dlK_i, dl_K, ldQ_0, ldQ_i, ldL_0, ldL_i, ldK_0, ldK_i, ld_K, kK_0, kK_i, k_K, aL_0, aL_i, aK_0, aK_i, aE_0, aE_1, clK_0, clK_i, cl_K, cBL_0, cBL_i, cBK_0, cBK_i, cB_K, zBK_0, zBK_i, zB_K, nBK_0, nBK_i, nB_K, andK_0, andK_i, and_K, orK_0, orK_i, or_K, tkK_0, tkK_i, tk_K, sk_K, stK_0, stK_i, st_K, exK_0, exK_i, ex_K, in_K, pfL_0, pfL_i, pfK_0, pfK_i, pf_K, pzL_0, pzL_i, pzK_0, pzK_i, pz_K, poL_0, poL_i, poK_0, poK_i, po_K, asQ_0, asQ_i, asM_0, asM_i, asL_0, asL_i, asK_0, asK_i, as_K, aoM_0, aoM_i, aoQ_0, aoQ_i, aoL_0, aoL_i, aoK_0, aoK_i, ao_K, sqK_0, sqK_1, sqK_2, sqK_3, sqK_4, sqK_i, sq_K, swK_0, swK_1, swK_2, swK_3, swK_4, swK_i, sw_K, ifK_0, ifK_i, if_K, br_K, ct_K, rv_K, thr_K, rtK_0, rtK_i, rt_K, mfK_0, mfK_i, mf_K, mzK_i, mzK_0, mz_K, cpK_0, cpT_0, cp_K, tsK_0, tsK_i, ts_K, tsP_hit, tsP_next, tsP_low, tsP_nil, ini_0, ini_1, rdU_0, rdU_i, rdB_0, rdB_1, rdB_2, rdB_3, rdB_4, rdB_i, rdC_0, rdC_i, rnd_K, cmpI, addI, subI, mulI, i2lI, l2iI, minI, maxI, idI, up, ok_some, ok_ite, w32_id, ix_id, Int.toNat_add, Int.toNat_mul, ltI_t, ltI_f, leI_t, leI_f, eqI_t, eqI_f, u2_s, u2_v, u2_i, w3_m2, w3_m1, w3_0, w3_1, w3_2, w3_3, w3_4, w3_5, w3_6, w3_7, w3_8, w3_9, w3_10, w3_12, w3_20, w3_23, w3_24, w3_25, w3_32, w3_40, w3_50, w3_100, w3_120, w3_168, w3_200, w3_240, w3_255, w3_500, w3_592, w3_600, w3_900, w3_940, w3_999, w3_1000, w3_1009, w3_1184, w3_3333, w3_9999, if_true, if_false, reduceIte, true_and, and_true, false_and, and_false, true_or, or_true, false_or, or_false, not_true_eq_false, not_false_eq_true, decide_true, decide_false, decide_eq_true_eq, Bool.not_true, Bool.not_false, Bool.false_eq_true, Bool.not_eq_true', Bool.not_eq_eq_eq_not, decide_eq_false_iff_not, Int.not_lt, Int.not_le, Nat.not_le, Nat.not_lt, Nat.le_refl, Int.le_refl, Nat.lt_irrefl, Int.lt_irrefl, reduceCtorEq, Nat.reduceEqDiff, Nat.reduceAdd, Nat.reduceMul, Nat.reduceBEq, Int.reduceNeg, Int.reduceAdd, Int.toNat_natCast, Int.reduceToNat, ne_eq, Nat.zero_ne_one, true_or, Int.ofNat_lt, Int.ofNat_le, Int.natCast_add, Int.cast_ofNat_Int, Int.natCast_zero, h2']
        obtain ⟨I, hI⟩ : ∃ I : Nat → Lo → Me → Prop, ∀ k ρ s, I k ρ s ↔ (ρ 1 = (n : Int) ∧ ρ 2 = k ∧ s = fun v i => if v = 128 ∧ i < k then d 192 i else d v i) := ⟨fun k ρ s => ρ 1 = (n : Int) ∧ ρ 2 = k ∧ s = fun v i => if v = 128 ∧ i < k then d 192 i else d v i, fun _ _ _ => Iff.rfl⟩
        refine ok_sqK (wh_gen I 160 (by omega) ((hI _ _ _).mpr ⟨by simp [up, h2'], by simp [up], by funext v i; simp⟩) ?_)
        intro k ρ s9 hk hIk
        obtain ⟨g1, g2, hs⟩ := (hI _ _ _).mp hIk
        clear hIk
        rcases Nat.lt_or_eq_of_le hk with hk | rfl
        · have e : s9 192 k = d 192 k := by rw [hs]; simp
          simp (disch := first | decide | omega) only [cE_K, vE_K, gE_K, o1K_0, o1K_i, o1_K, o2L_0, o2L_i, o2K_0, o2K_i, o2_K, thK_0, thK_i, th_K, dvL_0, dvL_i, dvK_0, dvK_i, dv_K, rmL_0, rmL_i, rmK_0, rmK_i, rm_K, dlL_0, dlL_i, dlK_0, dlK_i, dl_K, ldQ_0, ldQ_i, ldL_0, ldL_i, ldK_0, ldK_i, ld_K, kK_0, kK_i, k_K, aL_0, aL_i, aK_0, aK_i, aE_0, aE_1, clK_0, clK_i, cl_K, cBL_0, cBL_i, cBK_0, cBK_i, cB_K, zBK_0, zBK_i, zB_K, nBK_0, nBK_i, nB_K, andK_0, andK_i, and_K, orK_0, orK_i, or_K, tkK_0, tkK_i, tk_K, sk_K, stK_0, stK_i, st_K, exK_0, exK_i, ex_K, in_K, pfL_0, pfL_i, pfK_0, pfK_i, pf_K, pzL_0, pzL_i, pzK_0, pzK_i, pz_K, poL_0, poL_i, poK_0, poK_i, po_K, asQ_0, asQ_i, asM_0, asM_i, asL_0, asL_i, asK_0, asK_i, as_K, aoM_0, aoM_i, aoQ_0, aoQ_i, aoL_0, aoL_i, aoK_0, aoK_i, ao_K, sqK_0, sqK_1, sqK_2, sqK_3, sqK_4, sqK_i, sq_K, swK_0, swK_1, swK_2, swK_3, swK_4, swK_i, sw_K, ifK_0, ifK_i, if_K, br_K, ct_K, rv_K, thr_K, rtK_0, rtK_i, rt_K, mfK_0, mfK_i, mf_K, mzK_i, mzK_0, mz_K, cpK_0, cpT_0, cp_K, tsK_0, tsK_i, ts_K, tsP_hit, tsP_next, tsP_low, tsP_nil, ini_0, ini_1, rdU_0, rdU_i, rdB_0, rdB_1, rdB_2, rdB_3, rdB_4, rdB_i, rdC_0, rdC_i, rnd_K, cmpI, addI, subI, mulI, i2lI, l2iI, minI, maxI, idI, up, ok_some, ok_ite, w32_id, ix_id, Int.toNat_add, Int.toNat_mul, ltI_t, ltI_f, leI_t, leI_f, eqI_t, eqI_f, u2_s, u2_v, u2_i, w3_m2, w3_m1, w3_0, w3_1, w3_2, w3_3, w3_4, w3_5, w3_6, w3_7, w3_8, w3_9, w3_10, w3_12, w3_20, w3_23, w3_24, w3_25, w3_32, w3_40, w3_50, w3_100, w3_120, w3_168, w3_200, w3_240, w3_255, w3_500, w3_592, w3_600, w3_900, w3_940, w3_999, w3_1000, w3_1009, w3_1184, w3_3333, w3_9999, if_true, if_false, reduceIte, true_and, and_true, false_and, and_false, true_or, or_true, false_or, or_false, not_true_eq_false, not_false_eq_true, decide_true, decide_false, decide_eq_true_eq, Bool.not_true, Bool.not_false, Bool.false_eq_true, Bool.not_eq_true', Bool.not_eq_eq_eq_not, decide_eq_false_iff_not, Int.not_lt, Int.not_le, Nat.not_le, Nat.not_lt, Nat.le_refl, Int.le_refl, Nat.lt_irrefl, Int.lt_irrefl, reduceCtorEq, Nat.reduceEqDiff, Nat.reduceAdd, Nat.reduceMul, Nat.reduceBEq, Int.reduceNeg, Int.reduceAdd, Int.toNat_natCast, Int.reduceToNat, ne_eq, Nat.zero_ne_one, true_or, Int.ofNat_lt, Int.ofNat_le, Int.natCast_add, Int.cast_ofNat_Int, Int.natCast_zero, g1, g2, e]
          refine ⟨hk, (hI _ _ _).mpr ⟨by simp [up, g1], by simp [up], ?_⟩⟩
          rw [hs]
          funext v i
          simp only [u2]
          clear hI hQQ hs e
          grind
        · simp (disch := first | decide | omega) only [cE_K, vE_K, gE_K, o1K_0, o1K_i, o1_K, o2L_0, o2L_i, o2K_0, o2K_i, o2_K, thK_0, thK_i, th_K, dvL_0, dvL_i, dvK_0, dvK_i, dv_K, rmL_0, rmL_i, rmK_0, rmK_i, rm_K, dlL_0, dlL_i, dlK_0, dlK_i, dl_K, ldQ_0, ldQ_i, ldL_0, ldL_i, ldK_0, ldK_i, ld_K, kK_0, kK_i, k_K, aL_0, aL_i, aK_0, aK_i, aE_0, aE_1, clK_0, clK_i, cl_K, cBL_0, cBL_i, cBK_0, cBK_i, cB_K, zBK_0, zBK_i, zB_K, nBK_0, nBK_i, nB_K, andK_0, andK_i, and_K, orK_0, orK_i, or_K, tkK_0, tkK_i, tk_K, sk_K, stK_0, stK_i, st_K, exK_0, exK_i, ex_K, in_K, pfL_0, pfL_i, pfK_0, pfK_i, pf_K, pzL_0, pzL_i, pzK_0, pzK_i, pz_K, poL_0, poL_i, poK_0, poK_i, po_K, asQ_0, asQ_i, asM_0, asM_i, asL_0, asL_i, asK_0, asK_i, as_K, aoM_0, aoM_i, aoQ_0, aoQ_i, aoL_0, aoL_i, aoK_0, aoK_i, ao_K, sqK_0, sqK_1, sqK_2, sqK_3, sqK_4, sqK_i, sq_K, swK_0, swK_1, swK_2, swK_3, swK_4, swK_i, sw_K, ifK_0, ifK_i, if_K, br_K, ct_K, rv_K, thr_K, rtK_0, rtK_i, rt_K, mfK_0, mfK_i, mf_K, mzK_i, mzK_0, mz_K, cpK_0, cpT_0, cp_K, tsK_0, tsK_i, ts_K, tsP_hit, tsP_next, tsP_low, tsP_nil, ini_0, ini_1, rdU_0, rdU_i, rdB_0, rdB_1, rdB_2, rdB_3, rdB_4, rdB_i, rdC_0, rdC_i, rnd_K, cmpI, addI, subI, mulI, i2lI, l2iI, minI, maxI, idI, up, ok_some, ok_ite, w32_id, ix_id, Int.toNat_add, Int.toNat_mul, ltI_t, ltI_f, leI_t, leI_f, eqI_t, eqI_f, u2_s, u2_v, u2_i, w3_m2, w3_m1, w3_0, w3_1, w3_2, w3_3, w3_4, w3_5, w3_6, w3_7, w3_8, w3_9, w3_10, w3_12, w3_20, w3_23, w3_24, w3_25, w3_32, w3_40, w3_50, w3_100, w3_120, w3_168, w3_200, w3_240, w3_255, w3_500, w3_592, w3_600, w3_900, w3_940, w3_999, w3_1000, w3_1009, w3_1184, w3_3333, w3_9999, if_true, if_false, reduceIte, true_and, and_true, false_and, and_false, true_or, or_true, false_or, or_false, not_true_eq_false, not_false_eq_true, decide_true, decide_false, decide_eq_true_eq, Bool.not_true, Bool.not_false, Bool.false_eq_true, Bool.not_eq_true', Bool.not_eq_eq_eq_not, decide_eq_false_iff_not, Int.not_lt, Int.not_le, Nat.not_le, Nat.not_lt, Nat.le_refl, Int.le_refl, Nat.lt_irrefl, Int.lt_irrefl, reduceCtorEq, Nat.reduceEqDiff, Nat.reduceAdd, Nat.reduceMul, Nat.reduceBEq, Int.reduceNeg, Int.reduceAdd, Int.toNat_natCast, Int.reduceToNat, ne_eq, Nat.zero_ne_one, true_or, Int.ofNat_lt, Int.ofNat_le, Int.natCast_add, Int.cast_ofNat_Int, Int.natCast_zero, g1, g2]
          clear hI g2
          obtain ⟨J, hJ⟩ : ∃ J : Nat → Lo → Me → Prop, ∀ k ρ s, J k ρ s ↔ (ρ 1 = (n : Int) ∧ ρ 2 = k ∧ s = fun v i => if v = 384 ∧ i < k then d 448 i else if v = 128 ∧ i < 160 then d 192 i else d v i) := ⟨fun k ρ s => ρ 1 = (n : Int) ∧ ρ 2 = k ∧ s = fun v i => if v = 384 ∧ i < k then d 448 i else if v = 128 ∧ i < 160 then d 192 i else d v i, fun _ _ _ => Iff.rfl⟩
          refine ok_sqK (wh_gen J 26 (by omega) ((hJ _ _ _).mpr ⟨by simp [up, g1], by simp [up], by rw [hs]; funext v i; simp⟩) ?_)
          clear hs g1
          intro k ρ s9 hk hJk
          obtain ⟨g1, g2, hs⟩ := (hJ _ _ _).mp hJk
          clear hJk
          rcases Nat.lt_or_eq_of_le hk with hk | rfl
          · have e : s9 448 k = d 448 k := by rw [hs]; simp
            simp (disch := first | decide | omega) only [cE_K, vE_K, gE_K, o1K_0, o1K_i, o1_K, o2L_0, o2L_i, o2K_0, o2K_i, o2_K, thK_0, thK_i, th_K, dvL_0, dvL_i, dvK_0, dvK_i, dv_K, rmL_0, rmL_i, rmK_0, rmK_i, rm_K, dlL_0, dlL_i, dlK_0, dlK_i, dl_K, ldQ_0, ldQ_i, ldL_0, ldL_i, ldK_0, ldK_i, ld_K, kK_0, kK_i, k_K, aL_0, aL_i, aK_0, aK_i, aE_0, aE_1, clK_0, clK_i, cl_K, cBL_0, cBL_i, cBK_0, cBK_i, cB_K, zBK_0, zBK_i, zB_K, nBK_0, nBK_i, nB_K, andK_0, andK_i, and_K, orK_0, orK_i, or_K, tkK_0, tkK_i, tk_K, sk_K, stK_0, stK_i, st_K, exK_0, exK_i, ex_K, in_K, pfL_0, pfL_i, pfK_0, pfK_i, pf_K, pzL_0, pzL_i, pzK_0, pzK_i, pz_K, poL_0, poL_i, poK_0, poK_i, po_K, asQ_0, asQ_i, asM_0, asM_i, asL_0, asL_i, asK_0, asK_i, as_K, aoM_0, aoM_i, aoQ_0, aoQ_i, aoL_0, aoL_i, aoK_0, aoK_i, ao_K, sqK_0, sqK_1, sqK_2, sqK_3, sqK_4, sqK_i, sq_K, swK_0, swK_1, swK_2, swK_3, swK_4, swK_i, sw_K, ifK_0, ifK_i, if_K, br_K, ct_K, rv_K, thr_K, rtK_0, rtK_i, rt_K, mfK_0, mfK_i, mf_K, mzK_i, mzK_0, mz_K, cpK_0, cpT_0, cp_K, tsK_0, tsK_i, ts_K, tsP_hit, tsP_next, tsP_low, tsP_nil, ini_0, ini_1, rdU_0, rdU_i, rdB_0, rdB_1, rdB_2, rdB_3, rdB_4, rdB_i, rdC_0, rdC_i, rnd_K, cmpI, addI, subI, mulI, i2lI, l2iI, minI, maxI, idI, up, ok_some, ok_ite, w32_id, ix_id, Int.toNat_add, Int.toNat_mul, ltI_t, ltI_f, leI_t, leI_f, eqI_t, eqI_f, u2_s, u2_v, u2_i, w3_m2, w3_m1, w3_0, w3_1, w3_2, w3_3, w3_4, w3_5, w3_6, w3_7, w3_8, w3_9, w3_10, w3_12, w3_20, w3_23, w3_24, w3_25, w3_32, w3_40, w3_50, w3_100, w3_120, w3_168, w3_200, w3_240, w3_255, w3_500, w3_592, w3_600, w3_900, w3_940, w3_999, w3_1000, w3_1009, w3_1184, w3_3333, w3_9999, if_true, if_false, reduceIte, true_and, and_true, false_and, and_false, true_or, or_true, false_or, or_false, not_true_eq_false, not_false_eq_true, decide_true, decide_false, decide_eq_true_eq, Bool.not_true, Bool.not_false, Bool.false_eq_true, Bool.not_eq_true', Bool.not_eq_eq_eq_not, decide_eq_false_iff_not, Int.not_lt, Int.not_le, Nat.not_le, Nat.not_lt, Nat.le_refl, Int.le_refl, Nat.lt_irrefl, Int.lt_irrefl, reduceCtorEq, Nat.reduceEqDiff, Nat.reduceAdd, Nat.reduceMul, Nat.reduceBEq, Int.reduceNeg, Int.reduceAdd, Int.toNat_natCast, Int.reduceToNat, ne_eq, Nat.zero_ne_one, true_or, Int.ofNat_lt, Int.ofNat_le, Int.natCast_add, Int.cast_ofNat_Int, Int.natCast_zero, g1, g2, e]
            refine ⟨hk, (hJ _ _ _).mpr ⟨by simp [up, g1], by simp [up], ?_⟩⟩
            rw [hs]
            funext v i
            simp only [u2]
            clear hJ hQQ hs e
            grind
          · have fin : QQ ((n : Int), u2 (u2 (u2 s9 128 160 0) 128 285 0) 128 350 0) := (hQQ _ _).mpr ⟨rfl, fun v h1 h2 => by rw [u2_o h1, u2_o h1, u2_o h1, hs]; funext i; simp [h1, h2], fun i hi => by
              have : i ≠ 160 ∧ i ≠ 285 ∧ i ≠ 350 := by omega
              simp [u2, this]; rw [hs]; simp [hi], fun i hi => by simp [u2]; rw [hs]; simp [hi], by simp [u2], by simp [u2], by simp [u2]⟩
            clear hQQ hs hJ
            simp (disch := first | decide | omega) only [cE_K, vE_K, gE_K, o1K_0, o1K_i, o1_K, o2L_0, o2L_i, o2K_0, o2K_i, o2_K, thK_0, thK_i, th_K, dvL_0, dvL_i, dvK_0, dvK_i, dv_K, rmL_0, rmL_i, rmK_0, rmK_i, rm_K, dlL_0, dlL_i, dlK_0, dlK_i, dl_K, ldQ_0, ldQ_i, ldL_0, ldL_i, ldK_0, ldK_i, ld_K, kK_0, kK_i, k_K, aL_0, aL_i, aK_0, aK_i, aE_0, aE_1, clK_0, clK_i, cl_K, cBL_0, cBL_i, cBK_0, cBK_i, cB_K, zBK_0, zBK_i, zB_K, nBK_0, nBK_i, nB_K, andK_0, andK_i, and_K, orK_0, orK_i, or_K, tkK_0, tkK_i, tk_K, sk_K, stK_0, stK_i, st_K, exK_0, exK_i, ex_K, in_K, pfL_0, pfL_i, pfK_0, pfK_i, pf_K, pzL_0, pzL_i, pzK_0, pzK_i, pz_K, poL_0, poL_i, poK_0, poK_i, po_K, asQ_0, asQ_i, asM_0, asM_i, asL_0, asL_i, asK_0, asK_i, as_K, aoM_0, aoM_i, aoQ_0, aoQ_i, aoL_0, aoL_i, aoK_0, aoK_i, ao_K, sqK_0, sqK_1, sqK_2, sqK_3, sqK_4, sqK_i, sq_K, swK_0, swK_1, swK_2, swK_3, swK_4, swK_i, sw_K, ifK_0, ifK_i, if_K, br_K, ct_K, rv_K, thr_K, rtK_0, rtK_i, rt_K, mfK_0, mfK_i, mf_K, mzK_i, mzK_0, mz_K, cpK_0, cpT_0, cp_K, tsK_0, tsK_i, ts_K, tsP_hit, tsP_next, tsP_low, tsP_nil, ini_0, ini_1, rdU_0, rdU_i, rdB_0, rdB_1, rdB_2, rdB_3, rdB_4, rdB_i, rdC_0, rdC_i, rnd_K, cmpI, addI, subI, mulI, i2lI, l2iI, minI, maxI, idI, up, ok_some, ok_ite, w32_id, ix_id, Int.toNat_add, Int.toNat_mul, ltI_t, ltI_f, leI_t, leI_f, eqI_t, eqI_f, u2_s, u2_v, u2_i, w3_m2, w3_m1, w3_0, w3_1, w3_2, w3_3, w3_4, w3_5, w3_6, w3_7, w3_8, w3_9, w3_10, w3_12, w3_20, w3_23, w3_24, w3_25, w3_32, w3_40, w3_50, w3_100, w3_120, w3_168, w3_200, w3_240, w3_255, w3_500, w3_592, w3_600, w3_900, w3_940, w3_999, w3_1000, w3_1009, w3_1184, w3_3333, w3_9999, if_true, if_false, reduceIte, true_and, and_true, false_and, and_false, true_or, or_true, false_or, or_false, not_true_eq_false, not_false_eq_true, decide_true, decide_false, decide_eq_true_eq, Bool.not_true, Bool.not_false, Bool.false_eq_true, Bool.not_eq_true', Bool.not_eq_eq_eq_not, decide_eq_false_iff_not, Int.not_lt, Int.not_le, Nat.not_le, Nat.not_lt, Nat.le_refl, Int.le_refl, Nat.lt_irrefl, Int.lt_irrefl, reduceCtorEq, Nat.reduceEqDiff, Nat.reduceAdd, Nat.reduceMul, Nat.reduceBEq, Int.reduceNeg, Int.reduceAdd, Int.toNat_natCast, Int.reduceToNat, ne_eq, Nat.zero_ne_one, true_or, Int.ofNat_lt, Int.ofNat_le, Int.natCast_add, Int.cast_ofNat_Int, Int.natCast_zero, g1, g2]
            exact fin
      obtain ⟨⟨r1, r2⟩, h1, h2⟩ := main
      obtain ⟨k1, k2⟩ := (hQQ _ _).mp h2
      subst k1
      exact ⟨r2, h1, k2⟩
    obtain ⟨κ, k1, k2, k3, k4, k5, k6, k7⟩ := md
    refine opR_mk ex k1 ?_
    have kX : ∀ v, relM v = true → v ≠ 384 → v ≠ 2 → v ≠ 10 → κ v = ν v := fun v hv h1 h2 h3 => by
      obtain ⟨q1, q2, q3, q4, q5⟩ := nrel v hv h2 h3
      have : v ≠ 128 := fun e => by subst e; revert hv; decide
      rw [k2 v this h1, mX m' z5 v q1 q2 q3 q4 q5]
    have bg : κ 22 0 = 1 := by rw [k2 _ (by decide) (by decide), mX m' z5 _ (by decide) (by decide) (by decide) (by decide) (by decide)]; exact b2
    have so : ∀ v, 3520 ≤ v → v < 4096 → s' v = σ1 v := fun v h1 h2 => by rw [x2 v (by omega) (by omega), b10 v (by omega)]
    refine Rl_new b3 (fun v h1 h2 h3 h4 h5 h6 => ?_) (fun v hv h1 h2 h3 h4 => kX v hv h1 h2 h4) bg ?_ ⟨0, by omega, ?_, ?_, fun i hi => by omega⟩ ⟨?_, ?_, ?_⟩ (by rw [hτ]; simp [u2])
    · have : ¬ (65 ≤ v ∧ v ≤ 75) ∧ ¬ (2368 ≤ v ∧ v < 4096) := by
        rcases h6 with h6 | h6
        · simp only [relX, Bool.or_eq_true, Bool.and_eq_true, decide_eq_true_eq, beq_iff_eq] at h6
          omega
        · simp only [relP, Bool.or_eq_true, Bool.and_eq_true, decide_eq_true_eq, beq_iff_eq] at h6
          omega
      rw [tf v h2 h1, u2_o h5, sX v this.1 this.2, f2 v this.2]
    · have sc : sce (shf (u2 s' 1 0 0) 2112) (κ 128) (κ 384) := by
        have hD' : DR (u2 s' 1 0 0) m' := DR_fr z4 (fun v h1 h2 => u2_o (by omega)) (fun _ _ => rfl)
        exact DR_sce hD' k3 k4 k5 k6 k7 (by rw [u2_o (by decide), so _ (by decide) (by decide)]; exact f4) (by rw [u2_o (by decide), so _ (by decide) (by decide)]; exact f5) (by rw [u2_o (by decide), so _ (by decide) (by decide)]; exact f6)
      refine sce_cp sc (fun i hi => rfl) (fun i hi => rfl) (fun v k hv i hi => ?_)
      have e : cpL 2112 0 L0 (u2 s' 1 0 0) (v + 0) i = u2 s' 1 0 0 (v + 2112) i := cpL0_in hv hi (by omega)
      have := L0_rng _ hv
      simp only at this
      have hne : v ≠ 10 := by omega
      rw [hτ]
      simp only [shf]
      rw [← e, u2_o hne, Nat.add_zero]
    · rw [tf _ (by decide) (by decide)]; exact len _ (fun v hv => u2_o hv)
    · rw [k2 _ (by decide) (by decide), z5 _ (by decide) (by decide) (by decide) (by decide) (by decide), mf _ (by decide) (by decide) (by decide)]; exact b9
    · rw [tf _ (by decide) (by decide), k2 _ (by decide) (by decide), z3]; simp [u2]
    · rw [k2 _ (by decide) (by decide), z3]; omega
    · rw [k2 _ (by decide) (by decide), z3]; omega
  · have fq : 1 ≤ s' 74 0 ∧ s' 74 0 ≤ 4 := by rw [z2.1]; exact ⟨z2.2.1, z2.2.2.1⟩
    obtain ⟨FT, hFT⟩ : ∃ FT, s' 74 0 = FT := ⟨_, rfl⟩
    obtain ⟨FP, hFP⟩ : ∃ FP, s' 75 0 = FP := ⟨_, rfl⟩
    have pb := z2.2.2.2
    rw [hFP] at pb
    rw [hFT] at fq
    have ex : m_D_river [0] σ = some (-1 - FP, u2 s' 1 0 FT) := by
      simp only [m_D_river, b_D_river, m_D_isRefused, b_D_isRefused]
      clear head mX nrel len
      simp (disch := first | decide | omega) only [cE_K, vE_K, gE_K, o1K_0, o1K_i, o1_K, o2L_0, o2L_i, o2K_0, o2K_i, o2_K, thK_0, thK_i, th_K, dvL_0, dvL_i, dvK_0, dvK_i, dv_K, rmL_0, rmL_i, rmK_0, rmK_i, rm_K, dlL_0, dlL_i, dlK_0, dlK_i, dl_K, ldQ_0, ldQ_i, ldL_0, ldL_i, ldK_0, ldK_i, ld_K, kK_0, kK_i, k_K, aL_0, aL_i, aK_0, aK_i, aE_0, aE_1, clK_0, clK_i, cl_K, cBL_0, cBL_i, cBK_0, cBK_i, cB_K, zBK_0, zBK_i, zB_K, nBK_0, nBK_i, nB_K, andK_0, andK_i, and_K, orK_0, orK_i, or_K, tkK_0, tkK_i, tk_K, sk_K, stK_0, stK_i, st_K, exK_0, exK_i, ex_K, in_K, pfL_0, pfL_i, pfK_0, pfK_i, pf_K, pzL_0, pzL_i, pzK_0, pzK_i, pz_K, poL_0, poL_i, poK_0, poK_i, po_K, asQ_0, asQ_i, asM_0, asM_i, asL_0, asL_i, asK_0, asK_i, as_K, aoM_0, aoM_i, aoQ_0, aoQ_i, aoL_0, aoL_i, aoK_0, aoK_i, ao_K, sqK_0, sqK_1, sqK_2, sqK_3, sqK_4, sqK_i, sq_K, swK_0, swK_1, swK_2, swK_3, swK_4, swK_i, sw_K, ifK_0, ifK_i, if_K, br_K, ct_K, rv_K, thr_K, rtK_0, rtK_i, rt_K, mfK_0, mfK_i, mf_K, mzK_i, mzK_0, mz_K, cpK_0, cpT_0, cp_K, tsK_0, tsK_i, ts_K, tsP_hit, tsP_next, tsP_low, tsP_nil, ini_0, ini_1, rdU_0, rdU_i, rdB_0, rdB_1, rdB_2, rdB_3, rdB_4, rdB_i, rdC_0, rdC_i, rnd_K, cmpI, addI, subI, mulI, i2lI, l2iI, minI, maxI, idI, up, ok_some, ok_ite, w32_id, ix_id, Int.toNat_add, Int.toNat_mul, ltI_t, ltI_f, leI_t, leI_f, eqI_t, eqI_f, u2_s, u2_v, u2_i, w3_m2, w3_m1, w3_0, w3_1, w3_2, w3_3, w3_4, w3_5, w3_6, w3_7, w3_8, w3_9, w3_10, w3_12, w3_20, w3_23, w3_24, w3_25, w3_32, w3_40, w3_50, w3_100, w3_120, w3_168, w3_200, w3_240, w3_255, w3_500, w3_592, w3_600, w3_900, w3_940, w3_999, w3_1000, w3_1009, w3_1184, w3_3333, w3_9999, if_true, if_false, reduceIte, true_and, and_true, false_and, and_false, true_or, or_true, false_or, or_false, not_true_eq_false, not_false_eq_true, decide_true, decide_false, decide_eq_true_eq, Bool.not_true, Bool.not_false, Bool.false_eq_true, Bool.not_eq_true', Bool.not_eq_eq_eq_not, decide_eq_false_iff_not, Int.not_lt, Int.not_le, Nat.not_le, Nat.not_lt, Nat.le_refl, Int.le_refl, Nat.lt_irrefl, Int.lt_irrefl, reduceCtorEq, Nat.reduceEqDiff, Nat.reduceAdd, Nat.reduceMul, Nat.reduceBEq, Int.reduceNeg, Int.reduceAdd, Int.toNat_natCast, Int.reduceToNat, ne_eq, Nat.zero_ne_one, true_or, Int.ofNat_lt, Int.ofNat_le, Int.natCast_add, Int.cast_ofNat_Int, Int.natCast_zero, f1, b5, x1, hFT, hFP, Int.one_ne_zero]
    have em : m_M_river [0] μ = some (-1 - FP, m') := by
      rw [pb.1]
      apply ok_eq
      refine head _ (fun ρ' h0 => ok_mono (z1' ρ' h0) ?_)
      rintro ⟨x, b, c', d⟩ ⟨h1, h2', h3'⟩
      simp only at h1 h2' h3'
      subst h1 h2' h3'
      clear head mX nrel len z1'
      simp (disch := first | decide | omega) only [cE_K, vE_K, gE_K, o1K_0, o1K_i, o1_K, o2L_0, o2L_i, o2K_0, o2K_i, o2_K, thK_0, thK_i, th_K, dvL_0, dvL_i, dvK_0, dvK_i, dv_K, rmL_0, rmL_i, rmK_0, rmK_i, rm_K, dlL_0, dlL_i, dlK_0, dlK_i, dl_K, ldQ_0, ldQ_i, ldL_0, ldL_i, ldK_0, ldK_i, ld_K, kK_0, kK_i, k_K, aL_0, aL_i, aK_0, aK_i, aE_0, aE_1, clK_0, clK_i, cl_K, cBL_0, cBL_i, cBK_0, cBK_i, cB_K, zBK_0, zBK_i, zB_K, nBK_0, nBK_i, nB_K, andK_0, andK_i, and_K, orK_0, orK_i, or_K, tkK_0, tkK_i, tk_K, sk_K, stK_0, stK_i, st_K, exK_0, exK_i, ex_K, in_K, pfL_0, pfL_i, pfK_0, pfK_i, pf_K, pzL_0, pzL_i, pzK_0, pzK_i, pz_K, poL_0, poL_i, poK_0, poK_i, po_K, asQ_0, asQ_i, asM_0, asM_i, asL_0, asL_i, asK_0, asK_i, as_K, aoM_0, aoM_i, aoQ_0, aoQ_i, aoL_0, aoL_i, aoK_0, aoK_i, ao_K, sqK_0, sqK_1, sqK_2, sqK_3, sqK_4, sqK_i, sq_K, swK_0, swK_1, swK_2, swK_3, swK_4, swK_i, sw_K, ifK_0, ifK_i, if_K, br_K, ct_K, rv_K, thr_K, rtK_0, rtK_i, rt_K, mfK_0, mfK_i, mf_K, mzK_i, mzK_0, mz_K, cpK_0, cpT_0, cp_K, tsK_0, tsK_i, ts_K, tsP_hit, tsP_next, tsP_low, tsP_nil, ini_0, ini_1, rdU_0, rdU_i, rdB_0, rdB_1, rdB_2, rdB_3, rdB_4, rdB_i, rdC_0, rdC_i, rnd_K, cmpI, addI, subI, mulI, i2lI, l2iI, minI, maxI, idI, up, ok_some, ok_ite, w32_id, ix_id, Int.toNat_add, Int.toNat_mul, ltI_t, ltI_f, leI_t, leI_f, eqI_t, eqI_f, u2_s, u2_v, u2_i, w3_m2, w3_m1, w3_0, w3_1, w3_2, w3_3, w3_4, w3_5, w3_6, w3_7, w3_8, w3_9, w3_10, w3_12, w3_20, w3_23, w3_24, w3_25, w3_32, w3_40, w3_50, w3_100, w3_120, w3_168, w3_200, w3_240, w3_255, w3_500, w3_592, w3_600, w3_900, w3_940, w3_999, w3_1000, w3_1009, w3_1184, w3_3333, w3_9999, if_true, if_false, reduceIte, true_and, and_true, false_and, and_false, true_or, or_true, false_or, or_false, not_true_eq_false, not_false_eq_true, decide_true, decide_false, decide_eq_true_eq, Bool.not_true, Bool.not_false, Bool.false_eq_true, Bool.not_eq_true', Bool.not_eq_eq_eq_not, decide_eq_false_iff_not, Int.not_lt, Int.not_le, Nat.not_le, Nat.not_lt, Nat.le_refl, Int.le_refl, Nat.lt_irrefl, Int.lt_irrefl, reduceCtorEq, Nat.reduceEqDiff, Nat.reduceAdd, Nat.reduceMul, Nat.reduceBEq, Int.reduceNeg, Int.reduceAdd, Int.toNat_natCast, Int.reduceToNat, ne_eq, Nat.zero_ne_one, true_or, Int.ofNat_lt, Int.ofNat_le, Int.natCast_add, Int.cast_ofNat_Int, Int.natCast_zero]
    refine opR_mk ex em ?_
    refine Rl_flt b3 (fun v h1 h2 h3 h4 => ?_) (fun v hv h1 h2 h3 => ?_) ?_ ?_ ⟨0, by omega, ?_, ?_, fun i hi => by omega⟩ ⟨?_, ?_, ?_⟩
    · rw [u2_o h3]
      have : ¬ (65 ≤ v ∧ v ≤ 75) ∧ ¬ (2368 ≤ v ∧ v < 4096) := by
        rcases h4 with h4 | h4
        · simp only [relX, Bool.or_eq_true, Bool.and_eq_true, decide_eq_true_eq, beq_iff_eq] at h4
          omega
        · simp only [relP, Bool.or_eq_true, Bool.and_eq_true, decide_eq_true_eq, beq_iff_eq] at h4
          omega
      rw [sX v this.1 this.2, f2 v this.2]
    · obtain ⟨q1, q2, q3, q4, q5⟩ := nrel v hv h1 h3
      exact mX m' z3 v q1 q2 q3 q4 q5
    · rw [mX m' z3 _ (by decide) (by decide) (by decide) (by decide) (by decide)]; exact Or.inr b2
    · unfold nwM
      rw [mX m' z3 _ (by decide) (by decide) (by decide) (by decide) (by decide), mX m' z3 _ (by decide) (by decide) (by decide) (by decide) (by decide)]
    · exact len _ (fun v hv => u2_o hv)
    · rw [z3 _ (by decide) (by decide) (by decide) (by decide) (by decide), mf _ (by decide) (by decide) (by decide)]; exact b9
    · simp [u2]; rw [← hFT]; exact z2.1
    · rw [← z2.1, hFT]; omega
    · rw [← z2.1, hFT]; omega
