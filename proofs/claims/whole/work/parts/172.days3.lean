def dcV : List Nat := [8704, 8768, 8832, 8896, 8960, 9024, 9600, 9664]
theorem firstTried_ok {s0 : Me} {d : Nat → Nat} {i hr : Nat} (hi : i < 4) (hr24 : hr < 24) (hd : ∀ j, j ≤ i → s0 9600 j = d j ∧ d j < 7) :
    ∃ L : Nat, L ≤ 6 ∧ (∀ j, j ≤ i → L ≤ d j) ∧ m_D_firstTried [0, i, hr] s0 = some (((24 * L + hr : Nat) : Int), s0) := by
  obtain ⟨QQ, hQQ⟩ : ∃ Q : Int × Me → Prop, ∀ q, Q q ↔ (q.2 = s0 ∧ ∃ L : Nat, L ≤ 6 ∧ (∀ j, j ≤ i → L ≤ d j) ∧ q.1 = ((24 * L + hr : Nat) : Int)) := ⟨_, fun _ => Iff.rfl⟩
  have main : ok (m_D_firstTried [0, i, hr] s0) QQ := by
    simp only [m_D_firstTried, b_D_firstTried, cE_K, vE_K, gE_K, o1K_0, o1K_i, o1_K, o2L_0, o2L_i, o2K_0, o2K_i, o2_K, thK_0, thK_i, th_K, dvL_0, dvL_i, dvK_0, dvK_i, dv_K, rmL_0, rmL_i, rmK_0, rmK_i, rm_K, dlL_0, dlL_i, dlK_0, dlK_i, dl_K, ldQ_0, ldQ_i, ldL_0, ldL_i, ldK_0, ldK_i, ld_K, kK_0, kK_i, k_K, aL_0, aL_i, aK_0, aK_i, aE_0, aE_1, clK_0, clK_i, cl_K, cBL_0, cBL_i, cBK_0, cBK_i, cB_K, zBK_0, zBK_i, zB_K, nBK_0, nBK_i, nB_K, andK_0, andK_i, and_K, orK_0, orK_i, or_K, tkK_0, tkK_i, tk_K, sk_K, stK_0, stK_i, st_K, exK_0, exK_i, ex_K, in_K, pfL_0, pfL_i, pfK_0, pfK_i, pf_K, pzL_0, pzL_i, pzK_0, pzK_i, pz_K, poL_0, poL_i, poK_0, poK_i, po_K, asQ_0, asQ_i, asM_0, asM_i, asL_0, asL_i, asK_0, asK_i, as_K, aoM_0, aoM_i, aoQ_0, aoQ_i, aoL_0, aoL_i, aoK_0, aoK_i, ao_K, sqK_0, sqK_1, sqK_2, sqK_3, sqK_4, sqK_i, sq_K, swK_0, swK_1, swK_2, swK_3, swK_4, swK_i, sw_K, ifK_0, ifK_i, if_K, br_K, ct_K, rv_K, thr_K, rtK_0, rtK_i, rt_K, mfK_0, mfK_i, mf_K, mzK_i, mzK_0, mz_K, cpK_0, cpT_0, cp_K, tsK_0, tsK_i, ts_K, tsP_hit, tsP_next, tsP_low, tsP_nil, ini_0, ini_1, rdU_0, rdU_i, rdB_0, rdB_1, rdB_2, rdB_3, rdB_4, rdB_i, rdC_0, rdC_i, rnd_K, cmpI, addI, subI, mulI, i2lI, l2iI, minI, maxI, idI, up, ok_some, ok_ite, if_true, if_false, reduceIte, true_and, and_true, false_and, and_false, true_or, or_true, false_or, or_false, not_true_eq_false, not_false_eq_true, decide_true, decide_false, decide_eq_true_eq, Bool.not_true, Bool.not_false, Bool.false_eq_true, Bool.not_eq_true', Bool.not_eq_eq_eq_not, decide_eq_false_iff_not, Int.not_lt, Int.not_le, Nat.not_le, Nat.not_lt, Nat.le_refl, Int.le_refl, Nat.lt_irrefl, Int.lt_irrefl, reduceCtorEq, Nat.reduceEqDiff, Nat.reduceAdd, Nat.reduceMul, Nat.reduceBEq, Int.reduceNeg, Int.reduceAdd, Int.toNat_natCast, Int.reduceToNat, ne_eq, Nat.zero_ne_one, true_or, Int.ofNat_lt, Int.ofNat_le, Int.natCast_add, Int.cast_ofNat_Int, Int.natCast_zero]
    obtain ⟨I, hI⟩ : ∃ I : Nat → Lo → Me → Prop, ∀ n ρ s, I n ρ s ↔ (ρ 1 = i ∧ ρ 2 = hr ∧ ρ 4 = n ∧ s0 = s ∧ ∃ L : Nat, ρ 3 = L ∧ L ≤ 6 ∧ ∀ j, j < n → L ≤ d j) := ⟨fun n ρ s => ρ 1 = i ∧ ρ 2 = hr ∧ ρ 4 = n ∧ s0 = s ∧ ∃ L : Nat, ρ 3 = L ∧ L ≤ 6 ∧ ∀ j, j < n → L ≤ d j, fun _ _ _ => Iff.rfl⟩
    refine ok_mfK (ok_sqK (wh_gen I (i + 1) (by omega) ((hI _ _ _).mpr ⟨by simp [up], by simp [up], by simp [up], rfl, 6, by simp [up], by omega, fun j hj => by omega⟩) ?_))
    intro n ρ s hn hIn
    obtain ⟨g1, g2, g3, rfl, L, g4, g5, g6⟩ := (hI _ _ _).mp hIn
    rcases Nat.lt_or_eq_of_le hn with hn | rfl
    · obtain ⟨a1, a2⟩ := hd n (by omega)
      clear hIn
      by_cases c : L ≤ d n
      · simp (disch := first | decide | omega) only [cE_K, vE_K, gE_K, o1K_0, o1K_i, o1_K, o2L_0, o2L_i, o2K_0, o2K_i, o2_K, thK_0, thK_i, th_K, dvL_0, dvL_i, dvK_0, dvK_i, dv_K, rmL_0, rmL_i, rmK_0, rmK_i, rm_K, dlL_0, dlL_i, dlK_0, dlK_i, dl_K, ldQ_0, ldQ_i, ldL_0, ldL_i, ldK_0, ldK_i, ld_K, kK_0, kK_i, k_K, aL_0, aL_i, aK_0, aK_i, aE_0, aE_1, clK_0, clK_i, cl_K, cBL_0, cBL_i, cBK_0, cBK_i, cB_K, zBK_0, zBK_i, zB_K, nBK_0, nBK_i, nB_K, andK_0, andK_i, and_K, orK_0, orK_i, or_K, tkK_0, tkK_i, tk_K, sk_K, stK_0, stK_i, st_K, exK_0, exK_i, ex_K, in_K, pfL_0, pfL_i, pfK_0, pfK_i, pf_K, pzL_0, pzL_i, pzK_0, pzK_i, pz_K, poL_0, poL_i, poK_0, poK_i, po_K, asQ_0, asQ_i, asM_0, asM_i, asL_0, asL_i, asK_0, asK_i, as_K, aoM_0, aoM_i, aoQ_0, aoQ_i, aoL_0, aoL_i, aoK_0, aoK_i, ao_K, sqK_0, sqK_1, sqK_2, sqK_3, sqK_4, sqK_i, sq_K, swK_0, swK_1, swK_2, swK_3, swK_4, swK_i, sw_K, ifK_0, ifK_i, if_K, br_K, ct_K, rv_K, thr_K, rtK_0, rtK_i, rt_K, mfK_0, mfK_i, mf_K, mzK_i, mzK_0, mz_K, cpK_0, cpT_0, cp_K, tsK_0, tsK_i, ts_K, tsP_hit, tsP_next, tsP_low, tsP_nil, ini_0, ini_1, rdU_0, rdU_i, rdB_0, rdB_1, rdB_2, rdB_3, rdB_4, rdB_i, rdC_0, rdC_i, rnd_K, cmpI, addI, subI, mulI, i2lI, l2iI, minI, maxI, idI, up, ok_some, ok_ite, w32_id, ix_id, Int.toNat_add, Int.toNat_mul, ltI_t, ltI_f, leI_t, leI_f, eqI_t, eqI_f, u2_s, u2_v, u2_i, w3_m2, w3_m1, w3_0, w3_1, w3_2, w3_3, w3_4, w3_5, w3_6, w3_7, w3_8, w3_9, w3_10, w3_12, w3_20, w3_23, w3_24, w3_25, w3_32, w3_40, w3_50, w3_100, w3_120, w3_168, w3_200, w3_240, w3_255, w3_500, w3_592, w3_600, w3_900, w3_940, w3_999, w3_1000, w3_1009, w3_1184, w3_3333, w3_9999, if_true, if_false, reduceIte, true_and, and_true, false_and, and_false, true_or, or_true, false_or, or_false, not_true_eq_false, not_false_eq_true, decide_true, decide_false, decide_eq_true_eq, Bool.not_true, Bool.not_false, Bool.false_eq_true, Bool.not_eq_true', Bool.not_eq_eq_eq_not, decide_eq_false_iff_not, Int.not_lt, Int.not_le, Nat.not_le, Nat.not_lt, Nat.le_refl, Int.le_refl, Nat.lt_irrefl, Int.lt_irrefl, reduceCtorEq, Nat.reduceEqDiff, Nat.reduceAdd, Nat.reduceMul, Nat.reduceBEq, Int.reduceNeg, Int.reduceAdd, Int.toNat_natCast, Int.reduceToNat, ne_eq, Nat.zero_ne_one, true_or, Int.ofNat_lt, Int.ofNat_le, Int.natCast_add, Int.cast_ofNat_Int, Int.natCast_zero, g1, g2, g3, g4, a1]
        refine ⟨hn, (hI _ _ _).mpr ⟨by simp [up, g1], by simp [up, g2], by simp [up], rfl, L, by simp [up], g5, fun j hj => ?_⟩⟩
        by_cases e : j = n
        · subst e; exact c
        · exact g6 j (by omega)
      · simp (disch := first | decide | omega) only [cE_K, vE_K, gE_K, o1K_0, o1K_i, o1_K, o2L_0, o2L_i, o2K_0, o2K_i, o2_K, thK_0, thK_i, th_K, dvL_0, dvL_i, dvK_0, dvK_i, dv_K, rmL_0, rmL_i, rmK_0, rmK_i, rm_K, dlL_0, dlL_i, dlK_0, dlK_i, dl_K, ldQ_0, ldQ_i, ldL_0, ldL_i, ldK_0, ldK_i, ld_K, kK_0, kK_i, k_K, aL_0, aL_i, aK_0, aK_i, aE_0, aE_1, clK_0, clK_i, cl_K, cBL_0, cBL_i, cBK_0, cBK_i, cB_K, zBK_0, zBK_i, zB_K, nBK_0, nBK_i, nB_K, andK_0, andK_i, and_K, orK_0, orK_i, or_K, tkK_0, tkK_i, tk_K, sk_K, stK_0, stK_i, st_K, exK_0, exK_i, ex_K, in_K, pfL_0, pfL_i, pfK_0, pfK_i, pf_K, pzL_0, pzL_i, pzK_0, pzK_i, pz_K, poL_0, poL_i, poK_0, poK_i, po_K, asQ_0, asQ_i, asM_0, asM_i, asL_0, asL_i, asK_0, asK_i, as_K, aoM_0, aoM_i, aoQ_0, aoQ_i, aoL_0, aoL_i, aoK_0, aoK_i, ao_K, sqK_0, sqK_1, sqK_2, sqK_3, sqK_4, sqK_i, sq_K, swK_0, swK_1, swK_2, swK_3, swK_4, swK_i, sw_K, ifK_0, ifK_i, if_K, br_K, ct_K, rv_K, thr_K, rtK_0, rtK_i, rt_K, mfK_0, mfK_i, mf_K, mzK_i, mzK_0, mz_K, cpK_0, cpT_0, cp_K, tsK_0, tsK_i, ts_K, tsP_hit, tsP_next, tsP_low, tsP_nil, ini_0, ini_1, rdU_0, rdU_i, rdB_0, rdB_1, rdB_2, rdB_3, rdB_4, rdB_i, rdC_0, rdC_i, rnd_K, cmpI, addI, subI, mulI, i2lI, l2iI, minI, maxI, idI, up, ok_some, ok_ite, w32_id, ix_id, Int.toNat_add, Int.toNat_mul, ltI_t, ltI_f, leI_t, leI_f, eqI_t, eqI_f, u2_s, u2_v, u2_i, w3_m2, w3_m1, w3_0, w3_1, w3_2, w3_3, w3_4, w3_5, w3_6, w3_7, w3_8, w3_9, w3_10, w3_12, w3_20, w3_23, w3_24, w3_25, w3_32, w3_40, w3_50, w3_100, w3_120, w3_168, w3_200, w3_240, w3_255, w3_500, w3_592, w3_600, w3_900, w3_940, w3_999, w3_1000, w3_1009, w3_1184, w3_3333, w3_9999, if_true, if_false, reduceIte, true_and, and_true, false_and, and_false, true_or, or_true, false_or, or_false, not_true_eq_false, not_false_eq_true, decide_true, decide_false, decide_eq_true_eq, Bool.not_true, Bool.not_false, Bool.false_eq_true, Bool.not_eq_true', Bool.not_eq_eq_eq_not, decide_eq_false_iff_not, Int.not_lt, Int.not_le, Nat.not_le, Nat.not_lt, Nat.le_refl, Int.le_refl, Nat.lt_irrefl, Int.lt_irrefl, reduceCtorEq, Nat.reduceEqDiff, Nat.reduceAdd, Nat.reduceMul, Nat.reduceBEq, Int.reduceNeg, Int.reduceAdd, Int.toNat_natCast, Int.reduceToNat, ne_eq, Nat.zero_ne_one, true_or, Int.ofNat_lt, Int.ofNat_le, Int.natCast_add, Int.cast_ofNat_Int, Int.natCast_zero, g1, g2, g3, g4, a1]
        refine ⟨hn, (hI _ _ _).mpr ⟨by simp [up, g1], by simp [up, g2], by simp [up], rfl, d n, by simp [up], by omega, fun j hj => ?_⟩⟩
        by_cases e : j = n
        · subst e; omega
        · have := g6 j (by omega); omega
    · have fin : QQ (((24 * L + hr : Nat) : Int), s0) := (hQQ _).mpr ⟨rfl, L, g5, fun j hj => g6 j (by omega), rfl⟩
      have e1 : (L : Int) * 24 + hr = ((24 * L + hr : Nat) : Int) := by omega
      clear hIn
      obtain ⟨X, hX⟩ : ∃ X : Int, X = ((24 * L + hr : Nat) : Int) := ⟨_, rfl⟩
      rw [← hX] at e1 fin
      simp (disch := first | decide | omega) only [cE_K, vE_K, gE_K, o1K_0, o1K_i, o1_K, o2L_0, o2L_i, o2K_0, o2K_i, o2_K, thK_0, thK_i, th_K, dvL_0, dvL_i, dvK_0, dvK_i, dv_K, rmL_0, rmL_i, rmK_0, rmK_i, rm_K, dlL_0, dlL_i, dlK_0, dlK_i, dl_K, ldQ_0, ldQ_i, ldL_0, ldL_i, ldK_0, ldK_i, ld_K, kK_0, kK_i, k_K, aL_0, aL_i, aK_0, aK_i, aE_0, aE_1, clK_0, clK_i, cl_K, cBL_0, cBL_i, cBK_0, cBK_i, cB_K, zBK_0, zBK_i, zB_K, nBK_0, nBK_i, nB_K, andK_0, andK_i, and_K, orK_0, orK_i, or_K, tkK_0, tkK_i, tk_K, sk_K, stK_0, stK_i, st_K, exK_0, exK_i, ex_K, in_K, pfL_0, pfL_i, pfK_0, pfK_i, pf_K, pzL_0, pzL_i, pzK_0, pzK_i, pz_K, poL_0, poL_i, poK_0, poK_i, po_K, asQ_0, asQ_i, asM_0, asM_i, asL_0, asL_i, asK_0, asK_i, as_K, aoM_0, aoM_i, aoQ_0, aoQ_i, aoL_0, aoL_i, aoK_0, aoK_i, ao_K, sqK_0, sqK_1, sqK_2, sqK_3, sqK_4, sqK_i, sq_K, swK_0, swK_1, swK_2, swK_3, swK_4, swK_i, sw_K, ifK_0, ifK_i, if_K, br_K, ct_K, rv_K, thr_K, rtK_0, rtK_i, rt_K, mfK_0, mfK_i, mf_K, mzK_i, mzK_0, mz_K, cpK_0, cpT_0, cp_K, tsK_0, tsK_i, ts_K, tsP_hit, tsP_next, tsP_low, tsP_nil, ini_0, ini_1, rdU_0, rdU_i, rdB_0, rdB_1, rdB_2, rdB_3, rdB_4, rdB_i, rdC_0, rdC_i, rnd_K, cmpI, addI, subI, mulI, i2lI, l2iI, minI, maxI, idI, up, ok_some, ok_ite, w32_id, ix_id, Int.toNat_add, Int.toNat_mul, ltI_t, ltI_f, leI_t, leI_f, eqI_t, eqI_f, u2_s, u2_v, u2_i, w3_m2, w3_m1, w3_0, w3_1, w3_2, w3_3, w3_4, w3_5, w3_6, w3_7, w3_8, w3_9, w3_10, w3_12, w3_20, w3_23, w3_24, w3_25, w3_32, w3_40, w3_50, w3_100, w3_120, w3_168, w3_200, w3_240, w3_255, w3_500, w3_592, w3_600, w3_900, w3_940, w3_999, w3_1000, w3_1009, w3_1184, w3_3333, w3_9999, if_true, if_false, reduceIte, true_and, and_true, false_and, and_false, true_or, or_true, false_or, or_false, not_true_eq_false, not_false_eq_true, decide_true, decide_false, decide_eq_true_eq, Bool.not_true, Bool.not_false, Bool.false_eq_true, Bool.not_eq_true', Bool.not_eq_eq_eq_not, decide_eq_false_iff_not, Int.not_lt, Int.not_le, Nat.not_le, Nat.not_lt, Nat.le_refl, Int.le_refl, Nat.lt_irrefl, Int.lt_irrefl, reduceCtorEq, Nat.reduceEqDiff, Nat.reduceAdd, Nat.reduceMul, Nat.reduceBEq, Int.reduceNeg, Int.reduceAdd, Int.toNat_natCast, Int.reduceToNat, ne_eq, Nat.zero_ne_one, true_or, Int.ofNat_lt, Int.ofNat_le, Int.natCast_add, Int.cast_ofNat_Int, Int.natCast_zero, g1, g2, g3, g4, e1]
      exact fin
  obtain ⟨⟨x1, x2⟩, h1, h2⟩ := main
  obtain ⟨rfl, L, k2, k3, k4⟩ := (hQQ _).mp h2
  simp only at k4
  subst k4
  exact ⟨L, k2, k3, h1⟩
/-- the class between two tries -/
def clS (σ s : Me) (N : Nat → Int) (a : Nat → Nat) (hr : Nat) (d : Nat → Nat) (T i : Nat) (st : Int × (Nat → Nat)) : Prop :=
  fr dcV σ s ∧ ((∀ r : Nat, (r : Int) < N 0 → s 8704 r = N (10 + 2 * r)) ∧ (∀ q, q < 7 → s 8768 q = N (110 + q)) ∧ (∀ q, q < 168 → ∀ k : Nat, k < 32 → bt (s 8832 q) k = bt (dwI N a hr d i q) k)) ∧ (∀ j, j < i → s 9600 j = d j ∧ d j < 7) ∧ (st.1 = 1009 → s 9664 = σ 9664) ∧ (st.1 ≠ 1009 → ∀ j, j < T → s 9664 j = st.2 j)
set_option maxHeartbeats 4000000 in
theorem tryDays_c {σ : Me} {N : Nat → Int} {a : Nat → Nat} {hr T : Nat} (hN : rvN N) (hT : T ≤ 4) (hr24 : hr < 24) (ha : ∀ j, j < T → (a j : Int) < N 2) (hinj : ∀ j j', j < T → j' < T → a j = a j' → j = j') (hrd : rdX σ N) (hps : psX σ N 168) (hgh : ∀ g : Nat, (g : Int) < N 2 → σ 768 g = N (31 + 6 * g)) (hch : ∀ j, j < T → σ 9536 j = a j) (F : Nat) :
    ∀ k i d s st, i + k + 1 = T → 0 ≤ st.1 → st.1 ≤ 1009 → clS σ s N a hr d T i st → ∃ s', g_D_tryDays (F + k + 1) [0, i, T, hr, st.1] s = some ((trS (dhs N a hr) (ndN N a hr) (k + 1) d i st).1, s') ∧ clS σ s' N a hr d T i (trS (dhs N a hr) (ndN N a hr) (k + 1) d i st) := by
  have c0 := hN.1
  have body : ∀ k, (∀ i d s st, k ≠ 0 → i + k = T → 0 ≤ st.1 → st.1 ≤ 1009 → clS σ s N a hr d T i st → ∃ s', g_D_tryDays (F + k) [0, i, T, hr, st.1] s = some ((trS (dhs N a hr) (ndN N a hr) k d i st).1, s') ∧ clS σ s' N a hr d T i (trS (dhs N a hr) (ndN N a hr) k d i st)) → ∀ i d s st, i + k + 1 = T → 0 ≤ st.1 → st.1 ≤ 1009 → clS σ s N a hr d T i st → ∃ s', g_D_tryDays (F + k + 1) [0, i, T, hr, st.1] s = some ((trS (dhs N a hr) (ndN N a hr) (k + 1) d i st).1, s') ∧ clS σ s' N a hr d T i (trS (dhs N a hr) (ndN N a hr) (k + 1) d i st) := by
    intro k hrec i d s0 st hi hs0 hs1 hC
    have qa := hN.2.2.1 (a i) (ha i (by omega))
    have haA := ha i (by omega)
    obtain ⟨A, hA⟩ : ∃ A : Nat, A = a i := ⟨_, rfl⟩
    obtain ⟨hh, hhh⟩ : ∃ hh : Nat, N (31 + 6 * a i) = hh := ⟨(N (31 + 6 * a i)).toNat, by omega⟩
    obtain ⟨ND, hND⟩ : ∃ ND : Nat, ND = ndN N a hr i := ⟨_, rfl⟩
    have nd1 : (∀ n, n < ND → n < 7 ∧ 24 * n + hr + hh ≤ 168) ∧ ND ≤ 7 ∧ (ND = 7 ∨ (ND = 6 ∧ 168 < 144 + hr + hh)) := by
      rw [hND]
      unfold ndN
      rw [hhh]
      split
      · exact ⟨fun n hn => by omega, by omega, by omega⟩
      · exact ⟨fun n hn => by omega, by omega, by omega⟩
    obtain ⟨nd1, nd2, nd3⟩ := nd1
    obtain ⟨it, hit⟩ : ∃ it, it = fun n => itr (fun n r => trS (dhs N a hr) (ndN N a hr) k (upN d i n) (i + 1) r) n st := ⟨_, rfl⟩
    have it0 : it 0 = st := by rw [hit]; rfl
    have itS : ∀ n, it (n + 1) = trS (dhs N a hr) (ndN N a hr) k (upN d i n) (i + 1) (it n) := fun n => by rw [hit]; rfl
    have itB : ∀ n, 0 ≤ (it n).1 ∧ (it n).1 ≤ 1009 := by
      intro n
      induction n with
      | zero => rw [it0]; exact ⟨hs0, hs1⟩
      | succ n ihn => rw [itS]; exact trS_bd (fun d i => dhs_bd hN) k _ _ _ ihn.1 ihn.2
    have eT : trS (dhs N a hr) (ndN N a hr) (k + 1) d i st = it ND := by rw [hit, hND]; rfl
    rw [eT]
    clear eT hit
    have step : ∀ n s, n < ND → clS σ s N a hr d T i (it n) → ∃ s2 r s3 L, m_Week_setWork [0, A, ((24 * n + hr : Nat) : Int), hh] (u2 s 9600 i n) = some (0, s2) ∧ m_D_firstTried [0, i, hr] s2 = some (L, s2) ∧ m_Week_harmFrom [0, 0, 0, L, (it n).1] s2 = some (r, s3) ∧ 0 ≤ r ∧ r ≤ 1008 ∧ clS σ s3 N a hr (upN d i n) T (i + 1) (it n) ∧ (dhs N a hr (upN d i n) (i + 1) < (it n).1 → r = dhs N a hr (upN d i n) (i + 1)) ∧ ((it n).1 ≤ dhs N a hr (upN d i n) (i + 1) → (it n).1 ≤ r) := by
      intro n s hn hR
      obtain ⟨r1, ⟨v1, v2, v3⟩, r4, r5, r6⟩ := hR
      obtain ⟨n7, n8⟩ := nd1 n hn
      have e1 := setWork_ok (σ := u2 s 9600 i n) (g := A) (A := 24 * n + hr) (H := hh) (by omega) (by omega) (by omega)
      generalize hs2 : (fun v x => if v = 8832 ∧ 24 * n + hr ≤ x ∧ x < 24 * n + hr + hh ∧ x < 168 then iorI (u2 s 9600 i n 8832 x) (shlI 1 A) else u2 s 9600 i n v x) = s2 at e1
      have uf : ∀ v, v ≠ 8832 → v ≠ 9600 → s2 v = s v := fun v h1 h2 => by rw [← hs2]; funext x; simp [u2, h1, h2]
      have ud : ∀ j, s2 9600 j = if j = i then (n : Int) else s 9600 j := fun j => by rw [← hs2]; simp [u2]
      have uw : ∀ q, s2 8832 q = if 24 * n + hr ≤ q ∧ q < 24 * n + hr + hh ∧ q < 168 then iorI (s 8832 q) (shlI 1 A) else s 8832 q := fun q => by rw [← hs2]; simp [u2]
      clear hs2
      have bw : ∀ q, q < 168 → ∀ k : Nat, k < 32 → bt (s2 8832 q) k = bt (dwI N a hr (upN d i n) (i + 1) q) k := fun q hq k hk => by
        rw [uw, dwI_bt (by omega) hk, upN_s, hhh, dwI_c i q (d' := d) (fun j hj => upN_o (by omega)), ← v3 q hq k hk]
        by_cases c : 24 * n + hr ≤ q ∧ q < 24 * n + hr + hh ∧ q < 168
        · rw [if_pos c, bt_or hk, bt_shl1 (by omega) hk, hA, decide_eq_true (p := ((24 * n + hr : Nat) : Int) ≤ q ∧ (q : Int) < ((24 * n + hr : Nat) : Int) + hh) (by omega), Bool.and_true]
        · rw [if_neg c, decide_eq_false (p := ((24 * n + hr : Nat) : Int) ≤ q ∧ (q : Int) < ((24 * n + hr : Nat) : Int) + hh) (by omega), Bool.and_false, Bool.or_false]
      have td : ∀ j, j ≤ i → s2 9600 j = upN d i n j ∧ upN d i n j < 7 := fun j hj => by
        rw [ud]
        by_cases e : j = i
        · subst e; rw [if_pos rfl, upN_s]; exact ⟨rfl, n7⟩
        · rw [if_neg e, upN_o e]; exact r4 j (by omega)
      obtain ⟨L, l1, l2, l3⟩ := firstTried_ok (s0 := s2) (d := upN d i n) (i := i) (hr := hr) (by omega) hr24 td
      have F2 : fr dcV σ s2 := fun v hv => by
        rw [uf v (fun q => by subst q; simp [dcV] at hv) (fun q => by subst q; simp [dcV] at hv)]; exact r1 v hv
      have E : enX s2 N (floN N) (ppW N (dwI N a hr (upN d i n) (i + 1))) (24 * L + hr) := by
        refine ⟨rdX_lo hrd (fun v hv => F2 v (by simp [dcV]; omega)), by rw [uf _ (by decide) (by decide)]; exact v1, by rw [uf _ (by decide) (by decide)]; exact v2, fun q x _ hq _ _ => ?_⟩
        exact poN_bt _ x (fun k hk => bw q hq k (by omega))
      have P1 : psX s2 N 168 := by
        unfold psX
        rw [F2 9152 (by decide), F2 9216 (by decide), F2 9280 (by decide), F2 9344 (by decide), F2 9408 (by decide), F2 9472 (by decide)]
        exact hps
      have agb : ∀ q x : Nat, q < 24 * L + hr → ((x / 4 : Nat) : Int) < N 0 → ((x % 4 : Nat) : Int) < N 1 → ppW N (wsN N (-1)) q x = ppW N (dwI N a hr (upN d i n) (i + 1)) q x := fun q x hq _ _ => by
        unfold ppW
        rw [dwI_bef (i + 1) (fun j hj => by have := l2 j (by omega); omega)]
      have ib := itB n
      obtain ⟨r, s3, h1, h2, h3, h4, h5, h6⟩ := harmFrom_ok (en := (it n).1) hN (ppW_pp hN) E P1 (by omega) agb (by omega) (by omega)
      refine ⟨s2, r, s3, _, e1, l3, h1, h3, h4, ⟨fr_trans F2 (fr_sub h2 (by decide)), ⟨by rw [h2 _ (by decide), uf _ (by decide) (by decide)]; exact v1, by rw [h2 _ (by decide), uf _ (by decide) (by decide)]; exact v2, by rw [h2 _ (by decide)]; exact bw⟩, fun j hj => by rw [h2 _ (by decide)]; exact td j (by omega), fun q => by rw [h2 _ (by decide), uf _ (by decide) (by decide)]; exact r5 q, fun q j hj => by rw [h2 _ (by decide), uf _ (by decide) (by decide)]; exact r6 q j hj⟩, h5, h6⟩
    have back : ∀ n s st', n < ND → clS σ s N a hr (upN d i n) T (i + 1) st' → ∃ s5, m_Week_resetWork [0, 0, A, ((24 * n + hr : Nat) : Int), hh] s = some (0, s5) ∧ clS σ s5 N a hr d T i st' := by
      intro n s st' hn hR
      obtain ⟨r1, ⟨v1, v2, v3⟩, r4, r5, r6⟩ := hR
      obtain ⟨n7, n8⟩ := nd1 n hn
      have er := resetWork_ok (σ := s) (g := A) (A := 24 * n + hr) (H := hh) (by omega) (by omega) (by omega)
      generalize hs9 : (fun v x => if v = 8832 ∧ 24 * n + hr ≤ x ∧ x < 24 * n + hr + hh then iorI (andI (s 8832 x) (xorI (shlI 1 A) (-1))) (andI (s 9344 x) (shlI 1 A)) else s v x) = s9 at er
      have f9 : ∀ v, v ≠ 8832 → s9 v = s v := fun v hv => by rw [← hs9]; funext x; simp [hv]
      refine ⟨s9, er, fun v hv => ?_, ⟨by rw [f9 _ (by decide)]; exact v1, by rw [f9 _ (by decide)]; exact v2, fun q hq k' hk => ?_⟩, fun j hj => ?_, fun q => by rw [f9 _ (by decide)]; exact r5 q, fun q j hj => by rw [f9 _ (by decide)]; exact r6 q j hj⟩
      · rw [f9 v (fun q => by subst q; simp [dcV] at hv)]; exact r1 v hv
      · have pw : s 9344 q = wsN N (-1) q := by rw [r1 _ (by decide)]; exact (hps.2.2.1 q hq).1
        have gw := v3 q hq k' hk
        rw [dwI_bt (by omega) hk, upN_s, hhh, dwI_c i q (d' := d) (fun j hj => upN_o (by omega)), ← hA] at gw
        rw [← hs9]
        simp only [true_and]
        by_cases c : 24 * n + hr ≤ q ∧ q < 24 * n + hr + hh
        · rw [if_pos c, bt_or hk, bt_and hk, bt_and hk, bt_not hk, bt_shl1 (by omega) hk, pw, gw]
          by_cases ek : k' = A
          · subst ek
            rw [dwI_own hk i (fun j hj => ⟨by have := ha j (by omega); omega, fun q => by
              have := hinj i j (by omega) (by omega) (by rw [← hA]; exact q)
              omega⟩)]
            simp
          · simp [ek]
        · rw [if_neg c, gw, decide_eq_false (p := ((24 * n + hr : Nat) : Int) ≤ q ∧ (q : Int) < ((24 * n + hr : Nat) : Int) + hh) (by omega), Bool.and_false, Bool.or_false]
      · have := r4 j (by omega)
        rw [upN_o (by omega)] at this
        rw [f9 _ (by decide)]
        exact this
    obtain ⟨QQ, hQQ⟩ : ∃ Q : Int × Me → Prop, ∀ q, Q q ↔ (q.1 = (it ND).1 ∧ clS σ q.2 N a hr d T i (it ND)) := ⟨_, fun _ => Iff.rfl⟩
    have main : ok (g_D_tryDays (F + k + 1) [0, i, T, hr, st.1] s0) QQ := by
      have as0 : s0 9536 i = A := by rw [hC.1 _ (by decide), hA]; exact hch i (by omega)
      have gh0 : s0 768 A = hh := by rw [hC.1 _ (by decide), hA, ← hhh]; exact hgh _ haA
      rw [← hA] at haA
      obtain ⟨GF, hGF⟩ : ∃ G, G = g_D_tryDays (F + k) := ⟨_, rfl⟩
      have eG : g_D_tryDays (F + k + 1) = mthF [0, 1, 2, 3, 4] (b_D_tryDays GF) := by rw [hGF]; rfl
      rw [eG]
      rw [← hGF] at hrec
      clear eG
      obtain ⟨f0, hf0⟩ : ∃ f0, f0 = st.1 := ⟨_, rfl⟩
      rw [← hf0]
      simp only [b_D_tryDays]
      simp (disch := first | decide | omega) only [cE_K, vE_K, gE_K, o1K_0, o1K_i, o1_K, o2L_0, o2L_i, o2K_0, o2K_i, o2_K, thK_0, thK_i, th_K, dvL_0, dvL_i, dvK_0, dvK_i, dv_K, rmL_0, rmL_i, rmK_0, rmK_i, rm_K, dlL_0, dlL_i, dlK_0, dlK_i, dl_K, ldQ_0, ldQ_i, ldL_0, ldL_i, ldK_0, ldK_i, ld_K, kK_0, kK_i, k_K, aL_0, aL_i, aK_0, aK_i, aE_0, aE_1, clK_0, clK_i, cl_K, cBL_0, cBL_i, cBK_0, cBK_i, cB_K, zBK_0, zBK_i, zB_K, nBK_0, nBK_i, nB_K, andK_0, andK_i, and_K, orK_0, orK_i, or_K, tkK_0, tkK_i, tk_K, sk_K, stK_0, stK_i, st_K, exK_0, exK_i, ex_K, in_K, pfL_0, pfL_i, pfK_0, pfK_i, pf_K, pzL_0, pzL_i, pzK_0, pzK_i, pz_K, poL_0, poL_i, poK_0, poK_i, po_K, asQ_0, asQ_i, asM_0, asM_i, asL_0, asL_i, asK_0, asK_i, as_K, aoM_0, aoM_i, aoQ_0, aoQ_i, aoL_0, aoL_i, aoK_0, aoK_i, ao_K, sqK_0, sqK_1, sqK_2, sqK_3, sqK_4, sqK_i, sq_K, swK_0, swK_1, swK_2, swK_3, swK_4, swK_i, sw_K, ifK_0, ifK_i, if_K, br_K, ct_K, rv_K, thr_K, rtK_0, rtK_i, rt_K, mfK_0, mfK_i, mf_K, mzK_i, mzK_0, mz_K, cpK_0, cpT_0, cp_K, tsK_0, tsK_i, ts_K, tsP_hit, tsP_next, tsP_low, tsP_nil, ini_0, ini_1, rdU_0, rdU_i, rdB_0, rdB_1, rdB_2, rdB_3, rdB_4, rdB_i, rdC_0, rdC_i, rnd_K, cmpI, addI, subI, mulI, i2lI, l2iI, minI, maxI, idI, up, ok_some, ok_ite, w32_id, ix_id, Int.toNat_add, Int.toNat_mul, ltI_t, ltI_f, leI_t, leI_f, eqI_t, eqI_f, u2_s, u2_v, u2_i, w3_m2, w3_m1, w3_0, w3_1, w3_2, w3_3, w3_4, w3_5, w3_6, w3_7, w3_8, w3_9, w3_10, w3_12, w3_20, w3_23, w3_24, w3_25, w3_32, w3_40, w3_50, w3_100, w3_120, w3_168, w3_200, w3_240, w3_255, w3_500, w3_592, w3_600, w3_900, w3_940, w3_999, w3_1000, w3_1009, w3_1184, w3_3333, w3_9999, if_true, if_false, reduceIte, true_and, and_true, false_and, and_false, true_or, or_true, false_or, or_false, not_true_eq_false, not_false_eq_true, decide_true, decide_false, decide_eq_true_eq, Bool.not_true, Bool.not_false, Bool.false_eq_true, Bool.not_eq_true', Bool.not_eq_eq_eq_not, decide_eq_false_iff_not, Int.not_lt, Int.not_le, Nat.not_le, Nat.not_lt, Nat.le_refl, Int.le_refl, Nat.lt_irrefl, Int.lt_irrefl, reduceCtorEq, Nat.reduceEqDiff, Nat.reduceAdd, Nat.reduceMul, Nat.reduceBEq, Int.reduceNeg, Int.reduceAdd, Int.toNat_natCast, Int.reduceToNat, ne_eq, Nat.zero_ne_one, true_or, Int.ofNat_lt, Int.ofNat_le, Int.natCast_add, Int.cast_ofNat_Int, Int.natCast_zero, as0, gh0]
      obtain ⟨I, hI⟩ : ∃ I : Nat → Lo → Me → Prop, ∀ n ρ s, I n ρ s ↔ (ρ 1 = i ∧ ρ 2 = T ∧ ρ 3 = hr ∧ ρ 5 = A ∧ ρ 6 = hh ∧ ρ 7 = n ∧ ρ 4 = (it n).1 ∧ clS σ s N a hr d T i (it n)) := ⟨fun n ρ s => ρ 1 = i ∧ ρ 2 = T ∧ ρ 3 = hr ∧ ρ 5 = A ∧ ρ 6 = hh ∧ ρ 7 = n ∧ ρ 4 = (it n).1 ∧ clS σ s N a hr d T i (it n), fun _ _ _ => Iff.rfl⟩
      refine ok_mfK (ok_sqK (wh_gen I ND (by omega) ((hI _ _ _).mpr ⟨by simp [up], by simp [up], by simp [up], by simp [up], by simp [up], by simp [up], by simp [up, it0, hf0], by rw [it0]; exact hC⟩) ?_))
      intro n ρ s hn hIn
      obtain ⟨g1, g2, g3, g4, g5, g6, g7, g8⟩ := (hI _ _ _).mp hIn
      have eS : (n : Int) * 24 + hr = ((24 * n + hr : Nat) : Int) := by omega
      rcases Nat.lt_or_eq_of_le hn with hn | rfl
      · obtain ⟨n7, n8⟩ := nd1 n hn
        obtain ⟨s2, r, s3, L, w1, w2, w3, w4, w5, w6, w7, w8⟩ := step n s hn g8
        have ib := itB n
        have ib1 := itB (n + 1)
        have itn := itS n
        obtain ⟨f, hf⟩ : ∃ f, f = (it n).1 := ⟨_, rfl⟩
        rw [← hf] at g7 w3 w7 w8 ib
        obtain ⟨ST, hST⟩ : ∃ ST : Nat, ST = 24 * n + hr := ⟨_, rfl⟩
        by_cases c : r < f
        · have c' : dhs N a hr (upN d i n) (i + 1) < f := by
            rcases Int.lt_or_le (dhs N a hr (upN d i n) (i + 1)) f with q | q
            · exact q
            · have := w8 q; omega
          by_cases ck : k = 0
          · subst ck
            have w7' := w7 c'
            have e9 : it (n + 1) = (r, upN d i n) := by
              rw [itn, trS, ← hf, if_pos c', w7']
            have hC4 : clS σ (cpM s3 9600 9664 0 0 T) N a hr (upN d i n) T (i + 1) (r, upN d i n) := by
              have cf : ∀ v, v ≠ 9664 → cpM s3 9600 9664 0 0 T v = s3 v := fun v hv => by funext x; simp [cpM, hv]
              obtain ⟨r1, ⟨v1, v2, v3⟩, r4, r5, r6⟩ := w6
              refine ⟨fun v hv => ?_, ⟨by rw [cf _ (by decide)]; exact v1, by rw [cf _ (by decide)]; exact v2, by rw [cf _ (by decide)]; exact v3⟩, by rw [cf _ (by decide)]; exact r4, fun q => ?_, fun q j hj => ?_⟩
              · rw [cf v (fun q => by subst q; simp [dcV] at hv)]; exact r1 v hv
              · dsimp only at q; omega
              · dsimp only
                simp [cpM, hj]
                exact (r4 j (by omega)).1
            obtain ⟨s5, b1, b2⟩ := back n _ _ hn hC4
            rw [← hST] at w1 b1 eS
            clear hIn step back hrec itn
            simp (disch := first | decide | omega) only [cE_K, vE_K, gE_K, o1K_0, o1K_i, o1_K, o2L_0, o2L_i, o2K_0, o2K_i, o2_K, thK_0, thK_i, th_K, dvL_0, dvL_i, dvK_0, dvK_i, dv_K, rmL_0, rmL_i, rmK_0, rmK_i, rm_K, dlL_0, dlL_i, dlK_0, dlK_i, dl_K, ldQ_0, ldQ_i, ldL_0, ldL_i, ldK_0, ldK_i, ld_K, kK_0, kK_i, k_K, aL_0, aL_i, aK_0, aK_i, aE_0, aE_1, clK_0, clK_i, cl_K, cBL_0, cBL_i, cBK_0, cBK_i, cB_K, zBK_0, zBK_i, zB_K, nBK_0, nBK_i, nB_K, andK_0, andK_i, and_K, orK_0, orK_i, or_K, tkK_0, tkK_i, tk_K, sk_K, stK_0, stK_i, st_K, exK_0, exK_i, ex_K, in_K, pfL_0, pfL_i, pfK_0, pfK_i, pf_K, pzL_0, pzL_i, pzK_0, pzK_i, pz_K, poL_0, poL_i, poK_0, poK_i, po_K, asQ_0, asQ_i, asM_0, asM_i, asL_0, asL_i, asK_0, asK_i, as_K, aoM_0, aoM_i, aoQ_0, aoQ_i, aoL_0, aoL_i, aoK_0, aoK_i, ao_K, sqK_0, sqK_1, sqK_2, sqK_3, sqK_4, sqK_i, sq_K, swK_0, swK_1, swK_2, swK_3, swK_4, swK_i, sw_K, ifK_0, ifK_i, if_K, br_K, ct_K, rv_K, thr_K, rtK_0, rtK_i, rt_K, mfK_0, mfK_i, mf_K, mzK_i, mzK_0, mz_K, cpK_0, cpT_0, cp_K, tsK_0, tsK_i, ts_K, tsP_hit, tsP_next, tsP_low, tsP_nil, ini_0, ini_1, rdU_0, rdU_i, rdB_0, rdB_1, rdB_2, rdB_3, rdB_4, rdB_i, rdC_0, rdC_i, rnd_K, cmpI, addI, subI, mulI, i2lI, l2iI, minI, maxI, idI, up, ok_some, ok_ite, w32_id, ix_id, Int.toNat_add, Int.toNat_mul, ltI_t, ltI_f, leI_t, leI_f, eqI_t, eqI_f, u2_s, u2_v, u2_i, w3_m2, w3_m1, w3_0, w3_1, w3_2, w3_3, w3_4, w3_5, w3_6, w3_7, w3_8, w3_9, w3_10, w3_12, w3_20, w3_23, w3_24, w3_25, w3_32, w3_40, w3_50, w3_100, w3_120, w3_168, w3_200, w3_240, w3_255, w3_500, w3_592, w3_600, w3_900, w3_940, w3_999, w3_1000, w3_1009, w3_1184, w3_3333, w3_9999, if_true, if_false, reduceIte, true_and, and_true, false_and, and_false, true_or, or_true, false_or, or_false, not_true_eq_false, not_false_eq_true, decide_true, decide_false, decide_eq_true_eq, Bool.not_true, Bool.not_false, Bool.false_eq_true, Bool.not_eq_true', Bool.not_eq_eq_eq_not, decide_eq_false_iff_not, Int.not_lt, Int.not_le, Nat.not_le, Nat.not_lt, Nat.le_refl, Int.le_refl, Nat.lt_irrefl, Int.lt_irrefl, reduceCtorEq, Nat.reduceEqDiff, Nat.reduceAdd, Nat.reduceMul, Nat.reduceBEq, Int.reduceNeg, Int.reduceAdd, Int.toNat_natCast, Int.reduceToNat, ne_eq, Nat.zero_ne_one, true_or, Int.ofNat_lt, Int.ofNat_le, Int.natCast_add, Int.cast_ofNat_Int, Int.natCast_zero, g1, g2, g3, g4, g5, g6, g7, eS, w1, w2, w3, b1]
            refine ⟨hn, (hI _ _ _).mpr ⟨by simp [up, g1], by simp [up, g2], by simp [up, g3], by simp [up, g4], by simp [up, g5], by simp [up], by simp [up, e9], by rw [e9]; exact b2⟩⟩
          · obtain ⟨s4, y1, y2⟩ := hrec (i + 1) (upN d i n) s3 (it n) ck (by omega) (by omega) (by omega) w6
            rw [← itn] at y1 y2
            obtain ⟨s5, b1, b2⟩ := back n _ _ hn y2
            rw [← hST] at w1 b1 eS
            rw [← hf, show ((i + 1 : Nat) : Int) = (i : Int) + 1 by omega] at y1
            obtain ⟨f', hf'⟩ : ∃ f', f' = (it (n + 1)).1 := ⟨_, rfl⟩
            rw [← hf'] at y1
            clear hIn step back hrec itn
            simp (disch := first | decide | omega) only [cE_K, vE_K, gE_K, o1K_0, o1K_i, o1_K, o2L_0, o2L_i, o2K_0, o2K_i, o2_K, thK_0, thK_i, th_K, dvL_0, dvL_i, dvK_0, dvK_i, dv_K, rmL_0, rmL_i, rmK_0, rmK_i, rm_K, dlL_0, dlL_i, dlK_0, dlK_i, dl_K, ldQ_0, ldQ_i, ldL_0, ldL_i, ldK_0, ldK_i, ld_K, kK_0, kK_i, k_K, aL_0, aL_i, aK_0, aK_i, aE_0, aE_1, clK_0, clK_i, cl_K, cBL_0, cBL_i, cBK_0, cBK_i, cB_K, zBK_0, zBK_i, zB_K, nBK_0, nBK_i, nB_K, andK_0, andK_i, and_K, orK_0, orK_i, or_K, tkK_0, tkK_i, tk_K, sk_K, stK_0, stK_i, st_K, exK_0, exK_i, ex_K, in_K, pfL_0, pfL_i, pfK_0, pfK_i, pf_K, pzL_0, pzL_i, pzK_0, pzK_i, pz_K, poL_0, poL_i, poK_0, poK_i, po_K, asQ_0, asQ_i, asM_0, asM_i, asL_0, asL_i, asK_0, asK_i, as_K, aoM_0, aoM_i, aoQ_0, aoQ_i, aoL_0, aoL_i, aoK_0, aoK_i, ao_K, sqK_0, sqK_1, sqK_2, sqK_3, sqK_4, sqK_i, sq_K, swK_0, swK_1, swK_2, swK_3, swK_4, swK_i, sw_K, ifK_0, ifK_i, if_K, br_K, ct_K, rv_K, thr_K, rtK_0, rtK_i, rt_K, mfK_0, mfK_i, mf_K, mzK_i, mzK_0, mz_K, cpK_0, cpT_0, cp_K, tsK_0, tsK_i, ts_K, tsP_hit, tsP_next, tsP_low, tsP_nil, ini_0, ini_1, rdU_0, rdU_i, rdB_0, rdB_1, rdB_2, rdB_3, rdB_4, rdB_i, rdC_0, rdC_i, rnd_K, cmpI, addI, subI, mulI, i2lI, l2iI, minI, maxI, idI, up, ok_some, ok_ite, w32_id, ix_id, Int.toNat_add, Int.toNat_mul, ltI_t, ltI_f, leI_t, leI_f, eqI_t, eqI_f, u2_s, u2_v, u2_i, w3_m2, w3_m1, w3_0, w3_1, w3_2, w3_3, w3_4, w3_5, w3_6, w3_7, w3_8, w3_9, w3_10, w3_12, w3_20, w3_23, w3_24, w3_25, w3_32, w3_40, w3_50, w3_100, w3_120, w3_168, w3_200, w3_240, w3_255, w3_500, w3_592, w3_600, w3_900, w3_940, w3_999, w3_1000, w3_1009, w3_1184, w3_3333, w3_9999, if_true, if_false, reduceIte, true_and, and_true, false_and, and_false, true_or, or_true, false_or, or_false, not_true_eq_false, not_false_eq_true, decide_true, decide_false, decide_eq_true_eq, Bool.not_true, Bool.not_false, Bool.false_eq_true, Bool.not_eq_true', Bool.not_eq_eq_eq_not, decide_eq_false_iff_not, Int.not_lt, Int.not_le, Nat.not_le, Nat.not_lt, Nat.le_refl, Int.le_refl, Nat.lt_irrefl, Int.lt_irrefl, reduceCtorEq, Nat.reduceEqDiff, Nat.reduceAdd, Nat.reduceMul, Nat.reduceBEq, Int.reduceNeg, Int.reduceAdd, Int.toNat_natCast, Int.reduceToNat, ne_eq, Nat.zero_ne_one, true_or, Int.ofNat_lt, Int.ofNat_le, Int.natCast_add, Int.cast_ofNat_Int, Int.natCast_zero, g1, g2, g3, g4, g5, g6, g7, eS, w1, w2, w3, y1, b1]
            refine ⟨hn, (hI _ _ _).mpr ⟨by simp [up, g1], by simp [up, g2], by simp [up, g3], by simp [up, g4], by simp [up, g5], by simp [up], by simp [up, hf'], b2⟩⟩
        · have c' : f ≤ dhs N a hr (upN d i n) (i + 1) := by
            rcases Int.lt_or_le (dhs N a hr (upN d i n) (i + 1)) f with q | q
            · have := w7 q; omega
            · exact q
          have e9 : it (n + 1) = it n := by
            rw [itn]
            exact trS_pr (dhs_le hN) k _ _ _ (by rw [← hf]; exact c')
          obtain ⟨s5, b1, b2⟩ := back n _ _ hn w6
          rw [← hST] at w1 b1 eS
          clear hIn step back hrec itn
          simp (disch := first | decide | omega) only [cE_K, vE_K, gE_K, o1K_0, o1K_i, o1_K, o2L_0, o2L_i, o2K_0, o2K_i, o2_K, thK_0, thK_i, th_K, dvL_0, dvL_i, dvK_0, dvK_i, dv_K, rmL_0, rmL_i, rmK_0, rmK_i, rm_K, dlL_0, dlL_i, dlK_0, dlK_i, dl_K, ldQ_0, ldQ_i, ldL_0, ldL_i, ldK_0, ldK_i, ld_K, kK_0, kK_i, k_K, aL_0, aL_i, aK_0, aK_i, aE_0, aE_1, clK_0, clK_i, cl_K, cBL_0, cBL_i, cBK_0, cBK_i, cB_K, zBK_0, zBK_i, zB_K, nBK_0, nBK_i, nB_K, andK_0, andK_i, and_K, orK_0, orK_i, or_K, tkK_0, tkK_i, tk_K, sk_K, stK_0, stK_i, st_K, exK_0, exK_i, ex_K, in_K, pfL_0, pfL_i, pfK_0, pfK_i, pf_K, pzL_0, pzL_i, pzK_0, pzK_i, pz_K, poL_0, poL_i, poK_0, poK_i, po_K, asQ_0, asQ_i, asM_0, asM_i, asL_0, asL_i, asK_0, asK_i, as_K, aoM_0, aoM_i, aoQ_0, aoQ_i, aoL_0, aoL_i, aoK_0, aoK_i, ao_K, sqK_0, sqK_1, sqK_2, sqK_3, sqK_4, sqK_i, sq_K, swK_0, swK_1, swK_2, swK_3, swK_4, swK_i, sw_K, ifK_0, ifK_i, if_K, br_K, ct_K, rv_K, thr_K, rtK_0, rtK_i, rt_K, mfK_0, mfK_i, mf_K, mzK_i, mzK_0, mz_K, cpK_0, cpT_0, cp_K, tsK_0, tsK_i, ts_K, tsP_hit, tsP_next, tsP_low, tsP_nil, ini_0, ini_1, rdU_0, rdU_i, rdB_0, rdB_1, rdB_2, rdB_3, rdB_4, rdB_i, rdC_0, rdC_i, rnd_K, cmpI, addI, subI, mulI, i2lI, l2iI, minI, maxI, idI, up, ok_some, ok_ite, w32_id, ix_id, Int.toNat_add, Int.toNat_mul, ltI_t, ltI_f, leI_t, leI_f, eqI_t, eqI_f, u2_s, u2_v, u2_i, w3_m2, w3_m1, w3_0, w3_1, w3_2, w3_3, w3_4, w3_5, w3_6, w3_7, w3_8, w3_9, w3_10, w3_12, w3_20, w3_23, w3_24, w3_25, w3_32, w3_40, w3_50, w3_100, w3_120, w3_168, w3_200, w3_240, w3_255, w3_500, w3_592, w3_600, w3_900, w3_940, w3_999, w3_1000, w3_1009, w3_1184, w3_3333, w3_9999, if_true, if_false, reduceIte, true_and, and_true, false_and, and_false, true_or, or_true, false_or, or_false, not_true_eq_false, not_false_eq_true, decide_true, decide_false, decide_eq_true_eq, Bool.not_true, Bool.not_false, Bool.false_eq_true, Bool.not_eq_true', Bool.not_eq_eq_eq_not, decide_eq_false_iff_not, Int.not_lt, Int.not_le, Nat.not_le, Nat.not_lt, Nat.le_refl, Int.le_refl, Nat.lt_irrefl, Int.lt_irrefl, reduceCtorEq, Nat.reduceEqDiff, Nat.reduceAdd, Nat.reduceMul, Nat.reduceBEq, Int.reduceNeg, Int.reduceAdd, Int.toNat_natCast, Int.reduceToNat, ne_eq, Nat.zero_ne_one, true_or, Int.ofNat_lt, Int.ofNat_le, Int.natCast_add, Int.cast_ofNat_Int, Int.natCast_zero, g1, g2, g3, g4, g5, g6, g7, eS, w1, w2, w3, b1]
          refine ⟨hn, (hI _ _ _).mpr ⟨by simp [up, g1], by simp [up, g2], by simp [up, g3], by simp [up, g4], by simp [up, g5], by simp [up], by simp [up, e9, g7, hf], by rw [e9]; exact b2⟩⟩
      · have fin : QQ ((it n).1, s) := (hQQ _).mpr ⟨rfl, g8⟩
        obtain ⟨f, hf⟩ : ∃ f, f = (it n).1 := ⟨_, rfl⟩
        rw [← hf] at fin g7
        clear hIn step back hrec
        rcases nd3 with e | ⟨e, e2⟩
        · simp (disch := first | decide | omega) only [cE_K, vE_K, gE_K, o1K_0, o1K_i, o1_K, o2L_0, o2L_i, o2K_0, o2K_i, o2_K, thK_0, thK_i, th_K, dvL_0, dvL_i, dvK_0, dvK_i, dv_K, rmL_0, rmL_i, rmK_0, rmK_i, rm_K, dlL_0, dlL_i, dlK_0, dlK_i, dl_K, ldQ_0, ldQ_i, ldL_0, ldL_i, ldK_0, ldK_i, ld_K, kK_0, kK_i, k_K, aL_0, aL_i, aK_0, aK_i, aE_0, aE_1, clK_0, clK_i, cl_K, cBL_0, cBL_i, cBK_0, cBK_i, cB_K, zBK_0, zBK_i, zB_K, nBK_0, nBK_i, nB_K, andK_0, andK_i, and_K, orK_0, orK_i, or_K, tkK_0, tkK_i, tk_K, sk_K, stK_0, stK_i, st_K, exK_0, exK_i, ex_K, in_K, pfL_0, pfL_i, pfK_0, pfK_i, pf_K, pzL_0, pzL_i, pzK_0, pzK_i, pz_K, poL_0, poL_i, poK_0, poK_i, po_K, asQ_0, asQ_i, asM_0, asM_i, asL_0, asL_i, asK_0, asK_i, as_K, aoM_0, aoM_i, aoQ_0, aoQ_i, aoL_0, aoL_i, aoK_0, aoK_i, ao_K, sqK_0, sqK_1, sqK_2, sqK_3, sqK_4, sqK_i, sq_K, swK_0, swK_1, swK_2, swK_3, swK_4, swK_i, sw_K, ifK_0, ifK_i, if_K, br_K, ct_K, rv_K, thr_K, rtK_0, rtK_i, rt_K, mfK_0, mfK_i, mf_K, mzK_i, mzK_0, mz_K, cpK_0, cpT_0, cp_K, tsK_0, tsK_i, ts_K, tsP_hit, tsP_next, tsP_low, tsP_nil, ini_0, ini_1, rdU_0, rdU_i, rdB_0, rdB_1, rdB_2, rdB_3, rdB_4, rdB_i, rdC_0, rdC_i, rnd_K, cmpI, addI, subI, mulI, i2lI, l2iI, minI, maxI, idI, up, ok_some, ok_ite, w32_id, ix_id, Int.toNat_add, Int.toNat_mul, ltI_t, ltI_f, leI_t, leI_f, eqI_t, eqI_f, u2_s, u2_v, u2_i, w3_m2, w3_m1, w3_0, w3_1, w3_2, w3_3, w3_4, w3_5, w3_6, w3_7, w3_8, w3_9, w3_10, w3_12, w3_20, w3_23, w3_24, w3_25, w3_32, w3_40, w3_50, w3_100, w3_120, w3_168, w3_200, w3_240, w3_255, w3_500, w3_592, w3_600, w3_900, w3_940, w3_999, w3_1000, w3_1009, w3_1184, w3_3333, w3_9999, if_true, if_false, reduceIte, true_and, and_true, false_and, and_false, true_or, or_true, false_or, or_false, not_true_eq_false, not_false_eq_true, decide_true, decide_false, decide_eq_true_eq, Bool.not_true, Bool.not_false, Bool.false_eq_true, Bool.not_eq_true', Bool.not_eq_eq_eq_not, decide_eq_false_iff_not, Int.not_lt, Int.not_le, Nat.not_le, Nat.not_lt, Nat.le_refl, Int.le_refl, Nat.lt_irrefl, Int.lt_irrefl, reduceCtorEq, Nat.reduceEqDiff, Nat.reduceAdd, Nat.reduceMul, Nat.reduceBEq, Int.reduceNeg, Int.reduceAdd, Int.toNat_natCast, Int.reduceToNat, ne_eq, Nat.zero_ne_one, true_or, Int.ofNat_lt, Int.ofNat_le, Int.natCast_add, Int.cast_ofNat_Int, Int.natCast_zero, g1, g2, g3, g4, g5, g6, g7, e]
          exact fin
        · simp (disch := first | decide | omega) only [cE_K, vE_K, gE_K, o1K_0, o1K_i, o1_K, o2L_0, o2L_i, o2K_0, o2K_i, o2_K, thK_0, thK_i, th_K, dvL_0, dvL_i, dvK_0, dvK_i, dv_K, rmL_0, rmL_i, rmK_0, rmK_i, rm_K, dlL_0, dlL_i, dlK_0, dlK_i, dl_K, ldQ_0, ldQ_i, ldL_0, ldL_i, ldK_0, ldK_i, ld_K, kK_0, kK_i, k_K, aL_0, aL_i, aK_0, aK_i, aE_0, aE_1, clK_0, clK_i, cl_K, cBL_0, cBL_i, cBK_0, cBK_i, cB_K, zBK_0, zBK_i, zB_K, nBK_0, nBK_i, nB_K, andK_0, andK_i, and_K, orK_0, orK_i, or_K, tkK_0, tkK_i, tk_K, sk_K, stK_0, stK_i, st_K, exK_0, exK_i, ex_K, in_K, pfL_0, pfL_i, pfK_0, pfK_i, pf_K, pzL_0, pzL_i, pzK_0, pzK_i, pz_K, poL_0, poL_i, poK_0, poK_i, po_K, asQ_0, asQ_i, asM_0, asM_i, asL_0, asL_i, asK_0, asK_i, as_K, aoM_0, aoM_i, aoQ_0, aoQ_i, aoL_0, aoL_i, aoK_0, aoK_i, ao_K, sqK_0, sqK_1, sqK_2, sqK_3, sqK_4, sqK_i, sq_K, swK_0, swK_1, swK_2, swK_3, swK_4, swK_i, sw_K, ifK_0, ifK_i, if_K, br_K, ct_K, rv_K, thr_K, rtK_0, rtK_i, rt_K, mfK_0, mfK_i, mf_K, mzK_i, mzK_0, mz_K, cpK_0, cpT_0, cp_K, tsK_0, tsK_i, ts_K, tsP_hit, tsP_next, tsP_low, tsP_nil, ini_0, ini_1, rdU_0, rdU_i, rdB_0, rdB_1, rdB_2, rdB_3, rdB_4, rdB_i, rdC_0, rdC_i, rnd_K, cmpI, addI, subI, mulI, i2lI, l2iI, minI, maxI, idI, up, ok_some, ok_ite, w32_id, ix_id, Int.toNat_add, Int.toNat_mul, ltI_t, ltI_f, leI_t, leI_f, eqI_t, eqI_f, u2_s, u2_v, u2_i, w3_m2, w3_m1, w3_0, w3_1, w3_2, w3_3, w3_4, w3_5, w3_6, w3_7, w3_8, w3_9, w3_10, w3_12, w3_20, w3_23, w3_24, w3_25, w3_32, w3_40, w3_50, w3_100, w3_120, w3_168, w3_200, w3_240, w3_255, w3_500, w3_592, w3_600, w3_900, w3_940, w3_999, w3_1000, w3_1009, w3_1184, w3_3333, w3_9999, if_true, if_false, reduceIte, true_and, and_true, false_and, and_false, true_or, or_true, false_or, or_false, not_true_eq_false, not_false_eq_true, decide_true, decide_false, decide_eq_true_eq, Bool.not_true, Bool.not_false, Bool.false_eq_true, Bool.not_eq_true', Bool.not_eq_eq_eq_not, decide_eq_false_iff_not, Int.not_lt, Int.not_le, Nat.not_le, Nat.not_lt, Nat.le_refl, Int.le_refl, Nat.lt_irrefl, Int.lt_irrefl, reduceCtorEq, Nat.reduceEqDiff, Nat.reduceAdd, Nat.reduceMul, Nat.reduceBEq, Int.reduceNeg, Int.reduceAdd, Int.toNat_natCast, Int.reduceToNat, ne_eq, Nat.zero_ne_one, true_or, Int.ofNat_lt, Int.ofNat_le, Int.natCast_add, Int.cast_ofNat_Int, Int.natCast_zero, g1, g2, g3, g4, g5, g6, g7, e]
          exact fin
    obtain ⟨⟨x1, x2⟩, h1, h2⟩ := main
    obtain ⟨k1, k2⟩ := (hQQ _).mp h2
    simp only at k1 k2
    subst k1
    exact ⟨x2, h1, k2⟩
  intro k
  induction k with
  | zero => exact body 0 (fun _ _ _ _ h => absurd rfl h)
  | succ k ih => exact body (k + 1) (fun i d s st _ h => ih i d s st (by omega))
