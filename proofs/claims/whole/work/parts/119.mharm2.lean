def floN (N : Nat → Int) (d : Nat) : Int := N (110 + d)
/-- who works when, but for GUILD wo -/
def wsN (N : Nat → Int) (wo : Int) (h : Nat) : Int := wkF (fun k => N (161 + 3 * k)) (fun k => N (162 + 3 * k)) (fun k => N (163 + 3 * k)) wo (N 160).toNat h
def ppW (N : Nat → Int) (ws : Nat → Int) (h i : Nat) : Int := poN N (ws h) (N 2).toNat i
/-- HOURS HARMED of all -/
def hsH (N fl : Nat → Int) (PP : Nat → Nat → Int) (u n : Nat) : Int := sm (fun h => z1 (hmN N (wkS N fl PP (h + 1)).1 u h)) n
def hsU (N fl : Nat → Int) (PP : Nat → Nat → Int) (u : Nat) : Int := hsH N fl PP u 168
def hsN (N fl : Nat → Int) (PP : Nat → Nat → Int) : Int := sm (hsU N fl PP) (N 3).toNat
theorem sm_s {f : Nat → Int} {n : Nat} : sm f (n + 1) = sm f n + f n := rfl
theorem hsH_s {N fl : Nat → Int} {PP : Nat → Nat → Int} {u n : Nat} : hsH N fl PP u (n + 1) = hsH N fl PP u n + z1 (hmN N (wkS N fl PP (n + 1)).1 u n) := rfl
theorem hsH_0 {N fl : Nat → Int} {PP : Nat → Nat → Int} {u : Nat} : hsH N fl PP u 0 = 0 := rfl
theorem z1_bd (b : Bool) : 0 ≤ z1 b ∧ z1 b ≤ 1 := by cases b <;> decide
theorem sm_bd {f : Nat → Int} {n : Nat} {a : Int} (h : ∀ i, i < n → 0 ≤ f i ∧ f i ≤ a) : 0 ≤ sm f n ∧ sm f n ≤ a * n := by
  induction n with
  | zero => simp [sm]
  | succ n ih =>
    have := ih (fun i hi => h i (by omega))
    have := h n (by omega)
    simp only [sm, Int.natCast_add, Int.mul_add]
    omega
theorem floN_fl {N : Nat → Int} (hN : rvN N) : flN (floN N) := fun d hd => hN.2.2.2.2.1 d hd
theorem ppW_pp {N ws : Nat → Int} {R : Nat} (hN : rvN N) : ppN (ppW N ws) R := by
  have h0 := hN.1.2.2.1
  obtain ⟨G, hG⟩ : ∃ G : Nat, N 2 = G := ⟨(N 2).toNat, by omega⟩
  have := poN_pp (R := R) (ws := ws) hN hG
  unfold ppW
  rw [hG, Int.toNat_natCast]
  exact this
theorem M_harmAtHand_eq {s0 : Me} {N fl : Nat → Int} {PP : Nat → Nat → Int} {R : Nat} (hN : rvN N) (hn : s0 128 = N) (hR : N 0 = R) (hpp : ppN PP R) (hfl : flN fl) (hw : wdM s0 N fl PP) : m_M_harmAtHand [0] s0 = some (hsN N fl PP, s0) := by
  have hc := hN.1.2.1
  have hu := hN.1.2.2.2.1
  obtain ⟨C, hC⟩ : ∃ C : Nat, N 1 = C := ⟨(N 1).toNat, by omega⟩
  obtain ⟨U, hU⟩ : ∃ U : Nat, N 3 = U := ⟨(N 3).toNat, by omega⟩
  apply ok_eq
  rw [hsN, hU, Int.toNat_natCast]
  simp only [m_M_harmAtHand, b_M_harmAtHand, cE_K, vE_K, gE_K, o1K_0, o1K_i, o1_K, o2L_0, o2L_i, o2K_0, o2K_i, o2_K, thK_0, thK_i, th_K, dvL_0, dvL_i, dvK_0, dvK_i, dv_K, rmL_0, rmL_i, rmK_0, rmK_i, rm_K, dlL_0, dlL_i, dlK_0, dlK_i, dl_K, ldQ_0, ldQ_i, ldL_0, ldL_i, ldK_0, ldK_i, ld_K, kK_0, kK_i, k_K, aL_0, aL_i, aK_0, aK_i, aE_0, aE_1, clK_0, clK_i, cl_K, cBL_0, cBL_i, cBK_0, cBK_i, cB_K, zBK_0, zBK_i, zB_K, nBK_0, nBK_i, nB_K, andK_0, andK_i, and_K, orK_0, orK_i, or_K, tkK_0, tkK_i, tk_K, sk_K, stK_0, stK_i, st_K, exK_0, exK_i, ex_K, in_K, pfL_0, pfL_i, pfK_0, pfK_i, pf_K, pzL_0, pzL_i, pzK_0, pzK_i, pz_K, poL_0, poL_i, poK_0, poK_i, po_K, asQ_0, asQ_i, asM_0, asM_i, asL_0, asL_i, asK_0, asK_i, as_K, aoM_0, aoM_i, aoQ_0, aoQ_i, aoL_0, aoL_i, aoK_0, aoK_i, ao_K, sqK_0, sqK_1, sqK_2, sqK_3, sqK_4, sqK_i, sq_K, swK_0, swK_1, swK_2, swK_3, swK_4, swK_i, sw_K, ifK_0, ifK_i, if_K, br_K, ct_K, rv_K, thr_K, rtK_0, rtK_i, rt_K, mfK_0, mfK_i, mf_K, mzK_i, mzK_0, mz_K, cpK_0, cpT_0, cp_K, tsK_0, tsK_i, ts_K, tsP_hit, tsP_next, tsP_low, tsP_nil, ini_0, ini_1, rdU_0, rdU_i, rdB_0, rdB_1, rdB_2, rdB_3, rdB_4, rdB_i, rdC_0, rdC_i, rnd_K, cmpI, addI, subI, mulI, i2lI, l2iI, minI, maxI, idI, up, ok_some, ok_ite, if_true, if_false, reduceIte, true_and, and_true, false_and, and_false, true_or, or_true, false_or, or_false, not_true_eq_false, not_false_eq_true, decide_true, decide_false, decide_eq_true_eq, Bool.not_true, Bool.not_false, Bool.false_eq_true, Bool.not_eq_true', Bool.not_eq_eq_eq_not, decide_eq_false_iff_not, Int.not_lt, Int.not_le, Nat.not_le, Nat.not_lt, Nat.le_refl, Int.le_refl, Nat.lt_irrefl, Int.lt_irrefl, reduceCtorEq, Nat.reduceEqDiff, Nat.reduceAdd, Nat.reduceMul, Nat.reduceBEq, Int.reduceNeg, Int.reduceAdd, Int.toNat_natCast, Int.reduceToNat, ne_eq, Nat.zero_ne_one, true_or, Int.ofNat_lt, Int.ofNat_le, Int.natCast_add, Int.cast_ofNat_Int, Int.natCast_zero]
  obtain ⟨I, hI⟩ : ∃ I : Nat → Lo → Me → Prop, ∀ u ρ s, I u ρ s ↔ (ρ 1 = sm (hsU N fl PP) u ∧ ρ 2 = u ∧ s0 = s) := ⟨fun u ρ s => ρ 1 = sm (hsU N fl PP) u ∧ ρ 2 = u ∧ s0 = s, fun _ _ _ => Iff.rfl⟩
  refine ok_mfK (ok_sqK (wh_gen I U (by omega) ((hI _ _ _).mpr ⟨by simp [up, sm], by simp [up], rfl⟩) ?_))
  intro u ρ s hu' hIu
  obtain ⟨g1, g2, rfl⟩ := (hI _ _ _).mp hIu
  rcases Nat.lt_or_eq_of_le hu' with hu' | rfl
  · simp (disch := first | decide | omega) only [cE_K, vE_K, gE_K, o1K_0, o1K_i, o1_K, o2L_0, o2L_i, o2K_0, o2K_i, o2_K, thK_0, thK_i, th_K, dvL_0, dvL_i, dvK_0, dvK_i, dv_K, rmL_0, rmL_i, rmK_0, rmK_i, rm_K, dlL_0, dlL_i, dlK_0, dlK_i, dl_K, ldQ_0, ldQ_i, ldL_0, ldL_i, ldK_0, ldK_i, ld_K, kK_0, kK_i, k_K, aL_0, aL_i, aK_0, aK_i, aE_0, aE_1, clK_0, clK_i, cl_K, cBL_0, cBL_i, cBK_0, cBK_i, cB_K, zBK_0, zBK_i, zB_K, nBK_0, nBK_i, nB_K, andK_0, andK_i, and_K, orK_0, orK_i, or_K, tkK_0, tkK_i, tk_K, sk_K, stK_0, stK_i, st_K, exK_0, exK_i, ex_K, in_K, pfL_0, pfL_i, pfK_0, pfK_i, pf_K, pzL_0, pzL_i, pzK_0, pzK_i, pz_K, poL_0, poL_i, poK_0, poK_i, po_K, asQ_0, asQ_i, asM_0, asM_i, asL_0, asL_i, asK_0, asK_i, as_K, aoM_0, aoM_i, aoQ_0, aoQ_i, aoL_0, aoL_i, aoK_0, aoK_i, ao_K, sqK_0, sqK_1, sqK_2, sqK_3, sqK_4, sqK_i, sq_K, swK_0, swK_1, swK_2, swK_3, swK_4, swK_i, sw_K, ifK_0, ifK_i, if_K, br_K, ct_K, rv_K, thr_K, rtK_0, rtK_i, rt_K, mfK_0, mfK_i, mf_K, mzK_i, mzK_0, mz_K, cpK_0, cpT_0, cp_K, tsK_0, tsK_i, ts_K, tsP_hit, tsP_next, tsP_low, tsP_nil, ini_0, ini_1, rdU_0, rdU_i, rdB_0, rdB_1, rdB_2, rdB_3, rdB_4, rdB_i, rdC_0, rdC_i, rnd_K, cmpI, addI, subI, mulI, i2lI, l2iI, minI, maxI, idI, up, ok_some, ok_ite, w32_id, ix_id, Int.toNat_add, Int.toNat_mul, ltI_t, ltI_f, leI_t, leI_f, eqI_t, eqI_f, u2_s, u2_v, u2_i, w3_m2, w3_m1, w3_0, w3_1, w3_2, w3_3, w3_4, w3_5, w3_6, w3_7, w3_8, w3_9, w3_10, w3_12, w3_20, w3_23, w3_24, w3_25, w3_32, w3_40, w3_50, w3_100, w3_120, w3_168, w3_200, w3_240, w3_255, w3_500, w3_592, w3_600, w3_900, w3_940, w3_999, w3_1000, w3_1009, w3_1184, w3_3333, w3_9999, if_true, if_false, reduceIte, true_and, and_true, false_and, and_false, true_or, or_true, false_or, or_false, not_true_eq_false, not_false_eq_true, decide_true, decide_false, decide_eq_true_eq, Bool.not_true, Bool.not_false, Bool.false_eq_true, Bool.not_eq_true', Bool.not_eq_eq_eq_not, decide_eq_false_iff_not, Int.not_lt, Int.not_le, Nat.not_le, Nat.not_lt, Nat.le_refl, Int.le_refl, Nat.lt_irrefl, Int.lt_irrefl, reduceCtorEq, Nat.reduceEqDiff, Nat.reduceAdd, Nat.reduceMul, Nat.reduceBEq, Int.reduceNeg, Int.reduceAdd, Int.toNat_natCast, Int.reduceToNat, ne_eq, Nat.zero_ne_one, true_or, Int.ofNat_lt, Int.ofNat_le, Int.natCast_add, Int.cast_ofNat_Int, Int.natCast_zero, g2, M_users_eq, hn, hU]
    obtain ⟨J, hJ⟩ : ∃ J : Nat → Lo → Me → Prop, ∀ h ρ s, J h ρ s ↔ (ρ 1 = sm (hsU N fl PP) u + hsH N fl PP u h ∧ ρ 2 = u ∧ ρ 3 = h ∧ s0 = s) := ⟨fun h ρ s => ρ 1 = sm (hsU N fl PP) u + hsH N fl PP u h ∧ ρ 2 = u ∧ ρ 3 = h ∧ s0 = s, fun _ _ _ => Iff.rfl⟩
    refine ok_rdB (wh_gen J 168 (by omega) ((hJ _ _ _).mpr ⟨by simp [up, hsH_0, g1], by simp [up, g2], by simp [up], rfl⟩) ?_)
    intro h ρ t hh hJh
    obtain ⟨k1, k2, k3, rfl⟩ := (hJ _ _ _).mp hJh
    rcases Nat.lt_or_eq_of_le hh with hh | rfl
    · have e := M_isHarmed_eq hN hn hR hC hU hpp hfl hw hu' hh
      generalize hb : hmN N (wkS N fl PP (h + 1)).1 u h = b at e
      cases b
      · simp (disch := first | decide | omega) only [cE_K, vE_K, gE_K, o1K_0, o1K_i, o1_K, o2L_0, o2L_i, o2K_0, o2K_i, o2_K, thK_0, thK_i, th_K, dvL_0, dvL_i, dvK_0, dvK_i, dv_K, rmL_0, rmL_i, rmK_0, rmK_i, rm_K, dlL_0, dlL_i, dlK_0, dlK_i, dl_K, ldQ_0, ldQ_i, ldL_0, ldL_i, ldK_0, ldK_i, ld_K, kK_0, kK_i, k_K, aL_0, aL_i, aK_0, aK_i, aE_0, aE_1, clK_0, clK_i, cl_K, cBL_0, cBL_i, cBK_0, cBK_i, cB_K, zBK_0, zBK_i, zB_K, nBK_0, nBK_i, nB_K, andK_0, andK_i, and_K, orK_0, orK_i, or_K, tkK_0, tkK_i, tk_K, sk_K, stK_0, stK_i, st_K, exK_0, exK_i, ex_K, in_K, pfL_0, pfL_i, pfK_0, pfK_i, pf_K, pzL_0, pzL_i, pzK_0, pzK_i, pz_K, poL_0, poL_i, poK_0, poK_i, po_K, asQ_0, asQ_i, asM_0, asM_i, asL_0, asL_i, asK_0, asK_i, as_K, aoM_0, aoM_i, aoQ_0, aoQ_i, aoL_0, aoL_i, aoK_0, aoK_i, ao_K, sqK_0, sqK_1, sqK_2, sqK_3, sqK_4, sqK_i, sq_K, swK_0, swK_1, swK_2, swK_3, swK_4, swK_i, sw_K, ifK_0, ifK_i, if_K, br_K, ct_K, rv_K, thr_K, rtK_0, rtK_i, rt_K, mfK_0, mfK_i, mf_K, mzK_i, mzK_0, mz_K, cpK_0, cpT_0, cp_K, tsK_0, tsK_i, ts_K, tsP_hit, tsP_next, tsP_low, tsP_nil, ini_0, ini_1, rdU_0, rdU_i, rdB_0, rdB_1, rdB_2, rdB_3, rdB_4, rdB_i, rdC_0, rdC_i, rnd_K, cmpI, addI, subI, mulI, i2lI, l2iI, minI, maxI, idI, up, ok_some, ok_ite, w32_id, ix_id, Int.toNat_add, Int.toNat_mul, ltI_t, ltI_f, leI_t, leI_f, eqI_t, eqI_f, u2_s, u2_v, u2_i, w3_m2, w3_m1, w3_0, w3_1, w3_2, w3_3, w3_4, w3_5, w3_6, w3_7, w3_8, w3_9, w3_10, w3_12, w3_20, w3_23, w3_24, w3_25, w3_32, w3_40, w3_50, w3_100, w3_120, w3_168, w3_200, w3_240, w3_255, w3_500, w3_592, w3_600, w3_900, w3_940, w3_999, w3_1000, w3_1009, w3_1184, w3_3333, w3_9999, if_true, if_false, reduceIte, true_and, and_true, false_and, and_false, true_or, or_true, false_or, or_false, not_true_eq_false, not_false_eq_true, decide_true, decide_false, decide_eq_true_eq, Bool.not_true, Bool.not_false, Bool.false_eq_true, Bool.not_eq_true', Bool.not_eq_eq_eq_not, decide_eq_false_iff_not, Int.not_lt, Int.not_le, Nat.not_le, Nat.not_lt, Nat.le_refl, Int.le_refl, Nat.lt_irrefl, Int.lt_irrefl, reduceCtorEq, Nat.reduceEqDiff, Nat.reduceAdd, Nat.reduceMul, Nat.reduceBEq, Int.reduceNeg, Int.reduceAdd, Int.toNat_natCast, Int.reduceToNat, ne_eq, Nat.zero_ne_one, true_or, Int.ofNat_lt, Int.ofNat_le, Int.natCast_add, Int.cast_ofNat_Int, Int.natCast_zero, k2, k3, e, z1_f]
        exact ⟨hh, (hJ _ _ _).mpr ⟨by simp [up, hsH_s, k1, hb, z1_f], by simp [up, k2], by simp [up], rfl⟩⟩
      · simp (disch := first | decide | omega) only [cE_K, vE_K, gE_K, o1K_0, o1K_i, o1_K, o2L_0, o2L_i, o2K_0, o2K_i, o2_K, thK_0, thK_i, th_K, dvL_0, dvL_i, dvK_0, dvK_i, dv_K, rmL_0, rmL_i, rmK_0, rmK_i, rm_K, dlL_0, dlL_i, dlK_0, dlK_i, dl_K, ldQ_0, ldQ_i, ldL_0, ldL_i, ldK_0, ldK_i, ld_K, kK_0, kK_i, k_K, aL_0, aL_i, aK_0, aK_i, aE_0, aE_1, clK_0, clK_i, cl_K, cBL_0, cBL_i, cBK_0, cBK_i, cB_K, zBK_0, zBK_i, zB_K, nBK_0, nBK_i, nB_K, andK_0, andK_i, and_K, orK_0, orK_i, or_K, tkK_0, tkK_i, tk_K, sk_K, stK_0, stK_i, st_K, exK_0, exK_i, ex_K, in_K, pfL_0, pfL_i, pfK_0, pfK_i, pf_K, pzL_0, pzL_i, pzK_0, pzK_i, pz_K, poL_0, poL_i, poK_0, poK_i, po_K, asQ_0, asQ_i, asM_0, asM_i, asL_0, asL_i, asK_0, asK_i, as_K, aoM_0, aoM_i, aoQ_0, aoQ_i, aoL_0, aoL_i, aoK_0, aoK_i, ao_K, sqK_0, sqK_1, sqK_2, sqK_3, sqK_4, sqK_i, sq_K, swK_0, swK_1, swK_2, swK_3, swK_4, swK_i, sw_K, ifK_0, ifK_i, if_K, br_K, ct_K, rv_K, thr_K, rtK_0, rtK_i, rt_K, mfK_0, mfK_i, mf_K, mzK_i, mzK_0, mz_K, cpK_0, cpT_0, cp_K, tsK_0, tsK_i, ts_K, tsP_hit, tsP_next, tsP_low, tsP_nil, ini_0, ini_1, rdU_0, rdU_i, rdB_0, rdB_1, rdB_2, rdB_3, rdB_4, rdB_i, rdC_0, rdC_i, rnd_K, cmpI, addI, subI, mulI, i2lI, l2iI, minI, maxI, idI, up, ok_some, ok_ite, w32_id, ix_id, Int.toNat_add, Int.toNat_mul, ltI_t, ltI_f, leI_t, leI_f, eqI_t, eqI_f, u2_s, u2_v, u2_i, w3_m2, w3_m1, w3_0, w3_1, w3_2, w3_3, w3_4, w3_5, w3_6, w3_7, w3_8, w3_9, w3_10, w3_12, w3_20, w3_23, w3_24, w3_25, w3_32, w3_40, w3_50, w3_100, w3_120, w3_168, w3_200, w3_240, w3_255, w3_500, w3_592, w3_600, w3_900, w3_940, w3_999, w3_1000, w3_1009, w3_1184, w3_3333, w3_9999, if_true, if_false, reduceIte, true_and, and_true, false_and, and_false, true_or, or_true, false_or, or_false, not_true_eq_false, not_false_eq_true, decide_true, decide_false, decide_eq_true_eq, Bool.not_true, Bool.not_false, Bool.false_eq_true, Bool.not_eq_true', Bool.not_eq_eq_eq_not, decide_eq_false_iff_not, Int.not_lt, Int.not_le, Nat.not_le, Nat.not_lt, Nat.le_refl, Int.le_refl, Nat.lt_irrefl, Int.lt_irrefl, reduceCtorEq, Nat.reduceEqDiff, Nat.reduceAdd, Nat.reduceMul, Nat.reduceBEq, Int.reduceNeg, Int.reduceAdd, Int.toNat_natCast, Int.reduceToNat, ne_eq, Nat.zero_ne_one, true_or, Int.ofNat_lt, Int.ofNat_le, Int.natCast_add, Int.cast_ofNat_Int, Int.natCast_zero, k2, k3, e, z1_t]
        exact ⟨hh, (hJ _ _ _).mpr ⟨by simp [up, hsH_s, k1, hb, z1_t]; omega, by simp [up, k2], by simp [up], rfl⟩⟩
    · simp (disch := first | decide | omega) only [cE_K, vE_K, gE_K, o1K_0, o1K_i, o1_K, o2L_0, o2L_i, o2K_0, o2K_i, o2_K, thK_0, thK_i, th_K, dvL_0, dvL_i, dvK_0, dvK_i, dv_K, rmL_0, rmL_i, rmK_0, rmK_i, rm_K, dlL_0, dlL_i, dlK_0, dlK_i, dl_K, ldQ_0, ldQ_i, ldL_0, ldL_i, ldK_0, ldK_i, ld_K, kK_0, kK_i, k_K, aL_0, aL_i, aK_0, aK_i, aE_0, aE_1, clK_0, clK_i, cl_K, cBL_0, cBL_i, cBK_0, cBK_i, cB_K, zBK_0, zBK_i, zB_K, nBK_0, nBK_i, nB_K, andK_0, andK_i, and_K, orK_0, orK_i, or_K, tkK_0, tkK_i, tk_K, sk_K, stK_0, stK_i, st_K, exK_0, exK_i, ex_K, in_K, pfL_0, pfL_i, pfK_0, pfK_i, pf_K, pzL_0, pzL_i, pzK_0, pzK_i, pz_K, poL_0, poL_i, poK_0, poK_i, po_K, asQ_0, asQ_i, asM_0, asM_i, asL_0, asL_i, asK_0, asK_i, as_K, aoM_0, aoM_i, aoQ_0, aoQ_i, aoL_0, aoL_i, aoK_0, aoK_i, ao_K, sqK_0, sqK_1, sqK_2, sqK_3, sqK_4, sqK_i, sq_K, swK_0, swK_1, swK_2, swK_3, swK_4, swK_i, sw_K, ifK_0, ifK_i, if_K, br_K, ct_K, rv_K, thr_K, rtK_0, rtK_i, rt_K, mfK_0, mfK_i, mf_K, mzK_i, mzK_0, mz_K, cpK_0, cpT_0, cp_K, tsK_0, tsK_i, ts_K, tsP_hit, tsP_next, tsP_low, tsP_nil, ini_0, ini_1, rdU_0, rdU_i, rdB_0, rdB_1, rdB_2, rdB_3, rdB_4, rdB_i, rdC_0, rdC_i, rnd_K, cmpI, addI, subI, mulI, i2lI, l2iI, minI, maxI, idI, up, ok_some, ok_ite, w32_id, ix_id, Int.toNat_add, Int.toNat_mul, ltI_t, ltI_f, leI_t, leI_f, eqI_t, eqI_f, u2_s, u2_v, u2_i, w3_m2, w3_m1, w3_0, w3_1, w3_2, w3_3, w3_4, w3_5, w3_6, w3_7, w3_8, w3_9, w3_10, w3_12, w3_20, w3_23, w3_24, w3_25, w3_32, w3_40, w3_50, w3_100, w3_120, w3_168, w3_200, w3_240, w3_255, w3_500, w3_592, w3_600, w3_900, w3_940, w3_999, w3_1000, w3_1009, w3_1184, w3_3333, w3_9999, if_true, if_false, reduceIte, true_and, and_true, false_and, and_false, true_or, or_true, false_or, or_false, not_true_eq_false, not_false_eq_true, decide_true, decide_false, decide_eq_true_eq, Bool.not_true, Bool.not_false, Bool.false_eq_true, Bool.not_eq_true', Bool.not_eq_eq_eq_not, decide_eq_false_iff_not, Int.not_lt, Int.not_le, Nat.not_le, Nat.not_lt, Nat.le_refl, Int.le_refl, Nat.lt_irrefl, Int.lt_irrefl, reduceCtorEq, Nat.reduceEqDiff, Nat.reduceAdd, Nat.reduceMul, Nat.reduceBEq, Int.reduceNeg, Int.reduceAdd, Int.toNat_natCast, Int.reduceToNat, ne_eq, Nat.zero_ne_one, true_or, Int.ofNat_lt, Int.ofNat_le, Int.natCast_add, Int.cast_ofNat_Int, Int.natCast_zero, k3]
      exact ⟨hu', (hI _ _ _).mpr ⟨by rw [sm_s, hsU]; simpa [up] using k1, by simp [up, k2], rfl⟩⟩
  · simp (disch := first | decide | omega) only [cE_K, vE_K, gE_K, o1K_0, o1K_i, o1_K, o2L_0, o2L_i, o2K_0, o2K_i, o2_K, thK_0, thK_i, th_K, dvL_0, dvL_i, dvK_0, dvK_i, dv_K, rmL_0, rmL_i, rmK_0, rmK_i, rm_K, dlL_0, dlL_i, dlK_0, dlK_i, dl_K, ldQ_0, ldQ_i, ldL_0, ldL_i, ldK_0, ldK_i, ld_K, kK_0, kK_i, k_K, aL_0, aL_i, aK_0, aK_i, aE_0, aE_1, clK_0, clK_i, cl_K, cBL_0, cBL_i, cBK_0, cBK_i, cB_K, zBK_0, zBK_i, zB_K, nBK_0, nBK_i, nB_K, andK_0, andK_i, and_K, orK_0, orK_i, or_K, tkK_0, tkK_i, tk_K, sk_K, stK_0, stK_i, st_K, exK_0, exK_i, ex_K, in_K, pfL_0, pfL_i, pfK_0, pfK_i, pf_K, pzL_0, pzL_i, pzK_0, pzK_i, pz_K, poL_0, poL_i, poK_0, poK_i, po_K, asQ_0, asQ_i, asM_0, asM_i, asL_0, asL_i, asK_0, asK_i, as_K, aoM_0, aoM_i, aoQ_0, aoQ_i, aoL_0, aoL_i, aoK_0, aoK_i, ao_K, sqK_0, sqK_1, sqK_2, sqK_3, sqK_4, sqK_i, sq_K, swK_0, swK_1, swK_2, swK_3, swK_4, swK_i, sw_K, ifK_0, ifK_i, if_K, br_K, ct_K, rv_K, thr_K, rtK_0, rtK_i, rt_K, mfK_0, mfK_i, mf_K, mzK_i, mzK_0, mz_K, cpK_0, cpT_0, cp_K, tsK_0, tsK_i, ts_K, tsP_hit, tsP_next, tsP_low, tsP_nil, ini_0, ini_1, rdU_0, rdU_i, rdB_0, rdB_1, rdB_2, rdB_3, rdB_4, rdB_i, rdC_0, rdC_i, rnd_K, cmpI, addI, subI, mulI, i2lI, l2iI, minI, maxI, idI, up, ok_some, ok_ite, w32_id, ix_id, Int.toNat_add, Int.toNat_mul, ltI_t, ltI_f, leI_t, leI_f, eqI_t, eqI_f, u2_s, u2_v, u2_i, w3_m2, w3_m1, w3_0, w3_1, w3_2, w3_3, w3_4, w3_5, w3_6, w3_7, w3_8, w3_9, w3_10, w3_12, w3_20, w3_23, w3_24, w3_25, w3_32, w3_40, w3_50, w3_100, w3_120, w3_168, w3_200, w3_240, w3_255, w3_500, w3_592, w3_600, w3_900, w3_940, w3_999, w3_1000, w3_1009, w3_1184, w3_3333, w3_9999, if_true, if_false, reduceIte, true_and, and_true, false_and, and_false, true_or, or_true, false_or, or_false, not_true_eq_false, not_false_eq_true, decide_true, decide_false, decide_eq_true_eq, Bool.not_true, Bool.not_false, Bool.false_eq_true, Bool.not_eq_true', Bool.not_eq_eq_eq_not, decide_eq_false_iff_not, Int.not_lt, Int.not_le, Nat.not_le, Nat.not_lt, Nat.le_refl, Int.le_refl, Nat.lt_irrefl, Int.lt_irrefl, reduceCtorEq, Nat.reduceEqDiff, Nat.reduceAdd, Nat.reduceMul, Nat.reduceBEq, Int.reduceNeg, Int.reduceAdd, Int.toNat_natCast, Int.reduceToNat, ne_eq, Nat.zero_ne_one, true_or, Int.ofNat_lt, Int.ofNat_le, Int.natCast_add, Int.cast_ofNat_Int, Int.natCast_zero, g2, M_users_eq, hn, hU]
    rw [g1]
theorem M_layWorks_ok {μ : Me} {N : Nat → Int} {wo : Int} (hn : μ 128 = N) (hN : rvN N) (hB : blN N) (w0 : -1 ≤ wo) (w1 : wo < 6) : ∃ τ, m_M_layWorks [0, wo] μ = some (0, τ) ∧ fr [640] μ τ ∧ ∀ h, h < 168 → τ 640 h = wsN N wo h := by
  have hg := hN.1.2.2.1
  obtain ⟨K, hK⟩ : ∃ K : Nat, N 160 = K := ⟨(N 160).toNat, by have := hB.1; omega⟩
  have p2 := M_layWorks_eq (σ := μ) (wo := wo) (K := K) (by rw [hn, hK]) (by have := hB.1; omega) w0 w1 (fun k hk => by
    rw [hn]
    have := hB.2 k (by omega)
    rw [show 161 + 3 * k + 1 = 162 + 3 * k by omega, show 161 + 3 * k + 2 = 163 + 3 * k by omega]
    omega)
  refine ⟨_, p2, ?_, fun h hh => ?_⟩
  · intro v hv
    simp only [List.mem_cons, List.not_mem_nil, or_false] at hv
    funext i
    simp [wkM, hv]
  · rw [hn]
    simp only [wkM, hh, and_self, if_true, wsN, hK, Int.toNat_natCast]
    congr 1
    · funext k; congr 1; omega
    · funext k; congr 1; omega
theorem M_week_ok {μ : Me} {N : Nat → Int} (hb : μ 22 0 = 0 ∨ μ 22 0 = 1) (hn : nwM μ = N) (hN : rvN N) (hB : blN N) (hpu : μ 34 0 = -1) :
    ∃ τ, m_M_week [0] μ = some (0, τ) ∧ fr [128, 22, 640, 960, 704, 768, 832, 896, 1024, 1088] μ τ ∧ τ 128 = N ∧ τ 22 0 = 1 ∧ wdM τ N (floN N) (ppW N (wsN N (-1))) ∧ (∀ h, h < 168 → τ 640 h = wsN N (-1) h) ∧ (∀ c : Nat, (c : Int) < N 1 → τ 896 c = sm (fun h => ptN N (wsN N (-1) h) c (N 2).toNat) 168) ∧ (∀ d, d < 7 → τ 960 d = N (110 + d)) := by
  have hr := hN.1.1
  have hc := hN.1.2.1
  have hg := hN.1.2.2.1
  obtain ⟨R, hR⟩ : ∃ R : Nat, N 0 = R := ⟨(N 0).toNat, by omega⟩
  obtain ⟨C, hC⟩ : ∃ C : Nat, N 1 = C := ⟨(N 1).toNat, by omega⟩
  obtain ⟨G, hG⟩ : ∃ G : Nat, N 2 = G := ⟨(N 2).toNat, by omega⟩
  obtain ⟨K, hK⟩ : ∃ K : Nat, N 160 = K := ⟨(N 160).toNat, by have := hB.1; omega⟩
  obtain ⟨s1, p1, f1, n1, b1⟩ := M_lay_ok hb
  rw [hn] at n1
  have p2 := M_layWorks_eq (σ := s1) (wo := -1) (K := K) (by rw [n1, hK]) (by have := hB.1; omega) (by omega) (by omega) (fun k hk => by
    rw [n1]
    have := hB.2 k (by omega)
    rw [show 161 + 3 * k + 1 = 162 + 3 * k by omega, show 161 + 3 * k + 2 = 163 + 3 * k by omega]
    omega)
  generalize hs2 : wkM s1 640 (wkF (fun k => s1 128 (161 + 3 * k)) (fun k => s1 128 (161 + 3 * k + 1)) (fun k => s1 128 (161 + 3 * k + 2)) (-1) K) = s2 at p2
  have a2 : ∀ v, v ≠ 640 → s2 v = s1 v := fun v h1 => by rw [← hs2]; funext i; simp [wkM, h1]
  have w2 : ∀ h, h < 168 → s2 640 h = wsN N (-1) h := fun h hh => by
    rw [← hs2, n1]
    simp only [wkM, hh, and_self, if_true, wsN, hK, Int.toNat_natCast]
    congr 1
    · funext k; congr 1; omega
    · funext k; congr 1; omega
  have p3 := M_layFlows_eq (σ := s2)
  generalize hs3 : (fun v i => if v = 960 ∧ i < 7 then s2 128 (110 + i) else s2 v i) = s3 at p3
  have a3 : ∀ v, v ≠ 960 → s3 v = s2 v := fun v h1 => by rw [← hs3]; funext i; simp [h1]
  have n3 : s3 128 = N := by rw [a3 _ (by decide), a2 _ (by decide), n1]
  have w3 : ∀ h, h < 168 → s3 640 h = wsN N (-1) h := fun h hh => by rw [a3 _ (by decide), w2 h hh]
  have q3 : s3 34 0 = -1 := by rw [a3 _ (by decide), a2 _ (by decide), f1 _ (by decide), hpu]
  obtain ⟨τ, p4, i4⟩ := M_goWeek_ok (σ := s3) (N := N) (fl := floN N) (PP := ppW N (wsN N (-1))) hN n3 hR hC hG (ppW_pp hN) (floN_fl hN) (fun d hd => by
    rw [← hs3]
    simp only [hd, and_self, if_true]
    rw [a2 _ (by decide), n1]
    rfl) (Or.inl q3) (fun h i hh h1 h2 => by
    rw [w3 h hh]
    have : puM s3 h (i % 4) i = 0 := by simp [puM, q3]
    rw [this, ppW, hG, Int.toNat_natCast]
    omega)
  have fr4 := i4.1
  refine ⟨τ, ?_, ?_, by rw [fr4 _ (by decide), n3], by rw [fr4 _ (by decide), a3 _ (by decide), a2 _ (by decide), b1], wdM_of hR hC i4, fun h hh => by rw [fr4 _ (by decide), w3 h hh], fun c hcc => ?_, fun d hd => ?_⟩
  · simp only [m_M_week, b_M_week]
    simp (disch := first | decide | omega) only [cE_K, vE_K, gE_K, o1K_0, o1K_i, o1_K, o2L_0, o2L_i, o2K_0, o2K_i, o2_K, thK_0, thK_i, th_K, dvL_0, dvL_i, dvK_0, dvK_i, dv_K, rmL_0, rmL_i, rmK_0, rmK_i, rm_K, dlL_0, dlL_i, dlK_0, dlK_i, dl_K, ldQ_0, ldQ_i, ldL_0, ldL_i, ldK_0, ldK_i, ld_K, kK_0, kK_i, k_K, aL_0, aL_i, aK_0, aK_i, aE_0, aE_1, clK_0, clK_i, cl_K, cBL_0, cBL_i, cBK_0, cBK_i, cB_K, zBK_0, zBK_i, zB_K, nBK_0, nBK_i, nB_K, andK_0, andK_i, and_K, orK_0, orK_i, or_K, tkK_0, tkK_i, tk_K, sk_K, stK_0, stK_i, st_K, exK_0, exK_i, ex_K, in_K, pfL_0, pfL_i, pfK_0, pfK_i, pf_K, pzL_0, pzL_i, pzK_0, pzK_i, pz_K, poL_0, poL_i, poK_0, poK_i, po_K, asQ_0, asQ_i, asM_0, asM_i, asL_0, asL_i, asK_0, asK_i, as_K, aoM_0, aoM_i, aoQ_0, aoQ_i, aoL_0, aoL_i, aoK_0, aoK_i, ao_K, sqK_0, sqK_1, sqK_2, sqK_3, sqK_4, sqK_i, sq_K, swK_0, swK_1, swK_2, swK_3, swK_4, swK_i, sw_K, ifK_0, ifK_i, if_K, br_K, ct_K, rv_K, thr_K, rtK_0, rtK_i, rt_K, mfK_0, mfK_i, mf_K, mzK_i, mzK_0, mz_K, cpK_0, cpT_0, cp_K, tsK_0, tsK_i, ts_K, tsP_hit, tsP_next, tsP_low, tsP_nil, ini_0, ini_1, rdU_0, rdU_i, rdB_0, rdB_1, rdB_2, rdB_3, rdB_4, rdB_i, rdC_0, rdC_i, rnd_K, cmpI, addI, subI, mulI, i2lI, l2iI, minI, maxI, idI, up, ok_some, ok_ite, w32_id, ix_id, Int.toNat_add, Int.toNat_mul, ltI_t, ltI_f, leI_t, leI_f, eqI_t, eqI_f, u2_s, u2_v, u2_i, w3_m2, w3_m1, w3_0, w3_1, w3_2, w3_3, w3_4, w3_5, w3_6, w3_7, w3_8, w3_9, w3_10, w3_12, w3_20, w3_23, w3_24, w3_25, w3_32, w3_40, w3_50, w3_100, w3_120, w3_168, w3_200, w3_240, w3_255, w3_500, w3_592, w3_600, w3_900, w3_940, w3_999, w3_1000, w3_1009, w3_1184, w3_3333, w3_9999, if_true, if_false, reduceIte, true_and, and_true, false_and, and_false, true_or, or_true, false_or, or_false, not_true_eq_false, not_false_eq_true, decide_true, decide_false, decide_eq_true_eq, Bool.not_true, Bool.not_false, Bool.false_eq_true, Bool.not_eq_true', Bool.not_eq_eq_eq_not, decide_eq_false_iff_not, Int.not_lt, Int.not_le, Nat.not_le, Nat.not_lt, Nat.le_refl, Int.le_refl, Nat.lt_irrefl, Int.lt_irrefl, reduceCtorEq, Nat.reduceEqDiff, Nat.reduceAdd, Nat.reduceMul, Nat.reduceBEq, Int.reduceNeg, Int.reduceAdd, Int.toNat_natCast, Int.reduceToNat, ne_eq, Nat.zero_ne_one, true_or, Int.ofNat_lt, Int.ofNat_le, Int.natCast_add, Int.cast_ofNat_Int, Int.natCast_zero, p1, p2, p3, p4]
  · intro v hv
    simp only [List.mem_cons, List.not_mem_nil, or_false, not_or] at hv
    rw [fr4 v (by simp [hv]), a3 v (by simp [hv]), a2 v (by simp [hv]), f1 v (by simp [hv])]
  · rw [i4.2.2.2.2 c (by omega), if_neg (by omega), hG, Int.toNat_natCast]
    exact sm_eq (fun h hh => by rw [w3 h hh])
  · rw [fr4 _ (by decide), ← hs3]
    simp only [hd, and_self, if_true]
    rw [a2 _ (by decide), n1]
theorem M_harmNow_ok {μ : Me} {N : Nat → Int} (hb : μ 22 0 = 0 ∨ μ 22 0 = 1) (hn : nwM μ = N) (hN : rvN N) (hB : blN N) (hpu : μ 34 0 = -1) :
    ∃ τ, m_M_harmNow [0] μ = some (hsN N (floN N) (ppW N (wsN N (-1))), τ) ∧ fr [128, 22, 640, 960, 704, 768, 832, 896, 1024, 1088] μ τ ∧ τ 128 = N ∧ τ 22 0 = 1 := by
  obtain ⟨τ, p, f, n, b, w, _, _, _⟩ := M_week_ok hb hn hN hB hpu
  have hr := hN.1.1
  obtain ⟨R, hR⟩ : ∃ R : Nat, N 0 = R := ⟨(N 0).toNat, by omega⟩
  refine ⟨τ, ?_, f, n, b⟩
  have e := M_harmAtHand_eq hN n hR (ppW_pp hN) (floN_fl hN) w
  simp only [m_M_harmNow, b_M_harmNow]
  simp (disch := first | decide | omega) only [cE_K, vE_K, gE_K, o1K_0, o1K_i, o1_K, o2L_0, o2L_i, o2K_0, o2K_i, o2_K, thK_0, thK_i, th_K, dvL_0, dvL_i, dvK_0, dvK_i, dv_K, rmL_0, rmL_i, rmK_0, rmK_i, rm_K, dlL_0, dlL_i, dlK_0, dlK_i, dl_K, ldQ_0, ldQ_i, ldL_0, ldL_i, ldK_0, ldK_i, ld_K, kK_0, kK_i, k_K, aL_0, aL_i, aK_0, aK_i, aE_0, aE_1, clK_0, clK_i, cl_K, cBL_0, cBL_i, cBK_0, cBK_i, cB_K, zBK_0, zBK_i, zB_K, nBK_0, nBK_i, nB_K, andK_0, andK_i, and_K, orK_0, orK_i, or_K, tkK_0, tkK_i, tk_K, sk_K, stK_0, stK_i, st_K, exK_0, exK_i, ex_K, in_K, pfL_0, pfL_i, pfK_0, pfK_i, pf_K, pzL_0, pzL_i, pzK_0, pzK_i, pz_K, poL_0, poL_i, poK_0, poK_i, po_K, asQ_0, asQ_i, asM_0, asM_i, asL_0, asL_i, asK_0, asK_i, as_K, aoM_0, aoM_i, aoQ_0, aoQ_i, aoL_0, aoL_i, aoK_0, aoK_i, ao_K, sqK_0, sqK_1, sqK_2, sqK_3, sqK_4, sqK_i, sq_K, swK_0, swK_1, swK_2, swK_3, swK_4, swK_i, sw_K, ifK_0, ifK_i, if_K, br_K, ct_K, rv_K, thr_K, rtK_0, rtK_i, rt_K, mfK_0, mfK_i, mf_K, mzK_i, mzK_0, mz_K, cpK_0, cpT_0, cp_K, tsK_0, tsK_i, ts_K, tsP_hit, tsP_next, tsP_low, tsP_nil, ini_0, ini_1, rdU_0, rdU_i, rdB_0, rdB_1, rdB_2, rdB_3, rdB_4, rdB_i, rdC_0, rdC_i, rnd_K, cmpI, addI, subI, mulI, i2lI, l2iI, minI, maxI, idI, up, ok_some, ok_ite, w32_id, ix_id, Int.toNat_add, Int.toNat_mul, ltI_t, ltI_f, leI_t, leI_f, eqI_t, eqI_f, u2_s, u2_v, u2_i, w3_m2, w3_m1, w3_0, w3_1, w3_2, w3_3, w3_4, w3_5, w3_6, w3_7, w3_8, w3_9, w3_10, w3_12, w3_20, w3_23, w3_24, w3_25, w3_32, w3_40, w3_50, w3_100, w3_120, w3_168, w3_200, w3_240, w3_255, w3_500, w3_592, w3_600, w3_900, w3_940, w3_999, w3_1000, w3_1009, w3_1184, w3_3333, w3_9999, if_true, if_false, reduceIte, true_and, and_true, false_and, and_false, true_or, or_true, false_or, or_false, not_true_eq_false, not_false_eq_true, decide_true, decide_false, decide_eq_true_eq, Bool.not_true, Bool.not_false, Bool.false_eq_true, Bool.not_eq_true', Bool.not_eq_eq_eq_not, decide_eq_false_iff_not, Int.not_lt, Int.not_le, Nat.not_le, Nat.not_lt, Nat.le_refl, Int.le_refl, Nat.lt_irrefl, Int.lt_irrefl, reduceCtorEq, Nat.reduceEqDiff, Nat.reduceAdd, Nat.reduceMul, Nat.reduceBEq, Int.reduceNeg, Int.reduceAdd, Int.toNat_natCast, Int.reduceToNat, ne_eq, Nat.zero_ne_one, true_or, Int.ofNat_lt, Int.ofNat_le, Int.natCast_add, Int.cast_ofNat_Int, Int.natCast_zero, p, e]
