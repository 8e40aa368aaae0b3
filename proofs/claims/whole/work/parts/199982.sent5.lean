/-- behind a FAULT in a SENTENCE -/
def QS (s : Me) : Prop := Qt s ∧ ∃ S : Nat, S ≤ 40 ∧ s 4033 0 = S
def fS (s s' : Me) : Prop := ∀ v, ¬ (68 ≤ v ∧ v ≤ 75) → ¬ (4032 ≤ v ∧ v < 4416) → s' v = s v
def gS (m m' : Me) : Prop := ∀ v, ¬ (5 ≤ v ∧ v ≤ 13) → ¬ (50 ≤ v ∧ v ≤ 53) → v ≠ 1600 → m' v = m v
theorem fS_t {a b c : Me} (h : fS a b) (h' : fS b c) : fS a c := fun v h1 h2 => by rw [h' v h1 h2, h v h1 h2]
theorem gS_t {a b c : Me} (h : gS a b) (h' : gS b c) : gS a c := fun v h1 h2 h3 => by rw [h' v h1 h2 h3, h v h1 h2 h3]
theorem fS_x {a b : Me} (h : fr trX a b) : fS a b := fun v h1 _ => h v (by simp [trX]; omega)
theorem fS_tx {a b : Me} (h : fr txV a b) : fS a b := fun v h1 _ => h v (by simp [txV]; omega)
theorem gS_m {a b : Me} (h : fr trM a b) : gS a b := fun v h1 _ _ => h v (by simp [trM]; omega)
theorem gS_tm {a b : Me} (h : fr tmV a b) : gS a b := fun v h1 _ _ => h v (by simp [tmV]; omega)
theorem fS_ad {s : Me} {S : Nat} {k a b r n : Int} : fS s (adS s S k a b r n) := fun v _ h2 => adS_o (by omega)
theorem Qt_lo {s t : Me} (h : Qt s) (f : ∀ v, v < 2368 → t v = s v) : Qt t := by
  unfold Qt KB at *
  rw [f _ (by decide), f _ (by decide), f _ (by decide)]
  exact h
theorem addStep_q {s : Me} {k a b r n : Int} (h : QS s) : ∃ s', m_Sentence_addStep [0, k, a, b, r, n] s = some (0, s') ∧ QS s' ∧ fS s s' ∧ (∀ v, v < 2368 → s' v = s v) := by
  obtain ⟨q, S, hS, hs⟩ := h
  by_cases c : S < 40
  · refine ⟨adS s S k a b r n, addStep_ok hs c, ⟨Qt_lo q (fun v hv => adS_o (by omega)), S + 1, by omega, by rw [adS_s]; omega⟩, fS_ad, fun v hv => adS_o (by omega)⟩
  · exact ⟨s, addStep_f hs (by omega) (by omega), ⟨q, S, hS, hs⟩, fun _ _ _ => rfl, fun _ _ => rfl⟩
theorem FL_lo {s t m : Me} (h : FL s m) (f : ∀ v, v < 2368 → t v = s v) : FL t m := by
  unfold FL at *
  rw [f _ (by decide), f _ (by decide)]
  exact h
theorem TR_lo {s t m : Me} {y : Nat → Int} {L lim p : Nat} (h : TR s m y L lim p) (f : ∀ v, v < 2368 → t v = s v) : TR t m y L lim p := TR_fr h (fun v hv => f v (by omega)) (fun _ _ => rfl)
/-- the end of a comparison: a sign, a NUMBER, a step; against the reference's -/
theorem rdCmp {s m : Me} {y : Nat → Int} {L lim p S K : Nat} {k a b w x : Int} (h : TR s m y L lim p) (hS : s 4033 0 = S) (S40 : S < 40) (hK : m 50 0 = K) (K60 : K < 60) :
    ∃ s', m_SentenceText_readComparison [0, 0, k, a, b] s = some (0, s') ∧ fS s s' ∧ ((∃ (r n : Int) (s1 m1 : Me) (p' : Nat), sgn3 r ∧ 0 ≤ n ∧ n ≤ 9999 ∧ s' = adS s1 S k a b r n ∧ fr trX s s1 ∧ fr trM m m1 ∧ TR s1 m1 y L lim p' ∧ p < p' ∧ m 9 0 = r ∧ m1 13 0 = n ∧ (∃ m0 c0 c1 c2, m_M_isSign [0, 60] m = some (z1 c0, m) ∧ m_M_isSign [0, 61] m = some (z1 c1, m) ∧ m_M_isSign [0, 62] m = some (z1 c2, m) ∧ (c0 || c1 || c2) = true ∧ m_M_go [0] m = some (0, m0) ∧ m_M_readNumber [0, 0, 9999] m0 = some (1, m1))) ∨ (QS s' ∧ ((m_M_isSign [0, 60] m = some (0, m) ∧ m_M_isSign [0, 61] m = some (0, m) ∧ m_M_isSign [0, 62] m = some (0, m) ∧ m_M_bad [0, 1] m = some (0, rfM m p 1) ∧ FL s' (rfM m p 1)) ∨ (∃ m0 m1 c0 c1 c2, m_M_isSign [0, 60] m = some (z1 c0, m) ∧ m_M_isSign [0, 61] m = some (z1 c1, m) ∧ m_M_isSign [0, 62] m = some (z1 c2, m) ∧ (c0 || c1 || c2) = true ∧ m_M_go [0] m = some (0, m0) ∧ m_M_readNumber [0, 0, 9999] m0 = some (0, m1) ∧ fr trM m m1 ∧ FL s' m1)))) := by
  obtain ⟨kb1, kb2, kb3, kb4, kb5⟩ := TK_b h.2
  rcases cmp2 h with ⟨a1, a2, a3, a4⟩ | ⟨r, s1, m1, p1, c0, c1, c2, r3, b1, b2, b3, b4, b5, b6, b7, b8, b9, b10, b11⟩
  · have fl : FL (rfX s p 1) (rfM m p 1) := FL_rf ⟨by omega, by omega⟩ (TR_p h)
    have q : QS (rfX s p 1) := ⟨Qt_FL fl (KB_rf (TR_KB h)), S, by omega, by rw [rfX_o (by decide) (by decide)]; exact hS⟩
    obtain ⟨s', e1, e2, e3, e4⟩ := addStep_q (k := k) (a := a) (b := b) (r := 0) (n := 0) q
    refine ⟨s', ?_, fS_t (fS_x rx_fr) e3, Or.inr ⟨e2, Or.inl ⟨a2, a3, a4, bad_eq (k := 1) h.2.2.1 kb2 (fun q => rfl), FL_lo fl e4⟩⟩⟩
    simp only [m_SentenceText_readComparison, b_SentenceText_readComparison]
    simp (disch := first | decide | omega) only [cE_K, vE_K, gE_K, o1K_0, o1K_i, o1_K, o2L_0, o2L_i, o2K_0, o2K_i, o2_K, thK_0, thK_i, th_K, dvL_0, dvL_i, dvK_0, dvK_i, dv_K, rmL_0, rmL_i, rmK_0, rmK_i, rm_K, dlL_0, dlL_i, dlK_0, dlK_i, dl_K, ldQ_0, ldQ_i, ldL_0, ldL_i, ldK_0, ldK_i, ld_K, kK_0, kK_i, k_K, aL_0, aL_i, aK_0, aK_i, aE_0, aE_1, clK_0, clK_i, cl_K, cBL_0, cBL_i, cBK_0, cBK_i, cB_K, zBK_0, zBK_i, zB_K, nBK_0, nBK_i, nB_K, andK_0, andK_i, and_K, orK_0, orK_i, or_K, tkK_0, tkK_i, tk_K, sk_K, stK_0, stK_i, st_K, exK_0, exK_i, ex_K, in_K, pfL_0, pfL_i, pfK_0, pfK_i, pf_K, pzL_0, pzL_i, pzK_0, pzK_i, pz_K, poL_0, poL_i, poK_0, poK_i, po_K, asQ_0, asQ_i, asM_0, asM_i, asL_0, asL_i, asK_0, asK_i, as_K, aoM_0, aoM_i, aoQ_0, aoQ_i, aoL_0, aoL_i, aoK_0, aoK_i, ao_K, sqK_0, sqK_1, sqK_2, sqK_3, sqK_4, sqK_i, sq_K, swK_0, swK_1, swK_2, swK_3, swK_4, swK_i, sw_K, ifK_0, ifK_i, if_K, br_K, ct_K, rv_K, thr_K, rtK_0, rtK_i, rt_K, mfK_0, mfK_i, mf_K, mzK_i, mzK_0, mz_K, cpK_0, cpT_0, cp_K, tsK_0, tsK_i, ts_K, tsP_hit, tsP_next, tsP_low, tsP_nil, ini_0, ini_1, rdU_0, rdU_i, rdB_0, rdB_1, rdB_2, rdB_3, rdB_4, rdB_i, rdC_0, rdC_i, rnd_K, cmpI, addI, subI, mulI, i2lI, l2iI, minI, maxI, idI, up, ok_some, ok_ite, w32_id, ix_id, Int.toNat_add, Int.toNat_mul, ltI_t, ltI_f, leI_t, leI_f, eqI_t, eqI_f, u2_s, u2_v, u2_i, w3_m2, w3_m1, w3_0, w3_1, w3_2, w3_3, w3_4, w3_5, w3_6, w3_7, w3_8, w3_9, w3_10, w3_12, w3_20, w3_23, w3_24, w3_25, w3_32, w3_40, w3_50, w3_100, w3_120, w3_168, w3_200, w3_240, w3_255, w3_500, w3_592, w3_600, w3_900, w3_940, w3_999, w3_1000, w3_1009, w3_1184, w3_3333, w3_9999, if_true, if_false, reduceIte, true_and, and_true, false_and, and_false, true_or, or_true, false_or, or_false, not_true_eq_false, not_false_eq_true, decide_true, decide_false, decide_eq_true_eq, Bool.not_true, Bool.not_false, Bool.false_eq_true, Bool.not_eq_true', Bool.not_eq_eq_eq_not, decide_eq_false_iff_not, Int.not_lt, Int.not_le, Nat.not_le, Nat.not_lt, Nat.le_refl, Int.le_refl, Nat.lt_irrefl, Int.lt_irrefl, reduceCtorEq, Nat.reduceEqDiff, Nat.reduceAdd, Nat.reduceMul, Nat.reduceBEq, Int.reduceNeg, Int.reduceAdd, Int.toNat_natCast, Int.reduceToNat, ne_eq, Nat.zero_ne_one, true_or, Int.ofNat_lt, Int.ofNat_le, Int.natCast_add, Int.cast_ofNat_Int, Int.natCast_zero, a1, num_q q.1, e1]
  · obtain ⟨n, s2, m2, d1, d2, d3, d4⟩ := num_ok (a := 0) (b := 9999) b8 (by omega) (by omega)
    have fr2 : fr trX s s2 := fr_trans (fr_sub b10 (by decide)) d2
    have gm2 : fr trM m m2 := fr_trans (fr_sub b11 (by decide)) d3
    have st2 : s2 4033 0 = S := by rw [fr2 _ (by decide)]; exact hS
    have ad := addStep_ok (k := k) (a := a) (b := b) (r := r) (n := n) st2 S40
    have r4 : 60 ≤ r ∧ r ≤ 62 := by rcases r3 with q | q | q <;> omega
    refine ⟨adS s2 S k a b r n, ?_, fS_t (fS_x fr2) fS_ad, ?_⟩
    · simp only [m_SentenceText_readComparison, b_SentenceText_readComparison]
      clear d4
      simp (disch := first | decide | omega) only [cE_K, vE_K, gE_K, o1K_0, o1K_i, o1_K, o2L_0, o2L_i, o2K_0, o2K_i, o2_K, thK_0, thK_i, th_K, dvL_0, dvL_i, dvK_0, dvK_i, dv_K, rmL_0, rmL_i, rmK_0, rmK_i, rm_K, dlL_0, dlL_i, dlK_0, dlK_i, dl_K, ldQ_0, ldQ_i, ldL_0, ldL_i, ldK_0, ldK_i, ld_K, kK_0, kK_i, k_K, aL_0, aL_i, aK_0, aK_i, aE_0, aE_1, clK_0, clK_i, cl_K, cBL_0, cBL_i, cBK_0, cBK_i, cB_K, zBK_0, zBK_i, zB_K, nBK_0, nBK_i, nB_K, andK_0, andK_i, and_K, orK_0, orK_i, or_K, tkK_0, tkK_i, tk_K, sk_K, stK_0, stK_i, st_K, exK_0, exK_i, ex_K, in_K, pfL_0, pfL_i, pfK_0, pfK_i, pf_K, pzL_0, pzL_i, pzK_0, pzK_i, pz_K, poL_0, poL_i, poK_0, poK_i, po_K, asQ_0, asQ_i, asM_0, asM_i, asL_0, asL_i, asK_0, asK_i, as_K, aoM_0, aoM_i, aoQ_0, aoQ_i, aoL_0, aoL_i, aoK_0, aoK_i, ao_K, sqK_0, sqK_1, sqK_2, sqK_3, sqK_4, sqK_i, sq_K, swK_0, swK_1, swK_2, swK_3, swK_4, swK_i, sw_K, ifK_0, ifK_i, if_K, br_K, ct_K, rv_K, thr_K, rtK_0, rtK_i, rt_K, mfK_0, mfK_i, mf_K, mzK_i, mzK_0, mz_K, cpK_0, cpT_0, cp_K, tsK_0, tsK_i, ts_K, tsP_hit, tsP_next, tsP_low, tsP_nil, ini_0, ini_1, rdU_0, rdU_i, rdB_0, rdB_1, rdB_2, rdB_3, rdB_4, rdB_i, rdC_0, rdC_i, rnd_K, cmpI, addI, subI, mulI, i2lI, l2iI, minI, maxI, idI, up, ok_some, ok_ite, w32_id, ix_id, Int.toNat_add, Int.toNat_mul, ltI_t, ltI_f, leI_t, leI_f, eqI_t, eqI_f, u2_s, u2_v, u2_i, w3_m2, w3_m1, w3_0, w3_1, w3_2, w3_3, w3_4, w3_5, w3_6, w3_7, w3_8, w3_9, w3_10, w3_12, w3_20, w3_23, w3_24, w3_25, w3_32, w3_40, w3_50, w3_100, w3_120, w3_168, w3_200, w3_240, w3_255, w3_500, w3_592, w3_600, w3_900, w3_940, w3_999, w3_1000, w3_1009, w3_1184, w3_3333, w3_9999, if_true, if_false, reduceIte, true_and, and_true, false_and, and_false, true_or, or_true, false_or, or_false, not_true_eq_false, not_false_eq_true, decide_true, decide_false, decide_eq_true_eq, Bool.not_true, Bool.not_false, Bool.false_eq_true, Bool.not_eq_true', Bool.not_eq_eq_eq_not, decide_eq_false_iff_not, Int.not_lt, Int.not_le, Nat.not_le, Nat.not_lt, Nat.le_refl, Int.le_refl, Nat.lt_irrefl, Int.lt_irrefl, reduceCtorEq, Nat.reduceEqDiff, Nat.reduceAdd, Nat.reduceMul, Nat.reduceBEq, Int.reduceNeg, Int.reduceAdd, Int.toNat_natCast, Int.reduceToNat, ne_eq, Nat.zero_ne_one, true_or, Int.ofNat_lt, Int.ofNat_le, Int.natCast_add, Int.cast_ofNat_Int, Int.natCast_zero, b1, d1, ad]
    · rcases d4 with ⟨p2, e1, e2, e3, e4, e5, e6, e7, e8, e9⟩ | ⟨e1, e2, e3, ek, e4⟩
      · exact Or.inl ⟨r, n, s2, m2, p2, r3, e4, e5, rfl, fr2, gm2, e8, by omega, b2, e6, m1, c0, c1, c2, b3, b4, b5, b6, b7, e1⟩
      · have q : Qt s2 := Qt_FL e3 (by rw [e4]; exact KB_rf (TR_KB b8))
        exact Or.inr ⟨⟨Qt_lo q (fun v hv => adS_o (by omega)), S + 1, by omega, by rw [adS_s]; omega⟩, Or.inr ⟨m1, m2, c0, c1, c2, b3, b4, b5, b6, b7, e1, gm2, FL_lo e3 (fun v hv => adS_o (by omega))⟩⟩
