/-! exchange -/
def swp (N : Nat → Int) (a b : Nat) : Nat → Int := fun i => if i = 162 + 3 * b then N (162 + 3 * a) else if i = 162 + 3 * a then N (162 + 3 * b) else N i
def xhs (N : Nat → Int) (a b : Nat) : Int := hsN (swp N a b) (floN (swp N a b)) (ppW (swp N a b) (wsN (swp N a b) (-1)))
def xbN (N : Nat → Int) (hm : Int) (a b : Nat) : Bool := decide (N (162 + 3 * a) ≠ N (162 + 3 * b)) && decide (xhs N a b < hm)
theorem swp_o {N : Nat → Int} {a b i : Nat} (h1 : i ≠ 162 + 3 * a) (h2 : i ≠ 162 + 3 * b) : swp N a b i = N i := by simp [swp, h1, h2]
theorem swp_b {N : Nat → Int} {a b : Nat} : swp N a b (162 + 3 * b) = N (162 + 3 * a) := by
  unfold swp
  rw [if_pos rfl]
theorem swp_a {N : Nat → Int} {a b : Nat} (h : a ≠ b) : swp N a b (162 + 3 * a) = N (162 + 3 * b) := by
  unfold swp
  rw [if_neg (by omega), if_pos rfl]
theorem swp_bl {N : Nat → Int} {a b : Nat} (hB : blN N) (ha : (a : Int) < N 160) (hb : (b : Int) < N 160) : blN (swp N a b) := by
  obtain ⟨h1, h2⟩ := hB
  have qa := h2 a ha
  have qb := h2 b hb
  unfold blN
  rw [swp_o (i := 160) (by omega) (by omega), swp_o (i := 2) (by omega) (by omega)]
  refine ⟨h1, fun k hk => ?_⟩
  have qk := h2 k hk
  rw [swp_o (i := 161 + 3 * k) (by omega) (by omega), swp_o (i := 163 + 3 * k) (by omega) (by omega)]
  by_cases e1 : k = b
  · subst e1
    rw [swp_b]; omega
  · by_cases e2 : k = a
    · subst e2
      rw [swp_a (by omega)]; omega
    · rw [swp_o (i := 162 + 3 * k) (by omega) (by omega)]; exact qk
theorem swp_ws {N : Nat → Int} {a b h : Nat} (ha : (h : Int) < N (161 + 3 * a)) (hb : (h : Int) < N (161 + 3 * b)) : wsN (swp N a b) (-1) h = wsN N (-1) h := by
  unfold wsN
  rw [swp_o (i := 160) (by omega) (by omega)]
  refine wkF_c _ (fun k hk => ?_)
  rw [swp_o (i := 161 + 3 * k) (by omega) (by omega), swp_o (i := 163 + 3 * k) (by omega) (by omega)]
  by_cases e1 : k = a
  · subst e1; right; omega
  · by_cases e2 : k = b
    · subst e2; right; omega
    · left
      rw [swp_o (i := 162 + 3 * k) (by omega) (by omega)]
      exact ⟨rfl, Iff.rfl⟩
theorem xhs_bd {N : Nat → Int} {a b : Nat} (hN : rvN N) : 0 ≤ xhs N a b ∧ xhs N a b ≤ 1008 := by
  have := hpN_bd (N := swp N a b) (fl := floN (swp N a b)) (PP := ppW (swp N a b) (wsN (swp N a b) (-1))) (n := 168) (rvN_lo hN (fun i hi => swp_o (by omega) (by omega)))
  rw [hp_hs] at this
  unfold xhs
  omega
def swX (s : Me) (a b : Nat) : Me := fun v i => if v = 1536 ∧ i = b then s 1536 a else if v = 1536 ∧ i = a then s 1536 b else s v i
def swM (s : Me) (a b : Nat) : Me := fun v i => if v = 128 ∧ i = 162 + 3 * b then s 128 (162 + 3 * a) else if v = 128 ∧ i = 162 + 3 * a then s 128 (162 + 3 * b) else s v i
theorem swapGuilds_eq {s : Me} {a b : Nat} (ha : a < 40) (hb : b < 40) : m_Order_swapGuilds [0, a, b] s = some (0, swX s a b) := by
  simp only [m_Order_swapGuilds, b_Order_swapGuilds]
  simp (disch := first | decide | omega) only [cE_K, vE_K, gE_K, o1K_0, o1K_i, o1_K, o2L_0, o2L_i, o2K_0, o2K_i, o2_K, thK_0, thK_i, th_K, dvL_0, dvL_i, dvK_0, dvK_i, dv_K, rmL_0, rmL_i, rmK_0, rmK_i, rm_K, dlL_0, dlL_i, dlK_0, dlK_i, dl_K, ldQ_0, ldQ_i, ldL_0, ldL_i, ldK_0, ldK_i, ld_K, kK_0, kK_i, k_K, aL_0, aL_i, aK_0, aK_i, aE_0, aE_1, clK_0, clK_i, cl_K, cBL_0, cBL_i, cBK_0, cBK_i, cB_K, zBK_0, zBK_i, zB_K, nBK_0, nBK_i, nB_K, andK_0, andK_i, and_K, orK_0, orK_i, or_K, tkK_0, tkK_i, tk_K, sk_K, stK_0, stK_i, st_K, exK_0, exK_i, ex_K, in_K, pfL_0, pfL_i, pfK_0, pfK_i, pf_K, pzL_0, pzL_i, pzK_0, pzK_i, pz_K, poL_0, poL_i, poK_0, poK_i, po_K, asQ_0, asQ_i, asM_0, asM_i, asL_0, asL_i, asK_0, asK_i, as_K, aoM_0, aoM_i, aoQ_0, aoQ_i, aoL_0, aoL_i, aoK_0, aoK_i, ao_K, sqK_0, sqK_1, sqK_2, sqK_3, sqK_4, sqK_i, sq_K, swK_0, swK_1, swK_2, swK_3, swK_4, swK_i, sw_K, ifK_0, ifK_i, if_K, br_K, ct_K, rv_K, thr_K, rtK_0, rtK_i, rt_K, mfK_0, mfK_i, mf_K, mzK_i, mzK_0, mz_K, cpK_0, cpT_0, cp_K, tsK_0, tsK_i, ts_K, tsP_hit, tsP_next, tsP_low, tsP_nil, ini_0, ini_1, rdU_0, rdU_i, rdB_0, rdB_1, rdB_2, rdB_3, rdB_4, rdB_i, rdC_0, rdC_i, rnd_K, cmpI, addI, subI, mulI, i2lI, l2iI, minI, maxI, idI, up, ok_some, ok_ite, w32_id, ix_id, Int.toNat_add, Int.toNat_mul, ltI_t, ltI_f, leI_t, leI_f, eqI_t, eqI_f, u2_s, u2_v, u2_i, w3_m2, w3_m1, w3_0, w3_1, w3_2, w3_3, w3_4, w3_5, w3_6, w3_7, w3_8, w3_9, w3_10, w3_12, w3_20, w3_23, w3_24, w3_25, w3_32, w3_40, w3_50, w3_100, w3_120, w3_168, w3_200, w3_240, w3_255, w3_500, w3_592, w3_600, w3_900, w3_940, w3_999, w3_1000, w3_1009, w3_1184, w3_3333, w3_9999, if_true, if_false, reduceIte, true_and, and_true, false_and, and_false, true_or, or_true, false_or, or_false, not_true_eq_false, not_false_eq_true, decide_true, decide_false, decide_eq_true_eq, Bool.not_true, Bool.not_false, Bool.false_eq_true, Bool.not_eq_true', Bool.not_eq_eq_eq_not, decide_eq_false_iff_not, Int.not_lt, Int.not_le, Nat.not_le, Nat.not_lt, Nat.le_refl, Int.le_refl, Nat.lt_irrefl, Int.lt_irrefl, reduceCtorEq, Nat.reduceEqDiff, Nat.reduceAdd, Nat.reduceMul, Nat.reduceBEq, Int.reduceNeg, Int.reduceAdd, Int.toNat_natCast, Int.reduceToNat, ne_eq, Nat.zero_ne_one, true_or, Int.ofNat_lt, Int.ofNat_le, Int.natCast_add, Int.cast_ofNat_Int, Int.natCast_zero]
  simp only [Option.some.injEq, Prod.mk.injEq, true_and]
  funext v i
  simp only [u2, swX]
theorem M_swap_eq {s : Me} {a b : Nat} (ha : a < 40) (hb : b < 40) : m_M_swap [0, a, b] s = some (0, swM s a b) := by
  have e1 : 161 + 3 * a + 1 = 162 + 3 * a := by omega
  have e2 : 161 + 3 * b + 1 = 162 + 3 * b := by omega
  simp only [m_M_swap, b_M_swap]
  simp (disch := first | decide | omega) only [cE_K, vE_K, gE_K, o1K_0, o1K_i, o1_K, o2L_0, o2L_i, o2K_0, o2K_i, o2_K, thK_0, thK_i, th_K, dvL_0, dvL_i, dvK_0, dvK_i, dv_K, rmL_0, rmL_i, rmK_0, rmK_i, rm_K, dlL_0, dlL_i, dlK_0, dlK_i, dl_K, ldQ_0, ldQ_i, ldL_0, ldL_i, ldK_0, ldK_i, ld_K, kK_0, kK_i, k_K, aL_0, aL_i, aK_0, aK_i, aE_0, aE_1, clK_0, clK_i, cl_K, cBL_0, cBL_i, cBK_0, cBK_i, cB_K, zBK_0, zBK_i, zB_K, nBK_0, nBK_i, nB_K, andK_0, andK_i, and_K, orK_0, orK_i, or_K, tkK_0, tkK_i, tk_K, sk_K, stK_0, stK_i, st_K, exK_0, exK_i, ex_K, in_K, pfL_0, pfL_i, pfK_0, pfK_i, pf_K, pzL_0, pzL_i, pzK_0, pzK_i, pz_K, poL_0, poL_i, poK_0, poK_i, po_K, asQ_0, asQ_i, asM_0, asM_i, asL_0, asL_i, asK_0, asK_i, as_K, aoM_0, aoM_i, aoQ_0, aoQ_i, aoL_0, aoL_i, aoK_0, aoK_i, ao_K, sqK_0, sqK_1, sqK_2, sqK_3, sqK_4, sqK_i, sq_K, swK_0, swK_1, swK_2, swK_3, swK_4, swK_i, sw_K, ifK_0, ifK_i, if_K, br_K, ct_K, rv_K, thr_K, rtK_0, rtK_i, rt_K, mfK_0, mfK_i, mf_K, mzK_i, mzK_0, mz_K, cpK_0, cpT_0, cp_K, tsK_0, tsK_i, ts_K, tsP_hit, tsP_next, tsP_low, tsP_nil, ini_0, ini_1, rdU_0, rdU_i, rdB_0, rdB_1, rdB_2, rdB_3, rdB_4, rdB_i, rdC_0, rdC_i, rnd_K, cmpI, addI, subI, mulI, i2lI, l2iI, minI, maxI, idI, up, ok_some, ok_ite, w32_id, ix_id, Int.toNat_add, Int.toNat_mul, ltI_t, ltI_f, leI_t, leI_f, eqI_t, eqI_f, u2_s, u2_v, u2_i, w3_m2, w3_m1, w3_0, w3_1, w3_2, w3_3, w3_4, w3_5, w3_6, w3_7, w3_8, w3_9, w3_10, w3_12, w3_20, w3_23, w3_24, w3_25, w3_32, w3_40, w3_50, w3_100, w3_120, w3_168, w3_200, w3_240, w3_255, w3_500, w3_592, w3_600, w3_900, w3_940, w3_999, w3_1000, w3_1009, w3_1184, w3_3333, w3_9999, if_true, if_false, reduceIte, true_and, and_true, false_and, and_false, true_or, or_true, false_or, or_false, not_true_eq_false, not_false_eq_true, decide_true, decide_false, decide_eq_true_eq, Bool.not_true, Bool.not_false, Bool.false_eq_true, Bool.not_eq_true', Bool.not_eq_eq_eq_not, decide_eq_false_iff_not, Int.not_lt, Int.not_le, Nat.not_le, Nat.not_lt, Nat.le_refl, Int.le_refl, Nat.lt_irrefl, Int.lt_irrefl, reduceCtorEq, Nat.reduceEqDiff, Nat.reduceAdd, Nat.reduceMul, Nat.reduceBEq, Int.reduceNeg, Int.reduceAdd, Int.toNat_natCast, Int.reduceToNat, ne_eq, Nat.zero_ne_one, true_or, Int.ofNat_lt, Int.ofNat_le, Int.natCast_add, Int.cast_ofNat_Int, Int.natCast_zero, e1, e2]
  simp only [Option.some.injEq, Prod.mk.injEq, true_and]
  funext v i
  simp only [u2, swM]
theorem swX_bd {s : Me} {N : Nat → Int} {a b : Nat} (hN : rvN N) (h : bdX s N) (ha : (a : Int) < N 160) (hb : (b : Int) < N 160) : bdX (swX s a b) (swp N a b) := by
  obtain ⟨u1, u2', u3, u4⟩ := h
  have c0 := hN.1.1
  have uf : ∀ v, v ≠ 1536 → swX s a b v = s v := fun v hv => by funext i; simp [swX, hv]
  refine ⟨fun r hr => ?_, fun q hq => ?_, ?_, fun j hj => ?_⟩
  · rw [swp_o (i := 0) (by omega) (by omega)] at hr
    rw [uf _ (by decide), swp_o (by omega) (by omega)]; exact u1 r hr
  · rw [uf _ (by decide), swp_o (by omega) (by omega)]; exact u2' q hq
  · rw [uf _ (by decide), swp_o (by omega) (by omega)]; exact u3
  · rw [swp_o (i := 160) (by omega) (by omega)] at hj
    obtain ⟨v1, v2, v3⟩ := u4 j hj
    rw [uf 1472 (by decide), uf 1600 (by decide), swp_o (i := 161 + 3 * j) (by omega) (by omega), swp_o (i := 163 + 3 * j) (by omega) (by omega)]
    refine ⟨v1, ?_, v3⟩
    by_cases e1 : j = b
    · subst e1
      rw [swp_b]; simp [swX]; exact (u4 a ha).2.1
    · by_cases e2 : j = a
      · subst e2
        rw [swp_a e1]; simp [swX, e1]; exact (u4 b hb).2.1
      · rw [swp_o (by omega) (by omega)]; simp [swX, e1, e2]; exact v2
theorem swX_sce {s : Me} {N NM : Nat → Int} {a b : Nat} (h : sce s N NM) (ha : (a : Int) < N 160) (hb : (b : Int) < N 160) : sce (swX s a b) (swp N a b) NM := by
  have h' := h
  obtain ⟨⟨n1, n2, n3⟩, ⟨s1, s2, s3, s4, s5, s6⟩, h3, h4⟩ := h'
  have uf : ∀ v, v ≠ 1536 → swX s a b v = s v := fun v hv => by funext i; simp [swX, hv]
  have b0 := n2.1
  have b1 := n3.1
  refine sce_upd h (fun i hi => swp_o (by omega) (by omega)) (fun v v1 v2 => uf v (by omega)) (swp_bl n2 ha hb) (swX_bd n1 s2 ha hb).2.2 ?_ ?_ ?_
  · unfold sgN
    rw [swp_o (i := 285) (by omega) (by omega), swp_o (i := 1) (by omega) (by omega)]
    exact ⟨n3.1, fun k hk => by rw [swp_o (by omega) (by omega), swp_o (by omega) (by omega), swp_o (by omega) (by omega)]; exact n3.2 k hk⟩
  · unfold siX
    rw [uf _ (by decide), uf _ (by decide), uf _ (by decide), uf _ (by decide), swp_o (i := 285) (by omega) (by omega)]
    exact ⟨s6.1, fun k hk => by rw [swp_o (by omega) (by omega), swp_o (by omega) (by omega), swp_o (by omega) (by omega)]; exact s6.2 k hk⟩
  · exact se0_same h4 (fun i hi => swp_o (by omega) (by omega)) (fun i hi => swp_o (by omega) (by omega)) (fun v v1 v2 => uf v (by omega))
/-- the first two to be exchanged; or none -/
def xfs (N : Nat → Int) (hm : Int) (K a b : Nat) : Prop := a < b ∧ b < K ∧ xbN N hm a b = true ∧ ∀ a' b', a' < b' → b' < K → (a' < a ∨ a' = a ∧ b' < b) → xbN N hm a' b' = false
def xno (N : Nat → Int) (hm : Int) (K : Nat) : Prop := ∀ a b, a < b → b < K → xbN N hm a b = false
theorem xfs_u {N : Nat → Int} {hm : Int} {K a b a' b' : Nat} (h : xfs N hm K a b) (h' : xfs N hm K a' b') : a = a' ∧ b = b' := by
  obtain ⟨h1, h2, h3, h4⟩ := h
  obtain ⟨k1, k2, k3, k4⟩ := h'
  have r1 : ¬ (a < a' ∨ a = a' ∧ b < b') := fun q => by rw [k4 a b h1 h2 q] at h3; cases h3
  have r2 : ¬ (a' < a ∨ a' = a ∧ b' < b) := fun q => by rw [h4 a' b' k1 k2 q] at k3; cases k3
  omega
