theorem resetWork_ok {σ : Me} {g A H : Nat} (hg : g < 32) (hA : A < 168) (hH : A + H ≤ 168) : m_Week_resetWork [0, 0, g, A, H] σ = some (0, fun v i => if v = 8832 ∧ A ≤ i ∧ i < A + H then iorI (andI (σ 8832 i) (xorI (shlI 1 g) (-1))) (andI (σ 9344 i) (shlI 1 g)) else σ v i) := by
  apply ok_eq
  generalize hQ : (fun v i => if v = 8832 ∧ A ≤ i ∧ i < A + H then iorI (andI (σ 8832 i) (xorI (shlI 1 g) (-1))) (andI (σ 9344 i) (shlI 1 g)) else σ v i) = Q
  simp only [m_Week_resetWork, b_Week_resetWork, cE_K, vE_K, gE_K, o1K_0, o1K_i, o1_K, o2L_0, o2L_i, o2K_0, o2K_i, o2_K, thK_0, thK_i, th_K, dvL_0, dvL_i, dvK_0, dvK_i, dv_K, rmL_0, rmL_i, rmK_0, rmK_i, rm_K, dlL_0, dlL_i, dlK_0, dlK_i, dl_K, ldQ_0, ldQ_i, ldL_0, ldL_i, ldK_0, ldK_i, ld_K, kK_0, kK_i, k_K, aL_0, aL_i, aK_0, aK_i, aE_0, aE_1, clK_0, clK_i, cl_K, cBL_0, cBL_i, cBK_0, cBK_i, cB_K, zBK_0, zBK_i, zB_K, nBK_0, nBK_i, nB_K, andK_0, andK_i, and_K, orK_0, orK_i, or_K, tkK_0, tkK_i, tk_K, sk_K, stK_0, stK_i, st_K, exK_0, exK_i, ex_K, in_K, pfL_0, pfL_i, pfK_0, pfK_i, pf_K, pzL_0, pzL_i, pzK_0, pzK_i, pz_K, poL_0, poL_i, poK_0, poK_i, po_K, asQ_0, asQ_i, asM_0, asM_i, asL_0, asL_i, asK_0, asK_i, as_K, aoM_0, aoM_i, aoQ_0, aoQ_i, aoL_0, aoL_i, aoK_0, aoK_i, ao_K, sqK_0, sqK_1, sqK_2, sqK_3, sqK_4, sqK_i, sq_K, swK_0, swK_1, swK_2, swK_3, swK_4, swK_i, sw_K, ifK_0, ifK_i, if_K, br_K, ct_K, rv_K, thr_K, rtK_0, rtK_i, rt_K, mfK_0, mfK_i, mf_K, mzK_i, mzK_0, mz_K, cpK_0, cpT_0, cp_K, tsK_0, tsK_i, ts_K, tsP_hit, tsP_next, tsP_low, tsP_nil, ini_0, ini_1, rdU_0, rdU_i, rdB_0, rdB_1, rdB_2, rdB_3, rdB_4, rdB_i, rdC_0, rdC_i, rnd_K, cmpI, addI, subI, mulI, i2lI, l2iI, minI, maxI, idI, up, ok_some, ok_ite, if_true, if_false, reduceIte, true_and, and_true, false_and, and_false, true_or, or_true, false_or, or_false, not_true_eq_false, not_false_eq_true, decide_true, decide_false, decide_eq_true_eq, Bool.not_true, Bool.not_false, Bool.false_eq_true, Bool.not_eq_true', Bool.not_eq_eq_eq_not, decide_eq_false_iff_not, Int.not_lt, Int.not_le, Nat.not_le, Nat.not_lt, Nat.le_refl, Int.le_refl, Nat.lt_irrefl, Int.lt_irrefl, reduceCtorEq, Nat.reduceEqDiff, Nat.reduceAdd, Nat.reduceMul, Nat.reduceBEq, Int.reduceNeg, Int.reduceAdd, Int.toNat_natCast, Int.reduceToNat, ne_eq, Nat.zero_ne_one, true_or, Int.ofNat_lt, Int.ofNat_le, Int.natCast_add, Int.cast_ofNat_Int, Int.natCast_zero]
  obtain ⟨I, hI⟩ : ∃ I : Nat → Lo → Me → Prop, ∀ n ρ s, I n ρ s ↔ (ρ 2 = g ∧ ρ 3 = A ∧ ρ 4 = H ∧ ρ 5 = A + n ∧ s = fun v i => if v = 8832 ∧ A ≤ i ∧ i < A + n then iorI (andI (σ 8832 i) (xorI (shlI 1 g) (-1))) (andI (σ 9344 i) (shlI 1 g)) else σ v i) := ⟨fun n ρ s => ρ 2 = g ∧ ρ 3 = A ∧ ρ 4 = H ∧ ρ 5 = A + n ∧ s = fun v i => if v = 8832 ∧ A ≤ i ∧ i < A + n then iorI (andI (σ 8832 i) (xorI (shlI 1 g) (-1))) (andI (σ 9344 i) (shlI 1 g)) else σ v i, fun _ _ _ => Iff.rfl⟩
  refine ok_mfK (ok_sqK (wh_gen I H (by omega) ((hI _ _ _).mpr ⟨by simp [up], by simp [up], by simp [up], by simp (disch := omega) [up, w32_id, w3_0]; omega, by funext v i; simp; omega⟩) ?_))
  intro n ρ s hn hIn
  obtain ⟨g1, g2, g3, g4, hs⟩ := (hI _ _ _).mp hIn
  rcases Nat.lt_or_eq_of_le hn with hn | rfl
  · have h1 : s 8832 (A + n) = σ 8832 (A + n) := by rw [hs]; simp
    have h2 : s 9344 (A + n) = σ 9344 (A + n) := by rw [hs]; simp
    simp (disch := first | decide | omega) only [cE_K, vE_K, gE_K, o1K_0, o1K_i, o1_K, o2L_0, o2L_i, o2K_0, o2K_i, o2_K, thK_0, thK_i, th_K, dvL_0, dvL_i, dvK_0, dvK_i, dv_K, rmL_0, rmL_i, rmK_0, rmK_i, rm_K, dlL_0, dlL_i, dlK_0, dlK_i, dl_K, ldQ_0, ldQ_i, ldL_0, ldL_i, ldK_0, ldK_i, ld_K, kK_0, kK_i, k_K, aL_0, aL_i, aK_0, aK_i, aE_0, aE_1, clK_0, clK_i, cl_K, cBL_0, cBL_i, cBK_0, cBK_i, cB_K, zBK_0, zBK_i, zB_K, nBK_0, nBK_i, nB_K, andK_0, andK_i, and_K, orK_0, orK_i, or_K, tkK_0, tkK_i, tk_K, sk_K, stK_0, stK_i, st_K, exK_0, exK_i, ex_K, in_K, pfL_0, pfL_i, pfK_0, pfK_i, pf_K, pzL_0, pzL_i, pzK_0, pzK_i, pz_K, poL_0, poL_i, poK_0, poK_i, po_K, asQ_0, asQ_i, asM_0, asM_i, asL_0, asL_i, asK_0, asK_i, as_K, aoM_0, aoM_i, aoQ_0, aoQ_i, aoL_0, aoL_i, aoK_0, aoK_i, ao_K, sqK_0, sqK_1, sqK_2, sqK_3, sqK_4, sqK_i, sq_K, swK_0, swK_1, swK_2, swK_3, swK_4, swK_i, sw_K, ifK_0, ifK_i, if_K, br_K, ct_K, rv_K, thr_K, rtK_0, rtK_i, rt_K, mfK_0, mfK_i, mf_K, mzK_i, mzK_0, mz_K, cpK_0, cpT_0, cp_K, tsK_0, tsK_i, ts_K, tsP_hit, tsP_next, tsP_low, tsP_nil, ini_0, ini_1, rdU_0, rdU_i, rdB_0, rdB_1, rdB_2, rdB_3, rdB_4, rdB_i, rdC_0, rdC_i, rnd_K, cmpI, addI, subI, mulI, i2lI, l2iI, minI, maxI, idI, up, ok_some, ok_ite, w32_id, ix_id, Int.toNat_add, Int.toNat_mul, ltI_t, ltI_f, leI_t, leI_f, eqI_t, eqI_f, u2_s, u2_v, u2_i, w3_m2, w3_m1, w3_0, w3_1, w3_2, w3_3, w3_4, w3_5, w3_6, w3_7, w3_8, w3_9, w3_10, w3_12, w3_20, w3_23, w3_24, w3_25, w3_32, w3_40, w3_50, w3_100, w3_120, w3_168, w3_200, w3_240, w3_255, w3_500, w3_592, w3_600, w3_900, w3_940, w3_999, w3_1000, w3_1009, w3_1184, w3_3333, w3_9999, if_true, if_false, reduceIte, true_and, and_true, false_and, and_false, true_or, or_true, false_or, or_false, not_true_eq_false, not_false_eq_true, decide_true, decide_false, decide_eq_true_eq, Bool.not_true, Bool.not_false, Bool.false_eq_true, Bool.not_eq_true', Bool.not_eq_eq_eq_not, decide_eq_false_iff_not, Int.not_lt, Int.not_le, Nat.not_le, Nat.not_lt, Nat.le_refl, Int.le_refl, Nat.lt_irrefl, Int.lt_irrefl, reduceCtorEq, Nat.reduceEqDiff, Nat.reduceAdd, Nat.reduceMul, Nat.reduceBEq, Int.reduceNeg, Int.reduceAdd, Int.toNat_natCast, Int.reduceToNat, ne_eq, Nat.zero_ne_one, true_or, Int.ofNat_lt, Int.ofNat_le, Int.natCast_add, Int.cast_ofNat_Int, Int.natCast_zero, g1, g2, g3, g4, h1, h2]
    refine ⟨hn, (hI _ _ _).mpr ⟨by simp [up, g1], by simp [up, g2], by simp [up, g3], by simp [up]; omega, ?_⟩⟩
    rw [hs]
    funext v i
    simp only [u2]
    clear hI hQ hIn hs h1 h2
    grind
  · simp (disch := first | decide | omega) only [cE_K, vE_K, gE_K, o1K_0, o1K_i, o1_K, o2L_0, o2L_i, o2K_0, o2K_i, o2_K, thK_0, thK_i, th_K, dvL_0, dvL_i, dvK_0, dvK_i, dv_K, rmL_0, rmL_i, rmK_0, rmK_i, rm_K, dlL_0, dlL_i, dlK_0, dlK_i, dl_K, ldQ_0, ldQ_i, ldL_0, ldL_i, ldK_0, ldK_i, ld_K, kK_0, kK_i, k_K, aL_0, aL_i, aK_0, aK_i, aE_0, aE_1, clK_0, clK_i, cl_K, cBL_0, cBL_i, cBK_0, cBK_i, cB_K, zBK_0, zBK_i, zB_K, nBK_0, nBK_i, nB_K, andK_0, andK_i, and_K, orK_0, orK_i, or_K, tkK_0, tkK_i, tk_K, sk_K, stK_0, stK_i, st_K, exK_0, exK_i, ex_K, in_K, pfL_0, pfL_i, pfK_0, pfK_i, pf_K, pzL_0, pzL_i, pzK_0, pzK_i, pz_K, poL_0, poL_i, poK_0, poK_i, po_K, asQ_0, asQ_i, asM_0, asM_i, asL_0, asL_i, asK_0, asK_i, as_K, aoM_0, aoM_i, aoQ_0, aoQ_i, aoL_0, aoL_i, aoK_0, aoK_i, ao_K, sqK_0, sqK_1, sqK_2, sqK_3, sqK_4, sqK_i, sq_K, swK_0, swK_1, swK_2, swK_3, swK_4, swK_i, sw_K, ifK_0, ifK_i, if_K, br_K, ct_K, rv_K, thr_K, rtK_0, rtK_i, rt_K, mfK_0, mfK_i, mf_K, mzK_i, mzK_0, mz_K, cpK_0, cpT_0, cp_K, tsK_0, tsK_i, ts_K, tsP_hit, tsP_next, tsP_low, tsP_nil, ini_0, ini_1, rdU_0, rdU_i, rdB_0, rdB_1, rdB_2, rdB_3, rdB_4, rdB_i, rdC_0, rdC_i, rnd_K, cmpI, addI, subI, mulI, i2lI, l2iI, minI, maxI, idI, up, ok_some, ok_ite, w32_id, ix_id, Int.toNat_add, Int.toNat_mul, ltI_t, ltI_f, leI_t, leI_f, eqI_t, eqI_f, u2_s, u2_v, u2_i, w3_m2, w3_m1, w3_0, w3_1, w3_2, w3_3, w3_4, w3_5, w3_6, w3_7, w3_8, w3_9, w3_10, w3_12, w3_20, w3_23, w3_24, w3_25, w3_32, w3_40, w3_50, w3_100, w3_120, w3_168, w3_200, w3_240, w3_255, w3_500, w3_592, w3_600, w3_900, w3_940, w3_999, w3_1000, w3_1009, w3_1184, w3_3333, w3_9999, if_true, if_false, reduceIte, true_and, and_true, false_and, and_false, true_or, or_true, false_or, or_false, not_true_eq_false, not_false_eq_true, decide_true, decide_false, decide_eq_true_eq, Bool.not_true, Bool.not_false, Bool.false_eq_true, Bool.not_eq_true', Bool.not_eq_eq_eq_not, decide_eq_false_iff_not, Int.not_lt, Int.not_le, Nat.not_le, Nat.not_lt, Nat.le_refl, Int.le_refl, Nat.lt_irrefl, Int.lt_irrefl, reduceCtorEq, Nat.reduceEqDiff, Nat.reduceAdd, Nat.reduceMul, Nat.reduceBEq, Int.reduceNeg, Int.reduceAdd, Int.toNat_natCast, Int.reduceToNat, ne_eq, Nat.zero_ne_one, true_or, Int.ofNat_lt, Int.ofNat_le, Int.natCast_add, Int.cast_ofNat_Int, Int.natCast_zero, g2, g3, g4]
    rw [hs]
    exact congrArg _ hQ
/-- NIGHT's works, by bits -/
def nwI (N : Nat → Int) (g st h q : Nat) : Int := if st ≤ q ∧ q < st + h then iorI (wsN N (-1) q) (shlI 1 g) else wsN N (-1) q
theorem nwI_bt {N : Nat → Int} {g st h q k : Nat} (hg : g < 32) (hk : k < 32) : bt (nwI N g st h q) k = (bt (wsN N (-1) q) k || (decide (k = g) && decide (st ≤ q) && decide (q < st + h))) := by
  unfold nwI
  by_cases c : st ≤ q ∧ q < st + h
  · rw [if_pos c, bt_or hk, bt_shl1 hg hk]
    simp [c.1, c.2]
  · rw [if_neg c]
    have : (decide (k = g) && decide (st ≤ q) && decide (q < st + h)) = false := by
      by_cases c1 : st ≤ q
      · have c2 : ¬ q < st + h := fun z => c ⟨c1, z⟩
        simp [c2]
      · simp [c1]
    rw [this, Bool.or_false]
/-- the Week between two tries: VOLS, flows, works as told (by bits) -/
def tnX (s : Me) (N : Nat → Int) : Prop := rdX s N ∧ (∀ r : Nat, (r : Int) < N 0 → s 8704 r = N (10 + 2 * r)) ∧ (∀ d, d < 7 → s 8768 d = N (110 + d)) ∧ ∀ q, q < 168 → ∀ k : Nat, k < 32 → bt (s 8832 q) k = bt (wsN N (-1) q) k
def most (st : Nat) : Nat := if 162 ≤ st then 168 - st else 6
set_option maxHeartbeats 4000000 in
theorem tryNights_ok {s0 : Me} {N : Nat → Int} {S g st fa : Nat} {nB : Nat → Nat → Nat → Bool} (hN : rvN N) (hT : tnX s0 N) (hP : psX s0 N 168) (hS : sgX s0 N S) (hg : (g : Int) < N 2) (hst : st < 168) (hfa : fa < 100000)
    (hbef : ∀ k, k < S → N (286 + 3 * k) < st → fit N (wkP N (floN N) (ppW N (wsN N (-1)))) k) (hnB : ∀ h, nB g st h = true ↔ ∀ k, k < S → fit N (wkP N (floN N) (ppW N (nwI N g st h))) k) :
    ∃ s1, m_D_tryNights [0, g, st, fa] s0 = some (sm (fun h => z1 (nB g st (h + 1))) (most st), s1) ∧ fr (9728 :: weV) s0 s1 ∧ tnX s1 N ∧ (fa ≠ 0 ∨ sm (fun h => z1 (nB g st (h + 1))) (most st) = 0 → s1 9728 = s0 9728) ∧ (fa = 0 → 0 < sm (fun h => z1 (nB g st (h + 1))) (most st) → ∃ h, h < most st ∧ nB g st (h + 1) = true ∧ s1 9728 0 = g ∧ s1 9728 1 = st ∧ s1 9728 2 = ((h + 1 : Nat) : Int)) := by
  have c0 := hN.1
  obtain ⟨MO, hMO⟩ : ∃ MO : Nat, MO = most st := ⟨_, rfl⟩
  rw [← hMO]
  have mo1 : MO ≤ 6 ∧ st + MO ≤ 168 ∧ minI 6 (168 - (st : Int)) = MO := by
    rw [hMO]
    unfold most minI
    rw [w32_id (by omega) (by omega), w32_id (by omega) (by omega)]
    split <;> split <;> omega
  clear hMO
  obtain ⟨mo1, mo2, mo3⟩ := mo1
  obtain ⟨ct, hct⟩ : ∃ ct : Nat → Int, ct 0 = 0 ∧ (∀ n, ct (n + 1) = ct n + z1 (nB g st (n + 1))) ∧ ∀ n, ct n = sm (fun h => z1 (nB g st (h + 1))) n := ⟨sm (fun h => z1 (nB g st (h + 1))), rfl, fun _ => rfl, fun _ => rfl⟩
  rw [← hct.2.2]
  have ctb : ∀ n, 0 ≤ ct n ∧ ct n ≤ n := fun n => by
    rw [hct.2.2]
    have := sm_bd (f := fun h => z1 (nB g st (h + 1))) (n := n) (a := 1) (fun i _ => z1_bd _)
    omega
  -- one length of work
  have step : ∀ (s : Me) (h : Nat), h < MO → fr (9728 :: weV) s0 s → (∀ r : Nat, (r : Int) < N 0 → s 8704 r = N (10 + 2 * r)) → (∀ d, d < 7 → s 8768 d = N (110 + d)) → (∀ q, q < 168 → ∀ k : Nat, k < 32 → bt (s 8832 q) k = bt (nwI N g st h q) k) →
      ∃ s1 s2, m_Week_setWork [0, g, st, ((h + 1 : Nat) : Int)] s = some (0, s1) ∧ m_Week_agreesFrom [0, 0, 0, st, 0] s1 = some (z1 (nB g st (h + 1)), s2) ∧ fr weV s s2 ∧ (∀ q, q < 168 → ∀ k : Nat, k < 32 → bt (s2 8832 q) k = bt (nwI N g st (h + 1) q) k) ∧ s2 8704 = s 8704 ∧ s2 8768 = s 8768 := by
    intro s h hh hfr hv hf hw
    have e1 := setWork_ok (σ := s) (g := g) (A := st) (H := h + 1) (by omega) (by omega) (by omega)
    generalize hs1 : (fun v i => if v = 8832 ∧ st ≤ i ∧ i < st + (h + 1) ∧ i < 168 then iorI (s 8832 i) (shlI 1 g) else s v i) = s1 at e1
    have f1 : ∀ v, v ≠ 8832 → s1 v = s v := fun v hv => by rw [← hs1]; funext i; simp [hv]
    have w1 : ∀ q, q < 168 → ∀ k : Nat, k < 32 → bt (s1 8832 q) k = bt (nwI N g st (h + 1) q) k := fun q hq k hk => by
      rw [← hs1, nwI_bt (by omega) hk]
      simp only [true_and]
      by_cases c : st ≤ q ∧ q < st + (h + 1)
      · rw [if_pos ⟨c.1, c.2, hq⟩, bt_or hk, bt_shl1 (by omega) hk, hw q hq k hk, nwI_bt (by omega) hk]
        simp only [c.1, c.2, decide_true, Bool.and_true]
        cases bt (wsN N (-1) q) k <;> cases decide (k = g) <;> simp
      · rw [if_neg (fun z => c ⟨z.1, z.2.1⟩), hw q hq k hk, nwI_bt (by omega) hk]
        have a1 : (decide (k = g) && decide (st ≤ q) && decide (q < st + (h + 1))) = false := by
          by_cases c1 : st ≤ q
          · have c2 : ¬ q < st + (h + 1) := fun z => c ⟨c1, z⟩
            simp [c2]
          · simp [c1]
        have a2 : (decide (k = g) && decide (st ≤ q) && decide (q < st + h)) = false := by
          by_cases c1 : st ≤ q
          · have c2 : ¬ q < st + h := fun z => c ⟨c1, by omega⟩
            simp [c2]
          · simp [c1]
        rw [a1, a2]
    have E : enX s1 N (floN N) (ppW N (nwI N g st (h + 1))) st := by
      refine ⟨rdX_lo hT.1 (fun v hv => by rw [f1 v (by omega), hfr v (by simp [weV]; omega)]), by rw [f1 _ (by decide)]; exact hv, by rw [f1 _ (by decide)]; exact hf, fun q i _ hq _ _ => ?_⟩
      exact poN_bt _ i (fun k hk => w1 q hq k (by omega))
    have P1 : psX s1 N 168 := by
      unfold psX
      rw [f1 9152 (by decide), f1 9216 (by decide), f1 9280 (by decide), f1 9344 (by decide), f1 9408 (by decide), f1 9472 (by decide), hfr 9152 (by decide), hfr 9216 (by decide), hfr 9280 (by decide), hfr 9344 (by decide), hfr 9408 (by decide), hfr 9472 (by decide)]
      exact hP
    have G1 : sgX s1 N S := by
      have := sgX_fr hS hfr (by decide)
      exact sgX_fr this (V := [8832]) (fun v hv => f1 v (by simpa using hv)) (by decide)
    have agb : ∀ q i : Nat, q < st → ((i / 4 : Nat) : Int) < N 0 → ((i % 4 : Nat) : Int) < N 1 → ppW N (wsN N (-1)) q i = ppW N (nwI N g st (h + 1)) q i := fun q i hq _ _ => by
      unfold ppW nwI
      rw [if_neg (by omega)]
    obtain ⟨b, s2, b1, b2, b3⟩ := agreesFrom_ok hN (fun q => ppW_pp hN) E P1 G1 hst agb
    have eb : b = nB g st (h + 1) := by
      have : b = true ↔ nB g st (h + 1) = true := by
        rw [b3, hnB]
        constructor
        · intro q k hk
          by_cases c : (st : Int) ≤ N (286 + 3 * k)
          · exact q k hk c
          · have z := hbef k hk (by omega)
            have z2 := hS.2.2.2 k hk
            unfold fit at z ⊢
            rw [← z]
            refine (wkP_congr hN (by omega) (fun h' i hh' x y => agb h' i (by omega) x y) (fun _ _ => rfl)).symm
        · intro q k hk _
          exact q k hk
      cases b <;> cases hb' : nB g st (h + 1) <;> simp [hb'] at this ⊢
    subst eb
    have F1 : fr weV s s1 := fun v hv => f1 v (fun e => by subst e; simp [weV] at hv)
    refine ⟨s1, s2, by simpa using e1, b1, fr_trans F1 (fr_sub b2 (by decide)), fun q hq k hk => by rw [b2 _ (by decide)]; exact w1 q hq k hk, by rw [b2 _ (by decide), f1 _ (by decide)], by rw [b2 _ (by decide), f1 _ (by decide)]⟩
  obtain ⟨QQ, hQQ⟩ : ∃ Q : Int × Me → Prop, ∀ q, Q q ↔ (q.1 = ct MO ∧ fr (9728 :: weV) s0 q.2 ∧ tnX q.2 N ∧ (fa ≠ 0 ∨ ct MO = 0 → q.2 9728 = s0 9728) ∧ (fa = 0 → 0 < ct MO → ∃ h, h < MO ∧ nB g st (h + 1) = true ∧ q.2 9728 0 = g ∧ q.2 9728 1 = st ∧ q.2 9728 2 = ((h + 1 : Nat) : Int))) := ⟨_, fun _ => Iff.rfl⟩
  have main : ok (m_D_tryNights [0, g, st, fa] s0) QQ := by
    simp only [m_D_tryNights, b_D_tryNights]
    simp (disch := first | decide | omega) only [cE_K, vE_K, o2_K, o2K_0, o2L_0, sq_K, sqK_0, st_K, stK_0, mf_K, ini_0, ini_1, subI, up, if_true, if_false, reduceIte, true_and, and_true, false_and, and_false, true_or, or_true, false_or, or_false, not_true_eq_false, not_false_eq_true, decide_true, decide_false, decide_eq_true_eq, Bool.not_true, Bool.not_false, Bool.false_eq_true, Bool.not_eq_true', Bool.not_eq_eq_eq_not, decide_eq_false_iff_not, Int.not_lt, Int.not_le, Nat.not_le, Nat.not_lt, Nat.le_refl, Int.le_refl, Nat.lt_irrefl, Int.lt_irrefl, reduceCtorEq, Nat.reduceEqDiff, Nat.reduceAdd, Nat.reduceMul, Nat.reduceBEq, Int.reduceNeg, Int.reduceAdd, Int.toNat_natCast, Int.reduceToNat, ne_eq, Nat.zero_ne_one, true_or, Int.ofNat_lt, Int.ofNat_le, Int.natCast_add, Int.cast_ofNat_Int, Int.natCast_zero, mo3]
    obtain ⟨I, hI⟩ : ∃ I : Nat → Lo → Me → Prop, ∀ n ρ s, I n ρ s ↔ (ρ 1 = g ∧ ρ 2 = st ∧ ρ 3 = fa ∧ ρ 4 = MO ∧ ρ 5 = ct n ∧ ρ 6 = n + 1 ∧ fr (9728 :: weV) s0 s ∧ (∀ r : Nat, (r : Int) < N 0 → s 8704 r = N (10 + 2 * r)) ∧ (∀ d, d < 7 → s 8768 d = N (110 + d)) ∧ (∀ q, q < 168 → ∀ k : Nat, k < 32 → bt (s 8832 q) k = bt (nwI N g st n q) k) ∧ (fa ≠ 0 ∨ ct n = 0 → s 9728 = s0 9728) ∧ (fa = 0 → 0 < ct n → ∃ h, h < n ∧ nB g st (h + 1) = true ∧ s 9728 0 = g ∧ s 9728 1 = st ∧ s 9728 2 = ((h + 1 : Nat) : Int))) := ⟨fun n ρ s => ρ 1 = g ∧ ρ 2 = st ∧ ρ 3 = fa ∧ ρ 4 = MO ∧ ρ 5 = ct n ∧ ρ 6 = n + 1 ∧ fr (9728 :: weV) s0 s ∧ (∀ r : Nat, (r : Int) < N 0 → s 8704 r = N (10 + 2 * r)) ∧ (∀ d, d < 7 → s 8768 d = N (110 + d)) ∧ (∀ q, q < 168 → ∀ k : Nat, k < 32 → bt (s 8832 q) k = bt (nwI N g st n q) k) ∧ (fa ≠ 0 ∨ ct n = 0 → s 9728 = s0 9728) ∧ (fa = 0 → 0 < ct n → ∃ h, h < n ∧ nB g st (h + 1) = true ∧ s 9728 0 = g ∧ s 9728 1 = st ∧ s 9728 2 = ((h + 1 : Nat) : Int)), fun _ _ _ => Iff.rfl⟩
    refine ok_mfK (ok_sqK (wh_gen I MO (by omega) ((hI _ _ _).mpr ⟨by simp [up], by simp [up], by simp [up], by simp [up], by simp [up, hct.1], by simp [up], fr_rfl, hT.2.1, hT.2.2.1, fun q hq k hk => ?_, fun _ => rfl, fun _ q => by rw [hct.1] at q; omega⟩) ?_))
    · rw [hT.2.2.2 q hq k hk]
      unfold nwI
      rw [if_neg (by omega)]
    intro n ρ s hn hIn
    obtain ⟨g1, g2, g3, g4, g5, g6, g7, g8, g9, g10, g11, g12⟩ := (hI _ _ _).mp hIn
    rcases Nat.lt_or_eq_of_le hn with hn | rfl
    · obtain ⟨s1, s2, e1, e2, e3, e4, e5, e6⟩ := step s n hn g7 g8 g9 g10
      have cb := ctb n
      have cs := hct.2.1 n
      have F2 : fr (9728 :: weV) s0 s2 := fr_trans g7 (fr_sub e3 (by decide))
      have L2 : s2 9728 = s 9728 := e3 _ (by decide)
      rw [show ((n + 1 : Nat) : Int) = (n : Int) + 1 by omega] at e1
      clear hIn step
      cases hb : nB g st (n + 1)
      · rw [hb, z1_f] at e2 cs
        simp (disch := first | decide | omega) only [cE_K, vE_K, gE_K, o1K_0, o1K_i, o1_K, o2L_0, o2L_i, o2K_0, o2K_i, o2_K, thK_0, thK_i, th_K, dvL_0, dvL_i, dvK_0, dvK_i, dv_K, rmL_0, rmL_i, rmK_0, rmK_i, rm_K, dlL_0, dlL_i, dlK_0, dlK_i, dl_K, ldQ_0, ldQ_i, ldL_0, ldL_i, ldK_0, ldK_i, ld_K, kK_0, kK_i, k_K, aL_0, aL_i, aK_0, aK_i, aE_0, aE_1, clK_0, clK_i, cl_K, cBL_0, cBL_i, cBK_0, cBK_i, cB_K, zBK_0, zBK_i, zB_K, nBK_0, nBK_i, nB_K, andK_0, andK_i, and_K, orK_0, orK_i, or_K, tkK_0, tkK_i, tk_K, sk_K, stK_0, stK_i, st_K, exK_0, exK_i, ex_K, in_K, pfL_0, pfL_i, pfK_0, pfK_i, pf_K, pzL_0, pzL_i, pzK_0, pzK_i, pz_K, poL_0, poL_i, poK_0, poK_i, po_K, asQ_0, asQ_i, asM_0, asM_i, asL_0, asL_i, asK_0, asK_i, as_K, aoM_0, aoM_i, aoQ_0, aoQ_i, aoL_0, aoL_i, aoK_0, aoK_i, ao_K, sqK_0, sqK_1, sqK_2, sqK_3, sqK_4, sqK_i, sq_K, swK_0, swK_1, swK_2, swK_3, swK_4, swK_i, sw_K, ifK_0, ifK_i, if_K, br_K, ct_K, rv_K, thr_K, rtK_0, rtK_i, rt_K, mfK_0, mfK_i, mf_K, mzK_i, mzK_0, mz_K, cpK_0, cpT_0, cp_K, tsK_0, tsK_i, ts_K, tsP_hit, tsP_next, tsP_low, tsP_nil, ini_0, ini_1, rdU_0, rdU_i, rdB_0, rdB_1, rdB_2, rdB_3, rdB_4, rdB_i, rdC_0, rdC_i, rnd_K, cmpI, addI, subI, mulI, i2lI, l2iI, minI, maxI, idI, up, ok_some, ok_ite, w32_id, ix_id, Int.toNat_add, Int.toNat_mul, ltI_t, ltI_f, leI_t, leI_f, eqI_t, eqI_f, u2_s, u2_v, u2_i, w3_m2, w3_m1, w3_0, w3_1, w3_2, w3_3, w3_4, w3_5, w3_6, w3_7, w3_8, w3_9, w3_10, w3_12, w3_20, w3_23, w3_24, w3_25, w3_32, w3_40, w3_50, w3_100, w3_120, w3_168, w3_200, w3_240, w3_255, w3_500, w3_592, w3_600, w3_900, w3_940, w3_999, w3_1000, w3_1009, w3_1184, w3_3333, w3_9999, if_true, if_false, reduceIte, true_and, and_true, false_and, and_false, true_or, or_true, false_or, or_false, not_true_eq_false, not_false_eq_true, decide_true, decide_false, decide_eq_true_eq, Bool.not_true, Bool.not_false, Bool.false_eq_true, Bool.not_eq_true', Bool.not_eq_eq_eq_not, decide_eq_false_iff_not, Int.not_lt, Int.not_le, Nat.not_le, Nat.not_lt, Nat.le_refl, Int.le_refl, Nat.lt_irrefl, Int.lt_irrefl, reduceCtorEq, Nat.reduceEqDiff, Nat.reduceAdd, Nat.reduceMul, Nat.reduceBEq, Int.reduceNeg, Int.reduceAdd, Int.toNat_natCast, Int.reduceToNat, ne_eq, Nat.zero_ne_one, true_or, Int.ofNat_lt, Int.ofNat_le, Int.natCast_add, Int.cast_ofNat_Int, Int.natCast_zero, g1, g2, g3, g4, g5, g6, e1, e2]
        refine ⟨hn, (hI _ _ _).mpr ⟨by simp [up, g1], by simp [up, g2], by simp [up, g3], by simp [up, g4], by simp [up, g5, cs], by simp [up], F2, by rw [e5]; exact g8, by rw [e6]; exact g9, e4, fun q => ?_, fun q1 q2 => ?_⟩⟩
        · rw [L2]; exact g11 (by omega)
        · obtain ⟨h, h1, h2, h3, h4, h5⟩ := g12 q1 (by omega)
          exact ⟨h, by omega, h2, by rw [L2]; exact h3, by rw [L2]; exact h4, by rw [L2]; exact h5⟩
      · rw [hb, z1_t] at e2 cs
        by_cases c5 : (fa : Int) + ct n = 0
        · simp (disch := first | decide | omega) only [cE_K, vE_K, gE_K, o1K_0, o1K_i, o1_K, o2L_0, o2L_i, o2K_0, o2K_i, o2_K, thK_0, thK_i, th_K, dvL_0, dvL_i, dvK_0, dvK_i, dv_K, rmL_0, rmL_i, rmK_0, rmK_i, rm_K, dlL_0, dlL_i, dlK_0, dlK_i, dl_K, ldQ_0, ldQ_i, ldL_0, ldL_i, ldK_0, ldK_i, ld_K, kK_0, kK_i, k_K, aL_0, aL_i, aK_0, aK_i, aE_0, aE_1, clK_0, clK_i, cl_K, cBL_0, cBL_i, cBK_0, cBK_i, cB_K, zBK_0, zBK_i, zB_K, nBK_0, nBK_i, nB_K, andK_0, andK_i, and_K, orK_0, orK_i, or_K, tkK_0, tkK_i, tk_K, sk_K, stK_0, stK_i, st_K, exK_0, exK_i, ex_K, in_K, pfL_0, pfL_i, pfK_0, pfK_i, pf_K, pzL_0, pzL_i, pzK_0, pzK_i, pz_K, poL_0, poL_i, poK_0, poK_i, po_K, asQ_0, asQ_i, asM_0, asM_i, asL_0, asL_i, asK_0, asK_i, as_K, aoM_0, aoM_i, aoQ_0, aoQ_i, aoL_0, aoL_i, aoK_0, aoK_i, ao_K, sqK_0, sqK_1, sqK_2, sqK_3, sqK_4, sqK_i, sq_K, swK_0, swK_1, swK_2, swK_3, swK_4, swK_i, sw_K, ifK_0, ifK_i, if_K, br_K, ct_K, rv_K, thr_K, rtK_0, rtK_i, rt_K, mfK_0, mfK_i, mf_K, mzK_i, mzK_0, mz_K, cpK_0, cpT_0, cp_K, tsK_0, tsK_i, ts_K, tsP_hit, tsP_next, tsP_low, tsP_nil, ini_0, ini_1, rdU_0, rdU_i, rdB_0, rdB_1, rdB_2, rdB_3, rdB_4, rdB_i, rdC_0, rdC_i, rnd_K, cmpI, addI, subI, mulI, i2lI, l2iI, minI, maxI, idI, up, ok_some, ok_ite, w32_id, ix_id, Int.toNat_add, Int.toNat_mul, ltI_t, ltI_f, leI_t, leI_f, eqI_t, eqI_f, u2_s, u2_v, u2_i, w3_m2, w3_m1, w3_0, w3_1, w3_2, w3_3, w3_4, w3_5, w3_6, w3_7, w3_8, w3_9, w3_10, w3_12, w3_20, w3_23, w3_24, w3_25, w3_32, w3_40, w3_50, w3_100, w3_120, w3_168, w3_200, w3_240, w3_255, w3_500, w3_592, w3_600, w3_900, w3_940, w3_999, w3_1000, w3_1009, w3_1184, w3_3333, w3_9999, if_true, if_false, reduceIte, true_and, and_true, false_and, and_false, true_or, or_true, false_or, or_false, not_true_eq_false, not_false_eq_true, decide_true, decide_false, decide_eq_true_eq, Bool.not_true, Bool.not_false, Bool.false_eq_true, Bool.not_eq_true', Bool.not_eq_eq_eq_not, decide_eq_false_iff_not, Int.not_lt, Int.not_le, Nat.not_le, Nat.not_lt, Nat.le_refl, Int.le_refl, Nat.lt_irrefl, Int.lt_irrefl, reduceCtorEq, Nat.reduceEqDiff, Nat.reduceAdd, Nat.reduceMul, Nat.reduceBEq, Int.reduceNeg, Int.reduceAdd, Int.toNat_natCast, Int.reduceToNat, ne_eq, Nat.zero_ne_one, true_or, Int.ofNat_lt, Int.ofNat_le, Int.natCast_add, Int.cast_ofNat_Int, Int.natCast_zero, g1, g2, g3, g4, g5, g6, e1, e2, c5, Int.one_ne_zero]
          refine ⟨hn, (hI _ _ _).mpr ⟨by simp [up, g1], by simp [up, g2], by simp [up, g3], by simp [up, g4], by simp [up, cs], by simp [up], ?_, ?_, ?_, ?_, fun q => by omega, fun q1 q2 => ⟨n, by omega, hb, by simp [u2], by simp [u2], by simp [u2]⟩⟩⟩
          · refine fr_trans F2 (fun v hv => ?_)
            have : v ≠ 9728 := fun q => by subst q; simp at hv
            funext i; simp [u2, this]
          · intro r hr; simp [u2]; rw [e5]; exact g8 r hr
          · intro d hd; simp [u2]; rw [e6]; exact g9 d hd
          · intro q hq k hk; simp [u2]; exact e4 q hq k hk
        · simp (disch := first | decide | omega) only [cE_K, vE_K, gE_K, o1K_0, o1K_i, o1_K, o2L_0, o2L_i, o2K_0, o2K_i, o2_K, thK_0, thK_i, th_K, dvL_0, dvL_i, dvK_0, dvK_i, dv_K, rmL_0, rmL_i, rmK_0, rmK_i, rm_K, dlL_0, dlL_i, dlK_0, dlK_i, dl_K, ldQ_0, ldQ_i, ldL_0, ldL_i, ldK_0, ldK_i, ld_K, kK_0, kK_i, k_K, aL_0, aL_i, aK_0, aK_i, aE_0, aE_1, clK_0, clK_i, cl_K, cBL_0, cBL_i, cBK_0, cBK_i, cB_K, zBK_0, zBK_i, zB_K, nBK_0, nBK_i, nB_K, andK_0, andK_i, and_K, orK_0, orK_i, or_K, tkK_0, tkK_i, tk_K, sk_K, stK_0, stK_i, st_K, exK_0, exK_i, ex_K, in_K, pfL_0, pfL_i, pfK_0, pfK_i, pf_K, pzL_0, pzL_i, pzK_0, pzK_i, pz_K, poL_0, poL_i, poK_0, poK_i, po_K, asQ_0, asQ_i, asM_0, asM_i, asL_0, asL_i, asK_0, asK_i, as_K, aoM_0, aoM_i, aoQ_0, aoQ_i, aoL_0, aoL_i, aoK_0, aoK_i, ao_K, sqK_0, sqK_1, sqK_2, sqK_3, sqK_4, sqK_i, sq_K, swK_0, swK_1, swK_2, swK_3, swK_4, swK_i, sw_K, ifK_0, ifK_i, if_K, br_K, ct_K, rv_K, thr_K, rtK_0, rtK_i, rt_K, mfK_0, mfK_i, mf_K, mzK_i, mzK_0, mz_K, cpK_0, cpT_0, cp_K, tsK_0, tsK_i, ts_K, tsP_hit, tsP_next, tsP_low, tsP_nil, ini_0, ini_1, rdU_0, rdU_i, rdB_0, rdB_1, rdB_2, rdB_3, rdB_4, rdB_i, rdC_0, rdC_i, rnd_K, cmpI, addI, subI, mulI, i2lI, l2iI, minI, maxI, idI, up, ok_some, ok_ite, w32_id, ix_id, Int.toNat_add, Int.toNat_mul, ltI_t, ltI_f, leI_t, leI_f, eqI_t, eqI_f, u2_s, u2_v, u2_i, w3_m2, w3_m1, w3_0, w3_1, w3_2, w3_3, w3_4, w3_5, w3_6, w3_7, w3_8, w3_9, w3_10, w3_12, w3_20, w3_23, w3_24, w3_25, w3_32, w3_40, w3_50, w3_100, w3_120, w3_168, w3_200, w3_240, w3_255, w3_500, w3_592, w3_600, w3_900, w3_940, w3_999, w3_1000, w3_1009, w3_1184, w3_3333, w3_9999, if_true, if_false, reduceIte, true_and, and_true, false_and, and_false, true_or, or_true, false_or, or_false, not_true_eq_false, not_false_eq_true, decide_true, decide_false, decide_eq_true_eq, Bool.not_true, Bool.not_false, Bool.false_eq_true, Bool.not_eq_true', Bool.not_eq_eq_eq_not, decide_eq_false_iff_not, Int.not_lt, Int.not_le, Nat.not_le, Nat.not_lt, Nat.le_refl, Int.le_refl, Nat.lt_irrefl, Int.lt_irrefl, reduceCtorEq, Nat.reduceEqDiff, Nat.reduceAdd, Nat.reduceMul, Nat.reduceBEq, Int.reduceNeg, Int.reduceAdd, Int.toNat_natCast, Int.reduceToNat, ne_eq, Nat.zero_ne_one, true_or, Int.ofNat_lt, Int.ofNat_le, Int.natCast_add, Int.cast_ofNat_Int, Int.natCast_zero, g1, g2, g3, g4, g5, g6, e1, e2, Int.one_ne_zero]
          refine ⟨hn, (hI _ _ _).mpr ⟨by simp [up, g1], by simp [up, g2], by simp [up, g3], by simp [up, g4], by simp [up, cs], by simp [up], F2, by rw [e5]; exact g8, by rw [e6]; exact g9, e4, fun q => ?_, fun q1 q2 => ?_⟩⟩
          · rw [L2]; exact g11 (by omega)
          · obtain ⟨h, h1, h2, h3, h4, h5⟩ := g12 q1 (by omega)
            exact ⟨h, by omega, h2, by rw [L2]; exact h3, by rw [L2]; exact h4, by rw [L2]; exact h5⟩
    · have er := resetWork_ok (σ := s) (g := g) (A := st) (H := n) (by omega) hst mo2
      generalize hs9 : (fun v i => if v = 8832 ∧ st ≤ i ∧ i < st + n then iorI (andI (s 8832 i) (xorI (shlI 1 g) (-1))) (andI (s 9344 i) (shlI 1 g)) else s v i) = s9 at er
      have f9 : ∀ v, v ≠ 8832 → s9 v = s v := fun v hv => by rw [← hs9]; funext i; simp [hv]
      have fin : QQ (ct n, s9) := by
        refine (hQQ _).mpr ?_
        dsimp only
        refine ⟨rfl, fr_trans g7 (fun v hv => f9 v (fun e => by subst e; simp [weV] at hv)), ⟨rdX_lo hT.1 (fun v hv => by rw [f9 v (by omega), g7 v (by simp [weV]; omega)]), by rw [f9 _ (by decide)]; exact g8, by rw [f9 _ (by decide)]; exact g9, fun q hq k hk => ?_⟩, fun q => by rw [f9 _ (by decide)]; exact g11 q, fun q1 q2 => by rw [f9 _ (by decide)]; exact g12 q1 q2⟩
        have pw : s 9344 q = wsN N (-1) q := by rw [g7 _ (by decide)]; exact (hP.2.2.1 q hq).1
        have gw := g10 q hq k hk
        rw [nwI_bt (by omega) hk] at gw
        rw [← hs9]
        simp only [true_and]
        by_cases c : st ≤ q ∧ q < st + n
        · rw [if_pos c, bt_or hk, bt_and hk, bt_and hk, bt_not hk, bt_shl1 (by omega) hk, pw, gw]
          simp only [c.1, c.2, decide_true, Bool.and_true]
          by_cases ek : k = g
          · subst ek; simp
          · simp [ek]
        · rw [if_neg c, gw]
          have a1 : (decide (k = g) && decide (st ≤ q) && decide (q < st + n)) = false := by
            by_cases c1 : st ≤ q
            · have c2 : ¬ q < st + n := fun z => c ⟨c1, z⟩
              simp [c2]
            · simp [c1]
          rw [a1, Bool.or_false]
      generalize ct n = cn at *
      clear step hIn
      simp (disch := first | decide | omega) only [cE_K, vE_K, gE_K, o1K_0, o1K_i, o1_K, o2L_0, o2L_i, o2K_0, o2K_i, o2_K, thK_0, thK_i, th_K, dvL_0, dvL_i, dvK_0, dvK_i, dv_K, rmL_0, rmL_i, rmK_0, rmK_i, rm_K, dlL_0, dlL_i, dlK_0, dlK_i, dl_K, ldQ_0, ldQ_i, ldL_0, ldL_i, ldK_0, ldK_i, ld_K, kK_0, kK_i, k_K, aL_0, aL_i, aK_0, aK_i, aE_0, aE_1, clK_0, clK_i, cl_K, cBL_0, cBL_i, cBK_0, cBK_i, cB_K, zBK_0, zBK_i, zB_K, nBK_0, nBK_i, nB_K, andK_0, andK_i, and_K, orK_0, orK_i, or_K, tkK_0, tkK_i, tk_K, sk_K, stK_0, stK_i, st_K, exK_0, exK_i, ex_K, in_K, pfL_0, pfL_i, pfK_0, pfK_i, pf_K, pzL_0, pzL_i, pzK_0, pzK_i, pz_K, poL_0, poL_i, poK_0, poK_i, po_K, asQ_0, asQ_i, asM_0, asM_i, asL_0, asL_i, asK_0, asK_i, as_K, aoM_0, aoM_i, aoQ_0, aoQ_i, aoL_0, aoL_i, aoK_0, aoK_i, ao_K, sqK_0, sqK_1, sqK_2, sqK_3, sqK_4, sqK_i, sq_K, swK_0, swK_1, swK_2, swK_3, swK_4, swK_i, sw_K, ifK_0, ifK_i, if_K, br_K, ct_K, rv_K, thr_K, rtK_0, rtK_i, rt_K, mfK_0, mfK_i, mf_K, mzK_i, mzK_0, mz_K, cpK_0, cpT_0, cp_K, tsK_0, tsK_i, ts_K, tsP_hit, tsP_next, tsP_low, tsP_nil, ini_0, ini_1, rdU_0, rdU_i, rdB_0, rdB_1, rdB_2, rdB_3, rdB_4, rdB_i, rdC_0, rdC_i, rnd_K, cmpI, addI, subI, mulI, i2lI, l2iI, minI, maxI, idI, up, ok_some, ok_ite, w32_id, ix_id, Int.toNat_add, Int.toNat_mul, ltI_t, ltI_f, leI_t, leI_f, eqI_t, eqI_f, u2_s, u2_v, u2_i, w3_m2, w3_m1, w3_0, w3_1, w3_2, w3_3, w3_4, w3_5, w3_6, w3_7, w3_8, w3_9, w3_10, w3_12, w3_20, w3_23, w3_24, w3_25, w3_32, w3_40, w3_50, w3_100, w3_120, w3_168, w3_200, w3_240, w3_255, w3_500, w3_592, w3_600, w3_900, w3_940, w3_999, w3_1000, w3_1009, w3_1184, w3_3333, w3_9999, if_true, if_false, reduceIte, true_and, and_true, false_and, and_false, true_or, or_true, false_or, or_false, not_true_eq_false, not_false_eq_true, decide_true, decide_false, decide_eq_true_eq, Bool.not_true, Bool.not_false, Bool.false_eq_true, Bool.not_eq_true', Bool.not_eq_eq_eq_not, decide_eq_false_iff_not, Int.not_lt, Int.not_le, Nat.not_le, Nat.not_lt, Nat.le_refl, Int.le_refl, Nat.lt_irrefl, Int.lt_irrefl, reduceCtorEq, Nat.reduceEqDiff, Nat.reduceAdd, Nat.reduceMul, Nat.reduceBEq, Int.reduceNeg, Int.reduceAdd, Int.toNat_natCast, Int.reduceToNat, ne_eq, Nat.zero_ne_one, true_or, Int.ofNat_lt, Int.ofNat_le, Int.natCast_add, Int.cast_ofNat_Int, Int.natCast_zero, g1, g2, g3, g4, g5, g6, er]
      exact fin
  obtain ⟨⟨r1, r2⟩, h1, h2⟩ := main
  obtain ⟨k1, k2, k3, k4, k5⟩ := (hQQ _).mp h2
  simp only at k1 k2 k3 k4 k5
  subst k1
  exact ⟨r2, h1, k2, k3, k4, k5⟩
