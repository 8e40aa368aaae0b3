def dmV : List Nat := [128, 22, 640, 960, 704, 768, 832, 896, 1024, 1088, 43, 1344, 1280]
def encI (f : Int) : Int := if f = 1009 then -1 else f
def ndN (N : Nat → Int) (a : Nat → Nat) (hr i : Nat) : Nat := if (hr : Int) + N (31 + 6 * a i) ≤ 24 then 7 else 6
/-- the reference between two tries -/
def rfS (μ m : Me) (N : Nat → Int) (a : Nat → Nat) (hr : Nat) (d : Nat → Nat) (B T i : Nat) (st : Int × (Nat → Nat)) : Prop :=
  fr dmV μ m ∧ m 22 0 = 1 ∧ roR N (m 128) a hr d B i ∧ (∀ j, j < i → m 1280 j = d j) ∧ m 43 0 = encI st.1 ∧ (st.1 ≠ 1009 → ∀ j, j < T → m 1344 j = st.2 j)
set_option maxHeartbeats 4000000 in
theorem tryDays_m {μ : Me} {N : Nat → Int} {a : Nat → Nat} {hr B T : Nat} (hN : rvN N) (hbl : blN N) (hB : N 160 = B) (hT : T ≤ 4) (hBT : B + T ≤ 40) (hr24 : hr < 24) (ha : ∀ j, j < T → (a j : Int) < N 2) (hpu : μ 34 0 = -1) (hmy : μ 42 0 = T) (has : ∀ j, j < T → μ 1216 j = a j) (F : Nat) :
    ∀ k i d m st, i + k = T → (∀ j, j < i → ((24 * d j + hr : Nat) : Int) + N (31 + 6 * a j) ≤ 168) → 0 ≤ st.1 → st.1 ≤ 1009 → rfS μ m N a hr d B T i st → ∃ m', g_M_tryDays (F + k + 1) [0, i, hr] m = some (0, m') ∧ rfS μ m' N a hr d B T i (trS (dhs N a hr) (ndN N a hr) k d i st) := by
  intro k
  induction k with
  | zero =>
    intro i d m st hi hd hs0 hs1 hR
    obtain ⟨r1, r2, r3, r4, r5, r6⟩ := hR
    obtain ⟨s2, q1, q2, q3, q4⟩ := M_harmNow_ok (μ := m) (N := m 128) (Or.inr r2) (nwM_1 r2) (rvN_lo hN r3.1) (roR_bl hN hbl hB r3 (by omega) (fun j hj => ha j (by omega)) hd) (by rw [r1 _ (by decide)]; exact hpu)
    rw [harm_N hN r3.1, roR_ws hB r3] at q1
    have hb := dhs_bd (N := N) (a := a) (hr := hr) (d := d) (i := i) hN
    have hst : trS (dhs N a hr) (ndN N a hr) 0 d i st = if dhs N a hr d i < st.1 then (dhs N a hr d i, d) else st := rfl
    rw [hst]
    clear hst
    have eH : hsN N (floN N) (ppW N (dwI N a hr d i)) = dhs N a hr d i := rfl
    rw [eH] at q1
    obtain ⟨H, hH⟩ : ∃ H, H = dhs N a hr d i := ⟨_, rfl⟩
    rw [← hH] at q1 hb ⊢
    clear eH
    have f2 : fr dmV μ s2 := fr_trans r1 (fr_sub q2 (by decide))
    have am : s2 42 0 = T := by rw [f2 _ (by decide)]; exact hmy
    have am0 : m 42 0 = T := by rw [r1 _ (by decide)]; exact hmy
    have fw : s2 43 0 = encI st.1 := by rw [q2 _ (by decide)]; exact r5
    have iT : i = T := by omega
    subst iT
    obtain ⟨QQ, hQQ⟩ : ∃ Q : Int × Me → Prop, ∀ q, Q q ↔ (q.1 = 0 ∧ rfS μ q.2 N a hr d B i i (if H < st.1 then (H, d) else st)) := ⟨_, fun _ => Iff.rfl⟩
    have main : ok (g_M_tryDays (F + 0 + 1) [0, i, hr] m) QQ := by
      simp only [g_M_tryDays, b_M_tryDays]
      have fE : (H < st.1 ∧ (encI st.1 = -1 ∨ (¬ encI st.1 = -1 ∧ H < encI st.1))) ∨ (¬ H < st.1 ∧ ¬ encI st.1 = -1 ∧ encI st.1 = st.1) := by
        unfold encI
        split <;> omega
      obtain ⟨E, hE⟩ : ∃ E, E = encI st.1 := ⟨_, rfl⟩
      have bE : -1 ≤ E ∧ E ≤ 1008 := by
        rw [hE]; unfold encI; split <;> omega
      rw [← hE] at fw fE
      rcases fE with ⟨c, fE⟩ | ⟨c, e1, e2⟩
      · rcases fE with e | e
        all_goals
          simp (disch := first | decide | omega) only [cE_K, vE_K, gE_K, o1K_0, o1K_i, o1_K, o2L_0, o2L_i, o2K_0, o2K_i, o2_K, thK_0, thK_i, th_K, dvL_0, dvL_i, dvK_0, dvK_i, dv_K, rmL_0, rmL_i, rmK_0, rmK_i, rm_K, dlL_0, dlL_i, dlK_0, dlK_i, dl_K, ldQ_0, ldQ_i, ldL_0, ldL_i, ldK_0, ldK_i, ld_K, kK_0, kK_i, k_K, aL_0, aL_i, aK_0, aK_i, aE_0, aE_1, clK_0, clK_i, cl_K, cBL_0, cBL_i, cBK_0, cBK_i, cB_K, zBK_0, zBK_i, zB_K, nBK_0, nBK_i, nB_K, andK_0, andK_i, and_K, orK_0, orK_i, or_K, tkK_0, tkK_i, tk_K, sk_K, stK_0, stK_i, st_K, exK_0, exK_i, ex_K, in_K, pfL_0, pfL_i, pfK_0, pfK_i, pf_K, pzL_0, pzL_i, pzK_0, pzK_i, pz_K, poL_0, poL_i, poK_0, poK_i, po_K, asQ_0, asQ_i, asM_0, asM_i, asL_0, asL_i, asK_0, asK_i, as_K, aoM_0, aoM_i, aoQ_0, aoQ_i, aoL_0, aoL_i, aoK_0, aoK_i, ao_K, sqK_0, sqK_1, sqK_2, sqK_3, sqK_4, sqK_i, sq_K, swK_0, swK_1, swK_2, swK_3, swK_4, swK_i, sw_K, ifK_0, ifK_i, if_K, br_K, ct_K, rv_K, thr_K, rtK_0, rtK_i, rt_K, mfK_0, mfK_i, mf_K, mzK_i, mzK_0, mz_K, cpK_0, cpT_0, cp_K, tsK_0, tsK_i, ts_K, tsP_hit, tsP_next, tsP_low, tsP_nil, ini_0, ini_1, rdU_0, rdU_i, rdB_0, rdB_1, rdB_2, rdB_3, rdB_4, rdB_i, rdC_0, rdC_i, rnd_K, cmpI, addI, subI, mulI, i2lI, l2iI, minI, maxI, idI, up, ok_some, ok_ite, w32_id, ix_id, Int.toNat_add, Int.toNat_mul, ltI_t, ltI_f, leI_t, leI_f, eqI_t, eqI_f, u2_s, u2_v, u2_i, w3_m2, w3_m1, w3_0, w3_1, w3_2, w3_3, w3_4, w3_5, w3_6, w3_7, w3_8, w3_9, w3_10, w3_12, w3_20, w3_23, w3_24, w3_25, w3_32, w3_40, w3_50, w3_100, w3_120, w3_168, w3_200, w3_240, w3_255, w3_500, w3_592, w3_600, w3_900, w3_940, w3_999, w3_1000, w3_1009, w3_1184, w3_3333, w3_9999, if_true, if_false, reduceIte, true_and, and_true, false_and, and_false, true_or, or_true, false_or, or_false, not_true_eq_false, not_false_eq_true, decide_true, decide_false, decide_eq_true_eq, Bool.not_true, Bool.not_false, Bool.false_eq_true, Bool.not_eq_true', Bool.not_eq_eq_eq_not, decide_eq_false_iff_not, Int.not_lt, Int.not_le, Nat.not_le, Nat.not_lt, Nat.le_refl, Int.le_refl, Nat.lt_irrefl, Int.lt_irrefl, reduceCtorEq, Nat.reduceEqDiff, Nat.reduceAdd, Nat.reduceMul, Nat.reduceBEq, Int.reduceNeg, Int.reduceAdd, Int.toNat_natCast, Int.reduceToNat, ne_eq, Nat.zero_ne_one, true_or, Int.ofNat_lt, Int.ofNat_le, Int.natCast_add, Int.cast_ofNat_Int, Int.natCast_zero, am0, q1, fw, e]
          obtain ⟨I, hI⟩ : ∃ I : Nat → Lo → Me → Prop, ∀ n ρ s, I n ρ s ↔ (ρ 1 = i ∧ ρ 4 = n ∧ s = fun v x => if v = 1344 ∧ x < n then s2 1280 x else u2 s2 43 0 H v x) := ⟨fun n ρ s => ρ 1 = i ∧ ρ 4 = n ∧ s = fun v x => if v = 1344 ∧ x < n then s2 1280 x else u2 s2 43 0 H v x, fun _ _ _ => Iff.rfl⟩
          refine ok_mfK (ok_sqK (ok_sqK (wh_gen I i (by omega) ((hI _ _ _).mpr ⟨by simp [up], by simp [up], by funext v x; simp⟩) ?_)))
          intro n ρ s hn hIn
          obtain ⟨g1, g2, hs⟩ := (hI _ _ _).mp hIn
          rcases Nat.lt_or_eq_of_le hn with hn | rfl
          · have h1 : s 1280 n = s2 1280 n := by rw [hs]; simp [u2]
            clear hIn
            simp (disch := first | decide | omega) only [cE_K, vE_K, gE_K, o1K_0, o1K_i, o1_K, o2L_0, o2L_i, o2K_0, o2K_i, o2_K, thK_0, thK_i, th_K, dvL_0, dvL_i, dvK_0, dvK_i, dv_K, rmL_0, rmL_i, rmK_0, rmK_i, rm_K, dlL_0, dlL_i, dlK_0, dlK_i, dl_K, ldQ_0, ldQ_i, ldL_0, ldL_i, ldK_0, ldK_i, ld_K, kK_0, kK_i, k_K, aL_0, aL_i, aK_0, aK_i, aE_0, aE_1, clK_0, clK_i, cl_K, cBL_0, cBL_i, cBK_0, cBK_i, cB_K, zBK_0, zBK_i, zB_K, nBK_0, nBK_i, nB_K, andK_0, andK_i, and_K, orK_0, orK_i, or_K, tkK_0, tkK_i, tk_K, sk_K, stK_0, stK_i, st_K, exK_0, exK_i, ex_K, in_K, pfL_0, pfL_i, pfK_0, pfK_i, pf_K, pzL_0, pzL_i, pzK_0, pzK_i, pz_K, poL_0, poL_i, poK_0, poK_i, po_K, asQ_0, asQ_i, asM_0, asM_i, asL_0, asL_i, asK_0, asK_i, as_K, aoM_0, aoM_i, aoQ_0, aoQ_i, aoL_0, aoL_i, aoK_0, aoK_i, ao_K, sqK_0, sqK_1, sqK_2, sqK_3, sqK_4, sqK_i, sq_K, swK_0, swK_1, swK_2, swK_3, swK_4, swK_i, sw_K, ifK_0, ifK_i, if_K, br_K, ct_K, rv_K, thr_K, rtK_0, rtK_i, rt_K, mfK_0, mfK_i, mf_K, mzK_i, mzK_0, mz_K, cpK_0, cpT_0, cp_K, tsK_0, tsK_i, ts_K, tsP_hit, tsP_next, tsP_low, tsP_nil, ini_0, ini_1, rdU_0, rdU_i, rdB_0, rdB_1, rdB_2, rdB_3, rdB_4, rdB_i, rdC_0, rdC_i, rnd_K, cmpI, addI, subI, mulI, i2lI, l2iI, minI, maxI, idI, up, ok_some, ok_ite, w32_id, ix_id, Int.toNat_add, Int.toNat_mul, ltI_t, ltI_f, leI_t, leI_f, eqI_t, eqI_f, u2_s, u2_v, u2_i, w3_m2, w3_m1, w3_0, w3_1, w3_2, w3_3, w3_4, w3_5, w3_6, w3_7, w3_8, w3_9, w3_10, w3_12, w3_20, w3_23, w3_24, w3_25, w3_32, w3_40, w3_50, w3_100, w3_120, w3_168, w3_200, w3_240, w3_255, w3_500, w3_592, w3_600, w3_900, w3_940, w3_999, w3_1000, w3_1009, w3_1184, w3_3333, w3_9999, if_true, if_false, reduceIte, true_and, and_true, false_and, and_false, true_or, or_true, false_or, or_false, not_true_eq_false, not_false_eq_true, decide_true, decide_false, decide_eq_true_eq, Bool.not_true, Bool.not_false, Bool.false_eq_true, Bool.not_eq_true', Bool.not_eq_eq_eq_not, decide_eq_false_iff_not, Int.not_lt, Int.not_le, Nat.not_le, Nat.not_lt, Nat.le_refl, Int.le_refl, Nat.lt_irrefl, Int.lt_irrefl, reduceCtorEq, Nat.reduceEqDiff, Nat.reduceAdd, Nat.reduceMul, Nat.reduceBEq, Int.reduceNeg, Int.reduceAdd, Int.toNat_natCast, Int.reduceToNat, ne_eq, Nat.zero_ne_one, true_or, Int.ofNat_lt, Int.ofNat_le, Int.natCast_add, Int.cast_ofNat_Int, Int.natCast_zero, g1, g2, h1]
            refine ⟨hn, (hI _ _ _).mpr ⟨by simp [up, g1], by simp [up], ?_⟩⟩
            rw [hs]
            funext v x
            simp only [u2]
            clear hI hQQ hs h1
            grind
          · have fin : QQ (0, s) := by
              refine (hQQ _).mpr ⟨rfl, ?_⟩
              rw [if_pos c]
              dsimp only
              have uf : ∀ v, v ≠ 1344 → v ≠ 43 → s v = s2 v := fun v h1 h2 => by rw [hs]; funext x; simp [u2, h1, h2]
              refine ⟨fun v hv => ?_, by rw [uf _ (by decide) (by decide)]; exact q4, by rw [uf _ (by decide) (by decide), q3]; exact r3, fun j hj => ?_, ?_, fun _ j hj => ?_⟩
              · rw [uf v (fun q => by subst q; simp [dmV] at hv) (fun q => by subst q; simp [dmV] at hv)]
                exact f2 v hv
              · rw [uf _ (by decide) (by decide), q2 _ (by decide)]; exact r4 j hj
              · rw [hs]; simp [u2, encI]; omega
              · rw [hs]; simp [hj]
                rw [q2 _ (by decide)]; exact r4 j hj
            clear hIn hs
            simp (disch := first | decide | omega) only [cE_K, vE_K, gE_K, o1K_0, o1K_i, o1_K, o2L_0, o2L_i, o2K_0, o2K_i, o2_K, thK_0, thK_i, th_K, dvL_0, dvL_i, dvK_0, dvK_i, dv_K, rmL_0, rmL_i, rmK_0, rmK_i, rm_K, dlL_0, dlL_i, dlK_0, dlK_i, dl_K, ldQ_0, ldQ_i, ldL_0, ldL_i, ldK_0, ldK_i, ld_K, kK_0, kK_i, k_K, aL_0, aL_i, aK_0, aK_i, aE_0, aE_1, clK_0, clK_i, cl_K, cBL_0, cBL_i, cBK_0, cBK_i, cB_K, zBK_0, zBK_i, zB_K, nBK_0, nBK_i, nB_K, andK_0, andK_i, and_K, orK_0, orK_i, or_K, tkK_0, tkK_i, tk_K, sk_K, stK_0, stK_i, st_K, exK_0, exK_i, ex_K, in_K, pfL_0, pfL_i, pfK_0, pfK_i, pf_K, pzL_0, pzL_i, pzK_0, pzK_i, pz_K, poL_0, poL_i, poK_0, poK_i, po_K, asQ_0, asQ_i, asM_0, asM_i, asL_0, asL_i, asK_0, asK_i, as_K, aoM_0, aoM_i, aoQ_0, aoQ_i, aoL_0, aoL_i, aoK_0, aoK_i, ao_K, sqK_0, sqK_1, sqK_2, sqK_3, sqK_4, sqK_i, sq_K, swK_0, swK_1, swK_2, swK_3, swK_4, swK_i, sw_K, ifK_0, ifK_i, if_K, br_K, ct_K, rv_K, thr_K, rtK_0, rtK_i, rt_K, mfK_0, mfK_i, mf_K, mzK_i, mzK_0, mz_K, cpK_0, cpT_0, cp_K, tsK_0, tsK_i, ts_K, tsP_hit, tsP_next, tsP_low, tsP_nil, ini_0, ini_1, rdU_0, rdU_i, rdB_0, rdB_1, rdB_2, rdB_3, rdB_4, rdB_i, rdC_0, rdC_i, rnd_K, cmpI, addI, subI, mulI, i2lI, l2iI, minI, maxI, idI, up, ok_some, ok_ite, w32_id, ix_id, Int.toNat_add, Int.toNat_mul, ltI_t, ltI_f, leI_t, leI_f, eqI_t, eqI_f, u2_s, u2_v, u2_i, w3_m2, w3_m1, w3_0, w3_1, w3_2, w3_3, w3_4, w3_5, w3_6, w3_7, w3_8, w3_9, w3_10, w3_12, w3_20, w3_23, w3_24, w3_25, w3_32, w3_40, w3_50, w3_100, w3_120, w3_168, w3_200, w3_240, w3_255, w3_500, w3_592, w3_600, w3_900, w3_940, w3_999, w3_1000, w3_1009, w3_1184, w3_3333, w3_9999, if_true, if_false, reduceIte, true_and, and_true, false_and, and_false, true_or, or_true, false_or, or_false, not_true_eq_false, not_false_eq_true, decide_true, decide_false, decide_eq_true_eq, Bool.not_true, Bool.not_false, Bool.false_eq_true, Bool.not_eq_true', Bool.not_eq_eq_eq_not, decide_eq_false_iff_not, Int.not_lt, Int.not_le, Nat.not_le, Nat.not_lt, Nat.le_refl, Int.le_refl, Nat.lt_irrefl, Int.lt_irrefl, reduceCtorEq, Nat.reduceEqDiff, Nat.reduceAdd, Nat.reduceMul, Nat.reduceBEq, Int.reduceNeg, Int.reduceAdd, Int.toNat_natCast, Int.reduceToNat, ne_eq, Nat.zero_ne_one, true_or, Int.ofNat_lt, Int.ofNat_le, Int.natCast_add, Int.cast_ofNat_Int, Int.natCast_zero, g1, g2]
            exact fin
      · have fin : QQ (0, s2) := by
          refine (hQQ _).mpr ⟨rfl, ?_⟩
          rw [if_neg c]
          dsimp only
          exact ⟨f2, q4, by rw [q3]; exact r3, fun j hj => by rw [q2 _ (by decide)]; exact r4 j hj, by rw [fw, hE], fun q j hj => by rw [q2 _ (by decide)]; exact r6 q j hj⟩
        simp (disch := first | decide | omega) only [cE_K, vE_K, gE_K, o1K_0, o1K_i, o1_K, o2L_0, o2L_i, o2K_0, o2K_i, o2_K, thK_0, thK_i, th_K, dvL_0, dvL_i, dvK_0, dvK_i, dv_K, rmL_0, rmL_i, rmK_0, rmK_i, rm_K, dlL_0, dlL_i, dlK_0, dlK_i, dl_K, ldQ_0, ldQ_i, ldL_0, ldL_i, ldK_0, ldK_i, ld_K, kK_0, kK_i, k_K, aL_0, aL_i, aK_0, aK_i, aE_0, aE_1, clK_0, clK_i, cl_K, cBL_0, cBL_i, cBK_0, cBK_i, cB_K, zBK_0, zBK_i, zB_K, nBK_0, nBK_i, nB_K, andK_0, andK_i, and_K, orK_0, orK_i, or_K, tkK_0, tkK_i, tk_K, sk_K, stK_0, stK_i, st_K, exK_0, exK_i, ex_K, in_K, pfL_0, pfL_i, pfK_0, pfK_i, pf_K, pzL_0, pzL_i, pzK_0, pzK_i, pz_K, poL_0, poL_i, poK_0, poK_i, po_K, asQ_0, asQ_i, asM_0, asM_i, asL_0, asL_i, asK_0, asK_i, as_K, aoM_0, aoM_i, aoQ_0, aoQ_i, aoL_0, aoL_i, aoK_0, aoK_i, ao_K, sqK_0, sqK_1, sqK_2, sqK_3, sqK_4, sqK_i, sq_K, swK_0, swK_1, swK_2, swK_3, swK_4, swK_i, sw_K, ifK_0, ifK_i, if_K, br_K, ct_K, rv_K, thr_K, rtK_0, rtK_i, rt_K, mfK_0, mfK_i, mf_K, mzK_i, mzK_0, mz_K, cpK_0, cpT_0, cp_K, tsK_0, tsK_i, ts_K, tsP_hit, tsP_next, tsP_low, tsP_nil, ini_0, ini_1, rdU_0, rdU_i, rdB_0, rdB_1, rdB_2, rdB_3, rdB_4, rdB_i, rdC_0, rdC_i, rnd_K, cmpI, addI, subI, mulI, i2lI, l2iI, minI, maxI, idI, up, ok_some, ok_ite, w32_id, ix_id, Int.toNat_add, Int.toNat_mul, ltI_t, ltI_f, leI_t, leI_f, eqI_t, eqI_f, u2_s, u2_v, u2_i, w3_m2, w3_m1, w3_0, w3_1, w3_2, w3_3, w3_4, w3_5, w3_6, w3_7, w3_8, w3_9, w3_10, w3_12, w3_20, w3_23, w3_24, w3_25, w3_32, w3_40, w3_50, w3_100, w3_120, w3_168, w3_200, w3_240, w3_255, w3_500, w3_592, w3_600, w3_900, w3_940, w3_999, w3_1000, w3_1009, w3_1184, w3_3333, w3_9999, if_true, if_false, reduceIte, true_and, and_true, false_and, and_false, true_or, or_true, false_or, or_false, not_true_eq_false, not_false_eq_true, decide_true, decide_false, decide_eq_true_eq, Bool.not_true, Bool.not_false, Bool.false_eq_true, Bool.not_eq_true', Bool.not_eq_eq_eq_not, decide_eq_false_iff_not, Int.not_lt, Int.not_le, Nat.not_le, Nat.not_lt, Nat.le_refl, Int.le_refl, Nat.lt_irrefl, Int.lt_irrefl, reduceCtorEq, Nat.reduceEqDiff, Nat.reduceAdd, Nat.reduceMul, Nat.reduceBEq, Int.reduceNeg, Int.reduceAdd, Int.toNat_natCast, Int.reduceToNat, ne_eq, Nat.zero_ne_one, true_or, Int.ofNat_lt, Int.ofNat_le, Int.natCast_add, Int.cast_ofNat_Int, Int.natCast_zero, am0, q1, fw]
        exact fin
    obtain ⟨⟨x1, x2⟩, h1, h2⟩ := main
    obtain ⟨k1, k2⟩ := (hQQ _).mp h2
    simp only at k1 k2
    subst k1
    exact ⟨x2, h1, k2⟩
  | succ k ih =>
    intro i d m st hi hd hs0 hs1 hR
    have qa := hN.2.2.1 (a i) (ha i (by omega))
    obtain ⟨A, hA⟩ : ∃ A : Nat, A = a i := ⟨_, rfl⟩
    obtain ⟨hh, hhh⟩ : ∃ hh : Nat, N (31 + 6 * a i) = hh := ⟨(N (31 + 6 * a i)).toNat, by omega⟩
    have haA := ha i (by omega)
    have c0 := hN.1
    obtain ⟨ND, hND⟩ : ∃ ND : Nat, ND = ndN N a hr i := ⟨_, rfl⟩
    have nd1 : (∀ n, n < ND → n < 7 ∧ 24 * n + hr + hh ≤ 168) ∧ ND ≤ 7 ∧ (ND = 7 ∨ (ND = 6 ∧ 168 < 144 + hr + hh)) := by
      rw [hND]
      unfold ndN
      rw [hhh]
      split
      · exact ⟨fun n hn => by omega, by omega, by omega⟩
      · exact ⟨fun n hn => by omega, by omega, by omega⟩
    obtain ⟨nd1, nd2, nd3⟩ := nd1
    obtain ⟨it, hit⟩ : ∃ it, it = fun n => itr (fun n r => trS (dhs N a hr) (ndN N a hr) k (upN d i n) (i + 1) r) n st := ⟨_, rfl⟩
    have it0 : it 0 = st := by rw [hit]; rfl
    have itS : ∀ n, it (n + 1) = trS (dhs N a hr) (ndN N a hr) k (upN d i n) (i + 1) (it n) := fun n => by rw [hit]; rfl
    have itB : ∀ n, 0 ≤ (it n).1 ∧ (it n).1 ≤ 1009 := by
      intro n
      induction n with
      | zero => rw [it0]; exact ⟨hs0, hs1⟩
      | succ n ihn => rw [itS]; exact trS_bd (fun d i => dhs_bd hN) k _ _ _ ihn.1 ihn.2
    have eT : trS (dhs N a hr) (ndN N a hr) (k + 1) d i st = it ND := by rw [hit, hND]; rfl
    rw [eT]
    clear eT hit
    have step : ∀ n s, n < ND → rfS μ s N a hr d B T i (it n) → ∃ s3, g_M_tryDays (F + k + 1) [0, (i : Int) + 1, hr] (u2 (u2 (u2 (u2 (u2 s 1280 i n) 128 (161 + 3 * (B + i)) (24 * (n : Int) + hr)) 128 (162 + 3 * (B + i)) A) 128 (163 + 3 * (B + i)) hh) 128 160 (((B + i : Nat) : Int) + 1)) = some (0, s3) ∧ s3 128 160 = ((B + i : Nat) : Int) + 1 ∧ rfS μ (u2 s3 128 160 ((B + i : Nat) : Int)) N a hr d B T i (it (n + 1)) := by
      intro n s hn hR
      obtain ⟨r1, r2, r3, r4, r5, r6⟩ := hR
      obtain ⟨w1, w2, w3, w4, w5⟩ := r3
      generalize hs1' : u2 (u2 (u2 (u2 (u2 s 1280 i n) 128 (161 + 3 * (B + i)) (24 * (n : Int) + hr)) 128 (162 + 3 * (B + i)) A) 128 (163 + 3 * (B + i)) hh) 128 160 (((B + i : Nat) : Int) + 1) = s1
      have uf : ∀ v, v ≠ 1280 → v ≠ 128 → s1 v = s v := fun v h1 h2 => by rw [← hs1']; funext x; simp [u2, h1, h2]
      have ud : ∀ j, s1 1280 j = if j = i then (n : Int) else s 1280 j := fun j => by rw [← hs1']; simp [u2]
      have un : ∀ x, s1 128 x = if x = 160 then ((B + i : Nat) : Int) + 1 else if x = 163 + 3 * (B + i) then (hh : Int) else if x = 162 + 3 * (B + i) then (A : Int) else if x = 161 + 3 * (B + i) then 24 * (n : Int) + hr else s 128 x := fun x => by rw [← hs1']; simp [u2]
      clear hs1'
      have hR1 : rfS μ s1 N a hr (upN d i n) B T (i + 1) (it n) := by
        refine ⟨fun v hv => by
          rw [uf v (fun q => by subst q; simp [dmV] at hv) (fun q => by subst q; simp [dmV] at hv)]; exact r1 v hv, by rw [uf _ (by decide) (by decide)]; exact r2, ⟨fun x hx => ?_, fun x hx => ?_, ?_, fun x h1 h2 => ?_, fun j hj => ?_⟩, fun j hj => ?_, by rw [uf _ (by decide) (by decide)]; exact r5, fun q j hj => by rw [uf _ (by decide) (by decide)]; exact r6 q j hj⟩
        · rw [un, if_neg (by omega), if_neg (by omega), if_neg (by omega), if_neg (by omega)]; exact w1 x hx
        · rw [un, if_neg (by omega), if_neg (by omega), if_neg (by omega), if_neg (by omega)]; exact w2 x hx
        · rw [un, if_pos rfl]; omega
        · rw [un, if_neg (by omega), if_neg (by omega), if_neg (by omega), if_neg (by omega)]; exact w4 x h1 h2
        · by_cases e : j = i
          · subst e
            rw [un, un, un, if_neg (by omega), if_neg (by omega), if_neg (by omega), if_pos rfl, if_neg (by omega), if_neg (by omega), if_pos rfl, if_neg (by omega), if_pos rfl, upN_s, hA, hhh]
            exact ⟨by omega, rfl, rfl⟩
          · rw [un, un, un, if_neg (by omega), if_neg (by omega), if_neg (by omega), if_neg (by omega), if_neg (by omega), if_neg (by omega), if_neg (by omega), if_neg (by omega), if_neg (by omega), if_neg (by omega), if_neg (by omega), if_neg (by omega), upN_o e]
            exact w5 j (by omega)
        · rw [ud]
          by_cases e : j = i
          · subst e; rw [if_pos rfl, upN_s]
          · rw [if_neg e, upN_o e]; exact r4 j (by omega)
      obtain ⟨s3, t1, t2⟩ := ih (i + 1) (upN d i n) s1 (it n) (by omega) (fun j hj => by
        by_cases e : j = i
        · subst e; rw [upN_s, hhh]; have := nd1 n hn; omega
        · rw [upN_o e]; exact hd j (by omega)) (itB n).1 (itB n).2 hR1
      rw [itS]
      obtain ⟨z1', z2, ⟨y1, y2, y3, y4, y5⟩, z4, z5, z6⟩ := t2
      have vf : ∀ v, v ≠ 128 → u2 s3 128 160 ((B + i : Nat) : Int) v = s3 v := fun v h => by funext x; simp [u2, h]
      have vn : ∀ x, x ≠ 160 → u2 s3 128 160 ((B + i : Nat) : Int) 128 x = s3 128 x := fun x h => by simp [u2, h]
      rw [show ((i + 1 : Nat) : Int) = (i : Int) + 1 by omega] at t1
      refine ⟨s3, t1, by rw [y3]; omega, fun v hv => ?_, by rw [vf _ (by decide)]; exact z2, ⟨fun x hx => by rw [vn x (by omega)]; exact y1 x hx, fun x hx => by rw [vn x (by omega)]; exact y2 x hx, by simp [u2], fun x h1 h2 => by rw [vn x (by omega)]; exact y4 x h1 h2, fun j hj => ?_⟩, fun j hj => by rw [vf _ (by decide), z4 j (by omega), upN_o (by omega)], by rw [vf _ (by decide)]; exact z5, fun q j hj => by rw [vf _ (by decide)]; exact z6 q j hj⟩
      · rw [vf v (fun q => by subst q; simp [dmV] at hv)]; exact z1' v hv
      · rw [vn _ (by omega), vn _ (by omega), vn _ (by omega)]
        have := y5 j (by omega)
        rw [upN_o (by omega)] at this
        exact this
    obtain ⟨QQ, hQQ⟩ : ∃ Q : Int × Me → Prop, ∀ q, Q q ↔ (q.1 = 0 ∧ rfS μ q.2 N a hr d B T i (it ND)) := ⟨_, fun _ => Iff.rfl⟩
    have main : ok (g_M_tryDays (F + (k + 1) + 1) [0, i, hr] m) QQ := by
      have am0 : m 42 0 = T := by rw [hR.1 _ (by decide)]; exact hmy
      have as0 : m 1216 i = A := by rw [hR.1 _ (by decide), hA]; exact has i (by omega)
      have nw0 : m 128 (30 + 6 * A + 1) = hh := by rw [hR.2.2.1.1 _ (by omega), hA, ← hhh]; exact congrArg N (by omega)
      have e31 : 30 + 6 * A + 1 = 31 + 6 * A := by omega
      rw [← hA] at haA
      obtain ⟨GF, hGF⟩ : ∃ G, G = g_M_tryDays (F + (k + 1)) := ⟨_, rfl⟩
      have eG : g_M_tryDays (F + (k + 1) + 1) = mthF [0, 1, 2] (b_M_tryDays GF) := by rw [hGF]; rfl
      rw [eG]
      clear eG
      simp only [b_M_tryDays]
      simp (disch := first | decide | omega) only [cE_K, vE_K, gE_K, o1K_0, o1K_i, o1_K, o2L_0, o2L_i, o2K_0, o2K_i, o2_K, thK_0, thK_i, th_K, dvL_0, dvL_i, dvK_0, dvK_i, dv_K, rmL_0, rmL_i, rmK_0, rmK_i, rm_K, dlL_0, dlL_i, dlK_0, dlK_i, dl_K, ldQ_0, ldQ_i, ldL_0, ldL_i, ldK_0, ldK_i, ld_K, kK_0, kK_i, k_K, aL_0, aL_i, aK_0, aK_i, aE_0, aE_1, clK_0, clK_i, cl_K, cBL_0, cBL_i, cBK_0, cBK_i, cB_K, zBK_0, zBK_i, zB_K, nBK_0, nBK_i, nB_K, andK_0, andK_i, and_K, orK_0, orK_i, or_K, tkK_0, tkK_i, tk_K, sk_K, stK_0, stK_i, st_K, exK_0, exK_i, ex_K, in_K, pfL_0, pfL_i, pfK_0, pfK_i, pf_K, pzL_0, pzL_i, pzK_0, pzK_i, pz_K, poL_0, poL_i, poK_0, poK_i, po_K, asQ_0, asQ_i, asM_0, asM_i, asL_0, asL_i, asK_0, asK_i, as_K, aoM_0, aoM_i, aoQ_0, aoQ_i, aoL_0, aoL_i, aoK_0, aoK_i, ao_K, sqK_0, sqK_1, sqK_2, sqK_3, sqK_4, sqK_i, sq_K, swK_0, swK_1, swK_2, swK_3, swK_4, swK_i, sw_K, ifK_0, ifK_i, if_K, br_K, ct_K, rv_K, thr_K, rtK_0, rtK_i, rt_K, mfK_0, mfK_i, mf_K, mzK_i, mzK_0, mz_K, cpK_0, cpT_0, cp_K, tsK_0, tsK_i, ts_K, tsP_hit, tsP_next, tsP_low, tsP_nil, ini_0, ini_1, rdU_0, rdU_i, rdB_0, rdB_1, rdB_2, rdB_3, rdB_4, rdB_i, rdC_0, rdC_i, rnd_K, cmpI, addI, subI, mulI, i2lI, l2iI, minI, maxI, idI, up, ok_some, ok_ite, w32_id, ix_id, Int.toNat_add, Int.toNat_mul, ltI_t, ltI_f, leI_t, leI_f, eqI_t, eqI_f, u2_s, u2_v, u2_i, w3_m2, w3_m1, w3_0, w3_1, w3_2, w3_3, w3_4, w3_5, w3_6, w3_7, w3_8, w3_9, w3_10, w3_12, w3_20, w3_23, w3_24, w3_25, w3_32, w3_40, w3_50, w3_100, w3_120, w3_168, w3_200, w3_240, w3_255, w3_500, w3_592, w3_600, w3_900, w3_940, w3_999, w3_1000, w3_1009, w3_1184, w3_3333, w3_9999, if_true, if_false, reduceIte, true_and, and_true, false_and, and_false, true_or, or_true, false_or, or_false, not_true_eq_false, not_false_eq_true, decide_true, decide_false, decide_eq_true_eq, Bool.not_true, Bool.not_false, Bool.false_eq_true, Bool.not_eq_true', Bool.not_eq_eq_eq_not, decide_eq_false_iff_not, Int.not_lt, Int.not_le, Nat.not_le, Nat.not_lt, Nat.le_refl, Int.le_refl, Nat.lt_irrefl, Int.lt_irrefl, reduceCtorEq, Nat.reduceEqDiff, Nat.reduceAdd, Nat.reduceMul, Nat.reduceBEq, Int.reduceNeg, Int.reduceAdd, Int.toNat_natCast, Int.reduceToNat, ne_eq, Nat.zero_ne_one, true_or, Int.ofNat_lt, Int.ofNat_le, Int.natCast_add, Int.cast_ofNat_Int, Int.natCast_zero, am0, as0, nw0]
      obtain ⟨I, hI⟩ : ∃ I : Nat → Lo → Me → Prop, ∀ n ρ s, I n ρ s ↔ (ρ 1 = i ∧ ρ 2 = hr ∧ ρ 3 = hh ∧ ρ 4 = n ∧ rfS μ s N a hr d B T i (it n)) := ⟨fun n ρ s => ρ 1 = i ∧ ρ 2 = hr ∧ ρ 3 = hh ∧ ρ 4 = n ∧ rfS μ s N a hr d B T i (it n), fun _ _ _ => Iff.rfl⟩
      refine ok_mfK (ok_sqK (wh_gen I ND (by omega) ((hI _ _ _).mpr ⟨by simp [up], by simp [up], by simp [up], by simp [up], by rw [it0]; exact hR⟩) ?_))
      intro n ρ s hn hIn
      obtain ⟨g1, g2, g3, g4, g5⟩ := (hI _ _ _).mp hIn
      rcases Nat.lt_or_eq_of_le hn with hn | rfl
      · obtain ⟨s3, x1, x2, x3⟩ := step n s hn g5
        obtain ⟨n7, n8⟩ := nd1 n hn
        have as1 : s 1216 i = A := by rw [g5.1 _ (by decide), hA]; exact has i (by omega)
        have bl1 : s 128 160 = ((B + i : Nat) : Int) := g5.2.2.1.2.2.1
        have eb := M_addBell_eq (μ := u2 s 1280 i n) (K := B + i) (a := 24 * (n : Int) + hr) (g := A) (h := hh) (by simp [u2]; rw [bl1]; omega) (by omega)
        rw [Nat.add_assoc, ← hGF] at x1
        have e1 : ((B + i : Nat) : Int) + 1 - 1 = ((B + i : Nat) : Int) := by omega
        obtain ⟨BI, hBI⟩ : ∃ BI : Nat, BI = B + i := ⟨_, rfl⟩
        rw [← hBI] at x1 x2 x3 eb e1
        clear hIn step ih
        simp (disch := first | decide | omega) only [cE_K, vE_K, gE_K, o1K_0, o1K_i, o1_K, o2L_0, o2L_i, o2K_0, o2K_i, o2_K, thK_0, thK_i, th_K, dvL_0, dvL_i, dvK_0, dvK_i, dv_K, rmL_0, rmL_i, rmK_0, rmK_i, rm_K, dlL_0, dlL_i, dlK_0, dlK_i, dl_K, ldQ_0, ldQ_i, ldL_0, ldL_i, ldK_0, ldK_i, ld_K, kK_0, kK_i, k_K, aL_0, aL_i, aK_0, aK_i, aE_0, aE_1, clK_0, clK_i, cl_K, cBL_0, cBL_i, cBK_0, cBK_i, cB_K, zBK_0, zBK_i, zB_K, nBK_0, nBK_i, nB_K, andK_0, andK_i, and_K, orK_0, orK_i, or_K, tkK_0, tkK_i, tk_K, sk_K, stK_0, stK_i, st_K, exK_0, exK_i, ex_K, in_K, pfL_0, pfL_i, pfK_0, pfK_i, pf_K, pzL_0, pzL_i, pzK_0, pzK_i, pz_K, poL_0, poL_i, poK_0, poK_i, po_K, asQ_0, asQ_i, asM_0, asM_i, asL_0, asL_i, asK_0, asK_i, as_K, aoM_0, aoM_i, aoQ_0, aoQ_i, aoL_0, aoL_i, aoK_0, aoK_i, ao_K, sqK_0, sqK_1, sqK_2, sqK_3, sqK_4, sqK_i, sq_K, swK_0, swK_1, swK_2, swK_3, swK_4, swK_i, sw_K, ifK_0, ifK_i, if_K, br_K, ct_K, rv_K, thr_K, rtK_0, rtK_i, rt_K, mfK_0, mfK_i, mf_K, mzK_i, mzK_0, mz_K, cpK_0, cpT_0, cp_K, tsK_0, tsK_i, ts_K, tsP_hit, tsP_next, tsP_low, tsP_nil, ini_0, ini_1, rdU_0, rdU_i, rdB_0, rdB_1, rdB_2, rdB_3, rdB_4, rdB_i, rdC_0, rdC_i, rnd_K, cmpI, addI, subI, mulI, i2lI, l2iI, minI, maxI, idI, up, ok_some, ok_ite, w32_id, ix_id, Int.toNat_add, Int.toNat_mul, ltI_t, ltI_f, leI_t, leI_f, eqI_t, eqI_f, u2_s, u2_v, u2_i, w3_m2, w3_m1, w3_0, w3_1, w3_2, w3_3, w3_4, w3_5, w3_6, w3_7, w3_8, w3_9, w3_10, w3_12, w3_20, w3_23, w3_24, w3_25, w3_32, w3_40, w3_50, w3_100, w3_120, w3_168, w3_200, w3_240, w3_255, w3_500, w3_592, w3_600, w3_900, w3_940, w3_999, w3_1000, w3_1009, w3_1184, w3_3333, w3_9999, if_true, if_false, reduceIte, true_and, and_true, false_and, and_false, true_or, or_true, false_or, or_false, not_true_eq_false, not_false_eq_true, decide_true, decide_false, decide_eq_true_eq, Bool.not_true, Bool.not_false, Bool.false_eq_true, Bool.not_eq_true', Bool.not_eq_eq_eq_not, decide_eq_false_iff_not, Int.not_lt, Int.not_le, Nat.not_le, Nat.not_lt, Nat.le_refl, Int.le_refl, Nat.lt_irrefl, Int.lt_irrefl, reduceCtorEq, Nat.reduceEqDiff, Nat.reduceAdd, Nat.reduceMul, Nat.reduceBEq, Int.reduceNeg, Int.reduceAdd, Int.toNat_natCast, Int.reduceToNat, ne_eq, Nat.zero_ne_one, true_or, Int.ofNat_lt, Int.ofNat_le, Int.natCast_add, Int.cast_ofNat_Int, Int.natCast_zero, g1, g2, g3, g4, as1, eb, x1, x2, e1]
        exact ⟨hn, (hI _ _ _).mpr ⟨by simp [up, g1], by simp [up, g2], by simp [up, g3], by simp [up], x3⟩⟩
      · have fin : QQ (0, s) := (hQQ _).mpr ⟨rfl, g5⟩
        clear hIn step ih
        rcases nd3 with e | ⟨e, e2⟩
        · simp (disch := first | decide | omega) only [cE_K, vE_K, gE_K, o1K_0, o1K_i, o1_K, o2L_0, o2L_i, o2K_0, o2K_i, o2_K, thK_0, thK_i, th_K, dvL_0, dvL_i, dvK_0, dvK_i, dv_K, rmL_0, rmL_i, rmK_0, rmK_i, rm_K, dlL_0, dlL_i, dlK_0, dlK_i, dl_K, ldQ_0, ldQ_i, ldL_0, ldL_i, ldK_0, ldK_i, ld_K, kK_0, kK_i, k_K, aL_0, aL_i, aK_0, aK_i, aE_0, aE_1, clK_0, clK_i, cl_K, cBL_0, cBL_i, cBK_0, cBK_i, cB_K, zBK_0, zBK_i, zB_K, nBK_0, nBK_i, nB_K, andK_0, andK_i, and_K, orK_0, orK_i, or_K, tkK_0, tkK_i, tk_K, sk_K, stK_0, stK_i, st_K, exK_0, exK_i, ex_K, in_K, pfL_0, pfL_i, pfK_0, pfK_i, pf_K, pzL_0, pzL_i, pzK_0, pzK_i, pz_K, poL_0, poL_i, poK_0, poK_i, po_K, asQ_0, asQ_i, asM_0, asM_i, asL_0, asL_i, asK_0, asK_i, as_K, aoM_0, aoM_i, aoQ_0, aoQ_i, aoL_0, aoL_i, aoK_0, aoK_i, ao_K, sqK_0, sqK_1, sqK_2, sqK_3, sqK_4, sqK_i, sq_K, swK_0, swK_1, swK_2, swK_3, swK_4, swK_i, sw_K, ifK_0, ifK_i, if_K, br_K, ct_K, rv_K, thr_K, rtK_0, rtK_i, rt_K, mfK_0, mfK_i, mf_K, mzK_i, mzK_0, mz_K, cpK_0, cpT_0, cp_K, tsK_0, tsK_i, ts_K, tsP_hit, tsP_next, tsP_low, tsP_nil, ini_0, ini_1, rdU_0, rdU_i, rdB_0, rdB_1, rdB_2, rdB_3, rdB_4, rdB_i, rdC_0, rdC_i, rnd_K, cmpI, addI, subI, mulI, i2lI, l2iI, minI, maxI, idI, up, ok_some, ok_ite, w32_id, ix_id, Int.toNat_add, Int.toNat_mul, ltI_t, ltI_f, leI_t, leI_f, eqI_t, eqI_f, u2_s, u2_v, u2_i, w3_m2, w3_m1, w3_0, w3_1, w3_2, w3_3, w3_4, w3_5, w3_6, w3_7, w3_8, w3_9, w3_10, w3_12, w3_20, w3_23, w3_24, w3_25, w3_32, w3_40, w3_50, w3_100, w3_120, w3_168, w3_200, w3_240, w3_255, w3_500, w3_592, w3_600, w3_900, w3_940, w3_999, w3_1000, w3_1009, w3_1184, w3_3333, w3_9999, if_true, if_false, reduceIte, true_and, and_true, false_and, and_false, true_or, or_true, false_or, or_false, not_true_eq_false, not_false_eq_true, decide_true, decide_false, decide_eq_true_eq, Bool.not_true, Bool.not_false, Bool.false_eq_true, Bool.not_eq_true', Bool.not_eq_eq_eq_not, decide_eq_false_iff_not, Int.not_lt, Int.not_le, Nat.not_le, Nat.not_lt, Nat.le_refl, Int.le_refl, Nat.lt_irrefl, Int.lt_irrefl, reduceCtorEq, Nat.reduceEqDiff, Nat.reduceAdd, Nat.reduceMul, Nat.reduceBEq, Int.reduceNeg, Int.reduceAdd, Int.toNat_natCast, Int.reduceToNat, ne_eq, Nat.zero_ne_one, true_or, Int.ofNat_lt, Int.ofNat_le, Int.natCast_add, Int.cast_ofNat_Int, Int.natCast_zero, g1, g2, g3, g4, e]
          exact fin
        · simp (disch := first | decide | omega) only [cE_K, vE_K, gE_K, o1K_0, o1K_i, o1_K, o2L_0, o2L_i, o2K_0, o2K_i, o2_K, thK_0, thK_i, th_K, dvL_0, dvL_i, dvK_0, dvK_i, dv_K, rmL_0, rmL_i, rmK_0, rmK_i, rm_K, dlL_0, dlL_i, dlK_0, dlK_i, dl_K, ldQ_0, ldQ_i, ldL_0, ldL_i, ldK_0, ldK_i, ld_K, kK_0, kK_i, k_K, aL_0, aL_i, aK_0, aK_i, aE_0, aE_1, clK_0, clK_i, cl_K, cBL_0, cBL_i, cBK_0, cBK_i, cB_K, zBK_0, zBK_i, zB_K, nBK_0, nBK_i, nB_K, andK_0, andK_i, and_K, orK_0, orK_i, or_K, tkK_0, tkK_i, tk_K, sk_K, stK_0, stK_i, st_K, exK_0, exK_i, ex_K, in_K, pfL_0, pfL_i, pfK_0, pfK_i, pf_K, pzL_0, pzL_i, pzK_0, pzK_i, pz_K, poL_0, poL_i, poK_0, poK_i, po_K, asQ_0, asQ_i, asM_0, asM_i, asL_0, asL_i, asK_0, asK_i, as_K, aoM_0, aoM_i, aoQ_0, aoQ_i, aoL_0, aoL_i, aoK_0, aoK_i, ao_K, sqK_0, sqK_1, sqK_2, sqK_3, sqK_4, sqK_i, sq_K, swK_0, swK_1, swK_2, swK_3, swK_4, swK_i, sw_K, ifK_0, ifK_i, if_K, br_K, ct_K, rv_K, thr_K, rtK_0, rtK_i, rt_K, mfK_0, mfK_i, mf_K, mzK_i, mzK_0, mz_K, cpK_0, cpT_0, cp_K, tsK_0, tsK_i, ts_K, tsP_hit, tsP_next, tsP_low, tsP_nil, ini_0, ini_1, rdU_0, rdU_i, rdB_0, rdB_1, rdB_2, rdB_3, rdB_4, rdB_i, rdC_0, rdC_i, rnd_K, cmpI, addI, subI, mulI, i2lI, l2iI, minI, maxI, idI, up, ok_some, ok_ite, w32_id, ix_id, Int.toNat_add, Int.toNat_mul, ltI_t, ltI_f, leI_t, leI_f, eqI_t, eqI_f, u2_s, u2_v, u2_i, w3_m2, w3_m1, w3_0, w3_1, w3_2, w3_3, w3_4, w3_5, w3_6, w3_7, w3_8, w3_9, w3_10, w3_12, w3_20, w3_23, w3_24, w3_25, w3_32, w3_40, w3_50, w3_100, w3_120, w3_168, w3_200, w3_240, w3_255, w3_500, w3_592, w3_600, w3_900, w3_940, w3_999, w3_1000, w3_1009, w3_1184, w3_3333, w3_9999, if_true, if_false, reduceIte, true_and, and_true, false_and, and_false, true_or, or_true, false_or, or_false, not_true_eq_false, not_false_eq_true, decide_true, decide_false, decide_eq_true_eq, Bool.not_true, Bool.not_false, Bool.false_eq_true, Bool.not_eq_true', Bool.not_eq_eq_eq_not, decide_eq_false_iff_not, Int.not_lt, Int.not_le, Nat.not_le, Nat.not_lt, Nat.le_refl, Int.le_refl, Nat.lt_irrefl, Int.lt_irrefl, reduceCtorEq, Nat.reduceEqDiff, Nat.reduceAdd, Nat.reduceMul, Nat.reduceBEq, Int.reduceNeg, Int.reduceAdd, Int.toNat_natCast, Int.reduceToNat, ne_eq, Nat.zero_ne_one, true_or, Int.ofNat_lt, Int.ofNat_le, Int.natCast_add, Int.cast_ofNat_Int, Int.natCast_zero, g1, g2, g3, g4, e]
          exact fin
    obtain ⟨⟨x1, x2⟩, h1, h2⟩ := main
    obtain ⟨k1, k2⟩ := (hQQ _).mp h2
    simp only at k1 k2
    subst k1
    exact ⟨x2, h1, k2⟩
