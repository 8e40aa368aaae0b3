def djV : List Nat := [128, 22, 640, 960, 704, 768, 832, 896, 1024, 1088, 43, 1344, 1280, 1216, 42, 44, 1408]
set_option maxHeartbeats 4000000 in
theorem days_m {μ ν : Me} {N : Nat → Int} {x : Int} {T B G : Nat} {y : Nat → Int} {a : Nat → Nat} (ha : ∀ i, i < T → y i = a i) (hok : okN N) (hx : rg x) (hT : T ≤ 940) (hp : m_M_lay [0] (u2 μ 0 0 0) = some (0, ν)) (hn : ν 128 = N) (hb : ν 22 0 = 1) (hpu : ν 34 0 = -1) (hl : ν 2 0 = T) (hy : ∀ i, i < T → ν 64 i = y i ∧ 0 ≤ y i ∧ y i < 256) (hB : N 160 = B) (hG : N 2 = G) :
    (¬ askG y G B T x → ∃ κ, m_M_days [0, x] μ = some (-2, κ) ∧ fr [1216] (u2 ν 2 0 0) κ) ∧ (∀ hr : Nat, x = hr → askG y G B T x → ∃ κ st, m_M_days [0, x] μ = some (st.1, κ) ∧ fr djV (u2 ν 2 0 0) κ ∧ κ 22 0 = 1 ∧ roR N (κ 128) a hr (fun _ => 0) B 0 ∧ κ 44 0 = T ∧ (∀ j, j < T → κ 1408 j = st.2 j) ∧ st = trS (dhs N a hr) (ndN N a hr) T (fun _ => 0) 0 (1009, fun _ => 0)) := by
  have hN := hok.1
  have c0 := hN.1
  have b0 := hok.2.1.1
  have et := M_take_eq hl
  have l0 : ∀ v, v ≠ 2 → u2 ν 2 0 0 v = ν v := fun v hv => by funext i; simp [u2, hv]
  generalize hs1 : u2 ν 2 0 0 = ν1 at *
  have n1 : ν1 128 = N := by rw [l0 _ (by decide)]; exact hn
  have bl1 : ν1 128 160 = B := by rw [n1]; exact hB
  have tp : ∀ i, i < T → ν1 64 i = y i := fun i hi => by rw [l0 _ (by decide)]; exact (hy i hi).1
  unfold rg at hx
  have in4 : ∀ s : Me, m_M_isIn [(T : Int), 1, 4] s = some (z1 (decide (1 ≤ T ∧ T ≤ 4)), s) := fun s => by
    rw [M_isIn_eq, show w32 (T : Int) = T from w32_id (by omega) (by omega), w3_1, w3_4, decide_eq_decide.mpr (show (1 ≤ (T : Int) ∧ (T : Int) ≤ 4) ↔ (1 ≤ T ∧ T ≤ 4) by omega)]
  have in23 : ∀ s : Me, m_M_isIn [x, 0, 23] s = some (z1 (decide (0 ≤ x ∧ x < 24)), s) := fun s => by
    rw [M_isIn_eq, show w32 x = x from w32_id (by omega) (by omega), w3_0, w3_23, decide_eq_decide.mpr (show (0 ≤ x ∧ x ≤ 23) ↔ (0 ≤ x ∧ x < 24) by omega)]
  obtain ⟨st, hst⟩ : ∃ st : Nat → Int × (Nat → Nat), ∀ hr, st hr = trS (dhs N a hr) (ndN N a hr) T (fun _ => 0) 0 (1009, fun _ => 0) := ⟨_, fun _ => rfl⟩
  obtain ⟨QQ, hQQ⟩ : ∃ Q : Int × Me → Prop, ∀ q, Q q ↔ ((¬ askG y G B T x → q.1 = -2 ∧ fr [1216] ν1 q.2) ∧ (∀ hr : Nat, x = hr → askG y G B T x → q.1 = (st hr).1 ∧ fr djV ν1 q.2 ∧ q.2 22 0 = 1 ∧ roR N (q.2 128) a hr (fun _ => 0) B 0 ∧ q.2 44 0 = T ∧ (∀ j, j < T → q.2 1408 j = (st hr).2 j))) := ⟨_, fun _ => Iff.rfl⟩
  have main : ok (m_M_days [0, x] μ) QQ := by
    simp only [m_M_days, b_M_days]
    by_cases c1 : 1 ≤ T ∧ T ≤ 4
    · rw [decide_eq_true c1] at in4
      by_cases c2 : 0 ≤ x ∧ x < 24
      · rw [decide_eq_true c2] at in23
        by_cases c3 : B + T ≤ 40
        · simp (disch := first | decide | omega) only [cE_K, vE_K, gE_K, o1K_0, o1K_i, o1_K, o2L_0, o2L_i, o2K_0, o2K_i, o2_K, thK_0, thK_i, th_K, dvL_0, dvL_i, dvK_0, dvK_i, dv_K, rmL_0, rmL_i, rmK_0, rmK_i, rm_K, dlL_0, dlL_i, dlK_0, dlK_i, dl_K, ldQ_0, ldQ_i, ldL_0, ldL_i, ldK_0, ldK_i, ld_K, kK_0, kK_i, k_K, aL_0, aL_i, aK_0, aK_i, aE_0, aE_1, clK_0, clK_i, cl_K, cBL_0, cBL_i, cBK_0, cBK_i, cB_K, zBK_0, zBK_i, zB_K, nBK_0, nBK_i, nB_K, andK_0, andK_i, and_K, orK_0, orK_i, or_K, tkK_0, tkK_i, tk_K, sk_K, stK_0, stK_i, st_K, exK_0, exK_i, ex_K, in_K, pfL_0, pfL_i, pfK_0, pfK_i, pf_K, pzL_0, pzL_i, pzK_0, pzK_i, pz_K, poL_0, poL_i, poK_0, poK_i, po_K, asQ_0, asQ_i, asM_0, asM_i, asL_0, asL_i, asK_0, asK_i, as_K, aoM_0, aoM_i, aoQ_0, aoQ_i, aoL_0, aoL_i, aoK_0, aoK_i, ao_K, sqK_0, sqK_1, sqK_2, sqK_3, sqK_4, sqK_i, sq_K, swK_0, swK_1, swK_2, swK_3, swK_4, swK_i, sw_K, ifK_0, ifK_i, if_K, br_K, ct_K, rv_K, thr_K, rtK_0, rtK_i, rt_K, mfK_0, mfK_i, mf_K, mzK_i, mzK_0, mz_K, cpK_0, cpT_0, cp_K, tsK_0, tsK_i, ts_K, tsP_hit, tsP_next, tsP_low, tsP_nil, ini_0, ini_1, rdU_0, rdU_i, rdB_0, rdB_1, rdB_2, rdB_3, rdB_4, rdB_i, rdC_0, rdC_i, rnd_K, cmpI, addI, subI, mulI, i2lI, l2iI, minI, maxI, idI, up, ok_some, ok_ite, w32_id, ix_id, Int.toNat_add, Int.toNat_mul, ltI_t, ltI_f, leI_t, leI_f, eqI_t, eqI_f, u2_s, u2_v, u2_i, w3_m2, w3_m1, w3_0, w3_1, w3_2, w3_3, w3_4, w3_5, w3_6, w3_7, w3_8, w3_9, w3_10, w3_12, w3_20, w3_23, w3_24, w3_25, w3_32, w3_40, w3_50, w3_100, w3_120, w3_168, w3_200, w3_240, w3_255, w3_500, w3_592, w3_600, w3_900, w3_940, w3_999, w3_1000, w3_1009, w3_1184, w3_3333, w3_9999, if_true, if_false, reduceIte, true_and, and_true, false_and, and_false, true_or, or_true, false_or, or_false, not_true_eq_false, not_false_eq_true, decide_true, decide_false, decide_eq_true_eq, Bool.not_true, Bool.not_false, Bool.false_eq_true, Bool.not_eq_true', Bool.not_eq_eq_eq_not, decide_eq_false_iff_not, Int.not_lt, Int.not_le, Nat.not_le, Nat.not_lt, Nat.le_refl, Int.le_refl, Nat.lt_irrefl, Int.lt_irrefl, reduceCtorEq, Nat.reduceEqDiff, Nat.reduceAdd, Nat.reduceMul, Nat.reduceBEq, Int.reduceNeg, Int.reduceAdd, Int.toNat_natCast, Int.reduceToNat, ne_eq, Nat.zero_ne_one, true_or, Int.ofNat_lt, Int.ofNat_le, Int.natCast_add, Int.cast_ofNat_Int, Int.natCast_zero, hp, et, in4, in23, z1_t, Int.one_ne_zero, M_bells_eq, bl1]
          obtain ⟨I, hI⟩ : ∃ I : Nat → Lo → Me → Prop, ∀ n ρ s, I n ρ s ↔ (ρ 1 = x ∧ ρ 2 = T ∧ ρ 4 = n ∧ fr [1216] ν1 s ∧ okG y G n ∧ sbG y (ρ 3) n ∧ ∀ j, j < n → s 1216 j = y j) := ⟨fun n ρ s => ρ 1 = x ∧ ρ 2 = T ∧ ρ 4 = n ∧ fr [1216] ν1 s ∧ okG y G n ∧ sbG y (ρ 3) n ∧ ∀ j, j < n → s 1216 j = y j, fun _ _ _ => Iff.rfl⟩
          refine ok_mfK (ok_sqK (wh_gen I T (by omega) ((hI _ _ _).mpr ⟨by simp [up], by simp [up], by simp [up], fr_rfl, fun i hi => by omega, fun k hk => by simp [up, bt_0 hk], fun j hj => by omega⟩) ?_))
          intro n ρ s hn' hIn
          obtain ⟨g1, g2, g3, g4, g5, g6, g7⟩ := (hI _ _ _).mp hIn
          have gd : s 128 2 = G := by rw [g4 _ (by decide), n1]; exact hG
          rcases Nat.lt_or_eq_of_le hn' with hn' | rfl
          · have ht : s 64 n = y n := by rw [g4 _ (by decide)]; exact tp n hn'
            obtain ⟨_, y0, y1⟩ := hy n hn'
            obtain ⟨g, hg⟩ : ∃ g : Nat, y n = g := ⟨(y n).toNat, by omega⟩
            rw [hg] at ht y1
            clear hIn
            by_cases c4 : g < G
            · have ez := has_eq (w := ρ 3) (g := g) (by omega)
              cases c5 : bt (ρ 3) g
              · rw [c5] at ez
                simp (disch := first | decide | omega) only [cE_K, vE_K, gE_K, o1K_0, o1K_i, o1_K, o2L_0, o2L_i, o2K_0, o2K_i, o2_K, thK_0, thK_i, th_K, dvL_0, dvL_i, dvK_0, dvK_i, dv_K, rmL_0, rmL_i, rmK_0, rmK_i, rm_K, dlL_0, dlL_i, dlK_0, dlK_i, dl_K, ldQ_0, ldQ_i, ldL_0, ldL_i, ldK_0, ldK_i, ld_K, kK_0, kK_i, k_K, aL_0, aL_i, aK_0, aK_i, aE_0, aE_1, clK_0, clK_i, cl_K, cBL_0, cBL_i, cBK_0, cBK_i, cB_K, zBK_0, zBK_i, zB_K, nBK_0, nBK_i, nB_K, andK_0, andK_i, and_K, orK_0, orK_i, or_K, tkK_0, tkK_i, tk_K, sk_K, stK_0, stK_i, st_K, exK_0, exK_i, ex_K, in_K, pfL_0, pfL_i, pfK_0, pfK_i, pf_K, pzL_0, pzL_i, pzK_0, pzK_i, pz_K, poL_0, poL_i, poK_0, poK_i, po_K, asQ_0, asQ_i, asM_0, asM_i, asL_0, asL_i, asK_0, asK_i, as_K, aoM_0, aoM_i, aoQ_0, aoQ_i, aoL_0, aoL_i, aoK_0, aoK_i, ao_K, sqK_0, sqK_1, sqK_2, sqK_3, sqK_4, sqK_i, sq_K, swK_0, swK_1, swK_2, swK_3, swK_4, swK_i, sw_K, ifK_0, ifK_i, if_K, br_K, ct_K, rv_K, thr_K, rtK_0, rtK_i, rt_K, mfK_0, mfK_i, mf_K, mzK_i, mzK_0, mz_K, cpK_0, cpT_0, cp_K, tsK_0, tsK_i, ts_K, tsP_hit, tsP_next, tsP_low, tsP_nil, ini_0, ini_1, rdU_0, rdU_i, rdB_0, rdB_1, rdB_2, rdB_3, rdB_4, rdB_i, rdC_0, rdC_i, rnd_K, cmpI, addI, subI, mulI, i2lI, l2iI, minI, maxI, idI, up, ok_some, ok_ite, w32_id, ix_id, Int.toNat_add, Int.toNat_mul, ltI_t, ltI_f, leI_t, leI_f, eqI_t, eqI_f, u2_s, u2_v, u2_i, w3_m2, w3_m1, w3_0, w3_1, w3_2, w3_3, w3_4, w3_5, w3_6, w3_7, w3_8, w3_9, w3_10, w3_12, w3_20, w3_23, w3_24, w3_25, w3_32, w3_40, w3_50, w3_100, w3_120, w3_168, w3_200, w3_240, w3_255, w3_500, w3_592, w3_600, w3_900, w3_940, w3_999, w3_1000, w3_1009, w3_1184, w3_3333, w3_9999, if_true, if_false, reduceIte, true_and, and_true, false_and, and_false, true_or, or_true, false_or, or_false, not_true_eq_false, not_false_eq_true, decide_true, decide_false, decide_eq_true_eq, Bool.not_true, Bool.not_false, Bool.false_eq_true, Bool.not_eq_true', Bool.not_eq_eq_eq_not, decide_eq_false_iff_not, Int.not_lt, Int.not_le, Nat.not_le, Nat.not_lt, Nat.le_refl, Int.le_refl, Nat.lt_irrefl, Int.lt_irrefl, reduceCtorEq, Nat.reduceEqDiff, Nat.reduceAdd, Nat.reduceMul, Nat.reduceBEq, Int.reduceNeg, Int.reduceAdd, Int.toNat_natCast, Int.reduceToNat, ne_eq, Nat.zero_ne_one, true_or, Int.ofNat_lt, Int.ofNat_le, Int.natCast_add, Int.cast_ofNat_Int, Int.natCast_zero, g1, g2, g3, ht, M_guilds_eq, gd, M_has_eq, ez, z1_f]
                refine ⟨hn', (hI _ _ _).mpr ⟨by simp [up, g1], by simp [up, g2], by simp [up], fun v hv => ?_, okG_s.mpr ⟨g5, by omega, fun j hj q => ?_⟩, ?_, fun j hj => ?_⟩⟩
                · have : v ≠ 1216 := by simpa using hv
                  rw [← g4 v hv]
                  funext x; simp [u2, this]
                · have := (g6 g (by omega)).mpr ⟨j, hj, by omega⟩
                  rw [this] at c5; cases c5
                · have := sbG_s g6 hg (by omega)
                  simpa [up] using this
                · by_cases e : j = n
                  · subst e; simp [u2, hg]
                  · simp [u2, e]; exact g7 j (by omega)
              · rw [c5] at ez
                have bad : ¬ okG y G T := fun q => by
                  obtain ⟨j, j1, j2⟩ := (g6 g (by omega)).mp c5
                  have := (okG_s.mp (okG_le q hn')).2.2 j j1
                  omega
                have fin : QQ (-2, s) := (hQQ _).mpr ⟨fun _ => ⟨rfl, g4⟩, fun _ _ q => absurd q.2.2.2.2.2 bad⟩
                clear hQQ
                simp (disch := first | decide | omega) only [cE_K, vE_K, gE_K, o1K_0, o1K_i, o1_K, o2L_0, o2L_i, o2K_0, o2K_i, o2_K, thK_0, thK_i, th_K, dvL_0, dvL_i, dvK_0, dvK_i, dv_K, rmL_0, rmL_i, rmK_0, rmK_i, rm_K, dlL_0, dlL_i, dlK_0, dlK_i, dl_K, ldQ_0, ldQ_i, ldL_0, ldL_i, ldK_0, ldK_i, ld_K, kK_0, kK_i, k_K, aL_0, aL_i, aK_0, aK_i, aE_0, aE_1, clK_0, clK_i, cl_K, cBL_0, cBL_i, cBK_0, cBK_i, cB_K, zBK_0, zBK_i, zB_K, nBK_0, nBK_i, nB_K, andK_0, andK_i, and_K, orK_0, orK_i, or_K, tkK_0, tkK_i, tk_K, sk_K, stK_0, stK_i, st_K, exK_0, exK_i, ex_K, in_K, pfL_0, pfL_i, pfK_0, pfK_i, pf_K, pzL_0, pzL_i, pzK_0, pzK_i, pz_K, poL_0, poL_i, poK_0, poK_i, po_K, asQ_0, asQ_i, asM_0, asM_i, asL_0, asL_i, asK_0, asK_i, as_K, aoM_0, aoM_i, aoQ_0, aoQ_i, aoL_0, aoL_i, aoK_0, aoK_i, ao_K, sqK_0, sqK_1, sqK_2, sqK_3, sqK_4, sqK_i, sq_K, swK_0, swK_1, swK_2, swK_3, swK_4, swK_i, sw_K, ifK_0, ifK_i, if_K, br_K, ct_K, rv_K, thr_K, rtK_0, rtK_i, rt_K, mfK_0, mfK_i, mf_K, mzK_i, mzK_0, mz_K, cpK_0, cpT_0, cp_K, tsK_0, tsK_i, ts_K, tsP_hit, tsP_next, tsP_low, tsP_nil, ini_0, ini_1, rdU_0, rdU_i, rdB_0, rdB_1, rdB_2, rdB_3, rdB_4, rdB_i, rdC_0, rdC_i, rnd_K, cmpI, addI, subI, mulI, i2lI, l2iI, minI, maxI, idI, up, ok_some, ok_ite, w32_id, ix_id, Int.toNat_add, Int.toNat_mul, ltI_t, ltI_f, leI_t, leI_f, eqI_t, eqI_f, u2_s, u2_v, u2_i, w3_m2, w3_m1, w3_0, w3_1, w3_2, w3_3, w3_4, w3_5, w3_6, w3_7, w3_8, w3_9, w3_10, w3_12, w3_20, w3_23, w3_24, w3_25, w3_32, w3_40, w3_50, w3_100, w3_120, w3_168, w3_200, w3_240, w3_255, w3_500, w3_592, w3_600, w3_900, w3_940, w3_999, w3_1000, w3_1009, w3_1184, w3_3333, w3_9999, if_true, if_false, reduceIte, true_and, and_true, false_and, and_false, true_or, or_true, false_or, or_false, not_true_eq_false, not_false_eq_true, decide_true, decide_false, decide_eq_true_eq, Bool.not_true, Bool.not_false, Bool.false_eq_true, Bool.not_eq_true', Bool.not_eq_eq_eq_not, decide_eq_false_iff_not, Int.not_lt, Int.not_le, Nat.not_le, Nat.not_lt, Nat.le_refl, Int.le_refl, Nat.lt_irrefl, Int.lt_irrefl, reduceCtorEq, Nat.reduceEqDiff, Nat.reduceAdd, Nat.reduceMul, Nat.reduceBEq, Int.reduceNeg, Int.reduceAdd, Int.toNat_natCast, Int.reduceToNat, ne_eq, Nat.zero_ne_one, true_or, Int.ofNat_lt, Int.ofNat_le, Int.natCast_add, Int.cast_ofNat_Int, Int.natCast_zero, g1, g2, g3, ht, M_guilds_eq, gd, M_has_eq, ez, z1_t, Int.one_ne_zero]
                exact fin
            · have bad : ¬ okG y G T := fun q => by
                have := (okG_s.mp (okG_le q hn')).2.1
                omega
              have fin : QQ (-2, s) := (hQQ _).mpr ⟨fun _ => ⟨rfl, g4⟩, fun _ _ q => absurd q.2.2.2.2.2 bad⟩
              clear hQQ
              simp (disch := first | decide | omega) only [cE_K, vE_K, gE_K, o1K_0, o1K_i, o1_K, o2L_0, o2L_i, o2K_0, o2K_i, o2_K, thK_0, thK_i, th_K, dvL_0, dvL_i, dvK_0, dvK_i, dv_K, rmL_0, rmL_i, rmK_0, rmK_i, rm_K, dlL_0, dlL_i, dlK_0, dlK_i, dl_K, ldQ_0, ldQ_i, ldL_0, ldL_i, ldK_0, ldK_i, ld_K, kK_0, kK_i, k_K, aL_0, aL_i, aK_0, aK_i, aE_0, aE_1, clK_0, clK_i, cl_K, cBL_0, cBL_i, cBK_0, cBK_i, cB_K, zBK_0, zBK_i, zB_K, nBK_0, nBK_i, nB_K, andK_0, andK_i, and_K, orK_0, orK_i, or_K, tkK_0, tkK_i, tk_K, sk_K, stK_0, stK_i, st_K, exK_0, exK_i, ex_K, in_K, pfL_0, pfL_i, pfK_0, pfK_i, pf_K, pzL_0, pzL_i, pzK_0, pzK_i, pz_K, poL_0, poL_i, poK_0, poK_i, po_K, asQ_0, asQ_i, asM_0, asM_i, asL_0, asL_i, asK_0, asK_i, as_K, aoM_0, aoM_i, aoQ_0, aoQ_i, aoL_0, aoL_i, aoK_0, aoK_i, ao_K, sqK_0, sqK_1, sqK_2, sqK_3, sqK_4, sqK_i, sq_K, swK_0, swK_1, swK_2, swK_3, swK_4, swK_i, sw_K, ifK_0, ifK_i, if_K, br_K, ct_K, rv_K, thr_K, rtK_0, rtK_i, rt_K, mfK_0, mfK_i, mf_K, mzK_i, mzK_0, mz_K, cpK_0, cpT_0, cp_K, tsK_0, tsK_i, ts_K, tsP_hit, tsP_next, tsP_low, tsP_nil, ini_0, ini_1, rdU_0, rdU_i, rdB_0, rdB_1, rdB_2, rdB_3, rdB_4, rdB_i, rdC_0, rdC_i, rnd_K, cmpI, addI, subI, mulI, i2lI, l2iI, minI, maxI, idI, up, ok_some, ok_ite, w32_id, ix_id, Int.toNat_add, Int.toNat_mul, ltI_t, ltI_f, leI_t, leI_f, eqI_t, eqI_f, u2_s, u2_v, u2_i, w3_m2, w3_m1, w3_0, w3_1, w3_2, w3_3, w3_4, w3_5, w3_6, w3_7, w3_8, w3_9, w3_10, w3_12, w3_20, w3_23, w3_24, w3_25, w3_32, w3_40, w3_50, w3_100, w3_120, w3_168, w3_200, w3_240, w3_255, w3_500, w3_592, w3_600, w3_900, w3_940, w3_999, w3_1000, w3_1009, w3_1184, w3_3333, w3_9999, if_true, if_false, reduceIte, true_and, and_true, false_and, and_false, true_or, or_true, false_or, or_false, not_true_eq_false, not_false_eq_true, decide_true, decide_false, decide_eq_true_eq, Bool.not_true, Bool.not_false, Bool.false_eq_true, Bool.not_eq_true', Bool.not_eq_eq_eq_not, decide_eq_false_iff_not, Int.not_lt, Int.not_le, Nat.not_le, Nat.not_lt, Nat.le_refl, Int.le_refl, Nat.lt_irrefl, Int.lt_irrefl, reduceCtorEq, Nat.reduceEqDiff, Nat.reduceAdd, Nat.reduceMul, Nat.reduceBEq, Int.reduceNeg, Int.reduceAdd, Int.toNat_natCast, Int.reduceToNat, ne_eq, Nat.zero_ne_one, true_or, Int.ofNat_lt, Int.ofNat_le, Int.natCast_add, Int.cast_ofNat_Int, Int.natCast_zero, g1, g2, g3, ht, M_guilds_eq, gd]
              exact fin
          · -- all are taken
            clear hIn
            obtain ⟨hr, rfl⟩ : ∃ hr : Nat, x = hr := ⟨x.toNat, by omega⟩
            have ask : askG y G B n hr := ⟨by omega, by omega, c1.1, c1.2, c3, g5⟩
            have uf : ∀ v, v ≠ 42 → v ≠ 43 → u2 (u2 s 42 0 n) 43 0 (-1) v = s v := fun v h1 h2 => by funext z; simp [u2, h1, h2]
            generalize hs2 : u2 (u2 s 42 0 n) 43 0 (-1) = s2 at *
            obtain ⟨s3, z1', z2⟩ := tryDays_m (μ := s2) (N := N) (a := a) (hr := hr) (B := B) (T := n) hN hok.2.1 hB c1.2 c3 (by omega) (fun j hj => by
              have := (g5 j hj).1
              rw [ha j hj] at this; omega) (by rw [uf _ (by decide) (by decide), g4 _ (by decide), l0 _ (by decide)]; exact hpu) (by rw [← hs2]; simp [u2]) (fun j hj => by rw [uf _ (by decide) (by decide), g7 j hj, ha j hj]) (59 - n) n 0 (fun _ => 0) s2 (1009, fun _ => 0) (by omega) (fun j hj => by omega) (by simp) (by simp) ⟨fr_rfl, by rw [uf _ (by decide) (by decide), g4 _ (by decide), l0 _ (by decide)]; exact hb, (by
                rw [uf _ (by decide) (by decide), g4 _ (by decide), n1]
                exact ⟨fun _ _ => rfl, fun _ _ => rfl, by rw [hB]; omega, fun _ _ _ => rfl, fun j hj => by omega⟩), fun j hj => by omega, (by rw [← hs2]; simp [u2, encI]), fun q => absurd rfl q⟩
            rw [← hst] at z2
            rw [show 59 - n + n + 1 = 60 by omega] at z1'
            have lt : (st hr).1 ≤ 1008 ∧ 0 ≤ (st hr).1 := by
              rw [hst]
              exact ⟨trS_lt (fun d i => dhs_bd hN) (fun i => by unfold ndN; split <;> omega) _ _ _ _, (trS_bd (fun d i => dhs_bd hN) _ _ _ _ (by simp) (by simp)).1⟩
            obtain ⟨w1, w2, w3, w4, w5, w6⟩ := z2
            have e5 : encI (st hr).1 = (st hr).1 := by unfold encI; rw [if_neg (by omega)]
            rw [e5] at w5
            have w6 := w6 (by omega)
            have F3 : fr djV ν1 s3 := fr_trans (fr_trans (fr_sub g4 (by decide)) (fun v hv => uf v (fun q => by subst q; simp [djV] at hv) (fun q => by subst q; simp [djV] at hv))) (fr_sub w1 (by decide))
            obtain ⟨f, hf⟩ : ∃ f, f = (st hr).1 := ⟨_, rfl⟩
            rw [← hf] at w5 lt
            have Fin : ∀ s4 : Me, (∀ v, v ≠ 44 → v ≠ 1408 → s4 v = s3 v) → s4 44 0 = n → (∀ j, j < n → s4 1408 j = (st hr).2 j) → QQ (f, s4) := by
              intro s4 q1 q2 q3
              refine (hQQ _).mpr ⟨fun q => absurd ask q, fun hr' e _ => ?_⟩
              have e1 : hr' = hr := by omega
              subst e1
              dsimp only
              exact ⟨hf, fun v hv => by
                rw [q1 v (fun q => by subst q; simp [djV] at hv) (fun q => by subst q; simp [djV] at hv)]
                exact F3 v hv, by rw [q1 _ (by decide) (by decide)]; exact w2, by rw [q1 _ (by decide) (by decide)]; exact w3, q2, q3⟩
            clear hQQ w1 w2 w3 w4 hs1
            have e8 : ¬ f = -1 := by omega
            simp (disch := first | decide | omega) only [cE_K, vE_K, gE_K, o1K_0, o1K_i, o1_K, o2L_0, o2L_i, o2K_0, o2K_i, o2_K, thK_0, thK_i, th_K, dvL_0, dvL_i, dvK_0, dvK_i, dv_K, rmL_0, rmL_i, rmK_0, rmK_i, rm_K, dlL_0, dlL_i, dlK_0, dlK_i, dl_K, ldQ_0, ldQ_i, ldL_0, ldL_i, ldK_0, ldK_i, ld_K, kK_0, kK_i, k_K, aL_0, aL_i, aK_0, aK_i, aE_0, aE_1, clK_0, clK_i, cl_K, cBL_0, cBL_i, cBK_0, cBK_i, cB_K, zBK_0, zBK_i, zB_K, nBK_0, nBK_i, nB_K, andK_0, andK_i, and_K, orK_0, orK_i, or_K, tkK_0, tkK_i, tk_K, sk_K, stK_0, stK_i, st_K, exK_0, exK_i, ex_K, in_K, pfL_0, pfL_i, pfK_0, pfK_i, pf_K, pzL_0, pzL_i, pzK_0, pzK_i, pz_K, poL_0, poL_i, poK_0, poK_i, po_K, asQ_0, asQ_i, asM_0, asM_i, asL_0, asL_i, asK_0, asK_i, as_K, aoM_0, aoM_i, aoQ_0, aoQ_i, aoL_0, aoL_i, aoK_0, aoK_i, ao_K, sqK_0, sqK_1, sqK_2, sqK_3, sqK_4, sqK_i, sq_K, swK_0, swK_1, swK_2, swK_3, swK_4, swK_i, sw_K, ifK_0, ifK_i, if_K, br_K, ct_K, rv_K, thr_K, rtK_0, rtK_i, rt_K, mfK_0, mfK_i, mf_K, mzK_i, mzK_0, mz_K, cpK_0, cpT_0, cp_K, tsK_0, tsK_i, ts_K, tsP_hit, tsP_next, tsP_low, tsP_nil, ini_0, ini_1, rdU_0, rdU_i, rdB_0, rdB_1, rdB_2, rdB_3, rdB_4, rdB_i, rdC_0, rdC_i, rnd_K, cmpI, addI, subI, mulI, i2lI, l2iI, minI, maxI, idI, up, ok_some, ok_ite, w32_id, ix_id, Int.toNat_add, Int.toNat_mul, ltI_t, ltI_f, leI_t, leI_f, eqI_t, eqI_f, u2_s, u2_v, u2_i, w3_m2, w3_m1, w3_0, w3_1, w3_2, w3_3, w3_4, w3_5, w3_6, w3_7, w3_8, w3_9, w3_10, w3_12, w3_20, w3_23, w3_24, w3_25, w3_32, w3_40, w3_50, w3_100, w3_120, w3_168, w3_200, w3_240, w3_255, w3_500, w3_592, w3_600, w3_900, w3_940, w3_999, w3_1000, w3_1009, w3_1184, w3_3333, w3_9999, if_true, if_false, reduceIte, true_and, and_true, false_and, and_false, true_or, or_true, false_or, or_false, not_true_eq_false, not_false_eq_true, decide_true, decide_false, decide_eq_true_eq, Bool.not_true, Bool.not_false, Bool.false_eq_true, Bool.not_eq_true', Bool.not_eq_eq_eq_not, decide_eq_false_iff_not, Int.not_lt, Int.not_le, Nat.not_le, Nat.not_lt, Nat.le_refl, Int.le_refl, Nat.lt_irrefl, Int.lt_irrefl, reduceCtorEq, Nat.reduceEqDiff, Nat.reduceAdd, Nat.reduceMul, Nat.reduceBEq, Int.reduceNeg, Int.reduceAdd, Int.toNat_natCast, Int.reduceToNat, ne_eq, Nat.zero_ne_one, true_or, Int.ofNat_lt, Int.ofNat_le, Int.natCast_add, Int.cast_ofNat_Int, Int.natCast_zero, g1, g2, g3]
            simp only [hs2]
            simp only [Int.natCast_zero] at z1'
            simp (disch := first | decide | omega) only [cE_K, vE_K, gE_K, o1K_0, o1K_i, o1_K, o2L_0, o2L_i, o2K_0, o2K_i, o2_K, thK_0, thK_i, th_K, dvL_0, dvL_i, dvK_0, dvK_i, dv_K, rmL_0, rmL_i, rmK_0, rmK_i, rm_K, dlL_0, dlL_i, dlK_0, dlK_i, dl_K, ldQ_0, ldQ_i, ldL_0, ldL_i, ldK_0, ldK_i, ld_K, kK_0, kK_i, k_K, aL_0, aL_i, aK_0, aK_i, aE_0, aE_1, clK_0, clK_i, cl_K, cBL_0, cBL_i, cBK_0, cBK_i, cB_K, zBK_0, zBK_i, zB_K, nBK_0, nBK_i, nB_K, andK_0, andK_i, and_K, orK_0, orK_i, or_K, tkK_0, tkK_i, tk_K, sk_K, stK_0, stK_i, st_K, exK_0, exK_i, ex_K, in_K, pfL_0, pfL_i, pfK_0, pfK_i, pf_K, pzL_0, pzL_i, pzK_0, pzK_i, pz_K, poL_0, poL_i, poK_0, poK_i, po_K, asQ_0, asQ_i, asM_0, asM_i, asL_0, asL_i, asK_0, asK_i, as_K, aoM_0, aoM_i, aoQ_0, aoQ_i, aoL_0, aoL_i, aoK_0, aoK_i, ao_K, sqK_0, sqK_1, sqK_2, sqK_3, sqK_4, sqK_i, sq_K, swK_0, swK_1, swK_2, swK_3, swK_4, swK_i, sw_K, ifK_0, ifK_i, if_K, br_K, ct_K, rv_K, thr_K, rtK_0, rtK_i, rt_K, mfK_0, mfK_i, mf_K, mzK_i, mzK_0, mz_K, cpK_0, cpT_0, cp_K, tsK_0, tsK_i, ts_K, tsP_hit, tsP_next, tsP_low, tsP_nil, ini_0, ini_1, rdU_0, rdU_i, rdB_0, rdB_1, rdB_2, rdB_3, rdB_4, rdB_i, rdC_0, rdC_i, rnd_K, cmpI, addI, subI, mulI, i2lI, l2iI, minI, maxI, idI, up, ok_some, ok_ite, w32_id, ix_id, Int.toNat_add, Int.toNat_mul, ltI_t, ltI_f, leI_t, leI_f, eqI_t, eqI_f, u2_s, u2_v, u2_i, w3_m2, w3_m1, w3_0, w3_1, w3_2, w3_3, w3_4, w3_5, w3_6, w3_7, w3_8, w3_9, w3_10, w3_12, w3_20, w3_23, w3_24, w3_25, w3_32, w3_40, w3_50, w3_100, w3_120, w3_168, w3_200, w3_240, w3_255, w3_500, w3_592, w3_600, w3_900, w3_940, w3_999, w3_1000, w3_1009, w3_1184, w3_3333, w3_9999, if_true, if_false, reduceIte, true_and, and_true, false_and, and_false, true_or, or_true, false_or, or_false, not_true_eq_false, not_false_eq_true, decide_true, decide_false, decide_eq_true_eq, Bool.not_true, Bool.not_false, Bool.false_eq_true, Bool.not_eq_true', Bool.not_eq_eq_eq_not, decide_eq_false_iff_not, Int.not_lt, Int.not_le, Nat.not_le, Nat.not_lt, Nat.le_refl, Int.le_refl, Nat.lt_irrefl, Int.lt_irrefl, reduceCtorEq, Nat.reduceEqDiff, Nat.reduceAdd, Nat.reduceMul, Nat.reduceBEq, Int.reduceNeg, Int.reduceAdd, Int.toNat_natCast, Int.reduceToNat, ne_eq, Nat.zero_ne_one, true_or, Int.ofNat_lt, Int.ofNat_le, Int.natCast_add, Int.cast_ofNat_Int, Int.natCast_zero, z1', w5]
            obtain ⟨J, hJ⟩ : ∃ J : Nat → Lo → Me → Prop, ∀ m ρ s, J m ρ s ↔ (ρ 2 = n ∧ ρ 4 = m ∧ s = fun v z => if v = 1408 ∧ z < m then s3 1344 z else u2 s3 44 0 n v z) := ⟨fun m ρ s => ρ 2 = n ∧ ρ 4 = m ∧ s = fun v z => if v = 1408 ∧ z < m then s3 1344 z else u2 s3 44 0 n v z, fun _ _ _ => Iff.rfl⟩
            refine ok_sqK (wh_gen J n (by omega) ((hJ _ _ _).mpr ⟨by simp [up, g2], by simp [up], by funext v z; simp [g2]⟩) ?_)
            intro m ρ' s' hm hJm
            obtain ⟨j2, j3, hs⟩ := (hJ _ _ _).mp hJm
            clear hJm
            rcases Nat.lt_or_eq_of_le hm with hm | rfl
            · have h1 : s' 1344 m = s3 1344 m := by rw [hs]; simp [u2]
              simp (disch := first | decide | omega) only [cE_K, vE_K, gE_K, o1K_0, o1K_i, o1_K, o2L_0, o2L_i, o2K_0, o2K_i, o2_K, thK_0, thK_i, th_K, dvL_0, dvL_i, dvK_0, dvK_i, dv_K, rmL_0, rmL_i, rmK_0, rmK_i, rm_K, dlL_0, dlL_i, dlK_0, dlK_i, dl_K, ldQ_0, ldQ_i, ldL_0, ldL_i, ldK_0, ldK_i, ld_K, kK_0, kK_i, k_K, aL_0, aL_i, aK_0, aK_i, aE_0, aE_1, clK_0, clK_i, cl_K, cBL_0, cBL_i, cBK_0, cBK_i, cB_K, zBK_0, zBK_i, zB_K, nBK_0, nBK_i, nB_K, andK_0, andK_i, and_K, orK_0, orK_i, or_K, tkK_0, tkK_i, tk_K, sk_K, stK_0, stK_i, st_K, exK_0, exK_i, ex_K, in_K, pfL_0, pfL_i, pfK_0, pfK_i, pf_K, pzL_0, pzL_i, pzK_0, pzK_i, pz_K, poL_0, poL_i, poK_0, poK_i, po_K, asQ_0, asQ_i, asM_0, asM_i, asL_0, asL_i, asK_0, asK_i, as_K, aoM_0, aoM_i, aoQ_0, aoQ_i, aoL_0, aoL_i, aoK_0, aoK_i, ao_K, sqK_0, sqK_1, sqK_2, sqK_3, sqK_4, sqK_i, sq_K, swK_0, swK_1, swK_2, swK_3, swK_4, swK_i, sw_K, ifK_0, ifK_i, if_K, br_K, ct_K, rv_K, thr_K, rtK_0, rtK_i, rt_K, mfK_0, mfK_i, mf_K, mzK_i, mzK_0, mz_K, cpK_0, cpT_0, cp_K, tsK_0, tsK_i, ts_K, tsP_hit, tsP_next, tsP_low, tsP_nil, ini_0, ini_1, rdU_0, rdU_i, rdB_0, rdB_1, rdB_2, rdB_3, rdB_4, rdB_i, rdC_0, rdC_i, rnd_K, cmpI, addI, subI, mulI, i2lI, l2iI, minI, maxI, idI, up, ok_some, ok_ite, w32_id, ix_id, Int.toNat_add, Int.toNat_mul, ltI_t, ltI_f, leI_t, leI_f, eqI_t, eqI_f, u2_s, u2_v, u2_i, w3_m2, w3_m1, w3_0, w3_1, w3_2, w3_3, w3_4, w3_5, w3_6, w3_7, w3_8, w3_9, w3_10, w3_12, w3_20, w3_23, w3_24, w3_25, w3_32, w3_40, w3_50, w3_100, w3_120, w3_168, w3_200, w3_240, w3_255, w3_500, w3_592, w3_600, w3_900, w3_940, w3_999, w3_1000, w3_1009, w3_1184, w3_3333, w3_9999, if_true, if_false, reduceIte, true_and, and_true, false_and, and_false, true_or, or_true, false_or, or_false, not_true_eq_false, not_false_eq_true, decide_true, decide_false, decide_eq_true_eq, Bool.not_true, Bool.not_false, Bool.false_eq_true, Bool.not_eq_true', Bool.not_eq_eq_eq_not, decide_eq_false_iff_not, Int.not_lt, Int.not_le, Nat.not_le, Nat.not_lt, Nat.le_refl, Int.le_refl, Nat.lt_irrefl, Int.lt_irrefl, reduceCtorEq, Nat.reduceEqDiff, Nat.reduceAdd, Nat.reduceMul, Nat.reduceBEq, Int.reduceNeg, Int.reduceAdd, Int.toNat_natCast, Int.reduceToNat, ne_eq, Nat.zero_ne_one, true_or, Int.ofNat_lt, Int.ofNat_le, Int.natCast_add, Int.cast_ofNat_Int, Int.natCast_zero, j2, j3, h1]
              refine ⟨hm, (hJ _ _ _).mpr ⟨by simp [up, j2], by simp [up], ?_⟩⟩
              rw [hs]
              funext v z
              simp only [u2]
              clear hI hJ hs h1
              grind
            · have fin := Fin s' (fun v h1 h2 => by rw [hs]; funext z; simp [u2, h1, h2]) (by rw [hs]; simp [u2]) (fun j hj => by rw [hs]; simp [hj]; exact w6 j hj)
              have fw : s' 43 0 = f := by rw [hs]; simp [u2]; exact w5
              clear Fin hs
              simp (disch := first | decide | omega) only [cE_K, vE_K, gE_K, o1K_0, o1K_i, o1_K, o2L_0, o2L_i, o2K_0, o2K_i, o2_K, thK_0, thK_i, th_K, dvL_0, dvL_i, dvK_0, dvK_i, dv_K, rmL_0, rmL_i, rmK_0, rmK_i, rm_K, dlL_0, dlL_i, dlK_0, dlK_i, dl_K, ldQ_0, ldQ_i, ldL_0, ldL_i, ldK_0, ldK_i, ld_K, kK_0, kK_i, k_K, aL_0, aL_i, aK_0, aK_i, aE_0, aE_1, clK_0, clK_i, cl_K, cBL_0, cBL_i, cBK_0, cBK_i, cB_K, zBK_0, zBK_i, zB_K, nBK_0, nBK_i, nB_K, andK_0, andK_i, and_K, orK_0, orK_i, or_K, tkK_0, tkK_i, tk_K, sk_K, stK_0, stK_i, st_K, exK_0, exK_i, ex_K, in_K, pfL_0, pfL_i, pfK_0, pfK_i, pf_K, pzL_0, pzL_i, pzK_0, pzK_i, pz_K, poL_0, poL_i, poK_0, poK_i, po_K, asQ_0, asQ_i, asM_0, asM_i, asL_0, asL_i, asK_0, asK_i, as_K, aoM_0, aoM_i, aoQ_0, aoQ_i, aoL_0, aoL_i, aoK_0, aoK_i, ao_K, sqK_0, sqK_1, sqK_2, sqK_3, sqK_4, sqK_i, sq_K, swK_0, swK_1, swK_2, swK_3, swK_4, swK_i, sw_K, ifK_0, ifK_i, if_K, br_K, ct_K, rv_K, thr_K, rtK_0, rtK_i, rt_K, mfK_0, mfK_i, mf_K, mzK_i, mzK_0, mz_K, cpK_0, cpT_0, cp_K, tsK_0, tsK_i, ts_K, tsP_hit, tsP_next, tsP_low, tsP_nil, ini_0, ini_1, rdU_0, rdU_i, rdB_0, rdB_1, rdB_2, rdB_3, rdB_4, rdB_i, rdC_0, rdC_i, rnd_K, cmpI, addI, subI, mulI, i2lI, l2iI, minI, maxI, idI, up, ok_some, ok_ite, w32_id, ix_id, Int.toNat_add, Int.toNat_mul, ltI_t, ltI_f, leI_t, leI_f, eqI_t, eqI_f, u2_s, u2_v, u2_i, w3_m2, w3_m1, w3_0, w3_1, w3_2, w3_3, w3_4, w3_5, w3_6, w3_7, w3_8, w3_9, w3_10, w3_12, w3_20, w3_23, w3_24, w3_25, w3_32, w3_40, w3_50, w3_100, w3_120, w3_168, w3_200, w3_240, w3_255, w3_500, w3_592, w3_600, w3_900, w3_940, w3_999, w3_1000, w3_1009, w3_1184, w3_3333, w3_9999, if_true, if_false, reduceIte, true_and, and_true, false_and, and_false, true_or, or_true, false_or, or_false, not_true_eq_false, not_false_eq_true, decide_true, decide_false, decide_eq_true_eq, Bool.not_true, Bool.not_false, Bool.false_eq_true, Bool.not_eq_true', Bool.not_eq_eq_eq_not, decide_eq_false_iff_not, Int.not_lt, Int.not_le, Nat.not_le, Nat.not_lt, Nat.le_refl, Int.le_refl, Nat.lt_irrefl, Int.lt_irrefl, reduceCtorEq, Nat.reduceEqDiff, Nat.reduceAdd, Nat.reduceMul, Nat.reduceBEq, Int.reduceNeg, Int.reduceAdd, Int.toNat_natCast, Int.reduceToNat, ne_eq, Nat.zero_ne_one, true_or, Int.ofNat_lt, Int.ofNat_le, Int.natCast_add, Int.cast_ofNat_Int, Int.natCast_zero, j2, j3, fw]
              exact fin
        · have bad : ¬ askG y G B T x := fun q => c3 q.2.2.2.2.1
          have fin : QQ (-2, ν1) := (hQQ _).mpr ⟨fun _ => ⟨rfl, fr_rfl⟩, fun _ _ q => absurd q bad⟩
          simp (disch := first | decide | omega) only [cE_K, vE_K, gE_K, o1K_0, o1K_i, o1_K, o2L_0, o2L_i, o2K_0, o2K_i, o2_K, thK_0, thK_i, th_K, dvL_0, dvL_i, dvK_0, dvK_i, dv_K, rmL_0, rmL_i, rmK_0, rmK_i, rm_K, dlL_0, dlL_i, dlK_0, dlK_i, dl_K, ldQ_0, ldQ_i, ldL_0, ldL_i, ldK_0, ldK_i, ld_K, kK_0, kK_i, k_K, aL_0, aL_i, aK_0, aK_i, aE_0, aE_1, clK_0, clK_i, cl_K, cBL_0, cBL_i, cBK_0, cBK_i, cB_K, zBK_0, zBK_i, zB_K, nBK_0, nBK_i, nB_K, andK_0, andK_i, and_K, orK_0, orK_i, or_K, tkK_0, tkK_i, tk_K, sk_K, stK_0, stK_i, st_K, exK_0, exK_i, ex_K, in_K, pfL_0, pfL_i, pfK_0, pfK_i, pf_K, pzL_0, pzL_i, pzK_0, pzK_i, pz_K, poL_0, poL_i, poK_0, poK_i, po_K, asQ_0, asQ_i, asM_0, asM_i, asL_0, asL_i, asK_0, asK_i, as_K, aoM_0, aoM_i, aoQ_0, aoQ_i, aoL_0, aoL_i, aoK_0, aoK_i, ao_K, sqK_0, sqK_1, sqK_2, sqK_3, sqK_4, sqK_i, sq_K, swK_0, swK_1, swK_2, swK_3, swK_4, swK_i, sw_K, ifK_0, ifK_i, if_K, br_K, ct_K, rv_K, thr_K, rtK_0, rtK_i, rt_K, mfK_0, mfK_i, mf_K, mzK_i, mzK_0, mz_K, cpK_0, cpT_0, cp_K, tsK_0, tsK_i, ts_K, tsP_hit, tsP_next, tsP_low, tsP_nil, ini_0, ini_1, rdU_0, rdU_i, rdB_0, rdB_1, rdB_2, rdB_3, rdB_4, rdB_i, rdC_0, rdC_i, rnd_K, cmpI, addI, subI, mulI, i2lI, l2iI, minI, maxI, idI, up, ok_some, ok_ite, w32_id, ix_id, Int.toNat_add, Int.toNat_mul, ltI_t, ltI_f, leI_t, leI_f, eqI_t, eqI_f, u2_s, u2_v, u2_i, w3_m2, w3_m1, w3_0, w3_1, w3_2, w3_3, w3_4, w3_5, w3_6, w3_7, w3_8, w3_9, w3_10, w3_12, w3_20, w3_23, w3_24, w3_25, w3_32, w3_40, w3_50, w3_100, w3_120, w3_168, w3_200, w3_240, w3_255, w3_500, w3_592, w3_600, w3_900, w3_940, w3_999, w3_1000, w3_1009, w3_1184, w3_3333, w3_9999, if_true, if_false, reduceIte, true_and, and_true, false_and, and_false, true_or, or_true, false_or, or_false, not_true_eq_false, not_false_eq_true, decide_true, decide_false, decide_eq_true_eq, Bool.not_true, Bool.not_false, Bool.false_eq_true, Bool.not_eq_true', Bool.not_eq_eq_eq_not, decide_eq_false_iff_not, Int.not_lt, Int.not_le, Nat.not_le, Nat.not_lt, Nat.le_refl, Int.le_refl, Nat.lt_irrefl, Int.lt_irrefl, reduceCtorEq, Nat.reduceEqDiff, Nat.reduceAdd, Nat.reduceMul, Nat.reduceBEq, Int.reduceNeg, Int.reduceAdd, Int.toNat_natCast, Int.reduceToNat, ne_eq, Nat.zero_ne_one, true_or, Int.ofNat_lt, Int.ofNat_le, Int.natCast_add, Int.cast_ofNat_Int, Int.natCast_zero, hp, et, in4, in23, z1_t, Int.one_ne_zero, M_bells_eq, bl1]
          exact fin
      · rw [decide_eq_false c2] at in23
        have bad : ¬ askG y G B T x := fun q => c2 ⟨q.1, q.2.1⟩
        have fin : QQ (-2, ν1) := (hQQ _).mpr ⟨fun _ => ⟨rfl, fr_rfl⟩, fun _ _ q => absurd q bad⟩
        simp (disch := first | decide | omega) only [cE_K, vE_K, gE_K, o1K_0, o1K_i, o1_K, o2L_0, o2L_i, o2K_0, o2K_i, o2_K, thK_0, thK_i, th_K, dvL_0, dvL_i, dvK_0, dvK_i, dv_K, rmL_0, rmL_i, rmK_0, rmK_i, rm_K, dlL_0, dlL_i, dlK_0, dlK_i, dl_K, ldQ_0, ldQ_i, ldL_0, ldL_i, ldK_0, ldK_i, ld_K, kK_0, kK_i, k_K, aL_0, aL_i, aK_0, aK_i, aE_0, aE_1, clK_0, clK_i, cl_K, cBL_0, cBL_i, cBK_0, cBK_i, cB_K, zBK_0, zBK_i, zB_K, nBK_0, nBK_i, nB_K, andK_0, andK_i, and_K, orK_0, orK_i, or_K, tkK_0, tkK_i, tk_K, sk_K, stK_0, stK_i, st_K, exK_0, exK_i, ex_K, in_K, pfL_0, pfL_i, pfK_0, pfK_i, pf_K, pzL_0, pzL_i, pzK_0, pzK_i, pz_K, poL_0, poL_i, poK_0, poK_i, po_K, asQ_0, asQ_i, asM_0, asM_i, asL_0, asL_i, asK_0, asK_i, as_K, aoM_0, aoM_i, aoQ_0, aoQ_i, aoL_0, aoL_i, aoK_0, aoK_i, ao_K, sqK_0, sqK_1, sqK_2, sqK_3, sqK_4, sqK_i, sq_K, swK_0, swK_1, swK_2, swK_3, swK_4, swK_i, sw_K, ifK_0, ifK_i, if_K, br_K, ct_K, rv_K, thr_K, rtK_0, rtK_i, rt_K, mfK_0, mfK_i, mf_K, mzK_i, mzK_0, mz_K, cpK_0, cpT_0, cp_K, tsK_0, tsK_i, ts_K, tsP_hit, tsP_next, tsP_low, tsP_nil, ini_0, ini_1, rdU_0, rdU_i, rdB_0, rdB_1, rdB_2, rdB_3, rdB_4, rdB_i, rdC_0, rdC_i, rnd_K, cmpI, addI, subI, mulI, i2lI, l2iI, minI, maxI, idI, up, ok_some, ok_ite, w32_id, ix_id, Int.toNat_add, Int.toNat_mul, ltI_t, ltI_f, leI_t, leI_f, eqI_t, eqI_f, u2_s, u2_v, u2_i, w3_m2, w3_m1, w3_0, w3_1, w3_2, w3_3, w3_4, w3_5, w3_6, w3_7, w3_8, w3_9, w3_10, w3_12, w3_20, w3_23, w3_24, w3_25, w3_32, w3_40, w3_50, w3_100, w3_120, w3_168, w3_200, w3_240, w3_255, w3_500, w3_592, w3_600, w3_900, w3_940, w3_999, w3_1000, w3_1009, w3_1184, w3_3333, w3_9999, if_true, if_false, reduceIte, true_and, and_true, false_and, and_false, true_or, or_true, false_or, or_false, not_true_eq_false, not_false_eq_true, decide_true, decide_false, decide_eq_true_eq, Bool.not_true, Bool.not_false, Bool.false_eq_true, Bool.not_eq_true', Bool.not_eq_eq_eq_not, decide_eq_false_iff_not, Int.not_lt, Int.not_le, Nat.not_le, Nat.not_lt, Nat.le_refl, Int.le_refl, Nat.lt_irrefl, Int.lt_irrefl, reduceCtorEq, Nat.reduceEqDiff, Nat.reduceAdd, Nat.reduceMul, Nat.reduceBEq, Int.reduceNeg, Int.reduceAdd, Int.toNat_natCast, Int.reduceToNat, ne_eq, Nat.zero_ne_one, true_or, Int.ofNat_lt, Int.ofNat_le, Int.natCast_add, Int.cast_ofNat_Int, Int.natCast_zero, hp, et, in4, in23, z1_t, z1_f, Int.one_ne_zero]
        exact fin
    · rw [decide_eq_false c1] at in4
      have bad : ¬ askG y G B T x := fun q => c1 ⟨q.2.2.1, q.2.2.2.1⟩
      have fin : QQ (-2, ν1) := (hQQ _).mpr ⟨fun _ => ⟨rfl, fr_rfl⟩, fun _ _ q => absurd q bad⟩
      simp (disch := first | decide | omega) only [cE_K, vE_K, gE_K, o1K_0, o1K_i, o1_K, o2L_0, o2L_i, o2K_0, o2K_i, o2_K, thK_0, thK_i, th_K, dvL_0, dvL_i, dvK_0, dvK_i, dv_K, rmL_0, rmL_i, rmK_0, rmK_i, rm_K, dlL_0, dlL_i, dlK_0, dlK_i, dl_K, ldQ_0, ldQ_i, ldL_0, ldL_i, ldK_0, ldK_i, ld_K, kK_0, kK_i, k_K, aL_0, aL_i, aK_0, aK_i, aE_0, aE_1, clK_0, clK_i, cl_K, cBL_0, cBL_i, cBK_0, cBK_i, cB_K, zBK_0, zBK_i, zB_K, nBK_0, nBK_i, nB_K, andK_0, andK_i, and_K, orK_0, orK_i, or_K, tkK_0, tkK_i, tk_K, sk_K, stK_0, stK_i, st_K, exK_0, exK_i, ex_K, in_K, pfL_0, pfL_i, pfK_0, pfK_i, pf_K, pzL_0, pzL_i, pzK_0, pzK_i, pz_K, poL_0, poL_i, poK_0, poK_i, po_K, asQ_0, asQ_i, asM_0, asM_i, asL_0, asL_i, asK_0, asK_i, as_K, aoM_0, aoM_i, aoQ_0, aoQ_i, aoL_0, aoL_i, aoK_0, aoK_i, ao_K, sqK_0, sqK_1, sqK_2, sqK_3, sqK_4, sqK_i, sq_K, swK_0, swK_1, swK_2, swK_3, swK_4, swK_i, sw_K, ifK_0, ifK_i, if_K, br_K, ct_K, rv_K, thr_K, rtK_0, rtK_i, rt_K, mfK_0, mfK_i, mf_K, mzK_i, mzK_0, mz_K, cpK_0, cpT_0, cp_K, tsK_0, tsK_i, ts_K, tsP_hit, tsP_next, tsP_low, tsP_nil, ini_0, ini_1, rdU_0, rdU_i, rdB_0, rdB_1, rdB_2, rdB_3, rdB_4, rdB_i, rdC_0, rdC_i, rnd_K, cmpI, addI, subI, mulI, i2lI, l2iI, minI, maxI, idI, up, ok_some, ok_ite, w32_id, ix_id, Int.toNat_add, Int.toNat_mul, ltI_t, ltI_f, leI_t, leI_f, eqI_t, eqI_f, u2_s, u2_v, u2_i, w3_m2, w3_m1, w3_0, w3_1, w3_2, w3_3, w3_4, w3_5, w3_6, w3_7, w3_8, w3_9, w3_10, w3_12, w3_20, w3_23, w3_24, w3_25, w3_32, w3_40, w3_50, w3_100, w3_120, w3_168, w3_200, w3_240, w3_255, w3_500, w3_592, w3_600, w3_900, w3_940, w3_999, w3_1000, w3_1009, w3_1184, w3_3333, w3_9999, if_true, if_false, reduceIte, true_and, and_true, false_and, and_false, true_or, or_true, false_or, or_false, not_true_eq_false, not_false_eq_true, decide_true, decide_false, decide_eq_true_eq, Bool.not_true, Bool.not_false, Bool.false_eq_true, Bool.not_eq_true', Bool.not_eq_eq_eq_not, decide_eq_false_iff_not, Int.not_lt, Int.not_le, Nat.not_le, Nat.not_lt, Nat.le_refl, Int.le_refl, Nat.lt_irrefl, Int.lt_irrefl, reduceCtorEq, Nat.reduceEqDiff, Nat.reduceAdd, Nat.reduceMul, Nat.reduceBEq, Int.reduceNeg, Int.reduceAdd, Int.toNat_natCast, Int.reduceToNat, ne_eq, Nat.zero_ne_one, true_or, Int.ofNat_lt, Int.ofNat_le, Int.natCast_add, Int.cast_ofNat_Int, Int.natCast_zero, hp, et, in4, z1_f]
      exact fin
  obtain ⟨⟨x1, x2⟩, h1, h2⟩ := main
  obtain ⟨k1, k2⟩ := (hQQ _).mp h2
  refine ⟨fun q => ?_, fun hr e q => ?_⟩
  · obtain ⟨j1, j2⟩ := k1 q
    simp only at j1
    subst j1
    exact ⟨x2, h1, j2⟩
  · obtain ⟨j1, j2, j3, j4, j5, j6⟩ := k2 hr e q
    simp only at j1
    subst j1
    exact ⟨x2, st hr, h1, j2, j3, j4, j5, j6, hst hr⟩
set_option maxHeartbeats 4000000 in
theorem op_days {σ μ : Me} {x : Int} (h : Rl σ μ) (hx : rg x) : opR (m_D_days [0, x] σ) (m_M_days [0, x] μ) := by
  obtain ⟨T, t0, t1, t2, t3⟩ := h.1.2.2.2.2.1
  obtain ⟨ν, p1, p2, p3, p4, p5, p6, p7⟩ := rl_pre h
  have hs := p7.1.2.1
  have R0 : Rl (u2 σ 65 0 0) (u2 ν 2 0 0) := by
    refine Rl_tape p7 ?_ ?_ ?_
    · intro v hv
      simp only [List.mem_cons, List.not_mem_nil, or_false, not_or] at hv
      funext i
      simp [u2, hv]
    · intro v hv
      simp only [List.mem_cons, List.not_mem_nil, or_false, not_or] at hv
      funext i
      simp [u2, hv]
    · exact ⟨0, by omega, by simp [u2], by simp [u2], fun i hi => by omega⟩
  have l0 : ∀ v, v ≠ 2 → u2 ν 2 0 0 v = ν v := fun v hv => by funext i; simp [u2, hv]
  have nn : nwM (u2 ν 2 0 0) = nwM μ := by
    rw [← p6]; unfold nwM; rw [l0 _ (by decide), l0 _ (by decide)]
  rw [p6] at hs
  have c0 := hs.1.1.1
  have b0 := hs.1.2.1.1
  obtain ⟨B, hB⟩ : ∃ B : Nat, nwM μ 160 = B := ⟨(nwM μ 160).toNat, by omega⟩
  obtain ⟨G, hG⟩ : ∃ G : Nat, nwM μ 2 = G := ⟨(nwM μ 2).toNat, by omega⟩
  obtain ⟨a, ha⟩ : ∃ a : Nat → Nat, ∀ i, i < T → μ 64 i = a i := ⟨fun i => (μ 64 i).toNat, fun i hi => (Int.toNat_of_nonneg (t3 i hi).1).symm⟩
  have tp : ∀ i, i < T → ν 64 i = μ 64 i ∧ 0 ≤ μ 64 i ∧ μ 64 i < 256 := fun i hi => ⟨by rw [p5 _ (by decide)], (t3 i hi).1, (t3 i hi).2.1⟩
  obtain ⟨x1, x2⟩ := days_c (σ := σ) (μ := u2 ν 2 0 0) (x := x) (T := T) (B := B) (G := G) (y := μ 64) hx t0 t1 (fun i hi => t3 i hi) (by rw [nn]; exact hB) (by rw [nn]; exact hG) R0
  obtain ⟨y1, y2⟩ := days_m (μ := μ) (ν := ν) (N := nwM μ) (x := x) (T := T) (B := B) (G := G) (y := μ 64) ha hs.1 hx t0 p1 p2 p3 p7.1.2.2.2.2.2.2.2.2.2 (by rw [p5 _ (by decide)]; exact t2) tp hB hG
  by_cases c : askG (μ 64) G B T x
  · obtain ⟨hr, hhr⟩ : ∃ hr : Nat, x = hr := ⟨x.toNat, by have := c.1; omega⟩
    obtain ⟨τ, θ, st, a1, a2, a3, a4, a5, a6, a7⟩ := x2 hr hhr c a ha
    obtain ⟨κ, st', b1, b2, b3, b4, b5, b6, b7⟩ := y2 hr hhr c
    rw [nn] at a7
    rw [← b7] at a7
    subst a7
    refine opR_mk a1 b1 ?_
    have tf : ∀ v, v ≠ 14 → v ∉ dcV → θ v = τ v := fun v h1 h2 => a3 v (by simp [h1, h2])
    have kf : ∀ v, v ∉ djV → κ v = u2 ν 2 0 0 v := b2
    have nk : nwM κ = κ 128 := nwM_1 b3
    obtain ⟨⟨h1, h2, h3, h4, h5, h6⟩, h7⟩ := a2
    rw [nn] at h2 h7
    have kp : ∀ k f, k < 2 → f < 256 → f ≠ 14 → kpR τ (u2 ν 2 0 0) k f → kpR θ κ k f := by
      intro k f hk hf hf2 hh
      obtain ⟨q1, q2⟩ := hh
      refine ⟨by rw [tf f hf2 (by simp [dcV]; omega), kf _ (by decide)]; exact q1, ?_⟩
      rw [kf 576 (by decide), kf 256 (by decide), kf 512 (by decide)]
      rcases q2 with q2 | ⟨q2, q3⟩
      · exact Or.inl q2
      · exact Or.inr ⟨q2, sce_ag q3 (fun v v1 v2 => tf _ (by omega) (by simp [dcV]; omega))⟩
    have b4' := b4
    obtain ⟨r1, r2, r3, r4, r5⟩ := b4
    refine ⟨⟨Or.inr b3, ?_, kp 0 _ (by omega) (by decide) (by decide) h3, kp 1 _ (by omega) (by decide) (by decide) h4, ?_, ?_⟩, ?_⟩
    · rw [nk, kf 384 (by decide)]
      have h2' := h2
      obtain ⟨⟨n1, n2, n3⟩, ⟨s1, s2, s3, s4, s5, s6⟩, h3', h4'⟩ := h2'
      refine sce_upd h2 r1 (fun v v1 v2 => tf v (by omega) (by simp [dcV]; omega)) (roR_bl n1 n2 hB b4' (by omega) (fun j hj => by omega) (fun j hj => by omega)) ⟨?_, fun j hj => ?_⟩ ?_ ?_ ?_
      · rw [tf _ (by decide) (by decide), s2.2.2.1, r3, hB]; omega
      · rw [r3] at hj
        rw [tf _ (by decide) (by decide), tf _ (by decide) (by decide), tf _ (by decide) (by decide), r4 _ (by omega) (by omega), r4 _ (by omega) (by omega), r4 _ (by omega) (by omega)]
        exact s2.2.2.2 j (by omega)
      · unfold sgN
        rw [r2 285 (by omega), r1 1 (by omega)]
        exact ⟨n3.1, fun k hk => by rw [r2 _ (by omega), r2 _ (by omega), r2 _ (by omega)]; exact n3.2 k hk⟩
      · unfold siX
        rw [tf _ (by decide) (by decide), tf _ (by decide) (by decide), tf _ (by decide) (by decide), tf _ (by decide) (by decide), r2 285 (by omega)]
        exact ⟨s6.1, fun k hk => by rw [r2 _ (by omega), r2 _ (by omega), r2 _ (by omega)]; exact s6.2 k hk⟩
      · exact se0_same h4' r1 (fun i hi => r2 i (by omega)) (fun v v1 v2 => tf v (by omega) (by simp [dcV]; omega))
    · unfold tpR at *
      rw [tf _ (by decide) (by decide), tf _ (by decide) (by decide), kf _ (by decide), kf _ (by decide)]
      exact h5
    · unfold msR at *
      rw [tf 1 (by decide) (by decide), tf 15 (by decide) (by decide), tf 9728 (by decide) (by decide), kf 10 (by decide), kf 45 (by decide), kf 1472 (by decide), kf 34 (by decide)]
      refine ⟨h6.1, ⟨by rw [a5, b5], by rw [b5]; omega, by rw [b5]; have := c.2.2.2.1; omega, fun i hi => ?_⟩, h6.2.2⟩
      rw [b5] at hi
      rw [a6 i (by omega), b6 i (by omega)]
    · rw [nk]
      have pO : θ 10 0 = 0 := by rw [tf _ (by decide) (by decide)]; exact a4
      have pw := psX_W hs.1.1 (h7.2.2 a4) r1 (roR_ws hB b4')
      refine ⟨Or.inl pO, ?_, fun _ => ?_⟩
      · rw [tf _ (by decide) (by decide)]; exact h7.2.1
      · unfold psX at *
        rw [tf 9152 (by decide) (by decide), tf 9216 (by decide) (by decide), tf 9280 (by decide) (by decide), tf 9344 (by decide) (by decide), tf 9408 (by decide) (by decide), tf 9472 (by decide) (by decide)]
        exact pw
  · obtain ⟨θ, a1, a2⟩ := x1 c
    obtain ⟨κ, b1, b2⟩ := y1 c
    refine opR_mk a1 b1 (Rl_mu a2 (agM_fr b2 (by decide)) ?_ ?_)
    · rw [b2 _ (by decide)]; exact a2.1.1
    · unfold nwM
      rw [b2 _ (by decide), b2 _ (by decide)]
