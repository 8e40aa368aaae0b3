theorem bR_all : ∀ y : Fin 256, andI (if (y.val : Int) < 128 then (y.val : Int) else (y.val : Int) - 256) 255 = y.val := by decide +kernel
theorem bR_and {x y : Int} (h : bR x y) : andI x 255 = y := by
  obtain ⟨h1, h2, h3⟩ := h
  have := bR_all ⟨y.toNat, by omega⟩
  simp only [Int.toNat_of_nonneg h1] at this
  rw [h3]
  exact this
theorem byteAt_ok {s : Me} {i : Nat} {y : Int} (hi : i < 940) (h : bR (s 128 i) y) : m_Tape_byteAt [0, i] s = some (y, s) := by
  have e := bR_and h
  simp only [m_Tape_byteAt, b_Tape_byteAt]
  simp (disch := first | decide | omega) only [cE_K, vE_K, gE_K, o1K_0, o1K_i, o1_K, o2L_0, o2L_i, o2K_0, o2K_i, o2_K, thK_0, thK_i, th_K, dvL_0, dvL_i, dvK_0, dvK_i, dv_K, rmL_0, rmL_i, rmK_0, rmK_i, rm_K, dlL_0, dlL_i, dlK_0, dlK_i, dl_K, ldQ_0, ldQ_i, ldL_0, ldL_i, ldK_0, ldK_i, ld_K, kK_0, kK_i, k_K, aL_0, aL_i, aK_0, aK_i, aE_0, aE_1, clK_0, clK_i, cl_K, cBL_0, cBL_i, cBK_0, cBK_i, cB_K, zBK_0, zBK_i, zB_K, nBK_0, nBK_i, nB_K, andK_0, andK_i, and_K, orK_0, orK_i, or_K, tkK_0, tkK_i, tk_K, sk_K, stK_0, stK_i, st_K, exK_0, exK_i, ex_K, in_K, pfL_0, pfL_i, pfK_0, pfK_i, pf_K, pzL_0, pzL_i, pzK_0, pzK_i, pz_K, poL_0, poL_i, poK_0, poK_i, po_K, asQ_0, asQ_i, asM_0, asM_i, asL_0, asL_i, asK_0, asK_i, as_K, aoM_0, aoM_i, aoQ_0, aoQ_i, aoL_0, aoL_i, aoK_0, aoK_i, ao_K, sqK_0, sqK_1, sqK_2, sqK_3, sqK_4, sqK_i, sq_K, swK_0, swK_1, swK_2, swK_3, swK_4, swK_i, sw_K, ifK_0, ifK_i, if_K, br_K, ct_K, rv_K, thr_K, rtK_0, rtK_i, rt_K, mfK_0, mfK_i, mf_K, mzK_i, mzK_0, mz_K, cpK_0, cpT_0, cp_K, tsK_0, tsK_i, ts_K, tsP_hit, tsP_next, tsP_low, tsP_nil, ini_0, ini_1, rdU_0, rdU_i, rdB_0, rdB_1, rdB_2, rdB_3, rdB_4, rdB_i, rdC_0, rdC_i, rnd_K, cmpI, addI, subI, mulI, i2lI, l2iI, minI, maxI, idI, up, ok_some, ok_ite, w32_id, ix_id, Int.toNat_add, Int.toNat_mul, ltI_t, ltI_f, leI_t, leI_f, eqI_t, eqI_f, u2_s, u2_v, u2_i, w3_m2, w3_m1, w3_0, w3_1, w3_2, w3_3, w3_4, w3_5, w3_6, w3_7, w3_8, w3_9, w3_10, w3_12, w3_20, w3_23, w3_24, w3_25, w3_32, w3_40, w3_50, w3_100, w3_120, w3_168, w3_200, w3_240, w3_255, w3_500, w3_592, w3_600, w3_900, w3_940, w3_999, w3_1000, w3_1009, w3_1184, w3_3333, w3_9999, if_true, if_false, reduceIte, true_and, and_true, false_and, and_false, true_or, or_true, false_or, or_false, not_true_eq_false, not_false_eq_true, decide_true, decide_false, decide_eq_true_eq, Bool.not_true, Bool.not_false, Bool.false_eq_true, Bool.not_eq_true', Bool.not_eq_eq_eq_not, decide_eq_false_iff_not, Int.not_lt, Int.not_le, Nat.not_le, Nat.not_lt, Nat.le_refl, Int.le_refl, Nat.lt_irrefl, Int.lt_irrefl, reduceCtorEq, Nat.reduceEqDiff, Nat.reduceAdd, Nat.reduceMul, Nat.reduceBEq, Int.reduceNeg, Int.reduceAdd, Int.toNat_natCast, Int.reduceToNat, ne_eq, Nat.zero_ne_one, true_or, Int.ofNat_lt, Int.ofNat_le, Int.natCast_add, Int.cast_ofNat_Int, Int.natCast_zero, e]
theorem trS_lt {H : (Nat → Nat) → Nat → Int} {nd : Nat → Nat} (hb : ∀ d i, 0 ≤ H d i ∧ H d i ≤ 1008) (hn : ∀ i, 0 < nd i) : ∀ k d i st, (trS H nd k d i st).1 ≤ 1008 := by
  intro k
  induction k with
  | zero =>
    intro d i st
    simp only [trS]
    have := hb d i
    split
    · simp only; omega
    · omega
  | succ k ih =>
    intro d i st
    simp only [trS]
    obtain ⟨n, hn'⟩ : ∃ n, nd i = n + 1 := ⟨nd i - 1, by have := hn i; omega⟩
    rw [hn']
    simp only [itr]
    exact ih _ _ _
theorem psX_W {σ : Me} {N M : Nat → Int} (hN : rvN N) (h : psX σ N 168) (e' : ∀ i, i < 160 → M i = N i) (w : wsN M (-1) = wsN N (-1)) : psX σ M 168 := by
  have c0 := hN.1
  have pw : ppW M (wsN M (-1)) = ppW N (wsN N (-1)) := by
    funext h i
    unfold ppW
    rw [w, e' 2 (by omega), poN_N e' _ _ (by omega)]
  have wk : ∀ h, h ≤ 168 → wkS M (floN M) (ppW M (wsN M (-1))) h = wkS N (floN N) (ppW N (wsN N (-1))) h := fun h hh => by rw [pw, wkS_N hN e', floN_N hN hh e']
  obtain ⟨h1, h2, h3, h4⟩ := h
  refine ⟨fun h i hh hi => by rw [wk _ (by omega)]; exact h1 h i hh hi, fun h c hh hc => ?_, fun h hh => ⟨by rw [w]; exact (h3 h hh).1, ?_⟩, fun h hh => ?_⟩
  · rw [e' 1 (by omega)] at hc
    have q : wkP M (floN M) (ppW M (wsN M (-1))) h c = wkP N (floN N) (ppW N (wsN N (-1))) h c := by
      unfold wkP
      have w : wkX M (floN M) (ppW M (wsN M (-1))) h = wkX N (floN N) (ppW N (wsN N (-1))) h := by funext i; unfold wkX; rw [wk _ (by omega), pw]
      rw [(stN_N hN e').2.2 c (by omega), w, wk _ (by omega), show floN M (h / 24) = floN N (h / 24) from e' _ (by omega)]
    rw [q]
    exact h2 h c hh hc
  · rw [wk _ (by omega), e' 3 (by omega), bitsF_c (c := fun u => hmN N (wkS N (floN N) (ppW N (wsN N (-1))) (h + 1)).1 u h) _ (fun u hu => hmN_N hN (by omega) e')]
    exact (h3 h hh).2
  · rw [h4 h hh, hpN_N hN e', pw]
    exact (sm_eq (fun i hi => hhN_congr (floN_N hN (by omega) e'))).symm
/-- the GUILDS asked for: each is one, none twice -/
def okG (y : Nat → Int) (G : Int) (n : Nat) : Prop := ∀ i, i < n → y i < G ∧ ∀ j, j < i → y j ≠ y i
theorem okG_s {y : Nat → Int} {G : Int} {n : Nat} : okG y G (n + 1) ↔ (okG y G n ∧ y n < G ∧ ∀ j, j < n → y j ≠ y n) := by
  constructor
  · intro h
    exact ⟨fun i hi => h i (by omega), h n (by omega)⟩
  · intro ⟨h1, h2⟩ i hi
    by_cases e : i = n
    · subst e; exact h2
    · exact h1 i (by omega)
theorem okG_le {y : Nat → Int} {G : Int} {n m : Nat} (h : okG y G n) (hm : m ≤ n) : okG y G m := fun i hi => h i (by omega)
/-- the bits of those behind us -/
def sbG (y : Nat → Int) (w : Int) (n : Nat) : Prop := ∀ k : Nat, k < 32 → (bt w k = true ↔ ∃ j, j < n ∧ y j = k)
theorem sbG_s {y : Nat → Int} {w : Int} {n g : Nat} (h : sbG y w n) (hy : y n = g) (hg : g < 32) : sbG y (iorI w (shlI 1 g)) (n + 1) := by
  intro k hk
  rw [bt_or hk, bt_shl1 hg hk, Bool.or_eq_true, h k hk, decide_eq_true_eq]
  constructor
  · rintro (⟨j, h1, h2⟩ | rfl)
    · exact ⟨j, by omega, h2⟩
    · exact ⟨n, by omega, hy⟩
  · rintro ⟨j, h1, h2⟩
    by_cases e : j = n
    · subst e; right; omega
    · exact Or.inl ⟨j, by omega, h2⟩
theorem chooseGuilds_ok {s0 : Me} {y : Nat → Int} {T B G : Nat} (hT : T ≤ 940) (hB : s0 1408 0 = B) (hB4 : B ≤ 40) (hG : s0 261 0 = G) (hG6 : G ≤ 6) (hy : ∀ i, i < T → bR (s0 128 i) (y i)) :
    ∃ b s1, m_D_chooseGuilds [0, T] s0 = some (z1 b, s1) ∧ fr [9536] s0 s1 ∧ (b = true ↔ (1 ≤ T ∧ T ≤ 4 ∧ B + T ≤ 40 ∧ okG y G T)) ∧ (b = true → ∀ j, j < T → s1 9536 j = y j) := by
  by_cases c : 1 ≤ T ∧ T ≤ 4 ∧ B + T ≤ 40
  · obtain ⟨c1, c2, c3⟩ := c
    obtain ⟨QQ, hQQ⟩ : ∃ Q : Int × Me → Prop, ∀ q, Q q ↔ (∃ b, q.1 = z1 b ∧ fr [9536] s0 q.2 ∧ (b = true ↔ okG y G T) ∧ (b = true → ∀ j, j < T → q.2 9536 j = y j)) := ⟨_, fun _ => Iff.rfl⟩
    have main : ok (m_D_chooseGuilds [0, T] s0) QQ := by
      simp only [m_D_chooseGuilds, b_D_chooseGuilds]
      simp (disch := first | decide | omega) only [cE_K, vE_K, gE_K, o1K_0, o1K_i, o1_K, o2L_0, o2L_i, o2K_0, o2K_i, o2_K, thK_0, thK_i, th_K, dvL_0, dvL_i, dvK_0, dvK_i, dv_K, rmL_0, rmL_i, rmK_0, rmK_i, rm_K, dlL_0, dlL_i, dlK_0, dlK_i, dl_K, ldQ_0, ldQ_i, ldL_0, ldL_i, ldK_0, ldK_i, ld_K, kK_0, kK_i, k_K, aL_0, aL_i, aK_0, aK_i, aE_0, aE_1, clK_0, clK_i, cl_K, cBL_0, cBL_i, cBK_0, cBK_i, cB_K, zBK_0, zBK_i, zB_K, nBK_0, nBK_i, nB_K, andK_0, andK_i, and_K, orK_0, orK_i, or_K, tkK_0, tkK_i, tk_K, sk_K, stK_0, stK_i, st_K, exK_0, exK_i, ex_K, in_K, pfL_0, pfL_i, pfK_0, pfK_i, pf_K, pzL_0, pzL_i, pzK_0, pzK_i, pz_K, poL_0, poL_i, poK_0, poK_i, po_K, asQ_0, asQ_i, asM_0, asM_i, asL_0, asL_i, asK_0, asK_i, as_K, aoM_0, aoM_i, aoQ_0, aoQ_i, aoL_0, aoL_i, aoK_0, aoK_i, ao_K, sqK_0, sqK_1, sqK_2, sqK_3, sqK_4, sqK_i, sq_K, swK_0, swK_1, swK_2, swK_3, swK_4, swK_i, sw_K, ifK_0, ifK_i, if_K, br_K, ct_K, rv_K, thr_K, rtK_0, rtK_i, rt_K, mfK_0, mfK_i, mf_K, mzK_i, mzK_0, mz_K, cpK_0, cpT_0, cp_K, tsK_0, tsK_i, ts_K, tsP_hit, tsP_next, tsP_low, tsP_nil, ini_0, ini_1, rdU_0, rdU_i, rdB_0, rdB_1, rdB_2, rdB_3, rdB_4, rdB_i, rdC_0, rdC_i, rnd_K, cmpI, addI, subI, mulI, i2lI, l2iI, minI, maxI, idI, up, ok_some, ok_ite, w32_id, ix_id, Int.toNat_add, Int.toNat_mul, ltI_t, ltI_f, leI_t, leI_f, eqI_t, eqI_f, u2_s, u2_v, u2_i, w3_m2, w3_m1, w3_0, w3_1, w3_2, w3_3, w3_4, w3_5, w3_6, w3_7, w3_8, w3_9, w3_10, w3_12, w3_20, w3_23, w3_24, w3_25, w3_32, w3_40, w3_50, w3_100, w3_120, w3_168, w3_200, w3_240, w3_255, w3_500, w3_592, w3_600, w3_900, w3_940, w3_999, w3_1000, w3_1009, w3_1184, w3_3333, w3_9999, if_true, if_false, reduceIte, true_and, and_true, false_and, and_false, true_or, or_true, false_or, or_false, not_true_eq_false, not_false_eq_true, decide_true, decide_false, decide_eq_true_eq, Bool.not_true, Bool.not_false, Bool.false_eq_true, Bool.not_eq_true', Bool.not_eq_eq_eq_not, decide_eq_false_iff_not, Int.not_lt, Int.not_le, Nat.not_le, Nat.not_lt, Nat.le_refl, Int.le_refl, Nat.lt_irrefl, Int.lt_irrefl, reduceCtorEq, Nat.reduceEqDiff, Nat.reduceAdd, Nat.reduceMul, Nat.reduceBEq, Int.reduceNeg, Int.reduceAdd, Int.toNat_natCast, Int.reduceToNat, ne_eq, Nat.zero_ne_one, true_or, Int.ofNat_lt, Int.ofNat_le, Int.natCast_add, Int.cast_ofNat_Int, Int.natCast_zero, hB]
      obtain ⟨I, hI⟩ : ∃ I : Nat → Lo → Me → Prop, ∀ n ρ s, I n ρ s ↔ (ρ 1 = T ∧ ρ 3 = n ∧ fr [9536] s0 s ∧ okG y G n ∧ sbG y (ρ 2) n ∧ ∀ j, j < n → s 9536 j = y j) := ⟨fun n ρ s => ρ 1 = T ∧ ρ 3 = n ∧ fr [9536] s0 s ∧ okG y G n ∧ sbG y (ρ 2) n ∧ ∀ j, j < n → s 9536 j = y j, fun _ _ _ => Iff.rfl⟩
      refine ok_mzK (ok_sqK (wh_gen I T (by omega) ((hI _ _ _).mpr ⟨by simp [up], by simp [up], fr_rfl, fun i hi => by omega, fun k hk => by simp [up, bt_0 hk], fun j hj => by omega⟩) ?_))
      intro n ρ s hn hIn
      obtain ⟨g1, g2, g3, g4, g5, g6⟩ := (hI _ _ _).mp hIn
      rcases Nat.lt_or_eq_of_le hn with hn | rfl
      · have ht := hy n hn
        have hb := byteAt_ok (s := s) (i := n) (y := y n) (by omega) (by rw [g3 _ (by decide)]; exact ht)
        obtain ⟨g, hg⟩ : ∃ g : Nat, y n = g := ⟨(y n).toNat, by have := ht.1; omega⟩
        have g255 : g < 256 := by have := ht.2.1; omega
        rw [hg] at hb
        have gd : s 261 0 = G := by rw [g3 _ (by decide)]; exact hG
        clear hIn
        by_cases c4 : g < G
        · have iG : m_D_isGuild [0, (g : Int)] s = some (1, s) := by
            rw [D_isGuild_eq, gd, w32_id (by omega) (by omega), w32_id (by omega) (by omega), decide_eq_true (by omega), z1_t]
          have ez := and1_z (w := ρ 2) (g := g) (by omega)
          cases c5 : bt (ρ 2) g
          · rw [c5, z1_f] at ez
            simp (disch := first | decide | omega) only [cE_K, vE_K, gE_K, o1K_0, o1K_i, o1_K, o2L_0, o2L_i, o2K_0, o2K_i, o2_K, thK_0, thK_i, th_K, dvL_0, dvL_i, dvK_0, dvK_i, dv_K, rmL_0, rmL_i, rmK_0, rmK_i, rm_K, dlL_0, dlL_i, dlK_0, dlK_i, dl_K, ldQ_0, ldQ_i, ldL_0, ldL_i, ldK_0, ldK_i, ld_K, kK_0, kK_i, k_K, aL_0, aL_i, aK_0, aK_i, aE_0, aE_1, clK_0, clK_i, cl_K, cBL_0, cBL_i, cBK_0, cBK_i, cB_K, zBK_0, zBK_i, zB_K, nBK_0, nBK_i, nB_K, andK_0, andK_i, and_K, orK_0, orK_i, or_K, tkK_0, tkK_i, tk_K, sk_K, stK_0, stK_i, st_K, exK_0, exK_i, ex_K, in_K, pfL_0, pfL_i, pfK_0, pfK_i, pf_K, pzL_0, pzL_i, pzK_0, pzK_i, pz_K, poL_0, poL_i, poK_0, poK_i, po_K, asQ_0, asQ_i, asM_0, asM_i, asL_0, asL_i, asK_0, asK_i, as_K, aoM_0, aoM_i, aoQ_0, aoQ_i, aoL_0, aoL_i, aoK_0, aoK_i, ao_K, sqK_0, sqK_1, sqK_2, sqK_3, sqK_4, sqK_i, sq_K, swK_0, swK_1, swK_2, swK_3, swK_4, swK_i, sw_K, ifK_0, ifK_i, if_K, br_K, ct_K, rv_K, thr_K, rtK_0, rtK_i, rt_K, mfK_0, mfK_i, mf_K, mzK_i, mzK_0, mz_K, cpK_0, cpT_0, cp_K, tsK_0, tsK_i, ts_K, tsP_hit, tsP_next, tsP_low, tsP_nil, ini_0, ini_1, rdU_0, rdU_i, rdB_0, rdB_1, rdB_2, rdB_3, rdB_4, rdB_i, rdC_0, rdC_i, rnd_K, cmpI, addI, subI, mulI, i2lI, l2iI, minI, maxI, idI, up, ok_some, ok_ite, w32_id, ix_id, Int.toNat_add, Int.toNat_mul, ltI_t, ltI_f, leI_t, leI_f, eqI_t, eqI_f, u2_s, u2_v, u2_i, w3_m2, w3_m1, w3_0, w3_1, w3_2, w3_3, w3_4, w3_5, w3_6, w3_7, w3_8, w3_9, w3_10, w3_12, w3_20, w3_23, w3_24, w3_25, w3_32, w3_40, w3_50, w3_100, w3_120, w3_168, w3_200, w3_240, w3_255, w3_500, w3_592, w3_600, w3_900, w3_940, w3_999, w3_1000, w3_1009, w3_1184, w3_3333, w3_9999, if_true, if_false, reduceIte, true_and, and_true, false_and, and_false, true_or, or_true, false_or, or_false, not_true_eq_false, not_false_eq_true, decide_true, decide_false, decide_eq_true_eq, Bool.not_true, Bool.not_false, Bool.false_eq_true, Bool.not_eq_true', Bool.not_eq_eq_eq_not, decide_eq_false_iff_not, Int.not_lt, Int.not_le, Nat.not_le, Nat.not_lt, Nat.le_refl, Int.le_refl, Nat.lt_irrefl, Int.lt_irrefl, reduceCtorEq, Nat.reduceEqDiff, Nat.reduceAdd, Nat.reduceMul, Nat.reduceBEq, Int.reduceNeg, Int.reduceAdd, Int.toNat_natCast, Int.reduceToNat, ne_eq, Nat.zero_ne_one, true_or, Int.ofNat_lt, Int.ofNat_le, Int.natCast_add, Int.cast_ofNat_Int, Int.natCast_zero, g1, g2, hb, iG, ez, Int.one_ne_zero]
            refine ⟨hn, (hI _ _ _).mpr ⟨by simp [up, g1], by simp [up], fun v hv => ?_, okG_s.mpr ⟨g4, by omega, fun j hj q => ?_⟩, ?_, fun j hj => ?_⟩⟩
            · have : v ≠ 9536 := by simpa using hv
              rw [← g3 v hv]
              funext x; simp [u2, this]
            · have := (g5 g (by omega)).mpr ⟨j, hj, by omega⟩
              rw [this] at c5; cases c5
            · have := sbG_s g5 hg (by omega)
              simpa [up] using this
            · by_cases e : j = n
              · subst e; simp [u2, hg]
              · simp [u2, e]; exact g6 j (by omega)
          · rw [c5, z1_t] at ez
            have fin : QQ (0, s) := (hQQ _).mpr ⟨false, rfl, g3, ⟨fun q => (by cases q), fun q => by
              obtain ⟨j, j1, j2⟩ := (g5 g (by omega)).mp c5
              have := (okG_s.mp (okG_le q hn)).2.2 j j1
              omega⟩, fun q => by cases q⟩
            clear hQQ
            simp (disch := first | decide | omega) only [cE_K, vE_K, gE_K, o1K_0, o1K_i, o1_K, o2L_0, o2L_i, o2K_0, o2K_i, o2_K, thK_0, thK_i, th_K, dvL_0, dvL_i, dvK_0, dvK_i, dv_K, rmL_0, rmL_i, rmK_0, rmK_i, rm_K, dlL_0, dlL_i, dlK_0, dlK_i, dl_K, ldQ_0, ldQ_i, ldL_0, ldL_i, ldK_0, ldK_i, ld_K, kK_0, kK_i, k_K, aL_0, aL_i, aK_0, aK_i, aE_0, aE_1, clK_0, clK_i, cl_K, cBL_0, cBL_i, cBK_0, cBK_i, cB_K, zBK_0, zBK_i, zB_K, nBK_0, nBK_i, nB_K, andK_0, andK_i, and_K, orK_0, orK_i, or_K, tkK_0, tkK_i, tk_K, sk_K, stK_0, stK_i, st_K, exK_0, exK_i, ex_K, in_K, pfL_0, pfL_i, pfK_0, pfK_i, pf_K, pzL_0, pzL_i, pzK_0, pzK_i, pz_K, poL_0, poL_i, poK_0, poK_i, po_K, asQ_0, asQ_i, asM_0, asM_i, asL_0, asL_i, asK_0, asK_i, as_K, aoM_0, aoM_i, aoQ_0, aoQ_i, aoL_0, aoL_i, aoK_0, aoK_i, ao_K, sqK_0, sqK_1, sqK_2, sqK_3, sqK_4, sqK_i, sq_K, swK_0, swK_1, swK_2, swK_3, swK_4, swK_i, sw_K, ifK_0, ifK_i, if_K, br_K, ct_K, rv_K, thr_K, rtK_0, rtK_i, rt_K, mfK_0, mfK_i, mf_K, mzK_i, mzK_0, mz_K, cpK_0, cpT_0, cp_K, tsK_0, tsK_i, ts_K, tsP_hit, tsP_next, tsP_low, tsP_nil, ini_0, ini_1, rdU_0, rdU_i, rdB_0, rdB_1, rdB_2, rdB_3, rdB_4, rdB_i, rdC_0, rdC_i, rnd_K, cmpI, addI, subI, mulI, i2lI, l2iI, minI, maxI, idI, up, ok_some, ok_ite, w32_id, ix_id, Int.toNat_add, Int.toNat_mul, ltI_t, ltI_f, leI_t, leI_f, eqI_t, eqI_f, u2_s, u2_v, u2_i, w3_m2, w3_m1, w3_0, w3_1, w3_2, w3_3, w3_4, w3_5, w3_6, w3_7, w3_8, w3_9, w3_10, w3_12, w3_20, w3_23, w3_24, w3_25, w3_32, w3_40, w3_50, w3_100, w3_120, w3_168, w3_200, w3_240, w3_255, w3_500, w3_592, w3_600, w3_900, w3_940, w3_999, w3_1000, w3_1009, w3_1184, w3_3333, w3_9999, if_true, if_false, reduceIte, true_and, and_true, false_and, and_false, true_or, or_true, false_or, or_false, not_true_eq_false, not_false_eq_true, decide_true, decide_false, decide_eq_true_eq, Bool.not_true, Bool.not_false, Bool.false_eq_true, Bool.not_eq_true', Bool.not_eq_eq_eq_not, decide_eq_false_iff_not, Int.not_lt, Int.not_le, Nat.not_le, Nat.not_lt, Nat.le_refl, Int.le_refl, Nat.lt_irrefl, Int.lt_irrefl, reduceCtorEq, Nat.reduceEqDiff, Nat.reduceAdd, Nat.reduceMul, Nat.reduceBEq, Int.reduceNeg, Int.reduceAdd, Int.toNat_natCast, Int.reduceToNat, ne_eq, Nat.zero_ne_one, true_or, Int.ofNat_lt, Int.ofNat_le, Int.natCast_add, Int.cast_ofNat_Int, Int.natCast_zero, g1, g2, hb, iG, ez, Int.one_ne_zero]
            exact fin
        · have iG : m_D_isGuild [0, (g : Int)] s = some (0, s) := by
            rw [D_isGuild_eq, gd, w32_id (by omega) (by omega), w32_id (by omega) (by omega), decide_eq_false (by omega), z1_f]
          have fin : QQ (0, s) := (hQQ _).mpr ⟨false, rfl, g3, ⟨fun q => (by cases q), fun q => by
            have := (okG_s.mp (okG_le q hn)).2.1
            omega⟩, fun q => by cases q⟩
          clear hQQ
          simp (disch := first | decide | omega) only [cE_K, vE_K, gE_K, o1K_0, o1K_i, o1_K, o2L_0, o2L_i, o2K_0, o2K_i, o2_K, thK_0, thK_i, th_K, dvL_0, dvL_i, dvK_0, dvK_i, dv_K, rmL_0, rmL_i, rmK_0, rmK_i, rm_K, dlL_0, dlL_i, dlK_0, dlK_i, dl_K, ldQ_0, ldQ_i, ldL_0, ldL_i, ldK_0, ldK_i, ld_K, kK_0, kK_i, k_K, aL_0, aL_i, aK_0, aK_i, aE_0, aE_1, clK_0, clK_i, cl_K, cBL_0, cBL_i, cBK_0, cBK_i, cB_K, zBK_0, zBK_i, zB_K, nBK_0, nBK_i, nB_K, andK_0, andK_i, and_K, orK_0, orK_i, or_K, tkK_0, tkK_i, tk_K, sk_K, stK_0, stK_i, st_K, exK_0, exK_i, ex_K, in_K, pfL_0, pfL_i, pfK_0, pfK_i, pf_K, pzL_0, pzL_i, pzK_0, pzK_i, pz_K, poL_0, poL_i, poK_0, poK_i, po_K, asQ_0, asQ_i, asM_0, asM_i, asL_0, asL_i, asK_0, asK_i, as_K, aoM_0, aoM_i, aoQ_0, aoQ_i, aoL_0, aoL_i, aoK_0, aoK_i, ao_K, sqK_0, sqK_1, sqK_2, sqK_3, sqK_4, sqK_i, sq_K, swK_0, swK_1, swK_2, swK_3, swK_4, swK_i, sw_K, ifK_0, ifK_i, if_K, br_K, ct_K, rv_K, thr_K, rtK_0, rtK_i, rt_K, mfK_0, mfK_i, mf_K, mzK_i, mzK_0, mz_K, cpK_0, cpT_0, cp_K, tsK_0, tsK_i, ts_K, tsP_hit, tsP_next, tsP_low, tsP_nil, ini_0, ini_1, rdU_0, rdU_i, rdB_0, rdB_1, rdB_2, rdB_3, rdB_4, rdB_i, rdC_0, rdC_i, rnd_K, cmpI, addI, subI, mulI, i2lI, l2iI, minI, maxI, idI, up, ok_some, ok_ite, w32_id, ix_id, Int.toNat_add, Int.toNat_mul, ltI_t, ltI_f, leI_t, leI_f, eqI_t, eqI_f, u2_s, u2_v, u2_i, w3_m2, w3_m1, w3_0, w3_1, w3_2, w3_3, w3_4, w3_5, w3_6, w3_7, w3_8, w3_9, w3_10, w3_12, w3_20, w3_23, w3_24, w3_25, w3_32, w3_40, w3_50, w3_100, w3_120, w3_168, w3_200, w3_240, w3_255, w3_500, w3_592, w3_600, w3_900, w3_940, w3_999, w3_1000, w3_1009, w3_1184, w3_3333, w3_9999, if_true, if_false, reduceIte, true_and, and_true, false_and, and_false, true_or, or_true, false_or, or_false, not_true_eq_false, not_false_eq_true, decide_true, decide_false, decide_eq_true_eq, Bool.not_true, Bool.not_false, Bool.false_eq_true, Bool.not_eq_true', Bool.not_eq_eq_eq_not, decide_eq_false_iff_not, Int.not_lt, Int.not_le, Nat.not_le, Nat.not_lt, Nat.le_refl, Int.le_refl, Nat.lt_irrefl, Int.lt_irrefl, reduceCtorEq, Nat.reduceEqDiff, Nat.reduceAdd, Nat.reduceMul, Nat.reduceBEq, Int.reduceNeg, Int.reduceAdd, Int.toNat_natCast, Int.reduceToNat, ne_eq, Nat.zero_ne_one, true_or, Int.ofNat_lt, Int.ofNat_le, Int.natCast_add, Int.cast_ofNat_Int, Int.natCast_zero, g1, g2, hb, iG]
          exact fin
      · have fin : QQ (1, s) := (hQQ _).mpr ⟨true, rfl, g3, ⟨fun _ => g4, fun _ => rfl⟩, fun _ => g6⟩
        clear hIn hQQ
        simp (disch := first | decide | omega) only [cE_K, vE_K, gE_K, o1K_0, o1K_i, o1_K, o2L_0, o2L_i, o2K_0, o2K_i, o2_K, thK_0, thK_i, th_K, dvL_0, dvL_i, dvK_0, dvK_i, dv_K, rmL_0, rmL_i, rmK_0, rmK_i, rm_K, dlL_0, dlL_i, dlK_0, dlK_i, dl_K, ldQ_0, ldQ_i, ldL_0, ldL_i, ldK_0, ldK_i, ld_K, kK_0, kK_i, k_K, aL_0, aL_i, aK_0, aK_i, aE_0, aE_1, clK_0, clK_i, cl_K, cBL_0, cBL_i, cBK_0, cBK_i, cB_K, zBK_0, zBK_i, zB_K, nBK_0, nBK_i, nB_K, andK_0, andK_i, and_K, orK_0, orK_i, or_K, tkK_0, tkK_i, tk_K, sk_K, stK_0, stK_i, st_K, exK_0, exK_i, ex_K, in_K, pfL_0, pfL_i, pfK_0, pfK_i, pf_K, pzL_0, pzL_i, pzK_0, pzK_i, pz_K, poL_0, poL_i, poK_0, poK_i, po_K, asQ_0, asQ_i, asM_0, asM_i, asL_0, asL_i, asK_0, asK_i, as_K, aoM_0, aoM_i, aoQ_0, aoQ_i, aoL_0, aoL_i, aoK_0, aoK_i, ao_K, sqK_0, sqK_1, sqK_2, sqK_3, sqK_4, sqK_i, sq_K, swK_0, swK_1, swK_2, swK_3, swK_4, swK_i, sw_K, ifK_0, ifK_i, if_K, br_K, ct_K, rv_K, thr_K, rtK_0, rtK_i, rt_K, mfK_0, mfK_i, mf_K, mzK_i, mzK_0, mz_K, cpK_0, cpT_0, cp_K, tsK_0, tsK_i, ts_K, tsP_hit, tsP_next, tsP_low, tsP_nil, ini_0, ini_1, rdU_0, rdU_i, rdB_0, rdB_1, rdB_2, rdB_3, rdB_4, rdB_i, rdC_0, rdC_i, rnd_K, cmpI, addI, subI, mulI, i2lI, l2iI, minI, maxI, idI, up, ok_some, ok_ite, w32_id, ix_id, Int.toNat_add, Int.toNat_mul, ltI_t, ltI_f, leI_t, leI_f, eqI_t, eqI_f, u2_s, u2_v, u2_i, w3_m2, w3_m1, w3_0, w3_1, w3_2, w3_3, w3_4, w3_5, w3_6, w3_7, w3_8, w3_9, w3_10, w3_12, w3_20, w3_23, w3_24, w3_25, w3_32, w3_40, w3_50, w3_100, w3_120, w3_168, w3_200, w3_240, w3_255, w3_500, w3_592, w3_600, w3_900, w3_940, w3_999, w3_1000, w3_1009, w3_1184, w3_3333, w3_9999, if_true, if_false, reduceIte, true_and, and_true, false_and, and_false, true_or, or_true, false_or, or_false, not_true_eq_false, not_false_eq_true, decide_true, decide_false, decide_eq_true_eq, Bool.not_true, Bool.not_false, Bool.false_eq_true, Bool.not_eq_true', Bool.not_eq_eq_eq_not, decide_eq_false_iff_not, Int.not_lt, Int.not_le, Nat.not_le, Nat.not_lt, Nat.le_refl, Int.le_refl, Nat.lt_irrefl, Int.lt_irrefl, reduceCtorEq, Nat.reduceEqDiff, Nat.reduceAdd, Nat.reduceMul, Nat.reduceBEq, Int.reduceNeg, Int.reduceAdd, Int.toNat_natCast, Int.reduceToNat, ne_eq, Nat.zero_ne_one, true_or, Int.ofNat_lt, Int.ofNat_le, Int.natCast_add, Int.cast_ofNat_Int, Int.natCast_zero, g1, g2, Int.one_ne_zero]
        exact fin
    obtain ⟨⟨x1, x2⟩, h1, h2⟩ := main
    obtain ⟨b, k1, k2, k3, k4⟩ := (hQQ _).mp h2
    simp only at k1 k2 k3 k4
    subst k1
    exact ⟨b, x2, h1, k2, ⟨fun q => ⟨c1, c2, c3, k3.mp q⟩, fun q => k3.mpr q.2.2.2⟩, k4⟩
  · refine ⟨false, s0, ?_, fr_rfl, ⟨fun q => (by cases q), fun q => absurd ⟨q.1, q.2.1, q.2.2.1⟩ c⟩, fun q => by cases q⟩
    rw [z1_f]
    simp only [m_D_chooseGuilds, b_D_chooseGuilds]
    by_cases c1 : T < 1
    · simp (disch := first | decide | omega) only [cE_K, vE_K, gE_K, o1K_0, o1K_i, o1_K, o2L_0, o2L_i, o2K_0, o2K_i, o2_K, thK_0, thK_i, th_K, dvL_0, dvL_i, dvK_0, dvK_i, dv_K, rmL_0, rmL_i, rmK_0, rmK_i, rm_K, dlL_0, dlL_i, dlK_0, dlK_i, dl_K, ldQ_0, ldQ_i, ldL_0, ldL_i, ldK_0, ldK_i, ld_K, kK_0, kK_i, k_K, aL_0, aL_i, aK_0, aK_i, aE_0, aE_1, clK_0, clK_i, cl_K, cBL_0, cBL_i, cBK_0, cBK_i, cB_K, zBK_0, zBK_i, zB_K, nBK_0, nBK_i, nB_K, andK_0, andK_i, and_K, orK_0, orK_i, or_K, tkK_0, tkK_i, tk_K, sk_K, stK_0, stK_i, st_K, exK_0, exK_i, ex_K, in_K, pfL_0, pfL_i, pfK_0, pfK_i, pf_K, pzL_0, pzL_i, pzK_0, pzK_i, pz_K, poL_0, poL_i, poK_0, poK_i, po_K, asQ_0, asQ_i, asM_0, asM_i, asL_0, asL_i, asK_0, asK_i, as_K, aoM_0, aoM_i, aoQ_0, aoQ_i, aoL_0, aoL_i, aoK_0, aoK_i, ao_K, sqK_0, sqK_1, sqK_2, sqK_3, sqK_4, sqK_i, sq_K, swK_0, swK_1, swK_2, swK_3, swK_4, swK_i, sw_K, ifK_0, ifK_i, if_K, br_K, ct_K, rv_K, thr_K, rtK_0, rtK_i, rt_K, mfK_0, mfK_i, mf_K, mzK_i, mzK_0, mz_K, cpK_0, cpT_0, cp_K, tsK_0, tsK_i, ts_K, tsP_hit, tsP_next, tsP_low, tsP_nil, ini_0, ini_1, rdU_0, rdU_i, rdB_0, rdB_1, rdB_2, rdB_3, rdB_4, rdB_i, rdC_0, rdC_i, rnd_K, cmpI, addI, subI, mulI, i2lI, l2iI, minI, maxI, idI, up, ok_some, ok_ite, w32_id, ix_id, Int.toNat_add, Int.toNat_mul, ltI_t, ltI_f, leI_t, leI_f, eqI_t, eqI_f, u2_s, u2_v, u2_i, w3_m2, w3_m1, w3_0, w3_1, w3_2, w3_3, w3_4, w3_5, w3_6, w3_7, w3_8, w3_9, w3_10, w3_12, w3_20, w3_23, w3_24, w3_25, w3_32, w3_40, w3_50, w3_100, w3_120, w3_168, w3_200, w3_240, w3_255, w3_500, w3_592, w3_600, w3_900, w3_940, w3_999, w3_1000, w3_1009, w3_1184, w3_3333, w3_9999, if_true, if_false, reduceIte, true_and, and_true, false_and, and_false, true_or, or_true, false_or, or_false, not_true_eq_false, not_false_eq_true, decide_true, decide_false, decide_eq_true_eq, Bool.not_true, Bool.not_false, Bool.false_eq_true, Bool.not_eq_true', Bool.not_eq_eq_eq_not, decide_eq_false_iff_not, Int.not_lt, Int.not_le, Nat.not_le, Nat.not_lt, Nat.le_refl, Int.le_refl, Nat.lt_irrefl, Int.lt_irrefl, reduceCtorEq, Nat.reduceEqDiff, Nat.reduceAdd, Nat.reduceMul, Nat.reduceBEq, Int.reduceNeg, Int.reduceAdd, Int.toNat_natCast, Int.reduceToNat, ne_eq, Nat.zero_ne_one, true_or, Int.ofNat_lt, Int.ofNat_le, Int.natCast_add, Int.cast_ofNat_Int, Int.natCast_zero]
    · by_cases c2 : 4 < T
      · simp (disch := first | decide | omega) only [cE_K, vE_K, gE_K, o1K_0, o1K_i, o1_K, o2L_0, o2L_i, o2K_0, o2K_i, o2_K, thK_0, thK_i, th_K, dvL_0, dvL_i, dvK_0, dvK_i, dv_K, rmL_0, rmL_i, rmK_0, rmK_i, rm_K, dlL_0, dlL_i, dlK_0, dlK_i, dl_K, ldQ_0, ldQ_i, ldL_0, ldL_i, ldK_0, ldK_i, ld_K, kK_0, kK_i, k_K, aL_0, aL_i, aK_0, aK_i, aE_0, aE_1, clK_0, clK_i, cl_K, cBL_0, cBL_i, cBK_0, cBK_i, cB_K, zBK_0, zBK_i, zB_K, nBK_0, nBK_i, nB_K, andK_0, andK_i, and_K, orK_0, orK_i, or_K, tkK_0, tkK_i, tk_K, sk_K, stK_0, stK_i, st_K, exK_0, exK_i, ex_K, in_K, pfL_0, pfL_i, pfK_0, pfK_i, pf_K, pzL_0, pzL_i, pzK_0, pzK_i, pz_K, poL_0, poL_i, poK_0, poK_i, po_K, asQ_0, asQ_i, asM_0, asM_i, asL_0, asL_i, asK_0, asK_i, as_K, aoM_0, aoM_i, aoQ_0, aoQ_i, aoL_0, aoL_i, aoK_0, aoK_i, ao_K, sqK_0, sqK_1, sqK_2, sqK_3, sqK_4, sqK_i, sq_K, swK_0, swK_1, swK_2, swK_3, swK_4, swK_i, sw_K, ifK_0, ifK_i, if_K, br_K, ct_K, rv_K, thr_K, rtK_0, rtK_i, rt_K, mfK_0, mfK_i, mf_K, mzK_i, mzK_0, mz_K, cpK_0, cpT_0, cp_K, tsK_0, tsK_i, ts_K, tsP_hit, tsP_next, tsP_low, tsP_nil, ini_0, ini_1, rdU_0, rdU_i, rdB_0, rdB_1, rdB_2, rdB_3, rdB_4, rdB_i, rdC_0, rdC_i, rnd_K, cmpI, addI, subI, mulI, i2lI, l2iI, minI, maxI, idI, up, ok_some, ok_ite, w32_id, ix_id, Int.toNat_add, Int.toNat_mul, ltI_t, ltI_f, leI_t, leI_f, eqI_t, eqI_f, u2_s, u2_v, u2_i, w3_m2, w3_m1, w3_0, w3_1, w3_2, w3_3, w3_4, w3_5, w3_6, w3_7, w3_8, w3_9, w3_10, w3_12, w3_20, w3_23, w3_24, w3_25, w3_32, w3_40, w3_50, w3_100, w3_120, w3_168, w3_200, w3_240, w3_255, w3_500, w3_592, w3_600, w3_900, w3_940, w3_999, w3_1000, w3_1009, w3_1184, w3_3333, w3_9999, if_true, if_false, reduceIte, true_and, and_true, false_and, and_false, true_or, or_true, false_or, or_false, not_true_eq_false, not_false_eq_true, decide_true, decide_false, decide_eq_true_eq, Bool.not_true, Bool.not_false, Bool.false_eq_true, Bool.not_eq_true', Bool.not_eq_eq_eq_not, decide_eq_false_iff_not, Int.not_lt, Int.not_le, Nat.not_le, Nat.not_lt, Nat.le_refl, Int.le_refl, Nat.lt_irrefl, Int.lt_irrefl, reduceCtorEq, Nat.reduceEqDiff, Nat.reduceAdd, Nat.reduceMul, Nat.reduceBEq, Int.reduceNeg, Int.reduceAdd, Int.toNat_natCast, Int.reduceToNat, ne_eq, Nat.zero_ne_one, true_or, Int.ofNat_lt, Int.ofNat_le, Int.natCast_add, Int.cast_ofNat_Int, Int.natCast_zero]
      · simp (disch := first | decide | omega) only [cE_K, vE_K, gE_K, o1K_0, o1K_i, o1_K, o2L_0, o2L_i, o2K_0, o2K_i, o2_K, thK_0, thK_i, th_K, dvL_0, dvL_i, dvK_0, dvK_i, dv_K, rmL_0, rmL_i, rmK_0, rmK_i, rm_K, dlL_0, dlL_i, dlK_0, dlK_i, dl_K, ldQ_0, ldQ_i, ldL_0, ldL_i, ldK_0, ldK_i, ld_K, kK_0, kK_i, k_K, aL_0, aL_i, aK_0, aK_i, aE_0, aE_1, clK_0, clK_i, cl_K, cBL_0, cBL_i, cBK_0, cBK_i, cB_K, zBK_0, zBK_i, zB_K, nBK_0, nBK_i, nB_K, andK_0, andK_i, and_K, orK_0, orK_i, or_K, tkK_0, tkK_i, tk_K, sk_K, stK_0, stK_i, st_K, exK_0, exK_i, ex_K, in_K, pfL_0, pfL_i, pfK_0, pfK_i, pf_K, pzL_0, pzL_i, pzK_0, pzK_i, pz_K, poL_0, poL_i, poK_0, poK_i, po_K, asQ_0, asQ_i, asM_0, asM_i, asL_0, asL_i, asK_0, asK_i, as_K, aoM_0, aoM_i, aoQ_0, aoQ_i, aoL_0, aoL_i, aoK_0, aoK_i, ao_K, sqK_0, sqK_1, sqK_2, sqK_3, sqK_4, sqK_i, sq_K, swK_0, swK_1, swK_2, swK_3, swK_4, swK_i, sw_K, ifK_0, ifK_i, if_K, br_K, ct_K, rv_K, thr_K, rtK_0, rtK_i, rt_K, mfK_0, mfK_i, mf_K, mzK_i, mzK_0, mz_K, cpK_0, cpT_0, cp_K, tsK_0, tsK_i, ts_K, tsP_hit, tsP_next, tsP_low, tsP_nil, ini_0, ini_1, rdU_0, rdU_i, rdB_0, rdB_1, rdB_2, rdB_3, rdB_4, rdB_i, rdC_0, rdC_i, rnd_K, cmpI, addI, subI, mulI, i2lI, l2iI, minI, maxI, idI, up, ok_some, ok_ite, w32_id, ix_id, Int.toNat_add, Int.toNat_mul, ltI_t, ltI_f, leI_t, leI_f, eqI_t, eqI_f, u2_s, u2_v, u2_i, w3_m2, w3_m1, w3_0, w3_1, w3_2, w3_3, w3_4, w3_5, w3_6, w3_7, w3_8, w3_9, w3_10, w3_12, w3_20, w3_23, w3_24, w3_25, w3_32, w3_40, w3_50, w3_100, w3_120, w3_168, w3_200, w3_240, w3_255, w3_500, w3_592, w3_600, w3_900, w3_940, w3_999, w3_1000, w3_1009, w3_1184, w3_3333, w3_9999, if_true, if_false, reduceIte, true_and, and_true, false_and, and_false, true_or, or_true, false_or, or_false, not_true_eq_false, not_false_eq_true, decide_true, decide_false, decide_eq_true_eq, Bool.not_true, Bool.not_false, Bool.false_eq_true, Bool.not_eq_true', Bool.not_eq_eq_eq_not, decide_eq_false_iff_not, Int.not_lt, Int.not_le, Nat.not_le, Nat.not_lt, Nat.le_refl, Int.le_refl, Nat.lt_irrefl, Int.lt_irrefl, reduceCtorEq, Nat.reduceEqDiff, Nat.reduceAdd, Nat.reduceMul, Nat.reduceBEq, Int.reduceNeg, Int.reduceAdd, Int.toNat_natCast, Int.reduceToNat, ne_eq, Nat.zero_ne_one, true_or, Int.ofNat_lt, Int.ofNat_le, Int.natCast_add, Int.cast_ofNat_Int, Int.natCast_zero, hB]
