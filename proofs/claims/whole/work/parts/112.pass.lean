/-! an HOUR of the class's Week -/
/-- what the Week's methods read of the RIVER -/
def rdX (σ : Me) (N : Nat → Int) : Prop :=
  (σ 257 0 = N 0 ∧ σ 260 0 = N 1 ∧ σ 261 0 = N 2 ∧ σ 265 0 = N 3 ∧ (-1 ≤ σ 271 0 ∧ σ 271 0 < 10000 ∧ (if σ 271 0 = -1 then 9999 else σ 271 0) = N 5)) ∧
  (∀ r : Nat, (r : Int) < N 0 → σ 640 r = N (11 + 2 * r)) ∧
  (∀ g : Nat, (g : Int) < N 2 → σ 704 g = N (30 + 6 * g) ∧ ∀ c : Nat, (c : Int) < N 1 → σ 832 (g * 4 + c) = N (32 + 6 * g + c)) ∧
  (∀ u : Nat, (u : Int) < N 3 → σ 896 u = N (66 + 7 * u) ∧ σ 960 u = N (67 + 7 * u) ∧ σ 1024 u = N (68 + 7 * u) ∧ ∀ c : Nat, (c : Int) < N 1 → σ 1088 (u * 4 + c) = N (69 + 7 * u + c))
/-- below the Week's own rows nothing has changed -/
def loX (σ τ : Me) : Prop := ∀ v, v < 8704 → τ v = σ v
theorem loX_rfl {σ : Me} : loX σ σ := fun _ _ => rfl
theorem loX_trans {σ τ υ : Me} (h1 : loX σ τ) (h2 : loX τ υ) : loX σ υ := fun v hv => (h2 v hv).trans (h1 v hv)
theorem rdX_lo {σ τ : Me} {N : Nat → Int} (h : rdX σ N) (hl : loX σ τ) : rdX τ N := by
  unfold rdX
  rw [hl _ (by decide), hl _ (by decide), hl _ (by decide), hl _ (by decide), hl _ (by decide), hl _ (by decide), hl _ (by decide), hl _ (by decide), hl _ (by decide), hl _ (by decide), hl _ (by decide), hl _ (by decide)]
  exact h
theorem poured_eq {σ : Me} {N : Nat → Int} {w : Int} {C G : Nat} (hN : rvN N) (hX : rdX σ N) (hC : N 1 = C) (hG : N 2 = G) : ∀ g, g ≤ G → ∀ i, poured σ w C g i = if i % 4 < C then poN N w g i else 0 := by
  intro g
  induction g with
  | zero => intro _ i; simp [poured, poN]
  | succ g ih =>
    intro hg i
    obtain ⟨x1, x2⟩ := hX.2.2.1 g (by omega)
    obtain ⟨n1, n2, _⟩ := hN.2.2.1 g (by omega)
    simp only [poured, poN, ih (by omega) i]
    by_cases hi : i % 4 < C
    · have x3 := x2 (i % 4) (by omega)
      simp only [hi, if_true, and_true, x1, x3]
      congr 1
      by_cases hb : bt w g = true
      · simp only [hb, true_and]
        by_cases he : N (30 + 6 * g) = ((i / 4 : Nat) : Int)
        · rw [if_pos (by omega), if_pos he]
        · rw [if_neg (by omega), if_neg he]
      · simp [hb]
    · simp [hi]
theorem poN_out {N : Nat → Int} {w : Int} {G R i : Nat} (hN : rvN N) (hR : N 0 = R) (hG : N 2 = G) (hi : R ≤ i / 4) : ∀ g, g ≤ G → poN N w g i = 0 := by
  intro g
  induction g with
  | zero => intro _; rfl
  | succ g ih =>
    intro hg
    obtain ⟨n1, n2, _⟩ := hN.2.2.1 g (by omega)
    simp only [poN, ih (by omega)]
    rw [if_neg (by omega)]
    rfl
/-- Week.pass: X what is in the water when all have put in -/
theorem pass_ok {σ : Me} {N X B : Nat → Int} {h R C G : Nat} {f : Int} (hN : rvN N) (hX : rdX σ N) (hR : N 0 = R) (hC : N 1 = C) (hG : N 2 = G) (hh : h < 168)
    (hv : ∀ r, r < R → σ 8704 r = N (10 + 2 * r)) (hf : σ 8768 (h / 24) = f) (f0 : 0 ≤ f) (f1 : f ≤ 9999)
    (hW : ∀ i, i < 40 → i / 4 < R → i % 4 < C → σ 8896 i + poN N (σ 8832 h) G i = X i) (hB : ∀ i, i < 40 → i / 4 < R → i % 4 < C → σ 8960 i = B i)
    (hz : ∀ i, i < 40 → ¬ (i / 4 < R ∧ i % 4 < C) → σ 8896 i = 0 ∧ σ 8960 i = 0)
    (hx0 : ∀ i, 0 ≤ X i) (hb0 : ∀ i, 0 ≤ B i) (hxb : ∀ i, i / 4 < R → i % 4 < C → X i + B i ≤ 10078992) :
    ∃ τ, m_Week_pass [0, 0, h] σ = some (0, τ) ∧ (∀ v, v ≠ 8896 → v ≠ 8960 → v ≠ 9024 → τ v = σ v) ∧ (∀ i, i < 40 → τ 8896 i = stW N f X B i ∧ τ 8960 i = stB N f X B i) ∧ ∀ c, c < C → τ 9024 c = stP N f X B c := by
  have h10 : R ≤ 10 := by have := hN.1.1; omega
  have h4 : C ≤ 4 := by have := hN.1.2.1; omega
  have h6 : G ≤ 6 := by have := hN.1.2.2.1; omega
  obtain ⟨⟨x1, x2, x3, x4, x5, x6, x7⟩, xs, xg, xu⟩ := id hX
  -- pour
  generalize hw : σ 8832 h = w at hW
  have p1 := pour_eq (σ := σ) (w := w) (x3.trans hG) h6 (x2.trans hC) h4 (R := R) (fun g hg => by have := (xg g (by omega)).1; have := hN.2.2.1 g (by omega); omega) h10
  generalize hs1 : pourM σ (poured σ w C G) = s1 at p1
  have a1 : ∀ v, v ≠ 8896 → s1 v = σ v := fun v hv => by rw [← hs1]; funext i; simp [pourM, hv]
  have w1 : ∀ i, i < 40 → s1 8896 i = if i / 4 < R ∧ i % 4 < C then X i else 0 := fun i hi => by
    rw [← hs1]
    simp only [pourM, if_true, poured_eq hN hX hC hG G (Nat.le_refl _) i]
    by_cases ha : i / 4 < R ∧ i % 4 < C
    · rw [if_pos ha.2, if_pos ha, hW i hi ha.1 ha.2]
    · rw [if_neg ha, (hz i hi ha).1]
      by_cases hc : i % 4 < C
      · rw [if_pos hc, poN_out hN hR hG (by omega) G (Nat.le_refl _)]
        rfl
      · rw [if_neg hc]
        rfl
  have b1 : ∀ i, i < 40 → s1 8960 i = if i / 4 < R ∧ i % 4 < C then B i else 0 := fun i hi => by
    rw [a1 _ (by decide)]
    by_cases ha : i / 4 < R ∧ i % 4 < C
    · rw [if_pos ha, hB i hi ha.1 ha.2]
    · rw [if_neg ha, (hz i hi ha).2]
  -- flood
  have hfl := River_floodFrom_eq (σ := s1) (f := σ 271 0) (by rw [a1 _ (by decide)]) x5 x6
  rw [x7] at hfl
  have n5 := hN.1.2.2.2.2.2
  have p2 : ∃ s2, (if N 5 ≤ f then m_Week_washUp [0, 0] s1 = some (0, s2) else s2 = s1) ∧ (∀ v, v ≠ 8896 → v ≠ 8960 → s2 v = s1 v) ∧ (∀ i, i < 40 → s2 8896 i = if i / 4 < R ∧ i % 4 < C then x2N N f X B i else 0) ∧ (∀ i, i < 40 → s2 8960 i = if i / 4 < R ∧ i % 4 < C then b2N N f B i else 0) := by
    by_cases hfd : N 5 ≤ f
    · have p := washUp_eq (σ := s1) (R := R) (by rw [a1 _ (by decide)]; exact x1.trans hR) h10 (fun i hi => by
        rw [b1 i hi]
        split
        · rename_i ha
          have := hxb i ha.1 ha.2; have := hx0 i; have := hb0 i
          omega
        · omega)
      simp only [if_pos hfd]
      refine ⟨_, p, fun v h1 h2 => by funext i; simp [h1, h2], fun i hi => ?_, fun i hi => ?_⟩
      · have h48 : ¬ (8896 : Nat) = 8960 := by decide
        simp only [w1 i hi, b1 i hi, x2N, if_pos hfd, h48, false_and, if_false, true_and]
        by_cases ha : i / 4 < R ∧ i % 4 < C
        · have hq : i < 4 * R := by omega
          simp only [if_pos ha, if_pos hq]
        · simp only [if_neg ha]
          by_cases hq : i < 4 * R
          · rw [if_pos hq]; rfl
          · rw [if_neg hq]
      · simp only [b1 i hi, b2N, if_pos hfd, true_and]
        by_cases ha : i / 4 < R ∧ i % 4 < C
        · have hq : i < 4 * R := by omega
          simp only [if_pos ha, if_pos hq]
        · simp only [if_neg ha]
          by_cases hq : i < 4 * R
          · rw [if_pos hq]; rfl
          · simp [hq]
    · simp only [if_neg hfd]
      exact ⟨s1, rfl, fun v _ _ => rfl, fun i hi => by rw [w1 i hi]; simp [x2N, hfd], fun i hi => by rw [b1 i hi]; simp [b2N, hfd]⟩
  obtain ⟨s2, p2, a2, w2, b2⟩ := p2
  have x2b : ∀ i, i / 4 < R → i % 4 < C → 0 ≤ x2N N f X B i ∧ x2N N f X B i ≤ 10078992 := fun i h1 h2 => by
    have := hxb i h1 h2; have := x2N_nn (N := N) (f := f) (hx0 i) (hb0 i)
    omega
  -- carry
  have p3 := carry_eq (σ := s2) (R := R) (C := C) (f := f) (by rw [a2 _ (by decide) (by decide), a1 _ (by decide)]; exact x1.trans hR) h10 (by rw [a2 _ (by decide) (by decide), a1 _ (by decide)]; exact x2.trans hC) h4 (fun i hi => by
      rw [w2 i hi]
      split
      · rename_i ha
        have := x2b i ha.1 ha.2
        omega
      · omega) (fun r hr => by
      rw [a2 _ (by decide) (by decide), a1 _ (by decide), hv r hr]
      have := rvN_v hN hR hr
      omega) f0 f1
  have hg3 : ∀ i, i < 40 → i / 4 < R → i % 4 < C → gon (s2 8704) f (s2 8896) i = goN N f X B i := fun i hi h1 h2 => by
    unfold goN gon vlN
    rw [a2 8704 (by decide) (by decide), a1 8704 (by decide), hv _ h1, w2 i hi, if_pos ⟨h1, h2⟩]
  generalize hs3 : carM s2 (gon (s2 8704) f (s2 8896)) R (fun i => i / 4 < R ∧ i % 4 < C) (fun i => if i < C then carP (gon (s2 8704) f (s2 8896)) R i else s2 9024 i) = s3 at p3
  have a3 : ∀ v, v ≠ 8896 → v ≠ 9024 → s3 v = s2 v := fun v h1 h2 => by rw [← hs3]; funext i; simp [carM, h1, h2]
  have w3 : ∀ i, i < 40 → s3 8896 i = if i / 4 < R ∧ i % 4 < C then y3N N f X B i else 0 := fun i hi => by
    rw [← hs3]
    simp only [carM, carY, if_true, w2 i hi]
    by_cases ha : i / 4 < R ∧ i % 4 < C
    · simp only [if_pos ha, hg3 i hi ha.1 ha.2, y3N]
      by_cases h4i : 4 ≤ i
      · have hb : (i - 4) / 4 < R ∧ (i - 4) % 4 < C := by omega
        rw [if_pos ⟨h4i, ha.1, hb⟩, if_pos h4i, hg3 (i - 4) (by omega) hb.1 hb.2]
      · rw [if_neg (by omega), if_neg h4i]
    · have hb : ¬ (4 ≤ i ∧ i / 4 < R ∧ (i - 4) / 4 < R ∧ (i - 4) % 4 < C) := by omega
      simp only [if_neg ha, if_neg hb]
      rfl
  have q3 : ∀ c, c < C → s3 9024 c = stP N f X B c := fun c hc => by
    rw [← hs3]
    simp only [carM, stP, carP, if_pos hc, hR]
    by_cases h0 : R = 0
    · subst h0; simp
    · have e : (4 * (R - 1) + c) / 4 = R - 1 := by omega
      have h0' : ¬ (R : Int) = 0 := by omega
      simp only [h0, if_false, h0', Int.toNat_natCast]
      simp
      exact hg3 _ (by omega) (by omega) (by omega)
  have y3b : ∀ i, i / 4 < R → i % 4 < C → 0 ≤ y3N N f X B i ∧ y3N N f X B i ≤ 20157984 := fun i h1 h2 => by
    have v1 := rvN_v hN hR h1
    have hy := y3N_nn (N := N) (f := f) (X := X) (B := B) (i := i) f0 hx0 hb0 (by unfold vlN; omega) (fun _ => by
      have := rvN_v hN hR (r := (i - 4) / 4) (by omega)
      unfold vlN; omega)
    refine ⟨hy, ?_⟩
    have g1 := gon_bd (V := vlN N) (X := x2N N f X B) (f := f) (i := i) (x2b i h1 h2).1 (by unfold vlN; omega) f0
    have := x2b i h1 h2
    unfold y3N goN
    split
    · have v2 := rvN_v hN hR (r := (i - 4) / 4) (by omega)
      have g2 := gon_bd (V := vlN N) (X := x2N N f X B) (f := f) (i := i - 4) (x2b (i - 4) (by omega) (by omega)).1 (by unfold vlN; omega) f0
      have := x2b (i - 4) (by omega) (by omega)
      omega
    · omega
  -- sink
  have lo3 : ∀ v, v ≠ 8896 → v ≠ 8960 → v ≠ 9024 → s3 v = σ v := fun v h1 h2 h3 => by rw [a3 v h1 h3, a2 v h1 h2, a1 v h1]
  have p4 := sink_eq (σ := s3) (R := R) (C := C) (by rw [lo3 _ (by decide) (by decide) (by decide)]; exact x1.trans hR) h10 (by rw [lo3 _ (by decide) (by decide) (by decide)]; exact x2.trans hC) h4 (fun i hi => by
      rw [w3 i hi]
      split
      · rename_i ha
        have := y3b i ha.1 ha.2
        omega
      · omega) (fun r hr => by
      rw [lo3 _ (by decide) (by decide) (by decide), xs r (by omega)]
      have := rvN_v hN hR hr
      omega)
  refine ⟨sinkM s3 (fun i => i / 4 < R ∧ i % 4 < C), ?_, ?_, ?_, ?_⟩
  · have hh24 : h / 24 < 7 := by omega
    simp only [m_Week_pass, b_Week_pass]
    have ih : ixI ((h : Int).tdiv 24) 7 = some (h / 24) := by
      rw [tdiv_nn (by omega), ix_id (by omega) (by omega) (by omega)]
      congr 1
    simp (disch := first | decide | omega) only [cE_K, vE_K, gE_K, o1K_0, o1K_i, o1_K, o2L_0, o2L_i, o2K_0, o2K_i, o2_K, thK_0, thK_i, th_K, dvL_0, dvL_i, dvK_0, dvK_i, dv_K, rmL_0, rmL_i, rmK_0, rmK_i, rm_K, dlL_0, dlL_i, dlK_0, dlK_i, dl_K, ldQ_0, ldQ_i, ldL_0, ldL_i, ldK_0, ldK_i, ld_K, kK_0, kK_i, k_K, aL_0, aL_i, aK_0, aK_i, aE_0, aE_1, clK_0, clK_i, cl_K, cBL_0, cBL_i, cBK_0, cBK_i, cB_K, zBK_0, zBK_i, zB_K, nBK_0, nBK_i, nB_K, andK_0, andK_i, and_K, orK_0, orK_i, or_K, tkK_0, tkK_i, tk_K, sk_K, stK_0, stK_i, st_K, exK_0, exK_i, ex_K, in_K, pfL_0, pfL_i, pfK_0, pfK_i, pf_K, pzL_0, pzL_i, pzK_0, pzK_i, pz_K, poL_0, poL_i, poK_0, poK_i, po_K, asQ_0, asQ_i, asM_0, asM_i, asL_0, asL_i, asK_0, asK_i, as_K, aoM_0, aoM_i, aoQ_0, aoQ_i, aoL_0, aoL_i, aoK_0, aoK_i, ao_K, sqK_0, sqK_1, sqK_2, sqK_3, sqK_4, sqK_i, sq_K, swK_0, swK_1, swK_2, swK_3, swK_4, swK_i, sw_K, ifK_0, ifK_i, if_K, br_K, ct_K, rv_K, thr_K, rtK_0, rtK_i, rt_K, mfK_0, mfK_i, mf_K, mzK_i, mzK_0, mz_K, cpK_0, cpT_0, cp_K, tsK_0, tsK_i, ts_K, tsP_hit, tsP_next, tsP_low, tsP_nil, ini_0, ini_1, rdU_0, rdU_i, rdB_0, rdB_1, rdB_2, rdB_3, rdB_4, rdB_i, rdC_0, rdC_i, rnd_K, cmpI, addI, subI, mulI, i2lI, l2iI, minI, maxI, idI, up, ok_some, ok_ite, w32_id, ix_id, Int.toNat_add, Int.toNat_mul, ltI_t, ltI_f, leI_t, leI_f, eqI_t, eqI_f, u2_s, u2_v, u2_i, w3_m2, w3_m1, w3_0, w3_1, w3_2, w3_3, w3_4, w3_5, w3_6, w3_7, w3_8, w3_9, w3_10, w3_12, w3_20, w3_23, w3_24, w3_25, w3_32, w3_40, w3_50, w3_100, w3_120, w3_168, w3_200, w3_240, w3_255, w3_500, w3_592, w3_600, w3_900, w3_940, w3_999, w3_1000, w3_1009, w3_1184, w3_3333, w3_9999, if_true, if_false, reduceIte, true_and, and_true, false_and, and_false, true_or, or_true, false_or, or_false, not_true_eq_false, not_false_eq_true, decide_true, decide_false, decide_eq_true_eq, Bool.not_true, Bool.not_false, Bool.false_eq_true, Bool.not_eq_true', Bool.not_eq_eq_eq_not, decide_eq_false_iff_not, Int.not_lt, Int.not_le, Nat.not_le, Nat.not_lt, Nat.le_refl, Int.le_refl, Nat.lt_irrefl, Int.lt_irrefl, reduceCtorEq, Nat.reduceEqDiff, Nat.reduceAdd, Nat.reduceMul, Nat.reduceBEq, Int.reduceNeg, Int.reduceAdd, Int.toNat_natCast, Int.reduceToNat, ne_eq, Nat.zero_ne_one, true_or, Int.ofNat_lt, Int.ofNat_le, Int.natCast_add, Int.cast_ofNat_Int, Int.natCast_zero, ih, hf, hw, p1, hfl]
    by_cases hfd : N 5 ≤ f
    · rw [if_pos hfd] at p2
      simp (disch := first | decide | omega) only [cE_K, vE_K, gE_K, o1K_0, o1K_i, o1_K, o2L_0, o2L_i, o2K_0, o2K_i, o2_K, thK_0, thK_i, th_K, dvL_0, dvL_i, dvK_0, dvK_i, dv_K, rmL_0, rmL_i, rmK_0, rmK_i, rm_K, dlL_0, dlL_i, dlK_0, dlK_i, dl_K, ldQ_0, ldQ_i, ldL_0, ldL_i, ldK_0, ldK_i, ld_K, kK_0, kK_i, k_K, aL_0, aL_i, aK_0, aK_i, aE_0, aE_1, clK_0, clK_i, cl_K, cBL_0, cBL_i, cBK_0, cBK_i, cB_K, zBK_0, zBK_i, zB_K, nBK_0, nBK_i, nB_K, andK_0, andK_i, and_K, orK_0, orK_i, or_K, tkK_0, tkK_i, tk_K, sk_K, stK_0, stK_i, st_K, exK_0, exK_i, ex_K, in_K, pfL_0, pfL_i, pfK_0, pfK_i, pf_K, pzL_0, pzL_i, pzK_0, pzK_i, pz_K, poL_0, poL_i, poK_0, poK_i, po_K, asQ_0, asQ_i, asM_0, asM_i, asL_0, asL_i, asK_0, asK_i, as_K, aoM_0, aoM_i, aoQ_0, aoQ_i, aoL_0, aoL_i, aoK_0, aoK_i, ao_K, sqK_0, sqK_1, sqK_2, sqK_3, sqK_4, sqK_i, sq_K, swK_0, swK_1, swK_2, swK_3, swK_4, swK_i, sw_K, ifK_0, ifK_i, if_K, br_K, ct_K, rv_K, thr_K, rtK_0, rtK_i, rt_K, mfK_0, mfK_i, mf_K, mzK_i, mzK_0, mz_K, cpK_0, cpT_0, cp_K, tsK_0, tsK_i, ts_K, tsP_hit, tsP_next, tsP_low, tsP_nil, ini_0, ini_1, rdU_0, rdU_i, rdB_0, rdB_1, rdB_2, rdB_3, rdB_4, rdB_i, rdC_0, rdC_i, rnd_K, cmpI, addI, subI, mulI, i2lI, l2iI, minI, maxI, idI, up, ok_some, ok_ite, w32_id, ix_id, Int.toNat_add, Int.toNat_mul, ltI_t, ltI_f, leI_t, leI_f, eqI_t, eqI_f, u2_s, u2_v, u2_i, w3_m2, w3_m1, w3_0, w3_1, w3_2, w3_3, w3_4, w3_5, w3_6, w3_7, w3_8, w3_9, w3_10, w3_12, w3_20, w3_23, w3_24, w3_25, w3_32, w3_40, w3_50, w3_100, w3_120, w3_168, w3_200, w3_240, w3_255, w3_500, w3_592, w3_600, w3_900, w3_940, w3_999, w3_1000, w3_1009, w3_1184, w3_3333, w3_9999, if_true, if_false, reduceIte, true_and, and_true, false_and, and_false, true_or, or_true, false_or, or_false, not_true_eq_false, not_false_eq_true, decide_true, decide_false, decide_eq_true_eq, Bool.not_true, Bool.not_false, Bool.false_eq_true, Bool.not_eq_true', Bool.not_eq_eq_eq_not, decide_eq_false_iff_not, Int.not_lt, Int.not_le, Nat.not_le, Nat.not_lt, Nat.le_refl, Int.le_refl, Nat.lt_irrefl, Int.lt_irrefl, reduceCtorEq, Nat.reduceEqDiff, Nat.reduceAdd, Nat.reduceMul, Nat.reduceBEq, Int.reduceNeg, Int.reduceAdd, Int.toNat_natCast, Int.reduceToNat, ne_eq, Nat.zero_ne_one, true_or, Int.ofNat_lt, Int.ofNat_le, Int.natCast_add, Int.cast_ofNat_Int, Int.natCast_zero, p2, p3, p4]
    · rw [if_neg hfd] at p2
      subst p2
      simp (disch := first | decide | omega) only [cE_K, vE_K, gE_K, o1K_0, o1K_i, o1_K, o2L_0, o2L_i, o2K_0, o2K_i, o2_K, thK_0, thK_i, th_K, dvL_0, dvL_i, dvK_0, dvK_i, dv_K, rmL_0, rmL_i, rmK_0, rmK_i, rm_K, dlL_0, dlL_i, dlK_0, dlK_i, dl_K, ldQ_0, ldQ_i, ldL_0, ldL_i, ldK_0, ldK_i, ld_K, kK_0, kK_i, k_K, aL_0, aL_i, aK_0, aK_i, aE_0, aE_1, clK_0, clK_i, cl_K, cBL_0, cBL_i, cBK_0, cBK_i, cB_K, zBK_0, zBK_i, zB_K, nBK_0, nBK_i, nB_K, andK_0, andK_i, and_K, orK_0, orK_i, or_K, tkK_0, tkK_i, tk_K, sk_K, stK_0, stK_i, st_K, exK_0, exK_i, ex_K, in_K, pfL_0, pfL_i, pfK_0, pfK_i, pf_K, pzL_0, pzL_i, pzK_0, pzK_i, pz_K, poL_0, poL_i, poK_0, poK_i, po_K, asQ_0, asQ_i, asM_0, asM_i, asL_0, asL_i, asK_0, asK_i, as_K, aoM_0, aoM_i, aoQ_0, aoQ_i, aoL_0, aoL_i, aoK_0, aoK_i, ao_K, sqK_0, sqK_1, sqK_2, sqK_3, sqK_4, sqK_i, sq_K, swK_0, swK_1, swK_2, swK_3, swK_4, swK_i, sw_K, ifK_0, ifK_i, if_K, br_K, ct_K, rv_K, thr_K, rtK_0, rtK_i, rt_K, mfK_0, mfK_i, mf_K, mzK_i, mzK_0, mz_K, cpK_0, cpT_0, cp_K, tsK_0, tsK_i, ts_K, tsP_hit, tsP_next, tsP_low, tsP_nil, ini_0, ini_1, rdU_0, rdU_i, rdB_0, rdB_1, rdB_2, rdB_3, rdB_4, rdB_i, rdC_0, rdC_i, rnd_K, cmpI, addI, subI, mulI, i2lI, l2iI, minI, maxI, idI, up, ok_some, ok_ite, w32_id, ix_id, Int.toNat_add, Int.toNat_mul, ltI_t, ltI_f, leI_t, leI_f, eqI_t, eqI_f, u2_s, u2_v, u2_i, w3_m2, w3_m1, w3_0, w3_1, w3_2, w3_3, w3_4, w3_5, w3_6, w3_7, w3_8, w3_9, w3_10, w3_12, w3_20, w3_23, w3_24, w3_25, w3_32, w3_40, w3_50, w3_100, w3_120, w3_168, w3_200, w3_240, w3_255, w3_500, w3_592, w3_600, w3_900, w3_940, w3_999, w3_1000, w3_1009, w3_1184, w3_3333, w3_9999, if_true, if_false, reduceIte, true_and, and_true, false_and, and_false, true_or, or_true, false_or, or_false, not_true_eq_false, not_false_eq_true, decide_true, decide_false, decide_eq_true_eq, Bool.not_true, Bool.not_false, Bool.false_eq_true, Bool.not_eq_true', Bool.not_eq_eq_eq_not, decide_eq_false_iff_not, Int.not_lt, Int.not_le, Nat.not_le, Nat.not_lt, Nat.le_refl, Int.le_refl, Nat.lt_irrefl, Int.lt_irrefl, reduceCtorEq, Nat.reduceEqDiff, Nat.reduceAdd, Nat.reduceMul, Nat.reduceBEq, Int.reduceNeg, Int.reduceAdd, Int.toNat_natCast, Int.reduceToNat, ne_eq, Nat.zero_ne_one, true_or, Int.ofNat_lt, Int.ofNat_le, Int.natCast_add, Int.cast_ofNat_Int, Int.natCast_zero, p3, p4]
  · intro v h1 h2 h3
    rw [← lo3 v h1 h2 h3]
    funext i
    simp [sinkM, h1, h2]
  · intro i hi
    have bb : s3 8960 i = if i / 4 < R ∧ i % 4 < C then b2N N f B i else 0 := by rw [a3 _ (by decide) (by decide)]; exact b2 i hi
    have ss : s3 640 = σ 640 := lo3 _ (by decide) (by decide) (by decide)
    have hact : (((i / 4 : Nat) : Int) < N 0 ∧ ((i % 4 : Nat) : Int) < N 1) ↔ (i / 4 < R ∧ i % 4 < C) := by omega
    by_cases ha : i / 4 < R ∧ i % 4 < C
    · simp only [stW, stB, if_pos (hact.mpr ha)]
      simp [sinkM, w3 i hi, bb, ha, ss, xs (i / 4) (by omega)]
    · simp only [stW, stB, if_neg (fun q => ha (hact.mp q))]
      simp [sinkM, w3 i hi, bb, ha]
  · intro c hc
    rw [← q3 c hc]
    simp [sinkM]
