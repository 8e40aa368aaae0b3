def nsS (nB : Nat → Nat → Nat → Bool) (g st : Nat) : Int := sm (fun h => z1 (nB g st (h + 1))) (most st)
def nsG (nB : Nat → Nat → Nat → Bool) (g n : Nat) : Int := sm (fun st => nsS nB g st) n
def nsT (nB : Nat → Nat → Nat → Bool) (n : Nat) : Int := sm (fun g => nsG nB g 168) n
/-- some night that fits, and what is LED says it -/
def ledO (nB : Nat → Nat → Nat → Bool) (G : Nat) (l : Nat → Int) : Prop := ∃ g st h, g < G ∧ st < 168 ∧ h < most st ∧ nB g st (h + 1) = true ∧ l 0 = g ∧ l 1 = st ∧ l 2 = ((h + 1 : Nat) : Int)
theorem most_bd {st : Nat} : most st ≤ 6 := by unfold most; split <;> omega
theorem nsS_bd {nB : Nat → Nat → Nat → Bool} {g st : Nat} : 0 ≤ nsS nB g st ∧ nsS nB g st ≤ 6 := by
  have := sm_bd (f := fun h => z1 (nB g st (h + 1))) (n := most st) (a := 1) (fun i _ => z1_bd _)
  have := most_bd (st := st)
  unfold nsS
  omega
theorem nsG_bd {nB : Nat → Nat → Nat → Bool} {g n : Nat} : 0 ≤ nsG nB g n ∧ nsG nB g n ≤ 6 * n := sm_bd (fun _ _ => nsS_bd)
theorem nsT_bd {nB : Nat → Nat → Nat → Bool} {n : Nat} : 0 ≤ nsT nB n ∧ nsT nB n ≤ 1008 * n := sm_bd (fun g _ => by have := nsG_bd (nB := nB) (g := g) (n := 168); omega)
theorem nsG_s {nB : Nat → Nat → Nat → Bool} {g n : Nat} : nsG nB g (n + 1) = nsG nB g n + nsS nB g n := rfl
theorem nsT_s {nB : Nat → Nat → Nat → Bool} {n : Nat} : nsT nB (n + 1) = nsT nB n + nsG nB n 168 := rfl
theorem sm_two {f : Nat → Int} {n i j : Nat} (h : ∀ i, i < n → 0 ≤ f i) (hi : i < j) (hj : j < n) : f i + f j ≤ sm f n := by
  induction n with
  | zero => omega
  | succ n ih =>
    rw [sm_s]
    by_cases e : j = n
    · subst e
      have := sm_get (f := f) (n := j) (fun k hk => h k (by omega)) hi
      omega
    · have := ih (fun k hk => h k (by omega)) (by omega)
      have := h n (by omega)
      omega
/-- if there is one night alone, it is the one that is LED -/
theorem led_u {nB : Nat → Nat → Nat → Bool} {G : Nat} {l l' : Nat → Int} (h1 : nsT nB G = 1) (hl : ledO nB G l) (hl' : ledO nB G l') : l 0 = l' 0 ∧ l 1 = l' 1 ∧ l 2 = l' 2 := by
  obtain ⟨g, st, h, a1, a2, a3, a4, a5, a6, a7⟩ := hl
  obtain ⟨g', st', h', b1, b2, b3, b4, b5, b6, b7⟩ := hl'
  have pS : ∀ g st h, h < most st → nB g st (h + 1) = true → 1 ≤ nsS nB g st := fun g st h q1 q2 => by
    have := sm_get (f := fun h => z1 (nB g st (h + 1))) (n := most st) (i := h) (fun i _ => (z1_bd _).1) q1
    simp only [q2, z1_t] at this
    exact this
  have pG : ∀ g st, st < 168 → nsS nB g st ≤ nsG nB g 168 := fun g st q => sm_get (f := fun st => nsS nB g st) (fun i _ => nsS_bd.1) q
  have pT : ∀ g, g < G → nsG nB g 168 ≤ nsT nB G := fun g q => sm_get (f := fun g => nsG nB g 168) (fun i _ => nsG_bd.1) q
  have s1 := pS g st h a3 a4
  have s2 := pS g' st' h' b3 b4
  have g1 := pG g st a2
  have g2 := pG g' st' b2
  have eg : g = g' := by
    rcases Nat.lt_trichotomy g g' with q | q | q
    · have := sm_two (f := fun g => nsG nB g 168) (n := G) (i := g) (j := g') (fun i _ => nsG_bd.1) q b1
      unfold nsT at h1
      omega
    · exact q
    · have := sm_two (f := fun g => nsG nB g 168) (n := G) (i := g') (j := g) (fun i _ => nsG_bd.1) q a1
      unfold nsT at h1
      omega
  subst eg
  have t1 := pT g a1
  have es : st = st' := by
    rcases Nat.lt_trichotomy st st' with q | q | q
    · have := sm_two (f := fun st => nsS nB g st) (n := 168) (i := st) (j := st') (fun i _ => nsS_bd.1) q b2
      unfold nsG at t1
      omega
    · exact q
    · have := sm_two (f := fun st => nsS nB g st) (n := 168) (i := st') (j := st) (fun i _ => nsS_bd.1) q a2
      unfold nsG at t1
      omega
  subst es
  have eh : h = h' := by
    rcases Nat.lt_trichotomy h h' with q | q | q
    · have := sm_two (f := fun h => z1 (nB g st (h + 1))) (n := most st) (i := h) (j := h') (fun i _ => (z1_bd _).1) q b3
      simp only [a4, b4, z1_t] at this
      unfold nsS at g1
      omega
    · exact q
    · have := sm_two (f := fun h => z1 (nB g st (h + 1))) (n := most st) (i := h') (j := h) (fun i _ => (z1_bd _).1) q a3
      simp only [a4, b4, z1_t] at this
      unfold nsS at g1
      omega
  subst eh
  exact ⟨by rw [a5, b5], by rw [a6, b6], by rw [a7, b7]⟩
set_option maxHeartbeats 4000000 in
theorem night_c {σ μ : Me} {N : Nat → Int} {S G : Nat} {nB : Nat → Nat → Nat → Bool} (h : Rl σ μ) (hn : nwM μ = N) (hSS : N 285 = S) (hG : N 2 = G) (hnB : ∀ g st h, nB g st h = true ↔ ∀ k, k < S → fit N (wkP N (floN N) (ppW N (nwI N g st h))) k) :
    ∃ τ θ, m_D_night [0] σ = some (nsT nB G, θ) ∧ Rl τ μ ∧ fr (9728 :: weV) τ θ ∧ (nsT nB G ≠ 1 → ∀ i, i < 3 → θ 9728 i = -1) ∧ (nsT nB G = 1 → ledO nB G (θ 9728)) := by
  obtain ⟨τ, t1, t2, t3, t4, t5⟩ := rl_past h
  rw [hn] at t3
  have st := t5.1.2.1
  rw [hn] at st
  have hN := st.1.1
  have c0 := hN.1
  have sg0 := st.1.2.2
  obtain ⟨R, hR⟩ : ∃ R : Nat, N 0 = R := ⟨(N 0).toNat, by omega⟩
  obtain ⟨C, hC⟩ : ∃ C : Nat, N 1 = C := ⟨(N 1).toNat, by omega⟩
  have sg : sgX τ N S := by
    have q1 := sg0.1
    refine ⟨hSS, by omega, st.2.1.2.2.2.2.2.1.trans hSS, fun k hk => ?_⟩
    have a1 := st.2.1.2.2.2.2.2.2 k (by omega)
    have a2 := sg0.2 k (by omega)
    omega
  obtain ⟨s1, r1, r2, r3, r4, r5⟩ := rl_prep t5 hn
  have f1 : fr weV τ s1 := fr_sub r2 (by decide)
  have T1 : tnX s1 N := ⟨r3.1, r3.2.1, r3.2.2.1, fun q hq k hk => by rw [r4 q hq]⟩
  have P1 := psX_ag t3 f1
  have S1 := sgX_fr sg f1 (by decide)
  obtain ⟨F, u1, u2', u3, u4⟩ := firstUnlike_ok (p := wkP N (floN N) (ppW N (wsN N (-1)))) hN S1 (fun h c hh hc => ⟨P1.2.1 h c hh hc, wkP_bd hN hR hC (ppW_pp hN) (floN_fl hN) hh (by omega)⟩)
  obtain ⟨LS, l1, l2, l3, l4⟩ : ∃ LS : Nat, minI (F : Int) 167 = LS ∧ LS ≤ 167 ∧ LS ≤ F ∧ (LS < 167 → F = LS) := by
    refine ⟨min F 167, ?_, by omega, by omega, by omega⟩
    unfold minI
    rw [w32_id (by omega) (by omega), w32_id (by omega) (by omega)]
    split <;> omega
  have zero : ∀ g q, LS < q → q < 168 → nsS nB g q = 0 := fun g q hq hq2 => by
    have eF := l4 (by omega)
    obtain ⟨k, k1, k2, k3⟩ := u4 (by omega)
    have z2 := S1.2.2.2 k k1
    unfold nsS
    rw [sm_eq (g := fun _ => 0) (fun i _ => ?_), sm_0]
    have : nB g q (i + 1) = false := by
      cases hb : nB g q (i + 1)
      · rfl
      · exfalso
        have := (hnB g q (i + 1)).mp hb k k1
        apply k3
        unfold fit at this ⊢
        rw [← this]
        refine wkP_congr hN (by omega) (fun h' j hh' x y => ?_) (fun _ _ => rfl)
        unfold ppW nwI
        rw [if_neg (by omega)]
    simp only [this, z1_f]
  have eLS : ∀ g, nsG nB g (LS + 1) = nsG nB g 168 := fun g => (sm_zero 168 (by omega) (fun i h1 h2 => zero g i (by omega) h2)).symm
  obtain ⟨QQ, hQQ⟩ : ∃ Q : Int × Me → Prop, ∀ q, Q q ↔ (q.1 = nsT nB G ∧ fr (9728 :: weV) τ q.2 ∧ (nsT nB G ≠ 1 → ∀ i, i < 3 → q.2 9728 i = -1) ∧ (nsT nB G = 1 → ledO nB G (q.2 9728))) := ⟨_, fun _ => Iff.rfl⟩
  have main : ok (m_D_night [0] σ) QQ := by
    simp only [m_D_night, b_D_night]
    simp (disch := first | decide | omega) only [cE_K, vE_K, gE_K, o2_K, o2K_0, o2L_0, th_K, thK_0, cl_K, clK_0, aE_0, aE_1, aK_0, aL_0, sq_K, sqK_0, st_K, stK_0, ex_K, exK_0, mf_K, ini_0, ini_1, up, if_true, if_false, reduceIte, true_and, and_true, false_and, and_false, true_or, or_true, false_or, or_false, not_true_eq_false, not_false_eq_true, decide_true, decide_false, decide_eq_true_eq, Bool.not_true, Bool.not_false, Bool.false_eq_true, Bool.not_eq_true', Bool.not_eq_eq_eq_not, decide_eq_false_iff_not, Int.not_lt, Int.not_le, Nat.not_le, Nat.not_lt, Nat.le_refl, Int.le_refl, Nat.lt_irrefl, Int.lt_irrefl, reduceCtorEq, Nat.reduceEqDiff, Nat.reduceAdd, Nat.reduceMul, Nat.reduceBEq, Int.reduceNeg, Int.reduceAdd, Int.toNat_natCast, Int.reduceToNat, ne_eq, Nat.zero_ne_one, true_or, Int.ofNat_lt, Int.ofNat_le, Int.natCast_add, Int.cast_ofNat_Int, Int.natCast_zero, t1, r1, u1, l1]
    obtain ⟨I, hI⟩ : ∃ I : Nat → Lo → Me → Prop, ∀ g ρ s, I g ρ s ↔ (ρ 2 = LS ∧ ρ 4 = g ∧ fr (9728 :: weV) s1 s ∧ tnX s N ∧ ∃ c : Nat, ρ 3 = c ∧ (c : Int) = nsT nB g ∧ (c ≠ 0 → ledO nB G (s 9728))) := ⟨fun g ρ s => ρ 2 = LS ∧ ρ 4 = g ∧ fr (9728 :: weV) s1 s ∧ tnX s N ∧ ∃ c : Nat, ρ 3 = c ∧ (c : Int) = nsT nB g ∧ (c ≠ 0 → ledO nB G (s 9728)), fun _ _ _ => Iff.rfl⟩
    refine ok_mfK (ok_sqK (wh_gen I G (by omega) ((hI _ _ _).mpr ⟨by simp [up], by simp [up], fr_rfl, T1, 0, by simp [up], rfl, fun q => absurd rfl q⟩) ?_))
    intro g ρ s hg hIg
    obtain ⟨g1, g2, g3, g4, c, g5, g6, g7⟩ := (hI _ _ _).mp hIg
    have gl : s 261 0 = G := by rw [g3 _ (by decide), f1 _ (by decide), st.2.1.1.1.2.2.1, hG]
    have cT := nsT_bd (nB := nB) (n := g)
    rcases Nat.lt_or_eq_of_le hg with hg | rfl
    · simp (disch := first | decide | omega) only [cE_K, vE_K, gE_K, o1K_0, o1K_i, o1_K, o2L_0, o2L_i, o2K_0, o2K_i, o2_K, thK_0, thK_i, th_K, dvL_0, dvL_i, dvK_0, dvK_i, dv_K, rmL_0, rmL_i, rmK_0, rmK_i, rm_K, dlL_0, dlL_i, dlK_0, dlK_i, dl_K, ldQ_0, ldQ_i, ldL_0, ldL_i, ldK_0, ldK_i, ld_K, kK_0, kK_i, k_K, aL_0, aL_i, aK_0, aK_i, aE_0, aE_1, clK_0, clK_i, cl_K, cBL_0, cBL_i, cBK_0, cBK_i, cB_K, zBK_0, zBK_i, zB_K, nBK_0, nBK_i, nB_K, andK_0, andK_i, and_K, orK_0, orK_i, or_K, tkK_0, tkK_i, tk_K, sk_K, stK_0, stK_i, st_K, exK_0, exK_i, ex_K, in_K, pfL_0, pfL_i, pfK_0, pfK_i, pf_K, pzL_0, pzL_i, pzK_0, pzK_i, pz_K, poL_0, poL_i, poK_0, poK_i, po_K, asQ_0, asQ_i, asM_0, asM_i, asL_0, asL_i, asK_0, asK_i, as_K, aoM_0, aoM_i, aoQ_0, aoQ_i, aoL_0, aoL_i, aoK_0, aoK_i, ao_K, sqK_0, sqK_1, sqK_2, sqK_3, sqK_4, sqK_i, sq_K, swK_0, swK_1, swK_2, swK_3, swK_4, swK_i, sw_K, ifK_0, ifK_i, if_K, br_K, ct_K, rv_K, thr_K, rtK_0, rtK_i, rt_K, mfK_0, mfK_i, mf_K, mzK_i, mzK_0, mz_K, cpK_0, cpT_0, cp_K, tsK_0, tsK_i, ts_K, tsP_hit, tsP_next, tsP_low, tsP_nil, ini_0, ini_1, rdU_0, rdU_i, rdB_0, rdB_1, rdB_2, rdB_3, rdB_4, rdB_i, rdC_0, rdC_i, rnd_K, cmpI, addI, subI, mulI, i2lI, l2iI, minI, maxI, idI, up, ok_some, ok_ite, w32_id, ix_id, Int.toNat_add, Int.toNat_mul, ltI_t, ltI_f, leI_t, leI_f, eqI_t, eqI_f, u2_s, u2_v, u2_i, w3_m2, w3_m1, w3_0, w3_1, w3_2, w3_3, w3_4, w3_5, w3_6, w3_7, w3_8, w3_9, w3_10, w3_12, w3_20, w3_23, w3_24, w3_25, w3_32, w3_40, w3_50, w3_100, w3_120, w3_168, w3_200, w3_240, w3_255, w3_500, w3_592, w3_600, w3_900, w3_940, w3_999, w3_1000, w3_1009, w3_1184, w3_3333, w3_9999, if_true, if_false, reduceIte, true_and, and_true, false_and, and_false, true_or, or_true, false_or, or_false, not_true_eq_false, not_false_eq_true, decide_true, decide_false, decide_eq_true_eq, Bool.not_true, Bool.not_false, Bool.false_eq_true, Bool.not_eq_true', Bool.not_eq_eq_eq_not, decide_eq_false_iff_not, Int.not_lt, Int.not_le, Nat.not_le, Nat.not_lt, Nat.le_refl, Int.le_refl, Nat.lt_irrefl, Int.lt_irrefl, reduceCtorEq, Nat.reduceEqDiff, Nat.reduceAdd, Nat.reduceMul, Nat.reduceBEq, Int.reduceNeg, Int.reduceAdd, Int.toNat_natCast, Int.reduceToNat, ne_eq, Nat.zero_ne_one, true_or, Int.ofNat_lt, Int.ofNat_le, Int.natCast_add, Int.cast_ofNat_Int, Int.natCast_zero, g1, g2, gl]
      obtain ⟨J, hJ⟩ : ∃ J : Nat → Lo → Me → Prop, ∀ n ρ s, J n ρ s ↔ (ρ 2 = LS ∧ ρ 4 = g ∧ ρ 5 = n ∧ fr (9728 :: weV) s1 s ∧ tnX s N ∧ ∃ c : Nat, ρ 3 = c ∧ (c : Int) = nsT nB g + nsG nB g n ∧ (c ≠ 0 → ledO nB G (s 9728))) := ⟨fun n ρ s => ρ 2 = LS ∧ ρ 4 = g ∧ ρ 5 = n ∧ fr (9728 :: weV) s1 s ∧ tnX s N ∧ ∃ c : Nat, ρ 3 = c ∧ (c : Int) = nsT nB g + nsG nB g n ∧ (c ≠ 0 → ledO nB G (s 9728)), fun _ _ _ => Iff.rfl⟩
      refine ok_rdB (wh_gen J (LS + 1) (by omega) ((hJ _ _ _).mpr ⟨by simp [up, g1], by simp [up, g2], by simp [up], g3, g4, c, by simp [up, g5], by rw [g6]; simp [nsG, sm], g7⟩) ?_)
      clear g1 g2 g3 g4 g5 g6 g7 hIg gl c
      intro n ρ s hn' hJn
      obtain ⟨g1, g2, g3, g4, g5, c, g6, g7, g8⟩ := (hJ _ _ _).mp hJn
      have cG := nsG_bd (nB := nB) (g := g) (n := n)
      rcases Nat.lt_or_eq_of_le hn' with hn' | rfl
      · have P2 : psX s N 168 := by
          unfold psX
          rw [g4 9152 (by decide), g4 9216 (by decide), g4 9280 (by decide), g4 9344 (by decide), g4 9408 (by decide), g4 9472 (by decide)]
          exact P1
        have S2 := sgX_fr S1 g4 (by decide)
        obtain ⟨s2, e1, e2, e3, e4, e5⟩ := tryNights_ok (g := g) (st := n) (fa := c) (nB := nB) hN g5 P2 S2 (by omega) (by omega) (by omega) (fun k hk q => u3 k hk (by omega)) (fun h => hnB g n h)
        have eS : sm (fun h => z1 (nB g n (h + 1))) (most n) = nsS nB g n := rfl
        rw [eS] at e1 e4 e5
        have sb := nsS_bd (nB := nB) (g := g) (st := n)
        obtain ⟨d, hd⟩ : ∃ d : Nat, nsS nB g n = d := ⟨(nsS nB g n).toNat, by omega⟩
        rw [hd] at e1
        clear hJn
        simp (disch := first | decide | omega) only [cE_K, vE_K, gE_K, o1K_0, o1K_i, o1_K, o2L_0, o2L_i, o2K_0, o2K_i, o2_K, thK_0, thK_i, th_K, dvL_0, dvL_i, dvK_0, dvK_i, dv_K, rmL_0, rmL_i, rmK_0, rmK_i, rm_K, dlL_0, dlL_i, dlK_0, dlK_i, dl_K, ldQ_0, ldQ_i, ldL_0, ldL_i, ldK_0, ldK_i, ld_K, kK_0, kK_i, k_K, aL_0, aL_i, aK_0, aK_i, aE_0, aE_1, clK_0, clK_i, cl_K, cBL_0, cBL_i, cBK_0, cBK_i, cB_K, zBK_0, zBK_i, zB_K, nBK_0, nBK_i, nB_K, andK_0, andK_i, and_K, orK_0, orK_i, or_K, tkK_0, tkK_i, tk_K, sk_K, stK_0, stK_i, st_K, exK_0, exK_i, ex_K, in_K, pfL_0, pfL_i, pfK_0, pfK_i, pf_K, pzL_0, pzL_i, pzK_0, pzK_i, pz_K, poL_0, poL_i, poK_0, poK_i, po_K, asQ_0, asQ_i, asM_0, asM_i, asL_0, asL_i, asK_0, asK_i, as_K, aoM_0, aoM_i, aoQ_0, aoQ_i, aoL_0, aoL_i, aoK_0, aoK_i, ao_K, sqK_0, sqK_1, sqK_2, sqK_3, sqK_4, sqK_i, sq_K, swK_0, swK_1, swK_2, swK_3, swK_4, swK_i, sw_K, ifK_0, ifK_i, if_K, br_K, ct_K, rv_K, thr_K, rtK_0, rtK_i, rt_K, mfK_0, mfK_i, mf_K, mzK_i, mzK_0, mz_K, cpK_0, cpT_0, cp_K, tsK_0, tsK_i, ts_K, tsP_hit, tsP_next, tsP_low, tsP_nil, ini_0, ini_1, rdU_0, rdU_i, rdB_0, rdB_1, rdB_2, rdB_3, rdB_4, rdB_i, rdC_0, rdC_i, rnd_K, cmpI, addI, subI, mulI, i2lI, l2iI, minI, maxI, idI, up, ok_some, ok_ite, w32_id, ix_id, Int.toNat_add, Int.toNat_mul, ltI_t, ltI_f, leI_t, leI_f, eqI_t, eqI_f, u2_s, u2_v, u2_i, w3_m2, w3_m1, w3_0, w3_1, w3_2, w3_3, w3_4, w3_5, w3_6, w3_7, w3_8, w3_9, w3_10, w3_12, w3_20, w3_23, w3_24, w3_25, w3_32, w3_40, w3_50, w3_100, w3_120, w3_168, w3_200, w3_240, w3_255, w3_500, w3_592, w3_600, w3_900, w3_940, w3_999, w3_1000, w3_1009, w3_1184, w3_3333, w3_9999, if_true, if_false, reduceIte, true_and, and_true, false_and, and_false, true_or, or_true, false_or, or_false, not_true_eq_false, not_false_eq_true, decide_true, decide_false, decide_eq_true_eq, Bool.not_true, Bool.not_false, Bool.false_eq_true, Bool.not_eq_true', Bool.not_eq_eq_eq_not, decide_eq_false_iff_not, Int.not_lt, Int.not_le, Nat.not_le, Nat.not_lt, Nat.le_refl, Int.le_refl, Nat.lt_irrefl, Int.lt_irrefl, reduceCtorEq, Nat.reduceEqDiff, Nat.reduceAdd, Nat.reduceMul, Nat.reduceBEq, Int.reduceNeg, Int.reduceAdd, Int.toNat_natCast, Int.reduceToNat, ne_eq, Nat.zero_ne_one, true_or, Int.ofNat_lt, Int.ofNat_le, Int.natCast_add, Int.cast_ofNat_Int, Int.natCast_zero, g1, g2, g3, g6, e1]
        refine ⟨hn', (hJ _ _ _).mpr ⟨by simp [up, g1], by simp [up, g2], by simp [up], fr_trans g4 e2, e3, c + d, by simp [up], by rw [nsG_s]; omega, fun q => ?_⟩⟩
        by_cases c0' : c = 0
        · obtain ⟨h, h1, h2, h3, h4, h5⟩ := e5 c0' (by omega)
          exact ⟨g, n, h, hg, by omega, h1, h2, h3, h4, h5⟩
        · rw [e4 (Or.inl c0')]
          exact g8 c0'
      · simp (disch := first | decide | omega) only [cE_K, vE_K, gE_K, o1K_0, o1K_i, o1_K, o2L_0, o2L_i, o2K_0, o2K_i, o2_K, thK_0, thK_i, th_K, dvL_0, dvL_i, dvK_0, dvK_i, dv_K, rmL_0, rmL_i, rmK_0, rmK_i, rm_K, dlL_0, dlL_i, dlK_0, dlK_i, dl_K, ldQ_0, ldQ_i, ldL_0, ldL_i, ldK_0, ldK_i, ld_K, kK_0, kK_i, k_K, aL_0, aL_i, aK_0, aK_i, aE_0, aE_1, clK_0, clK_i, cl_K, cBL_0, cBL_i, cBK_0, cBK_i, cB_K, zBK_0, zBK_i, zB_K, nBK_0, nBK_i, nB_K, andK_0, andK_i, and_K, orK_0, orK_i, or_K, tkK_0, tkK_i, tk_K, sk_K, stK_0, stK_i, st_K, exK_0, exK_i, ex_K, in_K, pfL_0, pfL_i, pfK_0, pfK_i, pf_K, pzL_0, pzL_i, pzK_0, pzK_i, pz_K, poL_0, poL_i, poK_0, poK_i, po_K, asQ_0, asQ_i, asM_0, asM_i, asL_0, asL_i, asK_0, asK_i, as_K, aoM_0, aoM_i, aoQ_0, aoQ_i, aoL_0, aoL_i, aoK_0, aoK_i, ao_K, sqK_0, sqK_1, sqK_2, sqK_3, sqK_4, sqK_i, sq_K, swK_0, swK_1, swK_2, swK_3, swK_4, swK_i, sw_K, ifK_0, ifK_i, if_K, br_K, ct_K, rv_K, thr_K, rtK_0, rtK_i, rt_K, mfK_0, mfK_i, mf_K, mzK_i, mzK_0, mz_K, cpK_0, cpT_0, cp_K, tsK_0, tsK_i, ts_K, tsP_hit, tsP_next, tsP_low, tsP_nil, ini_0, ini_1, rdU_0, rdU_i, rdB_0, rdB_1, rdB_2, rdB_3, rdB_4, rdB_i, rdC_0, rdC_i, rnd_K, cmpI, addI, subI, mulI, i2lI, l2iI, minI, maxI, idI, up, ok_some, ok_ite, w32_id, ix_id, Int.toNat_add, Int.toNat_mul, ltI_t, ltI_f, leI_t, leI_f, eqI_t, eqI_f, u2_s, u2_v, u2_i, w3_m2, w3_m1, w3_0, w3_1, w3_2, w3_3, w3_4, w3_5, w3_6, w3_7, w3_8, w3_9, w3_10, w3_12, w3_20, w3_23, w3_24, w3_25, w3_32, w3_40, w3_50, w3_100, w3_120, w3_168, w3_200, w3_240, w3_255, w3_500, w3_592, w3_600, w3_900, w3_940, w3_999, w3_1000, w3_1009, w3_1184, w3_3333, w3_9999, if_true, if_false, reduceIte, true_and, and_true, false_and, and_false, true_or, or_true, false_or, or_false, not_true_eq_false, not_false_eq_true, decide_true, decide_false, decide_eq_true_eq, Bool.not_true, Bool.not_false, Bool.false_eq_true, Bool.not_eq_true', Bool.not_eq_eq_eq_not, decide_eq_false_iff_not, Int.not_lt, Int.not_le, Nat.not_le, Nat.not_lt, Nat.le_refl, Int.le_refl, Nat.lt_irrefl, Int.lt_irrefl, reduceCtorEq, Nat.reduceEqDiff, Nat.reduceAdd, Nat.reduceMul, Nat.reduceBEq, Int.reduceNeg, Int.reduceAdd, Int.toNat_natCast, Int.reduceToNat, ne_eq, Nat.zero_ne_one, true_or, Int.ofNat_lt, Int.ofNat_le, Int.natCast_add, Int.cast_ofNat_Int, Int.natCast_zero, g1, g2, g3]
        refine ⟨hg, (hI _ _ _).mpr ⟨by simp [up, g1], by simp [up], g4, g5, c, by simp [up, g6], by rw [nsT_s, ← eLS]; exact g7, g8⟩⟩
    · have F9 : fr (9728 :: weV) τ s := fr_trans (fr_sub f1 (by decide)) g3
      by_cases c1 : nsT nB g = 1
      · have c2 : (c : Int) = 1 := by omega
        have fin : QQ (1, s) := (hQQ _).mpr ⟨c1.symm, F9, fun q => absurd c1 q, fun _ => g7 (by omega)⟩
        simp (disch := first | decide | omega) only [cE_K, vE_K, gE_K, o1K_0, o1K_i, o1_K, o2L_0, o2L_i, o2K_0, o2K_i, o2_K, thK_0, thK_i, th_K, dvL_0, dvL_i, dvK_0, dvK_i, dv_K, rmL_0, rmL_i, rmK_0, rmK_i, rm_K, dlL_0, dlL_i, dlK_0, dlK_i, dl_K, ldQ_0, ldQ_i, ldL_0, ldL_i, ldK_0, ldK_i, ld_K, kK_0, kK_i, k_K, aL_0, aL_i, aK_0, aK_i, aE_0, aE_1, clK_0, clK_i, cl_K, cBL_0, cBL_i, cBK_0, cBK_i, cB_K, zBK_0, zBK_i, zB_K, nBK_0, nBK_i, nB_K, andK_0, andK_i, and_K, orK_0, orK_i, or_K, tkK_0, tkK_i, tk_K, sk_K, stK_0, stK_i, st_K, exK_0, exK_i, ex_K, in_K, pfL_0, pfL_i, pfK_0, pfK_i, pf_K, pzL_0, pzL_i, pzK_0, pzK_i, pz_K, poL_0, poL_i, poK_0, poK_i, po_K, asQ_0, asQ_i, asM_0, asM_i, asL_0, asL_i, asK_0, asK_i, as_K, aoM_0, aoM_i, aoQ_0, aoQ_i, aoL_0, aoL_i, aoK_0, aoK_i, ao_K, sqK_0, sqK_1, sqK_2, sqK_3, sqK_4, sqK_i, sq_K, swK_0, swK_1, swK_2, swK_3, swK_4, swK_i, sw_K, ifK_0, ifK_i, if_K, br_K, ct_K, rv_K, thr_K, rtK_0, rtK_i, rt_K, mfK_0, mfK_i, mf_K, mzK_i, mzK_0, mz_K, cpK_0, cpT_0, cp_K, tsK_0, tsK_i, ts_K, tsP_hit, tsP_next, tsP_low, tsP_nil, ini_0, ini_1, rdU_0, rdU_i, rdB_0, rdB_1, rdB_2, rdB_3, rdB_4, rdB_i, rdC_0, rdC_i, rnd_K, cmpI, addI, subI, mulI, i2lI, l2iI, minI, maxI, idI, up, ok_some, ok_ite, w32_id, ix_id, Int.toNat_add, Int.toNat_mul, ltI_t, ltI_f, leI_t, leI_f, eqI_t, eqI_f, u2_s, u2_v, u2_i, w3_m2, w3_m1, w3_0, w3_1, w3_2, w3_3, w3_4, w3_5, w3_6, w3_7, w3_8, w3_9, w3_10, w3_12, w3_20, w3_23, w3_24, w3_25, w3_32, w3_40, w3_50, w3_100, w3_120, w3_168, w3_200, w3_240, w3_255, w3_500, w3_592, w3_600, w3_900, w3_940, w3_999, w3_1000, w3_1009, w3_1184, w3_3333, w3_9999, if_true, if_false, reduceIte, true_and, and_true, false_and, and_false, true_or, or_true, false_or, or_false, not_true_eq_false, not_false_eq_true, decide_true, decide_false, decide_eq_true_eq, Bool.not_true, Bool.not_false, Bool.false_eq_true, Bool.not_eq_true', Bool.not_eq_eq_eq_not, decide_eq_false_iff_not, Int.not_lt, Int.not_le, Nat.not_le, Nat.not_lt, Nat.le_refl, Int.le_refl, Nat.lt_irrefl, Int.lt_irrefl, reduceCtorEq, Nat.reduceEqDiff, Nat.reduceAdd, Nat.reduceMul, Nat.reduceBEq, Int.reduceNeg, Int.reduceAdd, Int.toNat_natCast, Int.reduceToNat, ne_eq, Nat.zero_ne_one, true_or, Int.ofNat_lt, Int.ofNat_le, Int.natCast_add, Int.cast_ofNat_Int, Int.natCast_zero, g1, g2, g5, gl, c2]
        exact fin
      · have c2 : ¬ (c : Int) = 1 := by omega
        have fin : QQ (c, u2 (u2 (u2 s 9728 0 (-1)) 9728 1 (-1)) 9728 2 (-1)) := (hQQ _).mpr ⟨g6, fr_trans F9 (fun v hv => by
          have : v ≠ 9728 := fun q => by subst q; simp at hv
          funext i; simp [u2, this]), fun _ i hi => by
          have : i = 0 ∨ i = 1 ∨ i = 2 := by omega
          rcases this with rfl | rfl | rfl <;> simp [u2], fun q => absurd q c1⟩
        simp (disch := first | decide | omega) only [cE_K, vE_K, gE_K, o1K_0, o1K_i, o1_K, o2L_0, o2L_i, o2K_0, o2K_i, o2_K, thK_0, thK_i, th_K, dvL_0, dvL_i, dvK_0, dvK_i, dv_K, rmL_0, rmL_i, rmK_0, rmK_i, rm_K, dlL_0, dlL_i, dlK_0, dlK_i, dl_K, ldQ_0, ldQ_i, ldL_0, ldL_i, ldK_0, ldK_i, ld_K, kK_0, kK_i, k_K, aL_0, aL_i, aK_0, aK_i, aE_0, aE_1, clK_0, clK_i, cl_K, cBL_0, cBL_i, cBK_0, cBK_i, cB_K, zBK_0, zBK_i, zB_K, nBK_0, nBK_i, nB_K, andK_0, andK_i, and_K, orK_0, orK_i, or_K, tkK_0, tkK_i, tk_K, sk_K, stK_0, stK_i, st_K, exK_0, exK_i, ex_K, in_K, pfL_0, pfL_i, pfK_0, pfK_i, pf_K, pzL_0, pzL_i, pzK_0, pzK_i, pz_K, poL_0, poL_i, poK_0, poK_i, po_K, asQ_0, asQ_i, asM_0, asM_i, asL_0, asL_i, asK_0, asK_i, as_K, aoM_0, aoM_i, aoQ_0, aoQ_i, aoL_0, aoL_i, aoK_0, aoK_i, ao_K, sqK_0, sqK_1, sqK_2, sqK_3, sqK_4, sqK_i, sq_K, swK_0, swK_1, swK_2, swK_3, swK_4, swK_i, sw_K, ifK_0, ifK_i, if_K, br_K, ct_K, rv_K, thr_K, rtK_0, rtK_i, rt_K, mfK_0, mfK_i, mf_K, mzK_i, mzK_0, mz_K, cpK_0, cpT_0, cp_K, tsK_0, tsK_i, ts_K, tsP_hit, tsP_next, tsP_low, tsP_nil, ini_0, ini_1, rdU_0, rdU_i, rdB_0, rdB_1, rdB_2, rdB_3, rdB_4, rdB_i, rdC_0, rdC_i, rnd_K, cmpI, addI, subI, mulI, i2lI, l2iI, minI, maxI, idI, up, ok_some, ok_ite, w32_id, ix_id, Int.toNat_add, Int.toNat_mul, ltI_t, ltI_f, leI_t, leI_f, eqI_t, eqI_f, u2_s, u2_v, u2_i, w3_m2, w3_m1, w3_0, w3_1, w3_2, w3_3, w3_4, w3_5, w3_6, w3_7, w3_8, w3_9, w3_10, w3_12, w3_20, w3_23, w3_24, w3_25, w3_32, w3_40, w3_50, w3_100, w3_120, w3_168, w3_200, w3_240, w3_255, w3_500, w3_592, w3_600, w3_900, w3_940, w3_999, w3_1000, w3_1009, w3_1184, w3_3333, w3_9999, if_true, if_false, reduceIte, true_and, and_true, false_and, and_false, true_or, or_true, false_or, or_false, not_true_eq_false, not_false_eq_true, decide_true, decide_false, decide_eq_true_eq, Bool.not_true, Bool.not_false, Bool.false_eq_true, Bool.not_eq_true', Bool.not_eq_eq_eq_not, decide_eq_false_iff_not, Int.not_lt, Int.not_le, Nat.not_le, Nat.not_lt, Nat.le_refl, Int.le_refl, Nat.lt_irrefl, Int.lt_irrefl, reduceCtorEq, Nat.reduceEqDiff, Nat.reduceAdd, Nat.reduceMul, Nat.reduceBEq, Int.reduceNeg, Int.reduceAdd, Int.toNat_natCast, Int.reduceToNat, ne_eq, Nat.zero_ne_one, true_or, Int.ofNat_lt, Int.ofNat_le, Int.natCast_add, Int.cast_ofNat_Int, Int.natCast_zero, g1, g2, g5, gl]
        exact fin
  obtain ⟨⟨q1, q2⟩, h1, h2⟩ := main
  obtain ⟨k1, k2, k3, k4⟩ := (hQQ _).mp h2
  simp only at k1 k2 k3 k4
  subst k1
  exact ⟨τ, q2, h1, t5, k2, k3, k4⟩
