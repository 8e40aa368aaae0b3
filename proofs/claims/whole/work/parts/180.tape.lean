/-! texts: bytes and TOKENS -/
theorem shl8_bv : ((Int32.ofInt 8).toInt64 &&& 63) = 8 := by decide
theorem ior8 {n k : Nat} (hn : n < 1099511627776) (hk : k < 256) : iorL (shlL (n : Int) 8) (k : Int) = ((256 * n + k : Nat) : Int) := by
  unfold iorL shlL
  rw [Int64.ofInt_toInt, shl8_bv]
  rw [← Int64.toInt_toBitVec, Int64.toBitVec_or, Int64.toBitVec_shiftLeft, Int64.toBitVec_ofInt, Int64.toBitVec_ofInt]
  have e8 : (8 : Int64).toBitVec.smod 64 = 8#64 := by decide
  rw [e8]
  have e1 : (BitVec.ofInt 64 (n : Int)).toNat = n := by
    rw [BitVec.ofInt_natCast, BitVec.toNat_ofNat]; omega
  have e2 : (BitVec.ofInt 64 (k : Int)).toNat = k := by
    rw [BitVec.ofInt_natCast, BitVec.toNat_ofNat]; omega
  have e3 : (BitVec.ofInt 64 (n : Int) <<< 8#64 ||| BitVec.ofInt 64 (k : Int)).toNat = 256 * n + k := by
    rw [BitVec.toNat_or, e2]
    have : (BitVec.ofInt 64 (n : Int) <<< 8#64).toNat = n <<< 8 := by
      rw [BitVec.shiftLeft_eq', BitVec.toNat_shiftLeft, e1]
      have : (8#64).toNat = 8 := by decide
      rw [this, Nat.shiftLeft_eq]
      omega
    rw [this, ← Nat.shiftLeft_add_eq_or_of_lt (by omega), Nat.shiftLeft_eq]
    omega
  rw [BitVec.toInt_eq_toNat_of_lt (by rw [e3]; omega), e3]
def ltB (c : Int) : Bool := decide (97 ≤ c ∧ c ≤ 122)
def dgB (c : Int) : Bool := decide (48 ≤ c ∧ c ≤ 57)
def alP (c : Int) : Prop := (97 ≤ c ∧ c ≤ 122) ∨ (48 ≤ c ∧ c ≤ 57)
def runN (y : Nat → Int) (L p n : Nat) : Prop := p + n ≤ L ∧ (∀ k, k < n → alP (y (p + k))) ∧ (p + n = L ∨ ¬ alP (y (p + n)))
theorem run_ex {y : Nat → Int} {L : Nat} : ∀ d p, L = p + d → ∃ n, runN y L p n := by
  intro d
  induction d with
  | zero => intro p h; exact ⟨0, by omega, fun k hk => by omega, Or.inl (by omega)⟩
  | succ d ih =>
    intro p h
    by_cases c : alP (y p)
    · obtain ⟨n, h1, h2, h3⟩ := ih (p + 1) (by omega)
      refine ⟨n + 1, by omega, fun k hk => ?_, ?_⟩
      · by_cases e : k = 0
        · subst e; exact c
        · have := h2 (k - 1) (by omega)
          rw [show p + 1 + (k - 1) = p + k by omega] at this
          exact this
      · rw [show p + (n + 1) = p + 1 + n by omega]; exact h3
    · exact ⟨0, by omega, fun k hk => by omega, Or.inr c⟩
def laB (y : Nat → Int) (p : Nat) : Nat → Bool
  | 0 => true
  | n + 1 => laB y p n && ltB (y (p + n))
def ldB (y : Nat → Int) (p : Nat) : Nat → Bool
  | 0 => true
  | n + 1 => ldB y p n && dgB (y (p + n))
def lsN (y : Nat → Int) (p : Nat) : Nat → List Int
  | 0 => []
  | n + 1 => y (p + n) :: lsN y p n
def vN (y : Nat → Int) (p : Nat) : Nat → Int
  | 0 => 0
  | n + 1 => 10 * vN y p n + y (p + n) - 48
theorem lsN_len {y : Nat → Int} {p : Nat} : ∀ n, (lsN y p n).length = n := by
  intro n
  induction n with
  | zero => rfl
  | succ n ih => simp [lsN, ih]
theorem lsN_lt {y : Nat → Int} {p : Nat} : ∀ n, laB y p n = true → ∀ x, x ∈ lsN y p n → 97 ≤ x ∧ x ≤ 122 := by
  intro n
  induction n with
  | zero => intro _ x hx; simp [lsN] at hx
  | succ n ih =>
    intro h x hx
    simp only [laB, Bool.and_eq_true, ltB, decide_eq_true_eq] at h
    simp only [lsN, List.mem_cons] at hx
    rcases hx with rfl | hx
    · exact h.2
    · exact ih h.1 x hx
theorem e256_bd : ∀ l : List Int, (∀ x, x ∈ l → 97 ≤ x ∧ x ≤ 122) → 0 ≤ e256 l ∧ e256 l < 256 ^ l.length := by
  intro l
  induction l with
  | nil => intro _; simp [e256]
  | cons x l ih =>
    intro h
    have := ih (fun z hz => h z (List.mem_cons_of_mem _ hz))
    have := h x List.mem_cons_self
    simp only [e256, List.length_cons, Int.pow_succ]
    omega
theorem e27_bd : ∀ l : List Int, (∀ x, x ∈ l → 97 ≤ x ∧ x ≤ 122) → 0 ≤ e27 l ∧ e27 l < 27 ^ l.length := by
  intro l
  induction l with
  | nil => intro _; simp [e27]
  | cons x l ih =>
    intro h
    have := ih (fun z hz => h z (List.mem_cons_of_mem _ hz))
    have := h x List.mem_cons_self
    simp only [e27, List.length_cons, Int.pow_succ]
    omega
theorem pow5 : ∀ k : Fin 6, (256 : Int) ^ k.val ≤ 1099511627776 := by decide
theorem vN_bd {y : Nat → Int} {p : Nat} : ∀ n, ldB y p n = true → 0 ≤ vN y p n ∧ vN y p n < 10 ^ n := by
  intro n
  induction n with
  | zero => intro _; simp [vN]
  | succ n ih =>
    intro h
    simp only [ldB, Bool.and_eq_true, dgB, decide_eq_true_eq] at h
    have := ih h.1
    simp only [vN, Int.pow_succ]
    omega
set_option maxHeartbeats 4000000 in
theorem readRun_ok {s0 : Me} {y : Nat → Int} {L p n : Nat} (hL : L ≤ 940) (hp : p ≤ L) (hl : s0 66 0 = L) (hy : ∀ i, i < L → bR (s0 128 i) (y i)) (hr : runN y L p n) :
    ∃ s1, m_Tape_readRun [0, p] s0 = some (z1 (decide (0 < n)), s1) ∧ fr [72, 73, 68, 69] s0 s1 ∧ s1 68 0 = ((p + n : Nat) : Int) ∧ s1 69 0 = (if laB y p n = true ∧ n ≤ 6 then 1 else if ldB y p n = true ∧ n ≤ 4 then 2 else 4) ∧ (laB y p n = true → n ≤ 6 → s1 73 0 = e256 (lsN y p n)) ∧ (ldB y p n = true → n ≤ 4 → s1 72 0 = vN y p n) := by
  obtain ⟨r1, r2, r3⟩ := hr
  obtain ⟨NN, hNN⟩ : ∃ NN, NN = n := ⟨_, rfl⟩
  obtain ⟨QQ, hQQ⟩ : ∃ Q : Int × Me → Prop, ∀ q, Q q ↔ (q.1 = z1 (decide (0 < NN)) ∧ fr [72, 73, 68, 69] s0 q.2 ∧ q.2 68 0 = ((p + NN : Nat) : Int) ∧ q.2 69 0 = (if laB y p NN = true ∧ NN ≤ 6 then 1 else if ldB y p NN = true ∧ NN ≤ 4 then 2 else 4) ∧ (laB y p NN = true → NN ≤ 6 → q.2 73 0 = e256 (lsN y p NN)) ∧ (ldB y p NN = true → NN ≤ 4 → q.2 72 0 = vN y p NN)) := ⟨_, fun _ => Iff.rfl⟩
  have main : ok (m_Tape_readRun [0, p] s0) QQ := by
    simp only [m_Tape_readRun, b_Tape_readRun]
    simp (disch := first | decide | omega) only [cE_K, vE_K, gE_K, o1K_0, o1K_i, o1_K, o2L_0, o2L_i, o2K_0, o2K_i, o2_K, thK_0, thK_i, th_K, dvL_0, dvL_i, dvK_0, dvK_i, dv_K, rmL_0, rmL_i, rmK_0, rmK_i, rm_K, dlL_0, dlL_i, dlK_0, dlK_i, dl_K, ldQ_0, ldQ_i, ldL_0, ldL_i, ldK_0, ldK_i, ld_K, kK_0, kK_i, k_K, aL_0, aL_i, aK_0, aK_i, aE_0, aE_1, clK_0, clK_i, cl_K, cBL_0, cBL_i, cBK_0, cBK_i, cB_K, zBK_0, zBK_i, zB_K, nBK_0, nBK_i, nB_K, andK_0, andK_i, and_K, orK_0, orK_i, or_K, tkK_0, tkK_i, tk_K, sk_K, stK_0, stK_i, st_K, exK_0, exK_i, ex_K, in_K, pfL_0, pfL_i, pfK_0, pfK_i, pf_K, pzL_0, pzL_i, pzK_0, pzK_i, pz_K, poL_0, poL_i, poK_0, poK_i, po_K, asQ_0, asQ_i, asM_0, asM_i, asL_0, asL_i, asK_0, asK_i, as_K, aoM_0, aoM_i, aoQ_0, aoQ_i, aoL_0, aoL_i, aoK_0, aoK_i, ao_K, sqK_0, sqK_1, sqK_2, sqK_3, sqK_4, sqK_i, sq_K, swK_0, swK_1, swK_2, swK_3, swK_4, swK_i, sw_K, ifK_0, ifK_i, if_K, br_K, ct_K, rv_K, thr_K, rtK_0, rtK_i, rt_K, mfK_0, mfK_i, mf_K, mzK_i, mzK_0, mz_K, cpK_0, cpT_0, cp_K, tsK_0, tsK_i, ts_K, tsP_hit, tsP_next, tsP_low, tsP_nil, ini_0, ini_1, rdU_0, rdU_i, rdB_0, rdB_1, rdB_2, rdB_3, rdB_4, rdB_i, rdC_0, rdC_i, rnd_K, cmpI, addI, subI, mulI, i2lI, l2iI, minI, maxI, idI, up, ok_some, ok_ite, w32_id, ix_id, Int.toNat_add, Int.toNat_mul, ltI_t, ltI_f, leI_t, leI_f, eqI_t, eqI_f, u2_s, u2_v, u2_i, w3_m2, w3_m1, w3_0, w3_1, w3_2, w3_3, w3_4, w3_5, w3_6, w3_7, w3_8, w3_9, w3_10, w3_12, w3_20, w3_23, w3_24, w3_25, w3_32, w3_40, w3_50, w3_100, w3_120, w3_168, w3_200, w3_240, w3_255, w3_500, w3_592, w3_600, w3_900, w3_940, w3_999, w3_1000, w3_1009, w3_1184, w3_3333, w3_9999, if_true, if_false, reduceIte, true_and, and_true, false_and, and_false, true_or, or_true, false_or, or_false, not_true_eq_false, not_false_eq_true, decide_true, decide_false, decide_eq_true_eq, Bool.not_true, Bool.not_false, Bool.false_eq_true, Bool.not_eq_true', Bool.not_eq_eq_eq_not, decide_eq_false_iff_not, Int.not_lt, Int.not_le, Nat.not_le, Nat.not_lt, Nat.le_refl, Int.le_refl, Nat.lt_irrefl, Int.lt_irrefl, reduceCtorEq, Nat.reduceEqDiff, Nat.reduceAdd, Nat.reduceMul, Nat.reduceBEq, Int.reduceNeg, Int.reduceAdd, Int.toNat_natCast, Int.reduceToNat, ne_eq, Nat.zero_ne_one, true_or, Int.ofNat_lt, Int.ofNat_le, Int.natCast_add, Int.cast_ofNat_Int, Int.natCast_zero]
    obtain ⟨I, hI⟩ : ∃ I : Nat → Lo → Me → Prop, ∀ k ρ s, I k ρ s ↔ (ρ 4 = p + k ∧ (∃ c d : Nat, ρ 2 = c ∧ ρ 3 = d ∧ c + d = k ∧ (laB y p k = true ↔ d = 0) ∧ (ldB y p k = true ↔ c = 0)) ∧ fr [72, 73] s0 s ∧ (laB y p k = true → k ≤ 6 → s 73 0 = e256 (lsN y p k)) ∧ (ldB y p k = true → k ≤ 4 → s 72 0 = vN y p k)) := ⟨fun k ρ s => ρ 4 = p + k ∧ (∃ c d : Nat, ρ 2 = c ∧ ρ 3 = d ∧ c + d = k ∧ (laB y p k = true ↔ d = 0) ∧ (ldB y p k = true ↔ c = 0)) ∧ fr [72, 73] s0 s ∧ (laB y p k = true → k ≤ 6 → s 73 0 = e256 (lsN y p k)) ∧ (ldB y p k = true → k ≤ 4 → s 72 0 = vN y p k), fun _ _ _ => Iff.rfl⟩
    refine ok_mzK (ok_sqK (wh_gen I NN (by omega) ((hI _ _ _).mpr ⟨by simp [up], ⟨0, 0, by simp [up], by simp [up], rfl, by simp [laB], by simp [ldB]⟩, ?_, by simp [u2, lsN, e256], by simp [u2, vN]⟩) ?_))
    · intro v hv
      simp only [List.mem_cons, List.not_mem_nil, or_false, not_or] at hv
      funext i; simp [u2, hv]
    intro k ρ s hk hIk
    obtain ⟨g1, ⟨c, d, g2, g3, g4, g5, g6⟩, g7, g8, g9⟩ := (hI _ _ _).mp hIk
    clear hIk
    have tl : s 66 0 = L := by rw [g7 _ (by decide)]; exact hl
    rcases Nat.lt_or_eq_of_le hk with hk | rfl
    · have al := r2 k (by omega)
      obtain ⟨b0, b1, b2⟩ := hy (p + k) (by omega)
      have tx : s 128 (p + k) = y (p + k) := by
        rw [g7 _ (by decide), b2]
        unfold alP at al
        rw [if_pos (by omega)]
      obtain ⟨q, hq⟩ : ∃ q : Nat, y (p + k) = q := ⟨(y (p + k)).toNat, by omega⟩
      rw [hq] at tx al
      by_cases a1 : (97 ≤ q ∧ q ≤ 122)
      · have lB : ltB (y (p + k)) = true := by rw [hq, ltB, decide_eq_true_eq]; omega
        have dB : dgB (y (p + k)) = false := by rw [hq, dgB, decide_eq_false_iff_not]; omega
        simp (disch := first | decide | omega) only [cE_K, vE_K, gE_K, o1K_0, o1K_i, o1_K, o2L_0, o2L_i, o2K_0, o2K_i, o2_K, thK_0, thK_i, th_K, dvL_0, dvL_i, dvK_0, dvK_i, dv_K, rmL_0, rmL_i, rmK_0, rmK_i, rm_K, dlL_0, dlL_i, dlK_0, dlK_i, dl_K, ldQ_0, ldQ_i, ldL_0, ldL_i, ldK_0, ldK_i, ld_K, kK_0, kK_i, k_K, aL_0, aL_i, aK_0, aK_i, aE_0, aE_1, clK_0, clK_i, cl_K, cBL_0, cBL_i, cBK_0, cBK_i, cB_K, zBK_0, zBK_i, zB_K, nBK_0, nBK_i, nB_K, andK_0, andK_i, and_K, orK_0, orK_i, or_K, tkK_0, tkK_i, tk_K, sk_K, stK_0, stK_i, st_K, exK_0, exK_i, ex_K, in_K, pfL_0, pfL_i, pfK_0, pfK_i, pf_K, pzL_0, pzL_i, pzK_0, pzK_i, pz_K, poL_0, poL_i, poK_0, poK_i, po_K, asQ_0, asQ_i, asM_0, asM_i, asL_0, asL_i, asK_0, asK_i, as_K, aoM_0, aoM_i, aoQ_0, aoQ_i, aoL_0, aoL_i, aoK_0, aoK_i, ao_K, sqK_0, sqK_1, sqK_2, sqK_3, sqK_4, sqK_i, sq_K, swK_0, swK_1, swK_2, swK_3, swK_4, swK_i, sw_K, ifK_0, ifK_i, if_K, br_K, ct_K, rv_K, thr_K, rtK_0, rtK_i, rt_K, mfK_0, mfK_i, mf_K, mzK_i, mzK_0, mz_K, cpK_0, cpT_0, cp_K, tsK_0, tsK_i, ts_K, tsP_hit, tsP_next, tsP_low, tsP_nil, ini_0, ini_1, rdU_0, rdU_i, rdB_0, rdB_1, rdB_2, rdB_3, rdB_4, rdB_i, rdC_0, rdC_i, rnd_K, cmpI, addI, subI, mulI, i2lI, l2iI, minI, maxI, idI, up, ok_some, ok_ite, w32_id, ix_id, Int.toNat_add, Int.toNat_mul, ltI_t, ltI_f, leI_t, leI_f, eqI_t, eqI_f, u2_s, u2_v, u2_i, w3_m2, w3_m1, w3_0, w3_1, w3_2, w3_3, w3_4, w3_5, w3_6, w3_7, w3_8, w3_9, w3_10, w3_12, w3_20, w3_23, w3_24, w3_25, w3_32, w3_40, w3_50, w3_100, w3_120, w3_168, w3_200, w3_240, w3_255, w3_500, w3_592, w3_600, w3_900, w3_940, w3_999, w3_1000, w3_1009, w3_1184, w3_3333, w3_9999, if_true, if_false, reduceIte, true_and, and_true, false_and, and_false, true_or, or_true, false_or, or_false, not_true_eq_false, not_false_eq_true, decide_true, decide_false, decide_eq_true_eq, Bool.not_true, Bool.not_false, Bool.false_eq_true, Bool.not_eq_true', Bool.not_eq_eq_eq_not, decide_eq_false_iff_not, Int.not_lt, Int.not_le, Nat.not_le, Nat.not_lt, Nat.le_refl, Int.le_refl, Nat.lt_irrefl, Int.lt_irrefl, reduceCtorEq, Nat.reduceEqDiff, Nat.reduceAdd, Nat.reduceMul, Nat.reduceBEq, Int.reduceNeg, Int.reduceAdd, Int.toNat_natCast, Int.reduceToNat, ne_eq, Nat.zero_ne_one, true_or, Int.ofNat_lt, Int.ofNat_le, Int.natCast_add, Int.cast_ofNat_Int, Int.natCast_zero, g1, g2, g3, tl, tx]
        refine ⟨hk, (hI _ _ _).mpr ⟨by simp [up]; omega, ⟨c + 1, d, by simp [up], by simp [up, g3], by omega, by simp only [laB, lB, Bool.and_true]; exact g5, by simp [ldB, dB]⟩, ?_, fun h1 h2 => ?_, fun h1 h2 => by simp [ldB, dB] at h1⟩⟩
        · refine fr_trans g7 (fun v hv => ?_)
          simp only [List.mem_cons, List.not_mem_nil, or_false, not_or] at hv
          funext i; simp [u2, hv]
        · simp only [laB, lB, Bool.and_true] at h1
          have w := g8 h1 (by omega)
          have bd := e256_bd _ (lsN_lt k h1)
          rw [lsN_len] at bd
          have bd2 := pow5 ⟨k, by omega⟩
          simp only at bd2
          obtain ⟨W, hW⟩ : ∃ W : Nat, e256 (lsN y p k) = W := ⟨(e256 (lsN y p k)).toNat, by omega⟩
          rw [hW] at bd w
          simp only [u2, and_self, if_true, lsN, e256, hW, hq, w]
          rw [ior8 (by omega) (by omega)]
          omega
      · have a2 : 48 ≤ q ∧ q ≤ 57 := by unfold alP at al; omega
        have lB : ltB (y (p + k)) = false := by rw [hq, ltB, decide_eq_false_iff_not]; omega
        have dB : dgB (y (p + k)) = true := by rw [hq, dgB, decide_eq_true_eq]; omega
        simp (disch := first | decide | omega) only [cE_K, vE_K, gE_K, o1K_0, o1K_i, o1_K, o2L_0, o2L_i, o2K_0, o2K_i, o2_K, thK_0, thK_i, th_K, dvL_0, dvL_i, dvK_0, dvK_i, dv_K, rmL_0, rmL_i, rmK_0, rmK_i, rm_K, dlL_0, dlL_i, dlK_0, dlK_i, dl_K, ldQ_0, ldQ_i, ldL_0, ldL_i, ldK_0, ldK_i, ld_K, kK_0, kK_i, k_K, aL_0, aL_i, aK_0, aK_i, aE_0, aE_1, clK_0, clK_i, cl_K, cBL_0, cBL_i, cBK_0, cBK_i, cB_K, zBK_0, zBK_i, zB_K, nBK_0, nBK_i, nB_K, andK_0, andK_i, and_K, orK_0, orK_i, or_K, tkK_0, tkK_i, tk_K, sk_K, stK_0, stK_i, st_K, exK_0, exK_i, ex_K, in_K, pfL_0, pfL_i, pfK_0, pfK_i, pf_K, pzL_0, pzL_i, pzK_0, pzK_i, pz_K, poL_0, poL_i, poK_0, poK_i, po_K, asQ_0, asQ_i, asM_0, asM_i, asL_0, asL_i, asK_0, asK_i, as_K, aoM_0, aoM_i, aoQ_0, aoQ_i, aoL_0, aoL_i, aoK_0, aoK_i, ao_K, sqK_0, sqK_1, sqK_2, sqK_3, sqK_4, sqK_i, sq_K, swK_0, swK_1, swK_2, swK_3, swK_4, swK_i, sw_K, ifK_0, ifK_i, if_K, br_K, ct_K, rv_K, thr_K, rtK_0, rtK_i, rt_K, mfK_0, mfK_i, mf_K, mzK_i, mzK_0, mz_K, cpK_0, cpT_0, cp_K, tsK_0, tsK_i, ts_K, tsP_hit, tsP_next, tsP_low, tsP_nil, ini_0, ini_1, rdU_0, rdU_i, rdB_0, rdB_1, rdB_2, rdB_3, rdB_4, rdB_i, rdC_0, rdC_i, rnd_K, cmpI, addI, subI, mulI, i2lI, l2iI, minI, maxI, idI, up, ok_some, ok_ite, w32_id, ix_id, Int.toNat_add, Int.toNat_mul, ltI_t, ltI_f, leI_t, leI_f, eqI_t, eqI_f, u2_s, u2_v, u2_i, w3_m2, w3_m1, w3_0, w3_1, w3_2, w3_3, w3_4, w3_5, w3_6, w3_7, w3_8, w3_9, w3_10, w3_12, w3_20, w3_23, w3_24, w3_25, w3_32, w3_40, w3_50, w3_100, w3_120, w3_168, w3_200, w3_240, w3_255, w3_500, w3_592, w3_600, w3_900, w3_940, w3_999, w3_1000, w3_1009, w3_1184, w3_3333, w3_9999, if_true, if_false, reduceIte, true_and, and_true, false_and, and_false, true_or, or_true, false_or, or_false, not_true_eq_false, not_false_eq_true, decide_true, decide_false, decide_eq_true_eq, Bool.not_true, Bool.not_false, Bool.false_eq_true, Bool.not_eq_true', Bool.not_eq_eq_eq_not, decide_eq_false_iff_not, Int.not_lt, Int.not_le, Nat.not_le, Nat.not_lt, Nat.le_refl, Int.le_refl, Nat.lt_irrefl, Int.lt_irrefl, reduceCtorEq, Nat.reduceEqDiff, Nat.reduceAdd, Nat.reduceMul, Nat.reduceBEq, Int.reduceNeg, Int.reduceAdd, Int.toNat_natCast, Int.reduceToNat, ne_eq, Nat.zero_ne_one, true_or, Int.ofNat_lt, Int.ofNat_le, Int.natCast_add, Int.cast_ofNat_Int, Int.natCast_zero, g1, g2, g3, tl, tx]
        refine ⟨hk, (hI _ _ _).mpr ⟨by simp [up]; omega, ⟨c, d + 1, by simp [up, g2], by simp [up], by omega, by simp [laB, lB], by simp only [ldB, dB, Bool.and_true]; exact g6⟩, ?_, fun h1 h2 => by simp [laB, lB] at h1, fun h1 h2 => ?_⟩⟩
        · refine fr_trans g7 (fun v hv => ?_)
          simp only [List.mem_cons, List.not_mem_nil, or_false, not_or] at hv
          funext i; simp [u2, hv]
        · simp only [ldB, dB, Bool.and_true] at h1
          have w := g9 h1 (by omega)
          simp only [u2, and_self, if_true, vN, hq, w]
          omega
    · refine ok_mono (P := fun (z : Nat × Int × Lo × Me) => z.1 = 9 ∧ z.2.2.2 = s ∧ z.2.2.1 2 = (c : Int) ∧ z.2.2.1 3 = (d : Int) ∧ z.2.2.1 4 = (p : Int) + k) ?_ ?_
      · clear hQQ hI g8 g9 g5 g6
        by_cases e : p + k = L
        · simp (disch := first | decide | omega) only [cE_K, vE_K, gE_K, o1K_0, o1K_i, o1_K, o2L_0, o2L_i, o2K_0, o2K_i, o2_K, thK_0, thK_i, th_K, dvL_0, dvL_i, dvK_0, dvK_i, dv_K, rmL_0, rmL_i, rmK_0, rmK_i, rm_K, dlL_0, dlL_i, dlK_0, dlK_i, dl_K, ldQ_0, ldQ_i, ldL_0, ldL_i, ldK_0, ldK_i, ld_K, kK_0, kK_i, k_K, aL_0, aL_i, aK_0, aK_i, aE_0, aE_1, clK_0, clK_i, cl_K, cBL_0, cBL_i, cBK_0, cBK_i, cB_K, zBK_0, zBK_i, zB_K, nBK_0, nBK_i, nB_K, andK_0, andK_i, and_K, orK_0, orK_i, or_K, tkK_0, tkK_i, tk_K, sk_K, stK_0, stK_i, st_K, exK_0, exK_i, ex_K, in_K, pfL_0, pfL_i, pfK_0, pfK_i, pf_K, pzL_0, pzL_i, pzK_0, pzK_i, pz_K, poL_0, poL_i, poK_0, poK_i, po_K, asQ_0, asQ_i, asM_0, asM_i, asL_0, asL_i, asK_0, asK_i, as_K, aoM_0, aoM_i, aoQ_0, aoQ_i, aoL_0, aoL_i, aoK_0, aoK_i, ao_K, sqK_0, sqK_1, sqK_2, sqK_3, sqK_4, sqK_i, sq_K, swK_0, swK_1, swK_2, swK_3, swK_4, swK_i, sw_K, ifK_0, ifK_i, if_K, br_K, ct_K, rv_K, thr_K, rtK_0, rtK_i, rt_K, mfK_0, mfK_i, mf_K, mzK_i, mzK_0, mz_K, cpK_0, cpT_0, cp_K, tsK_0, tsK_i, ts_K, tsP_hit, tsP_next, tsP_low, tsP_nil, ini_0, ini_1, rdU_0, rdU_i, rdB_0, rdB_1, rdB_2, rdB_3, rdB_4, rdB_i, rdC_0, rdC_i, rnd_K, cmpI, addI, subI, mulI, i2lI, l2iI, minI, maxI, idI, up, ok_some, ok_ite, w32_id, ix_id, Int.toNat_add, Int.toNat_mul, ltI_t, ltI_f, leI_t, leI_f, eqI_t, eqI_f, u2_s, u2_v, u2_i, w3_m2, w3_m1, w3_0, w3_1, w3_2, w3_3, w3_4, w3_5, w3_6, w3_7, w3_8, w3_9, w3_10, w3_12, w3_20, w3_23, w3_24, w3_25, w3_32, w3_40, w3_50, w3_100, w3_120, w3_168, w3_200, w3_240, w3_255, w3_500, w3_592, w3_600, w3_900, w3_940, w3_999, w3_1000, w3_1009, w3_1184, w3_3333, w3_9999, if_true, if_false, reduceIte, true_and, and_true, false_and, and_false, true_or, or_true, false_or, or_false, not_true_eq_false, not_false_eq_true, decide_true, decide_false, decide_eq_true_eq, Bool.not_true, Bool.not_false, Bool.false_eq_true, Bool.not_eq_true', Bool.not_eq_eq_eq_not, decide_eq_false_iff_not, Int.not_lt, Int.not_le, Nat.not_le, Nat.not_lt, Nat.le_refl, Int.le_refl, Nat.lt_irrefl, Int.lt_irrefl, reduceCtorEq, Nat.reduceEqDiff, Nat.reduceAdd, Nat.reduceMul, Nat.reduceBEq, Int.reduceNeg, Int.reduceAdd, Int.toNat_natCast, Int.reduceToNat, ne_eq, Nat.zero_ne_one, true_or, Int.ofNat_lt, Int.ofNat_le, Int.natCast_add, Int.cast_ofNat_Int, Int.natCast_zero, g1, tl]
        · have na : ¬ alP (y (p + k)) := by
            subst hNN
            rcases r3 with r3 | r3
            · exact absurd r3 e
            · exact r3
          obtain ⟨b0, b1, b2⟩ := hy (p + k) (by omega)
          obtain ⟨q, hq⟩ : ∃ q : Int, s 128 (p + k) = q := ⟨_, rfl⟩
          have q1 : -128 ≤ q ∧ q < 128 ∧ ¬ (97 ≤ q ∧ q ≤ 122) ∧ ¬ (48 ≤ q ∧ q ≤ 57) := by
            rw [← hq, g7 _ (by decide), b2]
            unfold alP at na
            split <;> omega
          obtain ⟨q1, q2, q3, q4⟩ := q1
          have q5 : q < 48 ∨ (57 < q ∧ q < 97) ∨ 122 < q := by omega
          clear b2 na q3 q4 hy r2 r3
          rcases q5 with q5 | q5 | q5
          · simp (disch := first | decide | omega) only [cE_K, vE_K, gE_K, o1K_0, o1K_i, o1_K, o2L_0, o2L_i, o2K_0, o2K_i, o2_K, thK_0, thK_i, th_K, dvL_0, dvL_i, dvK_0, dvK_i, dv_K, rmL_0, rmL_i, rmK_0, rmK_i, rm_K, dlL_0, dlL_i, dlK_0, dlK_i, dl_K, ldQ_0, ldQ_i, ldL_0, ldL_i, ldK_0, ldK_i, ld_K, kK_0, kK_i, k_K, aL_0, aL_i, aK_0, aK_i, aE_0, aE_1, clK_0, clK_i, cl_K, cBL_0, cBL_i, cBK_0, cBK_i, cB_K, zBK_0, zBK_i, zB_K, nBK_0, nBK_i, nB_K, andK_0, andK_i, and_K, orK_0, orK_i, or_K, tkK_0, tkK_i, tk_K, sk_K, stK_0, stK_i, st_K, exK_0, exK_i, ex_K, in_K, pfL_0, pfL_i, pfK_0, pfK_i, pf_K, pzL_0, pzL_i, pzK_0, pzK_i, pz_K, poL_0, poL_i, poK_0, poK_i, po_K, asQ_0, asQ_i, asM_0, asM_i, asL_0, asL_i, asK_0, asK_i, as_K, aoM_0, aoM_i, aoQ_0, aoQ_i, aoL_0, aoL_i, aoK_0, aoK_i, ao_K, sqK_0, sqK_1, sqK_2, sqK_3, sqK_4, sqK_i, sq_K, swK_0, swK_1, swK_2, swK_3, swK_4, swK_i, sw_K, ifK_0, ifK_i, if_K, br_K, ct_K, rv_K, thr_K, rtK_0, rtK_i, rt_K, mfK_0, mfK_i, mf_K, mzK_i, mzK_0, mz_K, cpK_0, cpT_0, cp_K, tsK_0, tsK_i, ts_K, tsP_hit, tsP_next, tsP_low, tsP_nil, ini_0, ini_1, rdU_0, rdU_i, rdB_0, rdB_1, rdB_2, rdB_3, rdB_4, rdB_i, rdC_0, rdC_i, rnd_K, cmpI, addI, subI, mulI, i2lI, l2iI, minI, maxI, idI, up, ok_some, ok_ite, w32_id, ix_id, Int.toNat_add, Int.toNat_mul, ltI_t, ltI_f, leI_t, leI_f, eqI_t, eqI_f, u2_s, u2_v, u2_i, w3_m2, w3_m1, w3_0, w3_1, w3_2, w3_3, w3_4, w3_5, w3_6, w3_7, w3_8, w3_9, w3_10, w3_12, w3_20, w3_23, w3_24, w3_25, w3_32, w3_40, w3_50, w3_100, w3_120, w3_168, w3_200, w3_240, w3_255, w3_500, w3_592, w3_600, w3_900, w3_940, w3_999, w3_1000, w3_1009, w3_1184, w3_3333, w3_9999, if_true, if_false, reduceIte, true_and, and_true, false_and, and_false, true_or, or_true, false_or, or_false, not_true_eq_false, not_false_eq_true, decide_true, decide_false, decide_eq_true_eq, Bool.not_true, Bool.not_false, Bool.false_eq_true, Bool.not_eq_true', Bool.not_eq_eq_eq_not, decide_eq_false_iff_not, Int.not_lt, Int.not_le, Nat.not_le, Nat.not_lt, Nat.le_refl, Int.le_refl, Nat.lt_irrefl, Int.lt_irrefl, reduceCtorEq, Nat.reduceEqDiff, Nat.reduceAdd, Nat.reduceMul, Nat.reduceBEq, Int.reduceNeg, Int.reduceAdd, Int.toNat_natCast, Int.reduceToNat, ne_eq, Nat.zero_ne_one, true_or, Int.ofNat_lt, Int.ofNat_le, Int.natCast_add, Int.cast_ofNat_Int, Int.natCast_zero, g1, tl, hq]
          · obtain ⟨q6, q7⟩ := q5
            simp (disch := first | decide | omega) only [cE_K, vE_K, gE_K, o1K_0, o1K_i, o1_K, o2L_0, o2L_i, o2K_0, o2K_i, o2_K, thK_0, thK_i, th_K, dvL_0, dvL_i, dvK_0, dvK_i, dv_K, rmL_0, rmL_i, rmK_0, rmK_i, rm_K, dlL_0, dlL_i, dlK_0, dlK_i, dl_K, ldQ_0, ldQ_i, ldL_0, ldL_i, ldK_0, ldK_i, ld_K, kK_0, kK_i, k_K, aL_0, aL_i, aK_0, aK_i, aE_0, aE_1, clK_0, clK_i, cl_K, cBL_0, cBL_i, cBK_0, cBK_i, cB_K, zBK_0, zBK_i, zB_K, nBK_0, nBK_i, nB_K, andK_0, andK_i, and_K, orK_0, orK_i, or_K, tkK_0, tkK_i, tk_K, sk_K, stK_0, stK_i, st_K, exK_0, exK_i, ex_K, in_K, pfL_0, pfL_i, pfK_0, pfK_i, pf_K, pzL_0, pzL_i, pzK_0, pzK_i, pz_K, poL_0, poL_i, poK_0, poK_i, po_K, asQ_0, asQ_i, asM_0, asM_i, asL_0, asL_i, asK_0, asK_i, as_K, aoM_0, aoM_i, aoQ_0, aoQ_i, aoL_0, aoL_i, aoK_0, aoK_i, ao_K, sqK_0, sqK_1, sqK_2, sqK_3, sqK_4, sqK_i, sq_K, swK_0, swK_1, swK_2, swK_3, swK_4, swK_i, sw_K, ifK_0, ifK_i, if_K, br_K, ct_K, rv_K, thr_K, rtK_0, rtK_i, rt_K, mfK_0, mfK_i, mf_K, mzK_i, mzK_0, mz_K, cpK_0, cpT_0, cp_K, tsK_0, tsK_i, ts_K, tsP_hit, tsP_next, tsP_low, tsP_nil, ini_0, ini_1, rdU_0, rdU_i, rdB_0, rdB_1, rdB_2, rdB_3, rdB_4, rdB_i, rdC_0, rdC_i, rnd_K, cmpI, addI, subI, mulI, i2lI, l2iI, minI, maxI, idI, up, ok_some, ok_ite, w32_id, ix_id, Int.toNat_add, Int.toNat_mul, ltI_t, ltI_f, leI_t, leI_f, eqI_t, eqI_f, u2_s, u2_v, u2_i, w3_m2, w3_m1, w3_0, w3_1, w3_2, w3_3, w3_4, w3_5, w3_6, w3_7, w3_8, w3_9, w3_10, w3_12, w3_20, w3_23, w3_24, w3_25, w3_32, w3_40, w3_50, w3_100, w3_120, w3_168, w3_200, w3_240, w3_255, w3_500, w3_592, w3_600, w3_900, w3_940, w3_999, w3_1000, w3_1009, w3_1184, w3_3333, w3_9999, if_true, if_false, reduceIte, true_and, and_true, false_and, and_false, true_or, or_true, false_or, or_false, not_true_eq_false, not_false_eq_true, decide_true, decide_false, decide_eq_true_eq, Bool.not_true, Bool.not_false, Bool.false_eq_true, Bool.not_eq_true', Bool.not_eq_eq_eq_not, decide_eq_false_iff_not, Int.not_lt, Int.not_le, Nat.not_le, Nat.not_lt, Nat.le_refl, Int.le_refl, Nat.lt_irrefl, Int.lt_irrefl, reduceCtorEq, Nat.reduceEqDiff, Nat.reduceAdd, Nat.reduceMul, Nat.reduceBEq, Int.reduceNeg, Int.reduceAdd, Int.toNat_natCast, Int.reduceToNat, ne_eq, Nat.zero_ne_one, true_or, Int.ofNat_lt, Int.ofNat_le, Int.natCast_add, Int.cast_ofNat_Int, Int.natCast_zero, g1, tl, hq]
          · simp (disch := first | decide | omega) only [cE_K, vE_K, gE_K, o1K_0, o1K_i, o1_K, o2L_0, o2L_i, o2K_0, o2K_i, o2_K, thK_0, thK_i, th_K, dvL_0, dvL_i, dvK_0, dvK_i, dv_K, rmL_0, rmL_i, rmK_0, rmK_i, rm_K, dlL_0, dlL_i, dlK_0, dlK_i, dl_K, ldQ_0, ldQ_i, ldL_0, ldL_i, ldK_0, ldK_i, ld_K, kK_0, kK_i, k_K, aL_0, aL_i, aK_0, aK_i, aE_0, aE_1, clK_0, clK_i, cl_K, cBL_0, cBL_i, cBK_0, cBK_i, cB_K, zBK_0, zBK_i, zB_K, nBK_0, nBK_i, nB_K, andK_0, andK_i, and_K, orK_0, orK_i, or_K, tkK_0, tkK_i, tk_K, sk_K, stK_0, stK_i, st_K, exK_0, exK_i, ex_K, in_K, pfL_0, pfL_i, pfK_0, pfK_i, pf_K, pzL_0, pzL_i, pzK_0, pzK_i, pz_K, poL_0, poL_i, poK_0, poK_i, po_K, asQ_0, asQ_i, asM_0, asM_i, asL_0, asL_i, asK_0, asK_i, as_K, aoM_0, aoM_i, aoQ_0, aoQ_i, aoL_0, aoL_i, aoK_0, aoK_i, ao_K, sqK_0, sqK_1, sqK_2, sqK_3, sqK_4, sqK_i, sq_K, swK_0, swK_1, swK_2, swK_3, swK_4, swK_i, sw_K, ifK_0, ifK_i, if_K, br_K, ct_K, rv_K, thr_K, rtK_0, rtK_i, rt_K, mfK_0, mfK_i, mf_K, mzK_i, mzK_0, mz_K, cpK_0, cpT_0, cp_K, tsK_0, tsK_i, ts_K, tsP_hit, tsP_next, tsP_low, tsP_nil, ini_0, ini_1, rdU_0, rdU_i, rdB_0, rdB_1, rdB_2, rdB_3, rdB_4, rdB_i, rdC_0, rdC_i, rnd_K, cmpI, addI, subI, mulI, i2lI, l2iI, minI, maxI, idI, up, ok_some, ok_ite, w32_id, ix_id, Int.toNat_add, Int.toNat_mul, ltI_t, ltI_f, leI_t, leI_f, eqI_t, eqI_f, u2_s, u2_v, u2_i, w3_m2, w3_m1, w3_0, w3_1, w3_2, w3_3, w3_4, w3_5, w3_6, w3_7, w3_8, w3_9, w3_10, w3_12, w3_20, w3_23, w3_24, w3_25, w3_32, w3_40, w3_50, w3_100, w3_120, w3_168, w3_200, w3_240, w3_255, w3_500, w3_592, w3_600, w3_900, w3_940, w3_999, w3_1000, w3_1009, w3_1184, w3_3333, w3_9999, if_true, if_false, reduceIte, true_and, and_true, false_and, and_false, true_or, or_true, false_or, or_false, not_true_eq_false, not_false_eq_true, decide_true, decide_false, decide_eq_true_eq, Bool.not_true, Bool.not_false, Bool.false_eq_true, Bool.not_eq_true', Bool.not_eq_eq_eq_not, decide_eq_false_iff_not, Int.not_lt, Int.not_le, Nat.not_le, Nat.not_lt, Nat.le_refl, Int.le_refl, Nat.lt_irrefl, Int.lt_irrefl, reduceCtorEq, Nat.reduceEqDiff, Nat.reduceAdd, Nat.reduceMul, Nat.reduceBEq, Int.reduceNeg, Int.reduceAdd, Int.toNat_natCast, Int.reduceToNat, ne_eq, Nat.zero_ne_one, true_or, Int.ofNat_lt, Int.ofNat_le, Int.natCast_add, Int.cast_ofNat_Int, Int.natCast_zero, g1, tl, hq]
      · rintro ⟨z1', z2, z3, z4⟩ ⟨rfl, rfl, e2, e3, e4⟩
        simp only at e2 e3 e4 ⊢
        have fin : ∀ kd zz : Int, zz = z1 (decide (0 < k)) → kd = (if laB y p k = true ∧ k ≤ 6 then 1 else if ldB y p k = true ∧ k ≤ 4 then 2 else 4) → QQ (zz, u2 (u2 z4 68 0 ((p : Int) + k)) 69 0 kd) := by
          intro kd zz hz hkd
          refine (hQQ _).mpr ⟨hz, fun v hv => ?_, by simp [u2], by simp [u2]; exact hkd, fun h1 h2 => by simp [u2]; exact g8 h1 h2, fun h1 h2 => by simp [u2]; exact g9 h1 h2⟩
          simp only [List.mem_cons, List.not_mem_nil, or_false, not_or] at hv
          rw [← g7 v (by simp [hv])]
          funext i; simp [u2, hv]
        have h6 : (d = 0 ∧ c ≤ 6 ∧ 0 < c ∧ QQ (1, u2 (u2 z4 68 0 ((p : Int) + k)) 69 0 1)) ∨ (d = 0 ∧ c = 0 ∧ QQ (0, u2 (u2 z4 68 0 ((p : Int) + k)) 69 0 1)) ∨ (c = 0 ∧ d ≤ 4 ∧ 0 < d ∧ QQ (1, u2 (u2 z4 68 0 ((p : Int) + k)) 69 0 2)) ∨ (d = 0 ∧ 6 < c ∧ 6 < c ∧ QQ (1, u2 (u2 z4 68 0 ((p : Int) + k)) 69 0 4)) ∨ (0 < c ∧ 0 < d ∧ 0 < d ∧ QQ (1, u2 (u2 z4 68 0 ((p : Int) + k)) 69 0 4)) ∨ (c = 0 ∧ 4 < d ∧ 4 < d ∧ QQ (1, u2 (u2 z4 68 0 ((p : Int) + k)) 69 0 4)) := by
          have zz : 0 < k → 1 = z1 (decide (0 < k)) := fun h => by rw [decide_eq_true h]; rfl
          have z0 : ¬ 0 < k → 0 = z1 (decide (0 < k)) := fun h => by rw [decide_eq_false h]; rfl
          by_cases d0 : d = 0
          · by_cases c6 : c ≤ 6
            · by_cases c0 : 0 < c
              · exact Or.inl ⟨d0, c6, c0, fin _ _ (zz (by omega)) (by rw [if_pos ⟨g5.mpr d0, by omega⟩])⟩
              · exact Or.inr (Or.inl ⟨d0, by omega, fin _ _ (z0 (by omega)) (by rw [if_pos ⟨g5.mpr d0, by omega⟩])⟩)
            · exact Or.inr (Or.inr (Or.inr (Or.inl ⟨d0, by omega, by omega, fin _ _ (zz (by omega)) (by rw [if_neg (fun q => by omega), if_neg (fun q => by have := g6.mp q.1; omega)])⟩)))
          · by_cases c0 : c = 0
            · by_cases d4 : d ≤ 4
              · exact Or.inr (Or.inr (Or.inl ⟨c0, d4, by omega, fin _ _ (zz (by omega)) (by rw [if_neg (fun q => d0 (g5.mp q.1)), if_pos ⟨g6.mpr c0, by omega⟩])⟩))
              · exact Or.inr (Or.inr (Or.inr (Or.inr (Or.inr ⟨c0, by omega, by omega, fin _ _ (zz (by omega)) (by rw [if_neg (fun q => d0 (g5.mp q.1)), if_neg (fun q => by omega)])⟩))))
            · exact Or.inr (Or.inr (Or.inr (Or.inr (Or.inl ⟨by omega, by omega, by omega, fin _ _ (zz (by omega)) (by rw [if_neg (fun q => d0 (g5.mp q.1)), if_neg (fun q => c0 (g6.mp q.1))])⟩))))
        clear fin g8 g9 hQQ hI g5 g6 hy r2 r3 g7
        rcases h6 with ⟨u1, u2', u3, f2⟩ | ⟨u1, u2', f2⟩ | ⟨u1, u2', u3, f2⟩ | ⟨u1, u2', u3, f2⟩ | ⟨u1, u2', u3, f2⟩ | ⟨u1, u2', u3, f2⟩
        all_goals
          simp (disch := first | decide | omega) only [cE_K, vE_K, gE_K, o1K_0, o1K_i, o1_K, o2L_0, o2L_i, o2K_0, o2K_i, o2_K, thK_0, thK_i, th_K, dvL_0, dvL_i, dvK_0, dvK_i, dv_K, rmL_0, rmL_i, rmK_0, rmK_i, rm_K, dlL_0, dlL_i, dlK_0, dlK_i, dl_K, ldQ_0, ldQ_i, ldL_0, ldL_i, ldK_0, ldK_i, ld_K, kK_0, kK_i, k_K, aL_0, aL_i, aK_0, aK_i, aE_0, aE_1, clK_0, clK_i, cl_K, cBL_0, cBL_i, cBK_0, cBK_i, cB_K, zBK_0, zBK_i, zB_K, nBK_0, nBK_i, nB_K, andK_0, andK_i, and_K, orK_0, orK_i, or_K, tkK_0, tkK_i, tk_K, sk_K, stK_0, stK_i, st_K, exK_0, exK_i, ex_K, in_K, pfL_0, pfL_i, pfK_0, pfK_i, pf_K, pzL_0, pzL_i, pzK_0, pzK_i, pz_K, poL_0, poL_i, poK_0, poK_i, po_K, asQ_0, asQ_i, asM_0, asM_i, asL_0, asL_i, asK_0, asK_i, as_K, aoM_0, aoM_i, aoQ_0, aoQ_i, aoL_0, aoL_i, aoK_0, aoK_i, ao_K, sqK_0, sqK_1, sqK_2, sqK_3, sqK_4, sqK_i, sq_K, swK_0, swK_1, swK_2, swK_3, swK_4, swK_i, sw_K, ifK_0, ifK_i, if_K, br_K, ct_K, rv_K, thr_K, rtK_0, rtK_i, rt_K, mfK_0, mfK_i, mf_K, mzK_i, mzK_0, mz_K, cpK_0, cpT_0, cp_K, tsK_0, tsK_i, ts_K, tsP_hit, tsP_next, tsP_low, tsP_nil, ini_0, ini_1, rdU_0, rdU_i, rdB_0, rdB_1, rdB_2, rdB_3, rdB_4, rdB_i, rdC_0, rdC_i, rnd_K, cmpI, addI, subI, mulI, i2lI, l2iI, minI, maxI, idI, up, ok_some, ok_ite, w32_id, ix_id, Int.toNat_add, Int.toNat_mul, ltI_t, ltI_f, leI_t, leI_f, eqI_t, eqI_f, u2_s, u2_v, u2_i, w3_m2, w3_m1, w3_0, w3_1, w3_2, w3_3, w3_4, w3_5, w3_6, w3_7, w3_8, w3_9, w3_10, w3_12, w3_20, w3_23, w3_24, w3_25, w3_32, w3_40, w3_50, w3_100, w3_120, w3_168, w3_200, w3_240, w3_255, w3_500, w3_592, w3_600, w3_900, w3_940, w3_999, w3_1000, w3_1009, w3_1184, w3_3333, w3_9999, if_true, if_false, reduceIte, true_and, and_true, false_and, and_false, true_or, or_true, false_or, or_false, not_true_eq_false, not_false_eq_true, decide_true, decide_false, decide_eq_true_eq, Bool.not_true, Bool.not_false, Bool.false_eq_true, Bool.not_eq_true', Bool.not_eq_eq_eq_not, decide_eq_false_iff_not, Int.not_lt, Int.not_le, Nat.not_le, Nat.not_lt, Nat.le_refl, Int.le_refl, Nat.lt_irrefl, Int.lt_irrefl, reduceCtorEq, Nat.reduceEqDiff, Nat.reduceAdd, Nat.reduceMul, Nat.reduceBEq, Int.reduceNeg, Int.reduceAdd, Int.toNat_natCast, Int.reduceToNat, ne_eq, Nat.zero_ne_one, true_or, Int.ofNat_lt, Int.ofNat_le, Int.natCast_add, Int.cast_ofNat_Int, Int.natCast_zero, e2, e3, e4, Int.one_ne_zero, Nat.reduceSub]
          exact f2
  obtain ⟨⟨x1, x2⟩, h1, h2⟩ := main
  obtain ⟨k1, k2⟩ := (hQQ _).mp h2
  simp only at k1 k2
  subst k1
  rw [hNN] at h1 k2
  exact ⟨x2, h1, k2⟩
