theorem evL_0 {s : Me} {V : Int → Int → Int → Int → Int → Bool} {n : Nat} {b : Bool} {t : List Bool} (hk : s 1984 n = 0) (h : evL s V n = b :: t) : evL s V (n + 1) = (!b) :: t := by simp [evL, hk, h]
theorem evL_0e {s : Me} {V : Int → Int → Int → Int → Int → Bool} {n : Nat} (hk : s 1984 n = 0) (h : evL s V n = []) : evL s V (n + 1) = List.replicate 30 false := by simp [evL, hk, h]
theorem evL_1 {s : Me} {V : Int → Int → Int → Int → Int → Bool} {n : Nat} {a b : Bool} {t : List Bool} (hk : s 1984 n = 1) (h : evL s V n = a :: b :: t) : evL s V (n + 1) = (a && b) :: t := by simp [evL, hk, h]
theorem evL_1e {s : Me} {V : Int → Int → Int → Int → Int → Bool} {n : Nat} (hk : s 1984 n = 1) (h : evL s V n = [] ∨ ∃ a, evL s V n = [a]) : evL s V (n + 1) = List.replicate 30 false := by
  rcases h with h | ⟨a, h⟩ <;> simp [evL, hk, h]
theorem evL_2 {s : Me} {V : Int → Int → Int → Int → Int → Bool} {n : Nat} {a b : Bool} {t : List Bool} (hk : s 1984 n = 2) (h : evL s V n = a :: b :: t) : evL s V (n + 1) = (a || b) :: t := by simp [evL, hk, h]
theorem evL_2e {s : Me} {V : Int → Int → Int → Int → Int → Bool} {n : Nat} (hk : s 1984 n = 2) (h : evL s V n = [] ∨ ∃ a, evL s V n = [a]) : evL s V (n + 1) = List.replicate 30 false := by
  rcases h with h | ⟨a, h⟩ <;> simp [evL, hk, h]
theorem evL_3 {s : Me} {V : Int → Int → Int → Int → Int → Bool} {n : Nat} {k : Int} (hk : s 1984 n = k) (k0 : k ≠ 0) (k1 : k ≠ 1) (k2 : k ≠ 2) : evL s V (n + 1) = V k (s 2048 n) (s 2112 n) (s 2176 n) (s 2240 n) :: evL s V n := by simp [evL, hk, k0, k1, k2]
set_option maxHeartbeats 8000000 in
theorem holds_ok {τ : Me} {N NM : Nat → Int} {S h : Nat} {B : Bool} (hs : sce τ N NM) (hp : psX τ N 168) (hh : h < 168) (hS : τ 1921 0 = S) (S40 : S ≤ 40) (hst : ∀ i, i < S → stO τ N i) (hB : evL τ (vlS N h) S = [B]) (hl : ∀ n, n ≤ S → (evL τ (vlS N h) n).length ≤ 20) : m_Sentence_holds [0, 0, 0, h] τ = some (z1 B, τ) := by
  apply ok_eq
  obtain ⟨ZB, hZB⟩ : ∃ ZB, z1 B = ZB := ⟨_, rfl⟩
  rw [hZB]
  simp only [m_Sentence_holds, b_Sentence_holds, cE_K, vE_K, gE_K, o1K_0, o1K_i, o1_K, o2L_0, o2L_i, o2K_0, o2K_i, o2_K, thK_0, thK_i, th_K, dvL_0, dvL_i, dvK_0, dvK_i, dv_K, rmL_0, rmL_i, rmK_0, rmK_i, rm_K, dlL_0, dlL_i, dlK_0, dlK_i, dl_K, ldQ_0, ldQ_i, ldL_0, ldL_i, ldK_0, ldK_i, ld_K, kK_0, kK_i, k_K, aL_0, aL_i, aK_0, aK_i, aE_0, aE_1, clK_0, clK_i, cl_K, cBL_0, cBL_i, cBK_0, cBK_i, cB_K, zBK_0, zBK_i, zB_K, nBK_0, nBK_i, nB_K, andK_0, andK_i, and_K, orK_0, orK_i, or_K, tkK_0, tkK_i, tk_K, sk_K, stK_0, stK_i, st_K, exK_0, exK_i, ex_K, in_K, pfL_0, pfL_i, pfK_0, pfK_i, pf_K, pzL_0, pzL_i, pzK_0, pzK_i, pz_K, poL_0, poL_i, poK_0, poK_i, po_K, asQ_0, asQ_i, asM_0, asM_i, asL_0, asL_i, asK_0, asK_i, as_K, aoM_0, aoM_i, aoQ_0, aoQ_i, aoL_0, aoL_i, aoK_0, aoK_i, ao_K, sqK_0, sqK_1, sqK_2, sqK_3, sqK_4, sqK_i, sq_K, swK_0, swK_1, swK_2, swK_3, swK_4, swK_i, sw_K, ifK_0, ifK_i, if_K, br_K, ct_K, rv_K, thr_K, rtK_0, rtK_i, rt_K, mfK_0, mfK_i, mf_K, mzK_i, mzK_0, mz_K, cpK_0, cpT_0, cp_K, tsK_0, tsK_i, ts_K, tsP_hit, tsP_next, tsP_low, tsP_nil, ini_0, ini_1, rdU_0, rdU_i, rdB_0, rdB_1, rdB_2, rdB_3, rdB_4, rdB_i, rdC_0, rdC_i, rnd_K, cmpI, addI, subI, mulI, i2lI, l2iI, minI, maxI, idI, up, ok_some, ok_ite, if_true, if_false, reduceIte, true_and, and_true, false_and, and_false, true_or, or_true, false_or, or_false, not_true_eq_false, not_false_eq_true, decide_true, decide_false, decide_eq_true_eq, Bool.not_true, Bool.not_false, Bool.false_eq_true, Bool.not_eq_true', Bool.not_eq_eq_eq_not, decide_eq_false_iff_not, Int.not_lt, Int.not_le, Nat.not_le, Nat.not_lt, Nat.le_refl, Int.le_refl, Nat.lt_irrefl, Int.lt_irrefl, reduceCtorEq, Nat.reduceEqDiff, Nat.reduceAdd, Nat.reduceMul, Nat.reduceBEq, Int.reduceNeg, Int.reduceAdd, Int.toNat_natCast, Int.reduceToNat, ne_eq, Nat.zero_ne_one, true_or, Int.ofNat_lt, Int.ofNat_le, Int.natCast_add, Int.cast_ofNat_Int, Int.natCast_zero]
  obtain ⟨I, hI⟩ : ∃ I : Nat → Lo → Me → Prop, ∀ n ρ s, I n ρ s ↔ (ρ 3 = h ∧ ρ 4 = ((enc (evL τ (vlS N h) n) : Nat) : Int) ∧ ρ 5 = n ∧ τ = s) := ⟨fun n ρ s => ρ 3 = h ∧ ρ 4 = ((enc (evL τ (vlS N h) n) : Nat) : Int) ∧ ρ 5 = n ∧ τ = s, fun _ _ _ => Iff.rfl⟩
  refine ok_mzK (ok_sqK (wh_gen I S (by omega) ((hI _ _ _).mpr ⟨by simp [up], by simp [up, evL, enc], by simp [up], rfl⟩) ?_))
  intro n ρ s hn hIn
  obtain ⟨g1, g2, g3, rfl⟩ := (hI _ _ _).mp hIn
  clear hIn
  rcases Nat.lt_or_eq_of_le hn with hn | rfl
  · obtain ⟨l, hlE⟩ : ∃ l, evL τ (vlS N h) n = l := ⟨_, rfl⟩
    have l20 := hl n (by omega)
    have l21 := hl (n + 1) (by omega)
    have bd := enc_bd l
    rw [hlE] at l20 g2
    have p20 : 2 ^ l.length ≤ 2 ^ 20 := Nat.pow_le_pow_right (by decide) l20
    have p2 : (2 : Nat) ^ 20 = 1048576 := by decide
    rw [p2] at p20
    have so := hst n hn
    have lc := fun q => leaf_c (i := n) (h := h) hs hp (by omega) hh q
    obtain ⟨x, hx⟩ : ∃ x, enc l = x := ⟨_, rfl⟩
    have g9 : ρ 4 = (x : Int) := by rw [g2, hx]
    clear g2
    have g2 := g9
    clear g9
    rw [hx] at bd
    obtain ⟨A, hA⟩ : ∃ A : Nat, x &&& 1 = A := ⟨_, rfl⟩
    obtain ⟨X1, hX1⟩ : ∃ X1 : Nat, x / 2 = X1 := ⟨_, rfl⟩
    obtain ⟨X2, hX2⟩ : ∃ X2 : Nat, x / 4 = X2 := ⟨_, rfl⟩
    obtain ⟨BL, hBL⟩ : ∃ BL : Nat, X1 &&& 1 = BL := ⟨_, rfl⟩
    have e1 : andI (x : Int) 1 = (A : Int) := by rw [← hA]; exact andN (y := 1) (by omega) (by decide)
    have e2 : usrI (x : Int) 1 = (X1 : Int) := by rw [← hX1]; exact usrN (k := 1) (by omega) (by decide)
    have e3 : usrI (x : Int) 2 = (X2 : Int) := by rw [← hX2]; exact usrN (k := 2) (by omega) (by decide)
    have e4 : andI (X1 : Int) 1 = (BL : Int) := by rw [← hBL]; exact andN (y := 1) (by omega) (by decide)
    have e5 : shlI (X2 : Int) 1 = ((2 * X2 : Nat) : Int) := shlN (by omega)
    have e6 : shlI (x : Int) 1 = ((2 * x : Nat) : Int) := shlN (by omega)
    have nxt : ∀ (y : Int) (ρ9 : Lo), ρ9 3 = h → ρ9 4 = y → ρ9 5 = (n : Int) + 1 → y = ((enc (evL τ (vlS N h) (n + 1)) : Nat) : Int) → I (n + 1) ρ9 τ := fun y ρ9 a1 a2 a3 a4 => (hI _ _ _).mpr ⟨a1, by rw [a2, a4], by rw [a3]; omega, rfl⟩
    rcases so with hk | hk | hk | hlf
    · rcases l with _ | ⟨b, t⟩
      · rw [evL_0e hk hlE] at l21; simp at l21
      · have ev := evL_0 hk hlE
        simp only [enc] at hx
        have e7 : xorI (x : Int) 1 = ((enc ((!b) :: t) : Nat) : Int) := by
          have := xorN (x := x) (y := 1) (by omega) (by decide)
          rw [← hx, xor_1] at this
          rw [← hx]
          exact this
        rw [← ev] at e7
        obtain ⟨Y, hY⟩ : ∃ Y, ((enc (evL τ (vlS N h) (n + 1)) : Nat) : Int) = Y := ⟨_, rfl⟩
        rw [hY] at e7
        clear lc hl hst ev hlE hA hX1 hX2 hBL
        simp (disch := first | decide | omega) only [cE_K, vE_K, gE_K, o1K_0, o1K_i, o1_K, o2L_0, o2L_i, o2K_0, o2K_i, o2_K, thK_0, thK_i, th_K, dvL_0, dvL_i, dvK_0, dvK_i, dv_K, rmL_0, rmL_i, rmK_0, rmK_i, rm_K, dlL_0, dlL_i, dlK_0, dlK_i, dl_K, ldQ_0, ldQ_i, ldL_0, ldL_i, ldK_0, ldK_i, ld_K, kK_0, kK_i, k_K, aL_0, aL_i, aK_0, aK_i, aE_0, aE_1, clK_0, clK_i, cl_K, cBL_0, cBL_i, cBK_0, cBK_i, cB_K, zBK_0, zBK_i, zB_K, nBK_0, nBK_i, nB_K, andK_0, andK_i, and_K, orK_0, orK_i, or_K, tkK_0, tkK_i, tk_K, sk_K, stK_0, stK_i, st_K, exK_0, exK_i, ex_K, in_K, pfL_0, pfL_i, pfK_0, pfK_i, pf_K, pzL_0, pzL_i, pzK_0, pzK_i, pz_K, poL_0, poL_i, poK_0, poK_i, po_K, asQ_0, asQ_i, asM_0, asM_i, asL_0, asL_i, asK_0, asK_i, as_K, aoM_0, aoM_i, aoQ_0, aoQ_i, aoL_0, aoL_i, aoK_0, aoK_i, ao_K, sqK_0, sqK_1, sqK_2, sqK_3, sqK_4, sqK_i, sq_K, swK_0, swK_1, swK_2, swK_3, swK_4, swK_i, sw_K, ifK_0, ifK_i, if_K, br_K, ct_K, rv_K, thr_K, rtK_0, rtK_i, rt_K, mfK_0, mfK_i, mf_K, mzK_i, mzK_0, mz_K, cpK_0, cpT_0, cp_K, tsK_0, tsK_i, ts_K, tsP_hit, tsP_next, tsP_low, tsP_nil, ini_0, ini_1, rdU_0, rdU_i, rdB_0, rdB_1, rdB_2, rdB_3, rdB_4, rdB_i, rdC_0, rdC_i, rnd_K, cmpI, addI, subI, mulI, i2lI, l2iI, minI, maxI, idI, up, ok_some, ok_ite, w32_id, ix_id, Int.toNat_add, Int.toNat_mul, ltI_t, ltI_f, leI_t, leI_f, eqI_t, eqI_f, u2_s, u2_v, u2_i, w3_m2, w3_m1, w3_0, w3_1, w3_2, w3_3, w3_4, w3_5, w3_6, w3_7, w3_8, w3_9, w3_10, w3_12, w3_20, w3_23, w3_24, w3_25, w3_32, w3_40, w3_50, w3_100, w3_120, w3_168, w3_200, w3_240, w3_255, w3_500, w3_592, w3_600, w3_900, w3_940, w3_999, w3_1000, w3_1009, w3_1184, w3_3333, w3_9999, if_true, if_false, reduceIte, true_and, and_true, false_and, and_false, true_or, or_true, false_or, or_false, not_true_eq_false, not_false_eq_true, decide_true, decide_false, decide_eq_true_eq, Bool.not_true, Bool.not_false, Bool.false_eq_true, Bool.not_eq_true', Bool.not_eq_eq_eq_not, decide_eq_false_iff_not, Int.not_lt, Int.not_le, Nat.not_le, Nat.not_lt, Nat.le_refl, Int.le_refl, Nat.lt_irrefl, Int.lt_irrefl, reduceCtorEq, Nat.reduceEqDiff, Nat.reduceAdd, Nat.reduceMul, Nat.reduceBEq, Int.reduceNeg, Int.reduceAdd, Int.toNat_natCast, Int.reduceToNat, ne_eq, Nat.zero_ne_one, true_or, Int.ofNat_lt, Int.ofNat_le, Int.natCast_add, Int.cast_ofNat_Int, Int.natCast_zero, g1, g2, g3, hS, hk, e1, e2, e4, e7]
        exact ⟨hn, nxt Y _ (by simp [up, g1]) (by simp [up]) (by simp [up]) hY.symm⟩
    · rcases l with _ | ⟨a, _ | ⟨b, t⟩⟩
      · rw [evL_1e hk (Or.inl hlE)] at l21; simp at l21
      · rw [evL_1e hk (Or.inr ⟨a, hlE⟩)] at l21; simp at l21
      · have ev := evL_1 hk hlE
        simp only [enc] at hx
        have ba := b1_le (b := a)
        have bb := b1_le (b := b)
        have hA' : A = b1 a := by rw [← hA, ← hx, and_1]
        have hX1' : X1 = 2 * enc t + b1 b := by omega
        have hX2' : X2 = enc t := by omega
        have hB' : BL = b1 b := by rw [← hBL, hX1', and_1]
        have e7 : andI (A : Int) (BL : Int) = ((b1 (a && b) : Nat) : Int) := by
          rw [hA', hB']
          cases a <;> cases b <;> decide
        have e8 : iorI ((2 * X2 : Nat) : Int) ((b1 (a && b) : Nat) : Int) = ((enc ((a && b) :: t) : Nat) : Int) := by
          rw [iorN (by omega) (by have := b1_le (b := a && b); omega), or1, hX2']
          rfl
        rw [← ev] at e8
        obtain ⟨Y, hY⟩ : ∃ Y, ((enc (evL τ (vlS N h) (n + 1)) : Nat) : Int) = Y := ⟨_, rfl⟩
        rw [hY] at e8
        obtain ⟨Z, hZ⟩ : ∃ Z : Nat, 2 * X2 = Z := ⟨_, rfl⟩
        obtain ⟨Q, hQ⟩ : ∃ Q : Nat, b1 (a && b) = Q := ⟨_, rfl⟩
        rw [hZ] at e5 e8
        rw [hQ] at e7 e8
        clear lc hl hst ev hlE hA hX1 hX2 hBL hx hA' hB' hX1' hX2' hQ
        simp (disch := first | decide | omega) only [cE_K, vE_K, gE_K, o1K_0, o1K_i, o1_K, o2L_0, o2L_i, o2K_0, o2K_i, o2_K, thK_0, thK_i, th_K, dvL_0, dvL_i, dvK_0, dvK_i, dv_K, rmL_0, rmL_i, rmK_0, rmK_i, rm_K, dlL_0, dlL_i, dlK_0, dlK_i, dl_K, ldQ_0, ldQ_i, ldL_0, ldL_i, ldK_0, ldK_i, ld_K, kK_0, kK_i, k_K, aL_0, aL_i, aK_0, aK_i, aE_0, aE_1, clK_0, clK_i, cl_K, cBL_0, cBL_i, cBK_0, cBK_i, cB_K, zBK_0, zBK_i, zB_K, nBK_0, nBK_i, nB_K, andK_0, andK_i, and_K, orK_0, orK_i, or_K, tkK_0, tkK_i, tk_K, sk_K, stK_0, stK_i, st_K, exK_0, exK_i, ex_K, in_K, pfL_0, pfL_i, pfK_0, pfK_i, pf_K, pzL_0, pzL_i, pzK_0, pzK_i, pz_K, poL_0, poL_i, poK_0, poK_i, po_K, asQ_0, asQ_i, asM_0, asM_i, asL_0, asL_i, asK_0, asK_i, as_K, aoM_0, aoM_i, aoQ_0, aoQ_i, aoL_0, aoL_i, aoK_0, aoK_i, ao_K, sqK_0, sqK_1, sqK_2, sqK_3, sqK_4, sqK_i, sq_K, swK_0, swK_1, swK_2, swK_3, swK_4, swK_i, sw_K, ifK_0, ifK_i, if_K, br_K, ct_K, rv_K, thr_K, rtK_0, rtK_i, rt_K, mfK_0, mfK_i, mf_K, mzK_i, mzK_0, mz_K, cpK_0, cpT_0, cp_K, tsK_0, tsK_i, ts_K, tsP_hit, tsP_next, tsP_low, tsP_nil, ini_0, ini_1, rdU_0, rdU_i, rdB_0, rdB_1, rdB_2, rdB_3, rdB_4, rdB_i, rdC_0, rdC_i, rnd_K, cmpI, addI, subI, mulI, i2lI, l2iI, minI, maxI, idI, up, ok_some, ok_ite, w32_id, ix_id, Int.toNat_add, Int.toNat_mul, ltI_t, ltI_f, leI_t, leI_f, eqI_t, eqI_f, u2_s, u2_v, u2_i, w3_m2, w3_m1, w3_0, w3_1, w3_2, w3_3, w3_4, w3_5, w3_6, w3_7, w3_8, w3_9, w3_10, w3_12, w3_20, w3_23, w3_24, w3_25, w3_32, w3_40, w3_50, w3_100, w3_120, w3_168, w3_200, w3_240, w3_255, w3_500, w3_592, w3_600, w3_900, w3_940, w3_999, w3_1000, w3_1009, w3_1184, w3_3333, w3_9999, if_true, if_false, reduceIte, true_and, and_true, false_and, and_false, true_or, or_true, false_or, or_false, not_true_eq_false, not_false_eq_true, decide_true, decide_false, decide_eq_true_eq, Bool.not_true, Bool.not_false, Bool.false_eq_true, Bool.not_eq_true', Bool.not_eq_eq_eq_not, decide_eq_false_iff_not, Int.not_lt, Int.not_le, Nat.not_le, Nat.not_lt, Nat.le_refl, Int.le_refl, Nat.lt_irrefl, Int.lt_irrefl, reduceCtorEq, Nat.reduceEqDiff, Nat.reduceAdd, Nat.reduceMul, Nat.reduceBEq, Int.reduceNeg, Int.reduceAdd, Int.toNat_natCast, Int.reduceToNat, ne_eq, Nat.zero_ne_one, true_or, Int.ofNat_lt, Int.ofNat_le, Int.natCast_add, Int.cast_ofNat_Int, Int.natCast_zero, g1, g2, g3, hS, hk, e1, e2, e3, e4, e5, e7, e8]
        exact ⟨hn, nxt Y _ (by simp [up, g1]) (by simp [up]) (by simp [up]) hY.symm⟩
    · rcases l with _ | ⟨a, _ | ⟨b, t⟩⟩
      · rw [evL_2e hk (Or.inl hlE)] at l21; simp at l21
      · rw [evL_2e hk (Or.inr ⟨a, hlE⟩)] at l21; simp at l21
      · have ev := evL_2 hk hlE
        simp only [enc] at hx
        have ba := b1_le (b := a)
        have bb := b1_le (b := b)
        have hA' : A = b1 a := by rw [← hA, ← hx, and_1]
        have hX1' : X1 = 2 * enc t + b1 b := by omega
        have hX2' : X2 = enc t := by omega
        have hB' : BL = b1 b := by rw [← hBL, hX1', and_1]
        have e7 : iorI (A : Int) (BL : Int) = ((b1 (a || b) : Nat) : Int) := by
          rw [hA', hB']
          cases a <;> cases b <;> decide
        have e8 : iorI ((2 * X2 : Nat) : Int) ((b1 (a || b) : Nat) : Int) = ((enc ((a || b) :: t) : Nat) : Int) := by
          rw [iorN (by omega) (by have := b1_le (b := a || b); omega), or1, hX2']
          rfl
        rw [← ev] at e8
        obtain ⟨Y, hY⟩ : ∃ Y, ((enc (evL τ (vlS N h) (n + 1)) : Nat) : Int) = Y := ⟨_, rfl⟩
        rw [hY] at e8
        obtain ⟨Z, hZ⟩ : ∃ Z : Nat, 2 * X2 = Z := ⟨_, rfl⟩
        obtain ⟨Q, hQ⟩ : ∃ Q : Nat, b1 (a || b) = Q := ⟨_, rfl⟩
        rw [hZ] at e5 e8
        rw [hQ] at e7 e8
        clear lc hl hst ev hlE hA hX1 hX2 hBL hx hA' hB' hX1' hX2' hQ
        simp (disch := first | decide | omega) only [cE_K, vE_K, gE_K, o1K_0, o1K_i, o1_K, o2L_0, o2L_i, o2K_0, o2K_i, o2_K, thK_0, thK_i, th_K, dvL_0, dvL_i, dvK_0, dvK_i, dv_K, rmL_0, rmL_i, rmK_0, rmK_i, rm_K, dlL_0, dlL_i, dlK_0, dlK_i, dl_K, ldQ_0, ldQ_i, ldL_0, ldL_i, ldK_0, ldK_i, ld_K, kK_0, kK_i, k_K, aL_0, aL_i, aK_0, aK_i, aE_0, aE_1, clK_0, clK_i, cl_K, cBL_0, cBL_i, cBK_0, cBK_i, cB_K, zBK_0, zBK_i, zB_K, nBK_0, nBK_i, nB_K, andK_0, andK_i, and_K, orK_0, orK_i, or_K, tkK_0, tkK_i, tk_K, sk_K, stK_0, stK_i, st_K, exK_0, exK_i, ex_K, in_K, pfL_0, pfL_i, pfK_0, pfK_i, pf_K, pzL_0, pzL_i, pzK_0, pzK_i, pz_K, poL_0, poL_i, poK_0, poK_i, po_K, asQ_0, asQ_i, asM_0, asM_i, asL_0, asL_i, asK_0, asK_i, as_K, aoM_0, aoM_i, aoQ_0, aoQ_i, aoL_0, aoL_i, aoK_0, aoK_i, ao_K, sqK_0, sqK_1, sqK_2, sqK_3, sqK_4, sqK_i, sq_K, swK_0, swK_1, swK_2, swK_3, swK_4, swK_i, sw_K, ifK_0, ifK_i, if_K, br_K, ct_K, rv_K, thr_K, rtK_0, rtK_i, rt_K, mfK_0, mfK_i, mf_K, mzK_i, mzK_0, mz_K, cpK_0, cpT_0, cp_K, tsK_0, tsK_i, ts_K, tsP_hit, tsP_next, tsP_low, tsP_nil, ini_0, ini_1, rdU_0, rdU_i, rdB_0, rdB_1, rdB_2, rdB_3, rdB_4, rdB_i, rdC_0, rdC_i, rnd_K, cmpI, addI, subI, mulI, i2lI, l2iI, minI, maxI, idI, up, ok_some, ok_ite, w32_id, ix_id, Int.toNat_add, Int.toNat_mul, ltI_t, ltI_f, leI_t, leI_f, eqI_t, eqI_f, u2_s, u2_v, u2_i, w3_m2, w3_m1, w3_0, w3_1, w3_2, w3_3, w3_4, w3_5, w3_6, w3_7, w3_8, w3_9, w3_10, w3_12, w3_20, w3_23, w3_24, w3_25, w3_32, w3_40, w3_50, w3_100, w3_120, w3_168, w3_200, w3_240, w3_255, w3_500, w3_592, w3_600, w3_900, w3_940, w3_999, w3_1000, w3_1009, w3_1184, w3_3333, w3_9999, if_true, if_false, reduceIte, true_and, and_true, false_and, and_false, true_or, or_true, false_or, or_false, not_true_eq_false, not_false_eq_true, decide_true, decide_false, decide_eq_true_eq, Bool.not_true, Bool.not_false, Bool.false_eq_true, Bool.not_eq_true', Bool.not_eq_eq_eq_not, decide_eq_false_iff_not, Int.not_lt, Int.not_le, Nat.not_le, Nat.not_lt, Nat.le_refl, Int.le_refl, Nat.lt_irrefl, Int.lt_irrefl, reduceCtorEq, Nat.reduceEqDiff, Nat.reduceAdd, Nat.reduceMul, Nat.reduceBEq, Int.reduceNeg, Int.reduceAdd, Int.toNat_natCast, Int.reduceToNat, ne_eq, Nat.zero_ne_one, true_or, Int.ofNat_lt, Int.ofNat_le, Int.natCast_add, Int.cast_ofNat_Int, Int.natCast_zero, g1, g2, g3, hS, hk, e1, e2, e3, e4, e5, e7, e8]
        exact ⟨hn, nxt Y _ (by simp [up, g1]) (by simp [up]) (by simp [up]) hY.symm⟩
    · have lc := lc hlf
      obtain ⟨k, hk⟩ : ∃ k, τ 1984 n = k := ⟨_, rfl⟩
      have k3 : k = 3 ∨ k = 4 ∨ k = 5 ∨ k = 6 ∨ k = 7 ∨ k = 8 := by
        rw [hk] at hlf
        rcases hlf with ⟨z, _⟩ | ⟨z, _⟩ | ⟨z, _⟩ | ⟨z, _⟩ <;> omega
      have ev := evL_3 (V := vlS N h) hk (by omega) (by omega) (by omega)
      rw [hlE] at ev
      rw [hk] at lc
      obtain ⟨V, hV⟩ : ∃ V, vlS N h k (τ 2048 n) (τ 2112 n) (τ 2176 n) (τ 2240 n) = V := ⟨_, rfl⟩
      rw [hV] at ev lc
      have e8 : iorI ((2 * x : Nat) : Int) ((b1 V : Nat) : Int) = ((enc (V :: l) : Nat) : Int) := by
        rw [iorN (by omega) (by have := b1_le (b := V); omega), or1, ← hx]
        rfl
      rw [← ev] at e8
      obtain ⟨Y, hY⟩ : ∃ Y, ((enc (evL τ (vlS N h) (n + 1)) : Nat) : Int) = Y := ⟨_, rfl⟩
      rw [hY] at e8
      obtain ⟨Z, hZ⟩ : ∃ Z : Nat, 2 * x = Z := ⟨_, rfl⟩
      rw [hZ] at e6 e8
      have fin : ∀ ρ9 : Lo, ρ9 3 = h → ρ9 4 = Y → ρ9 5 = (n : Int) + 1 → n < S ∧ I (n + 1) ρ9 τ := fun ρ9 a1 a2 a3 => ⟨hn, nxt Y ρ9 a1 a2 a3 hY.symm⟩
      clear hl hst ev hlE hA hX1 hX2 hBL hx hlf nxt hV hY
      cases V
      · rw [z1_f] at lc
        have e8 : iorI (Z : Int) 0 = Y := e8
        rcases k3 with rfl | rfl | rfl | rfl | rfl | rfl
        all_goals
          simp (disch := first | decide | omega) only [cE_K, vE_K, gE_K, o1K_0, o1K_i, o1_K, o2L_0, o2L_i, o2K_0, o2K_i, o2_K, thK_0, thK_i, th_K, dvL_0, dvL_i, dvK_0, dvK_i, dv_K, rmL_0, rmL_i, rmK_0, rmK_i, rm_K, dlL_0, dlL_i, dlK_0, dlK_i, dl_K, ldQ_0, ldQ_i, ldL_0, ldL_i, ldK_0, ldK_i, ld_K, kK_0, kK_i, k_K, aL_0, aL_i, aK_0, aK_i, aE_0, aE_1, clK_0, clK_i, cl_K, cBL_0, cBL_i, cBK_0, cBK_i, cB_K, zBK_0, zBK_i, zB_K, nBK_0, nBK_i, nB_K, andK_0, andK_i, and_K, orK_0, orK_i, or_K, tkK_0, tkK_i, tk_K, sk_K, stK_0, stK_i, st_K, exK_0, exK_i, ex_K, in_K, pfL_0, pfL_i, pfK_0, pfK_i, pf_K, pzL_0, pzL_i, pzK_0, pzK_i, pz_K, poL_0, poL_i, poK_0, poK_i, po_K, asQ_0, asQ_i, asM_0, asM_i, asL_0, asL_i, asK_0, asK_i, as_K, aoM_0, aoM_i, aoQ_0, aoQ_i, aoL_0, aoL_i, aoK_0, aoK_i, ao_K, sqK_0, sqK_1, sqK_2, sqK_3, sqK_4, sqK_i, sq_K, swK_0, swK_1, swK_2, swK_3, swK_4, swK_i, sw_K, ifK_0, ifK_i, if_K, br_K, ct_K, rv_K, thr_K, rtK_0, rtK_i, rt_K, mfK_0, mfK_i, mf_K, mzK_i, mzK_0, mz_K, cpK_0, cpT_0, cp_K, tsK_0, tsK_i, ts_K, tsP_hit, tsP_next, tsP_low, tsP_nil, ini_0, ini_1, rdU_0, rdU_i, rdB_0, rdB_1, rdB_2, rdB_3, rdB_4, rdB_i, rdC_0, rdC_i, rnd_K, cmpI, addI, subI, mulI, i2lI, l2iI, minI, maxI, idI, up, ok_some, ok_ite, w32_id, ix_id, Int.toNat_add, Int.toNat_mul, ltI_t, ltI_f, leI_t, leI_f, eqI_t, eqI_f, u2_s, u2_v, u2_i, w3_m2, w3_m1, w3_0, w3_1, w3_2, w3_3, w3_4, w3_5, w3_6, w3_7, w3_8, w3_9, w3_10, w3_12, w3_20, w3_23, w3_24, w3_25, w3_32, w3_40, w3_50, w3_100, w3_120, w3_168, w3_200, w3_240, w3_255, w3_500, w3_592, w3_600, w3_900, w3_940, w3_999, w3_1000, w3_1009, w3_1184, w3_3333, w3_9999, if_true, if_false, reduceIte, true_and, and_true, false_and, and_false, true_or, or_true, false_or, or_false, not_true_eq_false, not_false_eq_true, decide_true, decide_false, decide_eq_true_eq, Bool.not_true, Bool.not_false, Bool.false_eq_true, Bool.not_eq_true', Bool.not_eq_eq_eq_not, decide_eq_false_iff_not, Int.not_lt, Int.not_le, Nat.not_le, Nat.not_lt, Nat.le_refl, Int.le_refl, Nat.lt_irrefl, Int.lt_irrefl, reduceCtorEq, Nat.reduceEqDiff, Nat.reduceAdd, Nat.reduceMul, Nat.reduceBEq, Int.reduceNeg, Int.reduceAdd, Int.toNat_natCast, Int.reduceToNat, ne_eq, Nat.zero_ne_one, true_or, Int.ofNat_lt, Int.ofNat_le, Int.natCast_add, Int.cast_ofNat_Int, Int.natCast_zero, g1, g2, g3, hS, hk, e1, e2, e4, e6, lc, e8]
          exact fin _ (by simp [up, g1]) (by simp [up]) (by simp [up])
      · rw [z1_t] at lc
        have e8 : iorI (Z : Int) 1 = Y := e8
        rcases k3 with rfl | rfl | rfl | rfl | rfl | rfl
        all_goals
          simp (disch := first | decide | omega) only [cE_K, vE_K, gE_K, o1K_0, o1K_i, o1_K, o2L_0, o2L_i, o2K_0, o2K_i, o2_K, thK_0, thK_i, th_K, dvL_0, dvL_i, dvK_0, dvK_i, dv_K, rmL_0, rmL_i, rmK_0, rmK_i, rm_K, dlL_0, dlL_i, dlK_0, dlK_i, dl_K, ldQ_0, ldQ_i, ldL_0, ldL_i, ldK_0, ldK_i, ld_K, kK_0, kK_i, k_K, aL_0, aL_i, aK_0, aK_i, aE_0, aE_1, clK_0, clK_i, cl_K, cBL_0, cBL_i, cBK_0, cBK_i, cB_K, zBK_0, zBK_i, zB_K, nBK_0, nBK_i, nB_K, andK_0, andK_i, and_K, orK_0, orK_i, or_K, tkK_0, tkK_i, tk_K, sk_K, stK_0, stK_i, st_K, exK_0, exK_i, ex_K, in_K, pfL_0, pfL_i, pfK_0, pfK_i, pf_K, pzL_0, pzL_i, pzK_0, pzK_i, pz_K, poL_0, poL_i, poK_0, poK_i, po_K, asQ_0, asQ_i, asM_0, asM_i, asL_0, asL_i, asK_0, asK_i, as_K, aoM_0, aoM_i, aoQ_0, aoQ_i, aoL_0, aoL_i, aoK_0, aoK_i, ao_K, sqK_0, sqK_1, sqK_2, sqK_3, sqK_4, sqK_i, sq_K, swK_0, swK_1, swK_2, swK_3, swK_4, swK_i, sw_K, ifK_0, ifK_i, if_K, br_K, ct_K, rv_K, thr_K, rtK_0, rtK_i, rt_K, mfK_0, mfK_i, mf_K, mzK_i, mzK_0, mz_K, cpK_0, cpT_0, cp_K, tsK_0, tsK_i, ts_K, tsP_hit, tsP_next, tsP_low, tsP_nil, ini_0, ini_1, rdU_0, rdU_i, rdB_0, rdB_1, rdB_2, rdB_3, rdB_4, rdB_i, rdC_0, rdC_i, rnd_K, cmpI, addI, subI, mulI, i2lI, l2iI, minI, maxI, idI, up, ok_some, ok_ite, w32_id, ix_id, Int.toNat_add, Int.toNat_mul, ltI_t, ltI_f, leI_t, leI_f, eqI_t, eqI_f, u2_s, u2_v, u2_i, w3_m2, w3_m1, w3_0, w3_1, w3_2, w3_3, w3_4, w3_5, w3_6, w3_7, w3_8, w3_9, w3_10, w3_12, w3_20, w3_23, w3_24, w3_25, w3_32, w3_40, w3_50, w3_100, w3_120, w3_168, w3_200, w3_240, w3_255, w3_500, w3_592, w3_600, w3_900, w3_940, w3_999, w3_1000, w3_1009, w3_1184, w3_3333, w3_9999, if_true, if_false, reduceIte, true_and, and_true, false_and, and_false, true_or, or_true, false_or, or_false, not_true_eq_false, not_false_eq_true, decide_true, decide_false, decide_eq_true_eq, Bool.not_true, Bool.not_false, Bool.false_eq_true, Bool.not_eq_true', Bool.not_eq_eq_eq_not, decide_eq_false_iff_not, Int.not_lt, Int.not_le, Nat.not_le, Nat.not_lt, Nat.le_refl, Int.le_refl, Nat.lt_irrefl, Int.lt_irrefl, reduceCtorEq, Nat.reduceEqDiff, Nat.reduceAdd, Nat.reduceMul, Nat.reduceBEq, Int.reduceNeg, Int.reduceAdd, Int.toNat_natCast, Int.reduceToNat, ne_eq, Nat.zero_ne_one, true_or, Int.ofNat_lt, Int.ofNat_le, Int.natCast_add, Int.cast_ofNat_Int, Int.natCast_zero, g1, g2, g3, hS, hk, e1, e2, e4, e6, lc, e8, Int.one_ne_zero]
          exact fin _ (by simp [up, g1]) (by simp [up]) (by simp [up])
  · rw [hB] at g2
    have e : enc [B] = b1 B := by simp [enc]
    rw [e] at g2
    clear hst hl
    cases B
    · have g2 : ρ 4 = 0 := g2
      have a0 : andI 0 1 = 0 := by decide
      have : ZB = 0 := hZB.symm
      subst this
      simp (disch := first | decide | omega) only [cE_K, vE_K, gE_K, o1K_0, o1K_i, o1_K, o2L_0, o2L_i, o2K_0, o2K_i, o2_K, thK_0, thK_i, th_K, dvL_0, dvL_i, dvK_0, dvK_i, dv_K, rmL_0, rmL_i, rmK_0, rmK_i, rm_K, dlL_0, dlL_i, dlK_0, dlK_i, dl_K, ldQ_0, ldQ_i, ldL_0, ldL_i, ldK_0, ldK_i, ld_K, kK_0, kK_i, k_K, aL_0, aL_i, aK_0, aK_i, aE_0, aE_1, clK_0, clK_i, cl_K, cBL_0, cBL_i, cBK_0, cBK_i, cB_K, zBK_0, zBK_i, zB_K, nBK_0, nBK_i, nB_K, andK_0, andK_i, and_K, orK_0, orK_i, or_K, tkK_0, tkK_i, tk_K, sk_K, stK_0, stK_i, st_K, exK_0, exK_i, ex_K, in_K, pfL_0, pfL_i, pfK_0, pfK_i, pf_K, pzL_0, pzL_i, pzK_0, pzK_i, pz_K, poL_0, poL_i, poK_0, poK_i, po_K, asQ_0, asQ_i, asM_0, asM_i, asL_0, asL_i, asK_0, asK_i, as_K, aoM_0, aoM_i, aoQ_0, aoQ_i, aoL_0, aoL_i, aoK_0, aoK_i, ao_K, sqK_0, sqK_1, sqK_2, sqK_3, sqK_4, sqK_i, sq_K, swK_0, swK_1, swK_2, swK_3, swK_4, swK_i, sw_K, ifK_0, ifK_i, if_K, br_K, ct_K, rv_K, thr_K, rtK_0, rtK_i, rt_K, mfK_0, mfK_i, mf_K, mzK_i, mzK_0, mz_K, cpK_0, cpT_0, cp_K, tsK_0, tsK_i, ts_K, tsP_hit, tsP_next, tsP_low, tsP_nil, ini_0, ini_1, rdU_0, rdU_i, rdB_0, rdB_1, rdB_2, rdB_3, rdB_4, rdB_i, rdC_0, rdC_i, rnd_K, cmpI, addI, subI, mulI, i2lI, l2iI, minI, maxI, idI, up, ok_some, ok_ite, w32_id, ix_id, Int.toNat_add, Int.toNat_mul, ltI_t, ltI_f, leI_t, leI_f, eqI_t, eqI_f, u2_s, u2_v, u2_i, w3_m2, w3_m1, w3_0, w3_1, w3_2, w3_3, w3_4, w3_5, w3_6, w3_7, w3_8, w3_9, w3_10, w3_12, w3_20, w3_23, w3_24, w3_25, w3_32, w3_40, w3_50, w3_100, w3_120, w3_168, w3_200, w3_240, w3_255, w3_500, w3_592, w3_600, w3_900, w3_940, w3_999, w3_1000, w3_1009, w3_1184, w3_3333, w3_9999, if_true, if_false, reduceIte, true_and, and_true, false_and, and_false, true_or, or_true, false_or, or_false, not_true_eq_false, not_false_eq_true, decide_true, decide_false, decide_eq_true_eq, Bool.not_true, Bool.not_false, Bool.false_eq_true, Bool.not_eq_true', Bool.not_eq_eq_eq_not, decide_eq_false_iff_not, Int.not_lt, Int.not_le, Nat.not_le, Nat.not_lt, Nat.le_refl, Int.le_refl, Nat.lt_irrefl, Int.lt_irrefl, reduceCtorEq, Nat.reduceEqDiff, Nat.reduceAdd, Nat.reduceMul, Nat.reduceBEq, Int.reduceNeg, Int.reduceAdd, Int.toNat_natCast, Int.reduceToNat, ne_eq, Nat.zero_ne_one, true_or, Int.ofNat_lt, Int.ofNat_le, Int.natCast_add, Int.cast_ofNat_Int, Int.natCast_zero, g2, g3, hS, a0]
    · have g2 : ρ 4 = 1 := g2
      have a0 : andI 1 1 = 1 := by decide
      have : ZB = 1 := hZB.symm
      subst this
      simp (disch := first | decide | omega) only [cE_K, vE_K, gE_K, o1K_0, o1K_i, o1_K, o2L_0, o2L_i, o2K_0, o2K_i, o2_K, thK_0, thK_i, th_K, dvL_0, dvL_i, dvK_0, dvK_i, dv_K, rmL_0, rmL_i, rmK_0, rmK_i, rm_K, dlL_0, dlL_i, dlK_0, dlK_i, dl_K, ldQ_0, ldQ_i, ldL_0, ldL_i, ldK_0, ldK_i, ld_K, kK_0, kK_i, k_K, aL_0, aL_i, aK_0, aK_i, aE_0, aE_1, clK_0, clK_i, cl_K, cBL_0, cBL_i, cBK_0, cBK_i, cB_K, zBK_0, zBK_i, zB_K, nBK_0, nBK_i, nB_K, andK_0, andK_i, and_K, orK_0, orK_i, or_K, tkK_0, tkK_i, tk_K, sk_K, stK_0, stK_i, st_K, exK_0, exK_i, ex_K, in_K, pfL_0, pfL_i, pfK_0, pfK_i, pf_K, pzL_0, pzL_i, pzK_0, pzK_i, pz_K, poL_0, poL_i, poK_0, poK_i, po_K, asQ_0, asQ_i, asM_0, asM_i, asL_0, asL_i, asK_0, asK_i, as_K, aoM_0, aoM_i, aoQ_0, aoQ_i, aoL_0, aoL_i, aoK_0, aoK_i, ao_K, sqK_0, sqK_1, sqK_2, sqK_3, sqK_4, sqK_i, sq_K, swK_0, swK_1, swK_2, swK_3, swK_4, swK_i, sw_K, ifK_0, ifK_i, if_K, br_K, ct_K, rv_K, thr_K, rtK_0, rtK_i, rt_K, mfK_0, mfK_i, mf_K, mzK_i, mzK_0, mz_K, cpK_0, cpT_0, cp_K, tsK_0, tsK_i, ts_K, tsP_hit, tsP_next, tsP_low, tsP_nil, ini_0, ini_1, rdU_0, rdU_i, rdB_0, rdB_1, rdB_2, rdB_3, rdB_4, rdB_i, rdC_0, rdC_i, rnd_K, cmpI, addI, subI, mulI, i2lI, l2iI, minI, maxI, idI, up, ok_some, ok_ite, w32_id, ix_id, Int.toNat_add, Int.toNat_mul, ltI_t, ltI_f, leI_t, leI_f, eqI_t, eqI_f, u2_s, u2_v, u2_i, w3_m2, w3_m1, w3_0, w3_1, w3_2, w3_3, w3_4, w3_5, w3_6, w3_7, w3_8, w3_9, w3_10, w3_12, w3_20, w3_23, w3_24, w3_25, w3_32, w3_40, w3_50, w3_100, w3_120, w3_168, w3_200, w3_240, w3_255, w3_500, w3_592, w3_600, w3_900, w3_940, w3_999, w3_1000, w3_1009, w3_1184, w3_3333, w3_9999, if_true, if_false, reduceIte, true_and, and_true, false_and, and_false, true_or, or_true, false_or, or_false, not_true_eq_false, not_false_eq_true, decide_true, decide_false, decide_eq_true_eq, Bool.not_true, Bool.not_false, Bool.false_eq_true, Bool.not_eq_true', Bool.not_eq_eq_eq_not, decide_eq_false_iff_not, Int.not_lt, Int.not_le, Nat.not_le, Nat.not_lt, Nat.le_refl, Int.le_refl, Nat.lt_irrefl, Int.lt_irrefl, reduceCtorEq, Nat.reduceEqDiff, Nat.reduceAdd, Nat.reduceMul, Nat.reduceBEq, Int.reduceNeg, Int.reduceAdd, Int.toNat_natCast, Int.reduceToNat, ne_eq, Nat.zero_ne_one, true_or, Int.ofNat_lt, Int.ofNat_le, Int.natCast_add, Int.cast_ofNat_Int, Int.natCast_zero, g2, g3, hS, a0, Int.one_ne_zero]
