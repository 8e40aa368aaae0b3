/-! THE WEEK, the class's side -/
theorem u2_e {σ : Me} {a i b j : Nat} {v : Int} : u2 σ a i v b j = if b = a ∧ j = i then v else σ b j := rfl
theorem empty_eq {σ : Me} : m_Week_empty [0] σ = some (0, fun v i => if (v = 8896 ∨ v = 8960) ∧ i < 40 then 0 else σ v i) := by
  apply ok_eq
  have e40 : w32 40 = 40 := rfl
  simp [-Option.bind_some, m_Week_empty, b_Week_empty, sq, stS, exS, inS, pfS, pzS, poS, asS, aoS, ifS, brS, ctS, rtS, rvS, thS, swS, skS, cE, vE, gE, o1, o2, thE, dvE, rmE, dlE, ldE, kE, clE, aE, cB, zB, nB, andB, orB, tkB, cmpI, ob_some, addI, subI, mulI, i2lI, l2iI, minI, maxI, idI, mthF, mthZ, ini, up, ok_some, ok_bind, ok_ite]
  refine wh_ok (fun n ρ s => ρ 1 = n ∧ s = fun v i => if (v = 8896 ∨ v = 8960) ∧ i < n then 0 else σ v i) 40 (by decide) (by simp [up]) ?_ ?_
  · rintro n ρ s hn ⟨h1, rfl⟩
    have en : w32 (n : Int) = n := w32_id (by omega) (by omega)
    have ei : ixI (n : Int) 40 = some n := by rw [ix_id (by omega) (by omega) (by omega)]; simp
    have hlt : ¬ (40 : Int) ≤ n := by omega
    simp [-Option.bind_some, sq, stS, exS, inS, pfS, pzS, poS, asS, aoS, ifS, brS, ctS, rtS, rvS, thS, swS, skS, cE, vE, gE, o1, o2, thE, dvE, rmE, dlE, ldE, kE, clE, aE, cB, zB, nB, andB, orB, tkB, cmpI, ob_some, addI, subI, mulI, i2lI, l2iI, minI, maxI, idI, mthF, mthZ, ini, up, ok_some, ok_bind, ok_ite, h1, e40, en, ei, hlt]
    funext v i
    simp only [u2]
    grind
  · rintro ρ s ⟨h1, rfl⟩
    simp [-Option.bind_some, sq, stS, exS, inS, pfS, pzS, poS, asS, aoS, ifS, brS, ctS, rtS, rvS, thS, swS, skS, cE, vE, gE, o1, o2, thE, dvE, rmE, dlE, ldE, kE, clE, aE, cB, zB, nB, andB, orB, tkB, cmpI, ob_some, addI, subI, mulI, i2lI, l2iI, minI, maxI, idI, mthF, mthZ, ini, up, ok_some, ok_bind, ok_ite, h1, e40]
theorem rest_eq {σ : Me} : m_Week_rest [0] σ = some (0, fun v i => if v = 8832 ∧ i < 168 then 0 else σ v i) := by
  apply ok_eq
  have e40 : w32 168 = 168 := rfl
  simp [-Option.bind_some, m_Week_rest, b_Week_rest, sq, stS, exS, inS, pfS, pzS, poS, asS, aoS, ifS, brS, ctS, rtS, rvS, thS, swS, skS, cE, vE, gE, o1, o2, thE, dvE, rmE, dlE, ldE, kE, clE, aE, cB, zB, nB, andB, orB, tkB, cmpI, ob_some, addI, subI, mulI, i2lI, l2iI, minI, maxI, idI, mthF, mthZ, ini, up, ok_some, ok_bind, ok_ite]
  refine wh_ok (fun n ρ s => ρ 1 = n ∧ s = fun v i => if v = 8832 ∧ i < n then 0 else σ v i) 168 (by decide) (by simp [up]) ?_ ?_
  · rintro n ρ s hn ⟨h1, rfl⟩
    have en : w32 (n : Int) = n := w32_id (by omega) (by omega)
    have ei : ixI (n : Int) 168 = some n := by rw [ix_id (by omega) (by omega) (by omega)]; simp
    have hlt : ¬ (168 : Int) ≤ n := by omega
    simp [-Option.bind_some, sq, stS, exS, inS, pfS, pzS, poS, asS, aoS, ifS, brS, ctS, rtS, rvS, thS, swS, skS, cE, vE, gE, o1, o2, thE, dvE, rmE, dlE, ldE, kE, clE, aE, cB, zB, nB, andB, orB, tkB, cmpI, ob_some, addI, subI, mulI, i2lI, l2iI, minI, maxI, idI, mthF, mthZ, ini, up, ok_some, ok_bind, ok_ite, h1, e40, en, ei, hlt]
    funext v i
    simp only [u2]
    grind
  · rintro ρ s ⟨h1, rfl⟩
    simp [-Option.bind_some, sq, stS, exS, inS, pfS, pzS, poS, asS, aoS, ifS, brS, ctS, rtS, rvS, thS, swS, skS, cE, vE, gE, o1, o2, thE, dvE, rmE, dlE, ldE, kE, clE, aE, cB, zB, nB, andB, orB, tkB, cmpI, ob_some, addI, subI, mulI, i2lI, l2iI, minI, maxI, idI, mthF, mthZ, ini, up, ok_some, ok_bind, ok_ite, h1, e40]
theorem ix_n {n N : Nat} (h : n < N) (hN : N ≤ 2147483648) : ixI (n : Int) N = some n := by
  rw [ix_id (by omega) (by omega) hN]
  simp
theorem washUp_eq {σ : Me} {R : Nat} (hR : σ 257 0 = R) (h10 : R ≤ 10) (hb : ∀ i, i < 40 → 0 ≤ σ 8960 i ∧ σ 8960 i < 2147483648) : m_Week_washUp [0, 0] σ = some (0, fun v i => if v = 8960 ∧ i < 4 * R then σ 8960 i - σ 8960 i / 2 else if v = 8896 ∧ i < 4 * R then σ 8896 i + σ 8960 i / 2 else σ v i) := by
  apply ok_eq
  simp [-Option.bind_some, m_Week_washUp, b_Week_washUp, sq, stS, exS, inS, pfS, pzS, poS, asS, aoS, ifS, brS, ctS, rtS, rvS, thS, swS, skS, cE, vE, gE, o1, o2, thE, dvE, rmE, dlE, ldE, kE, clE, aE, cB, zB, nB, andB, orB, tkB, cmpI, ob_some, addI, subI, mulI, i2lI, l2iI, minI, maxI, idI, mthF, mthZ, ini, up, ok_some, ok_bind, ok_ite]
  refine wh_ok (fun n ρ s => ρ 2 = n ∧ s = fun v i => if v = 8960 ∧ i < n then σ 8960 i - σ 8960 i / 2 else if v = 8896 ∧ i < n then σ 8896 i + σ 8960 i / 2 else σ v i) (4 * R) (by omega) (by simp [up]) ?_ ?_
  · rintro n ρ s hn ⟨h1, rfl⟩
    have en : w32 (n : Int) = n := w32_id (by omega) (by omega)
    have ei : ixI (n : Int) 40 = some n := ix_n (by omega) (by omega)
    have er : w32 ((R : Int) * 4) = R * 4 := w32_id (by omega) (by omega)
    have hlt : ¬ (R : Int) * 4 ≤ n := by omega
    have e2 : w32 2 = 2 := rfl
    obtain ⟨b0, b1⟩ := hb n (by omega)
    have eb : w32 (σ 8960 n) = σ 8960 n := w32_id (by omega) (by omega)
    simp [-Option.bind_some, sq, stS, exS, inS, pfS, pzS, poS, asS, aoS, ifS, brS, ctS, rtS, rvS, thS, swS, skS, cE, vE, gE, o1, o2, thE, dvE, rmE, dlE, ldE, kE, clE, aE, cB, zB, nB, andB, orB, tkB, cmpI, ob_some, addI, subI, mulI, i2lI, l2iI, minI, maxI, idI, mthF, mthZ, ini, up, ok_some, ok_bind, ok_ite, h1, en, ei, er, hR, hlt, e2, eb, tdiv_nn b0, u2]
    funext v i
    simp only [u2]
    grind
  · rintro ρ s ⟨h1, rfl⟩
    have en : w32 (4 * (R : Int)) = R * 4 := by rw [w32_id (by omega) (by omega)]; omega
    have er : w32 ((R : Int) * 4) = R * 4 := w32_id (by omega) (by omega)
    simp [-Option.bind_some, sq, stS, exS, inS, pfS, pzS, poS, asS, aoS, ifS, brS, ctS, rtS, rvS, thS, swS, skS, cE, vE, gE, o1, o2, thE, dvE, rmE, dlE, ldE, kE, clE, aE, cB, zB, nB, andB, orB, tkB, cmpI, ob_some, addI, subI, mulI, i2lI, l2iI, minI, maxI, idI, mthF, mthZ, ini, up, ok_some, ok_bind, ok_ite, h1, hR, er, en]
