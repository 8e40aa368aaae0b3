/-! the reference's week -/
theorem M_layFlows_eq {σ : Me} : m_M_layFlows [0] σ = some (0, fun v i => if v = 960 ∧ i < 7 then σ 128 (110 + i) else σ v i) := by
  apply ok_eq
  have e7 : w32 7 = 7 := rfl
  simp only [m_M_layFlows, b_M_layFlows, sq, stS, exS, inS, pfS, pzS, poS, asS, aoS, ifS, brS, ctS, rtS, rvS, thS, swS, skS, cE, vE, gE, o1, o2, thE, dvE, rmE, dlE, ldE, kE, clE, aE, cB, zB, nB, andB, orB, tkB, cmpI, ob_some, addI, subI, mulI, i2lI, l2iI, minI, maxI, idI, mthF, mthZ, ini, up, ok_some, ok_bind, ok_ite]
  simp only [if_true]
  refine wh_ok (fun n ρ s => ρ 1 = n ∧ s = fun v i => if v = 960 ∧ i < n then σ 128 (110 + i) else σ v i) 7 (by decide) ⟨by simp [up], by funext v i; simp⟩ ?_ ?_
  · rintro n ρ s hn ⟨h1, rfl⟩
    have en : w32 (n : Int) = n := w32_id (by omega) (by omega)
    have hlt : ¬ (7 : Int) ≤ n := by omega
    have i1 : ixI (n : Int) 7 = some n := ix_n (by omega) (by omega)
    have i2 : ixI (110 + (n : Int)) 592 = some (110 + n) := by rw [ix_id (by omega) (by omega) (by omega)]; congr 1
    simp [-Option.bind_some, sq, stS, exS, inS, pfS, pzS, poS, asS, aoS, ifS, brS, ctS, rtS, rvS, thS, swS, skS, cE, vE, gE, o1, o2, thE, dvE, rmE, dlE, ldE, kE, clE, aE, cB, zB, nB, andB, orB, tkB, cmpI, ob_some, addI, subI, mulI, i2lI, l2iI, minI, maxI, idI, mthF, mthZ, ini, up, ok_some, ok_bind, ok_ite, h1, e7, en, hlt, i1, i2]
    funext v i
    simp only [u2]
    grind
  · rintro ρ s ⟨h1, rfl⟩
    simp [-Option.bind_some, sq, stS, exS, inS, pfS, pzS, poS, asS, aoS, ifS, brS, ctS, rtS, rvS, thS, swS, skS, cE, vE, gE, o1, o2, thE, dvE, rmE, dlE, ldE, kE, clE, aE, cB, zB, nB, andB, orB, tkB, cmpI, ob_some, addI, subI, mulI, i2lI, l2iI, minI, maxI, idI, mthF, mthZ, ini, up, ok_some, ok_bind, ok_ite, h1, e7]
theorem M_shadeAt_eq {σ : Me} {h r c : Nat} (hh : h < 168) (hr : r < 10) (hc : c < 4) {w v : Int} (hw : σ 1024 (40 * h + 4 * r + c) = w) (hv : σ 128 (10 + 2 * r) = v) (w0 : 0 ≤ w) (w1 : w < 20000000) (v0 : 0 < v) (v1 : v < 10000) : m_M_shadeAt [0, h, r, c] σ = some (100 * w / v, σ) := by
  have i1 : ixI (40 * (h : Int) + 4 * r + c) 6720 = some (40 * h + 4 * r + c) := by rw [ix_id (by omega) (by omega) (by omega)]; congr 1
  have i2 : ixI (10 + 2 * (r : Int)) 592 = some (10 + 2 * r) := by rw [ix_id (by omega) (by omega) (by omega)]; congr 1
  have e1 : w32 w = w := w32_id (by omega) (by omega)
  have e2 : w32 v = v := w32_id (by omega) (by omega)
  have e3 : w64 (100 * w) = 100 * w := w64_id (by omega) (by omega)
  have e4 : w64 v = v := w64_id (by omega) (by omega)
  have hne : ¬ v = 0 := by omega
  have hp : 0 ≤ 100 * w := by omega
  simp [-Option.bind_some, m_M_shadeAt, b_M_shadeAt, sq, stS, exS, inS, pfS, pzS, poS, asS, aoS, ifS, brS, ctS, rtS, rvS, thS, swS, skS, cE, vE, gE, o1, o2, thE, dvE, rmE, dlE, ldE, kE, clE, aE, cB, zB, nB, andB, orB, tkB, cmpI, ob_some, addI, subI, mulI, i2lI, l2iI, minI, maxI, idI, mthF, mthZ, ini, up, ok_some, ok_bind, ok_ite, i1, i2, hw, hv, e1, e2, e3, e4, hne, tdiv_nn hp]
