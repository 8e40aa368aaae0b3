/-! small methods of the class -/
theorem D_isHour_eq {x : Int} {σ : Me} : m_D_isHour [0, x] σ = some (z1 (decide (0 ≤ w32 x ∧ w32 x < 168)), σ) := by
  have e0 : w32 0 = 0 := rfl
  have e1 : w32 168 = 168 := rfl
  by_cases h1 : 0 ≤ w32 x <;> by_cases h2 : w32 x < 168
  · have h3 : ¬ w32 x < 0 := by omega
    have h4 : ¬ 168 ≤ w32 x := by omega
    simp [-Option.bind_some, m_D_isHour, b_D_isHour, sq, stS, exS, inS, pfS, pzS, poS, asS, aoS, ifS, brS, ctS, rtS, rvS, thS, swS, skS, cE, vE, gE, o1, o2, thE, dvE, rmE, dlE, ldE, kE, clE, aE, cB, zB, nB, andB, orB, tkB, cmpI, ob_some, addI, subI, mulI, i2lI, l2iI, minI, maxI, idI, mthF, mthZ, ini, up, ok_some, ok_bind, ok_ite, z1, e0, e1, h1, h2, h3, h4]
  · have h3 : ¬ w32 x < 0 := by omega
    have h4 : 168 ≤ w32 x := by omega
    simp [-Option.bind_some, m_D_isHour, b_D_isHour, sq, stS, exS, inS, pfS, pzS, poS, asS, aoS, ifS, brS, ctS, rtS, rvS, thS, swS, skS, cE, vE, gE, o1, o2, thE, dvE, rmE, dlE, ldE, kE, clE, aE, cB, zB, nB, andB, orB, tkB, cmpI, ob_some, addI, subI, mulI, i2lI, l2iI, minI, maxI, idI, mthF, mthZ, ini, up, ok_some, ok_bind, ok_ite, z1, e0, e1, h1, h2, h3, h4]
  · have h3 : w32 x < 0 := by omega
    have h4 : ¬ 168 ≤ w32 x := by omega
    simp [-Option.bind_some, m_D_isHour, b_D_isHour, sq, stS, exS, inS, pfS, pzS, poS, asS, aoS, ifS, brS, ctS, rtS, rvS, thS, swS, skS, cE, vE, gE, o1, o2, thE, dvE, rmE, dlE, ldE, kE, clE, aE, cB, zB, nB, andB, orB, tkB, cmpI, ob_some, addI, subI, mulI, i2lI, l2iI, minI, maxI, idI, mthF, mthZ, ini, up, ok_some, ok_bind, ok_ite, z1, e0, e1, h1, h2, h3, h4]
  · exfalso
    omega
theorem D_isReach_eq {x : Int} {σ : Me} : m_D_isReach [0, x] σ = some (z1 (decide (0 ≤ w32 x ∧ w32 x < w32 (σ 257 0))), σ) := by
  have e0 : w32 0 = 0 := rfl
  by_cases h1 : w32 x < 0
  · have h2 : ¬ 0 ≤ w32 x := by omega
    simp [-Option.bind_some, m_D_isReach, b_D_isReach, sq, stS, exS, inS, pfS, pzS, poS, asS, aoS, ifS, brS, ctS, rtS, rvS, thS, swS, skS, cE, vE, gE, o1, o2, thE, dvE, rmE, dlE, ldE, kE, clE, aE, cB, zB, nB, andB, orB, tkB, cmpI, ob_some, addI, subI, mulI, i2lI, l2iI, minI, maxI, idI, mthF, mthZ, ini, up, ok_some, ok_bind, ok_ite, z1, e0, h1, h2]
  · have h2 : 0 ≤ w32 x := by omega
    by_cases h3 : w32 (σ 257 0) ≤ w32 x
    · have h4 : ¬ w32 x < w32 (σ 257 0) := by omega
      simp [-Option.bind_some, m_D_isReach, b_D_isReach, sq, stS, exS, inS, pfS, pzS, poS, asS, aoS, ifS, brS, ctS, rtS, rvS, thS, swS, skS, cE, vE, gE, o1, o2, thE, dvE, rmE, dlE, ldE, kE, clE, aE, cB, zB, nB, andB, orB, tkB, cmpI, ob_some, addI, subI, mulI, i2lI, l2iI, minI, maxI, idI, mthF, mthZ, ini, up, ok_some, ok_bind, ok_ite, z1, e0, h1, h2, h3, h4]
    · have h4 : w32 x < w32 (σ 257 0) := by omega
      simp [-Option.bind_some, m_D_isReach, b_D_isReach, sq, stS, exS, inS, pfS, pzS, poS, asS, aoS, ifS, brS, ctS, rtS, rvS, thS, swS, skS, cE, vE, gE, o1, o2, thE, dvE, rmE, dlE, ldE, kE, clE, aE, cB, zB, nB, andB, orB, tkB, cmpI, ob_some, addI, subI, mulI, i2lI, l2iI, minI, maxI, idI, mthF, mthZ, ini, up, ok_some, ok_bind, ok_ite, z1, e0, h1, h2, h3, h4]
theorem D_shadeOf_eq {w v : Int} {σ : Me} (w0 : 0 ≤ w) (w1 : w < 20000000) (v0 : 0 < v) (v1 : v < 10000) : m_D_shadeOf [w, v] σ = some (w * 100 / v, σ) := by
  have e0 : w32 0 = 0 := rfl
  have e1 : w32 (w * 100) = w * 100 := w32_id (by omega) (by omega)
  have e2 : w32 v = v := w32_id (by omega) (by omega)
  have h1 : ¬ v ≤ 0 := by omega
  have h2 : ¬ v = 0 := by omega
  simp [-Option.bind_some, m_D_shadeOf, b_D_shadeOf, sq, stS, exS, inS, pfS, pzS, poS, asS, aoS, ifS, brS, ctS, rtS, rvS, thS, swS, skS, cE, vE, gE, o1, o2, thE, dvE, rmE, dlE, ldE, kE, clE, aE, cB, zB, nB, andB, orB, tkB, cmpI, ob_some, addI, subI, mulI, i2lI, l2iI, minI, maxI, idI, mthF, mthZ, ini, up, ok_some, ok_bind, ok_ite, e0, e1, e2, h1, h2, tdiv_nn (show 0 ≤ w * 100 by omega)]
theorem D_isColour_eq {x : Int} {σ : Me} : m_D_isColour [0, x] σ = some (z1 (decide (0 ≤ w32 x ∧ w32 x < w32 (σ 260 0))), σ) := by
  have e0 : w32 0 = 0 := rfl
  by_cases h1 : w32 x < 0
  · have h2 : ¬ 0 ≤ w32 x := by omega
    simp [-Option.bind_some, m_D_isColour, b_D_isColour, sq, stS, exS, inS, pfS, pzS, poS, asS, aoS, ifS, brS, ctS, rtS, rvS, thS, swS, skS, cE, vE, gE, o1, o2, thE, dvE, rmE, dlE, ldE, kE, clE, aE, cB, zB, nB, andB, orB, tkB, cmpI, ob_some, addI, subI, mulI, i2lI, l2iI, minI, maxI, idI, mthF, mthZ, ini, up, ok_some, ok_bind, ok_ite, z1, e0, h1, h2]
  · have h2 : 0 ≤ w32 x := by omega
    by_cases h3 : w32 (σ 260 0) ≤ w32 x
    · have h4 : ¬ w32 x < w32 (σ 260 0) := by omega
      simp [-Option.bind_some, m_D_isColour, b_D_isColour, sq, stS, exS, inS, pfS, pzS, poS, asS, aoS, ifS, brS, ctS, rtS, rvS, thS, swS, skS, cE, vE, gE, o1, o2, thE, dvE, rmE, dlE, ldE, kE, clE, aE, cB, zB, nB, andB, orB, tkB, cmpI, ob_some, addI, subI, mulI, i2lI, l2iI, minI, maxI, idI, mthF, mthZ, ini, up, ok_some, ok_bind, ok_ite, z1, e0, h1, h2, h3, h4]
    · have h4 : w32 x < w32 (σ 260 0) := by omega
      simp [-Option.bind_some, m_D_isColour, b_D_isColour, sq, stS, exS, inS, pfS, pzS, poS, asS, aoS, ifS, brS, ctS, rtS, rvS, thS, swS, skS, cE, vE, gE, o1, o2, thE, dvE, rmE, dlE, ldE, kE, clE, aE, cB, zB, nB, andB, orB, tkB, cmpI, ob_some, addI, subI, mulI, i2lI, l2iI, minI, maxI, idI, mthF, mthZ, ini, up, ok_some, ok_bind, ok_ite, z1, e0, h1, h2, h3, h4]
theorem D_isGuild_eq {x : Int} {σ : Me} : m_D_isGuild [0, x] σ = some (z1 (decide (0 ≤ w32 x ∧ w32 x < w32 (σ 261 0))), σ) := by
  have e0 : w32 0 = 0 := rfl
  by_cases h1 : w32 x < 0
  · have h2 : ¬ 0 ≤ w32 x := by omega
    simp [-Option.bind_some, m_D_isGuild, b_D_isGuild, sq, stS, exS, inS, pfS, pzS, poS, asS, aoS, ifS, brS, ctS, rtS, rvS, thS, swS, skS, cE, vE, gE, o1, o2, thE, dvE, rmE, dlE, ldE, kE, clE, aE, cB, zB, nB, andB, orB, tkB, cmpI, ob_some, addI, subI, mulI, i2lI, l2iI, minI, maxI, idI, mthF, mthZ, ini, up, ok_some, ok_bind, ok_ite, z1, e0, h1, h2]
  · have h2 : 0 ≤ w32 x := by omega
    by_cases h3 : w32 (σ 261 0) ≤ w32 x
    · have h4 : ¬ w32 x < w32 (σ 261 0) := by omega
      simp [-Option.bind_some, m_D_isGuild, b_D_isGuild, sq, stS, exS, inS, pfS, pzS, poS, asS, aoS, ifS, brS, ctS, rtS, rvS, thS, swS, skS, cE, vE, gE, o1, o2, thE, dvE, rmE, dlE, ldE, kE, clE, aE, cB, zB, nB, andB, orB, tkB, cmpI, ob_some, addI, subI, mulI, i2lI, l2iI, minI, maxI, idI, mthF, mthZ, ini, up, ok_some, ok_bind, ok_ite, z1, e0, h1, h2, h3, h4]
    · have h4 : w32 x < w32 (σ 261 0) := by omega
      simp [-Option.bind_some, m_D_isGuild, b_D_isGuild, sq, stS, exS, inS, pfS, pzS, poS, asS, aoS, ifS, brS, ctS, rtS, rvS, thS, swS, skS, cE, vE, gE, o1, o2, thE, dvE, rmE, dlE, ldE, kE, clE, aE, cB, zB, nB, andB, orB, tkB, cmpI, ob_some, addI, subI, mulI, i2lI, l2iI, minI, maxI, idI, mthF, mthZ, ini, up, ok_some, ok_bind, ok_ite, z1, e0, h1, h2, h3, h4]
theorem D_isUser_eq {x : Int} {σ : Me} : m_D_isUser [0, x] σ = some (z1 (decide (0 ≤ w32 x ∧ w32 x < w32 (σ 265 0))), σ) := by
  have e0 : w32 0 = 0 := rfl
  by_cases h1 : w32 x < 0
  · have h2 : ¬ 0 ≤ w32 x := by omega
    simp [-Option.bind_some, m_D_isUser, b_D_isUser, sq, stS, exS, inS, pfS, pzS, poS, asS, aoS, ifS, brS, ctS, rtS, rvS, thS, swS, skS, cE, vE, gE, o1, o2, thE, dvE, rmE, dlE, ldE, kE, clE, aE, cB, zB, nB, andB, orB, tkB, cmpI, ob_some, addI, subI, mulI, i2lI, l2iI, minI, maxI, idI, mthF, mthZ, ini, up, ok_some, ok_bind, ok_ite, z1, e0, h1, h2]
  · have h2 : 0 ≤ w32 x := by omega
    by_cases h3 : w32 (σ 265 0) ≤ w32 x
    · have h4 : ¬ w32 x < w32 (σ 265 0) := by omega
      simp [-Option.bind_some, m_D_isUser, b_D_isUser, sq, stS, exS, inS, pfS, pzS, poS, asS, aoS, ifS, brS, ctS, rtS, rvS, thS, swS, skS, cE, vE, gE, o1, o2, thE, dvE, rmE, dlE, ldE, kE, clE, aE, cB, zB, nB, andB, orB, tkB, cmpI, ob_some, addI, subI, mulI, i2lI, l2iI, minI, maxI, idI, mthF, mthZ, ini, up, ok_some, ok_bind, ok_ite, z1, e0, h1, h2, h3, h4]
    · have h4 : w32 x < w32 (σ 265 0) := by omega
      simp [-Option.bind_some, m_D_isUser, b_D_isUser, sq, stS, exS, inS, pfS, pzS, poS, asS, aoS, ifS, brS, ctS, rtS, rvS, thS, swS, skS, cE, vE, gE, o1, o2, thE, dvE, rmE, dlE, ldE, kE, clE, aE, cB, zB, nB, andB, orB, tkB, cmpI, ob_some, addI, subI, mulI, i2lI, l2iI, minI, maxI, idI, mthF, mthZ, ini, up, ok_some, ok_bind, ok_ite, z1, e0, h1, h2, h3, h4]
theorem D_isBell_eq {x : Int} {σ : Me} : m_D_isBell [0, x] σ = some (z1 (decide (0 ≤ w32 x ∧ w32 x < w32 (σ 1408 0))), σ) := by
  have e0 : w32 0 = 0 := rfl
  by_cases h1 : w32 x < 0
  · have h2 : ¬ 0 ≤ w32 x := by omega
    simp [-Option.bind_some, m_D_isBell, b_D_isBell, sq, stS, exS, inS, pfS, pzS, poS, asS, aoS, ifS, brS, ctS, rtS, rvS, thS, swS, skS, cE, vE, gE, o1, o2, thE, dvE, rmE, dlE, ldE, kE, clE, aE, cB, zB, nB, andB, orB, tkB, cmpI, ob_some, addI, subI, mulI, i2lI, l2iI, minI, maxI, idI, mthF, mthZ, ini, up, ok_some, ok_bind, ok_ite, z1, e0, h1, h2]
  · have h2 : 0 ≤ w32 x := by omega
    by_cases h3 : w32 (σ 1408 0) ≤ w32 x
    · have h4 : ¬ w32 x < w32 (σ 1408 0) := by omega
      simp [-Option.bind_some, m_D_isBell, b_D_isBell, sq, stS, exS, inS, pfS, pzS, poS, asS, aoS, ifS, brS, ctS, rtS, rvS, thS, swS, skS, cE, vE, gE, o1, o2, thE, dvE, rmE, dlE, ldE, kE, clE, aE, cB, zB, nB, andB, orB, tkB, cmpI, ob_some, addI, subI, mulI, i2lI, l2iI, minI, maxI, idI, mthF, mthZ, ini, up, ok_some, ok_bind, ok_ite, z1, e0, h1, h2, h3, h4]
    · have h4 : w32 x < w32 (σ 1408 0) := by omega
      simp [-Option.bind_some, m_D_isBell, b_D_isBell, sq, stS, exS, inS, pfS, pzS, poS, asS, aoS, ifS, brS, ctS, rtS, rvS, thS, swS, skS, cE, vE, gE, o1, o2, thE, dvE, rmE, dlE, ldE, kE, clE, aE, cB, zB, nB, andB, orB, tkB, cmpI, ob_some, addI, subI, mulI, i2lI, l2iI, minI, maxI, idI, mthF, mthZ, ini, up, ok_some, ok_bind, ok_ite, z1, e0, h1, h2, h3, h4]
theorem River_flowOn_eq {σ : Me} {d : Nat} {f : Int} (hd : d < 7) (hf : σ 1152 d = f) (f0 : -1 ≤ f) (f1 : f < 10000) : m_River_flowOn [0, d] σ = some (if f = -1 then 100 else f, σ) := by
  have i1 : ixI (d : Int) 7 = some d := ix_n (by omega) (by omega)
  have e1 : w32 f = f := w32_id (by omega) (by omega)
  have e2 : w32 (-1) = -1 := rfl
  by_cases h : f = -1
  · simp [-Option.bind_some, m_River_flowOn, b_River_flowOn, sq, stS, exS, inS, pfS, pzS, poS, asS, aoS, ifS, brS, ctS, rtS, rvS, thS, swS, skS, cE, vE, gE, o1, o2, thE, dvE, rmE, dlE, ldE, kE, clE, aE, cB, zB, nB, andB, orB, tkB, cmpI, ob_some, addI, subI, mulI, i2lI, l2iI, minI, maxI, idI, mthF, mthZ, ini, up, ok_some, ok_bind, ok_ite, i1, hf, h, e2]
  · simp [-Option.bind_some, m_River_flowOn, b_River_flowOn, sq, stS, exS, inS, pfS, pzS, poS, asS, aoS, ifS, brS, ctS, rtS, rvS, thS, swS, skS, cE, vE, gE, o1, o2, thE, dvE, rmE, dlE, ldE, kE, clE, aE, cB, zB, nB, andB, orB, tkB, cmpI, ob_some, addI, subI, mulI, i2lI, l2iI, minI, maxI, idI, mthF, mthZ, ini, up, ok_some, ok_bind, ok_ite, i1, hf, h, e1, e2]
theorem River_floodFrom_eq {σ : Me} {f : Int} (hf : σ 271 0 = f) (f0 : -1 ≤ f) (f1 : f < 10000) : m_River_floodFrom [0] σ = some (if f = -1 then 9999 else f, σ) := by
  have e1 : w32 f = f := w32_id (by omega) (by omega)
  have e2 : w32 (-1) = -1 := rfl
  by_cases h : f = -1
  · simp [-Option.bind_some, m_River_floodFrom, b_River_floodFrom, sq, stS, exS, inS, pfS, pzS, poS, asS, aoS, ifS, brS, ctS, rtS, rvS, thS, swS, skS, cE, vE, gE, o1, o2, thE, dvE, rmE, dlE, ldE, kE, clE, aE, cB, zB, nB, andB, orB, tkB, cmpI, ob_some, addI, subI, mulI, i2lI, l2iI, minI, maxI, idI, mthF, mthZ, ini, up, ok_some, ok_bind, ok_ite, hf, h, e2]
  · simp [-Option.bind_some, m_River_floodFrom, b_River_floodFrom, sq, stS, exS, inS, pfS, pzS, poS, asS, aoS, ifS, brS, ctS, rtS, rvS, thS, swS, skS, cE, vE, gE, o1, o2, thE, dvE, rmE, dlE, ldE, kE, clE, aE, cB, zB, nB, andB, orB, tkB, cmpI, ob_some, addI, subI, mulI, i2lI, l2iI, minI, maxI, idI, mthF, mthZ, ini, up, ok_some, ok_bind, ok_ite, hf, h, e1, e2]
theorem Past_shadeAt_eq {σ : Me} {h r c : Nat} (hh : h < 168) (hr : r < 10) (hc : c < 4) {w v : Int} (hw : σ 9152 (h * 40 + r * 4 + c) = w) (hv : σ 576 r = v) (w0 : 0 ≤ w) (w1 : w < 20000000) (v0 : 0 < v) (v1 : v < 10000) : m_Past_shadeAt [0, 0, h, r, c] σ = some (w * 100 / v, σ) := by
  have i1 : ixI ((h : Int) * 40 + r * 4 + c) 6720 = some (h * 40 + r * 4 + c) := by rw [ix_id (by omega) (by omega) (by omega)]; congr 1
  have i2 : ixI (r : Int) 10 = some r := ix_n (by omega) (by omega)
  simp [-Option.bind_some, m_Past_shadeAt, b_Past_shadeAt, sq, stS, exS, inS, pfS, pzS, poS, asS, aoS, ifS, brS, ctS, rtS, rvS, thS, swS, skS, cE, vE, gE, o1, o2, thE, dvE, rmE, dlE, ldE, kE, clE, aE, cB, zB, nB, andB, orB, tkB, cmpI, ob_some, addI, subI, mulI, i2lI, l2iI, minI, maxI, idI, mthF, mthZ, ini, up, ok_some, ok_bind, ok_ite, i1, i2, hw, hv, D_shadeOf_eq w0 w1 v0 v1]
