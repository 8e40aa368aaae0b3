/-! small methods -/
def z1 (p : Bool) : Int := if p = true then 1 else 0
theorem M_reaches_eq {σ : Me} : m_M_reaches [0] σ = some (σ 128 0, σ) := by
  have i0 : ixI 0 592 = some 0 := ix_n (n := 0) (by omega) (by omega)
  simp [-Option.bind_some, m_M_reaches, b_M_reaches, sq, stS, exS, inS, pfS, pzS, poS, asS, aoS, ifS, brS, ctS, rtS, rvS, thS, swS, skS, cE, vE, gE, o1, o2, thE, dvE, rmE, dlE, ldE, kE, clE, aE, cB, zB, nB, andB, orB, tkB, cmpI, ob_some, addI, subI, mulI, i2lI, l2iI, minI, maxI, idI, mthF, mthZ, ini, up, ok_some, ok_bind, ok_ite, i0]
theorem M_colours_eq {σ : Me} : m_M_colours [0] σ = some (σ 128 1, σ) := by
  have i0 : ixI 1 592 = some 1 := ix_n (n := 1) (by omega) (by omega)
  simp [-Option.bind_some, m_M_colours, b_M_colours, sq, stS, exS, inS, pfS, pzS, poS, asS, aoS, ifS, brS, ctS, rtS, rvS, thS, swS, skS, cE, vE, gE, o1, o2, thE, dvE, rmE, dlE, ldE, kE, clE, aE, cB, zB, nB, andB, orB, tkB, cmpI, ob_some, addI, subI, mulI, i2lI, l2iI, minI, maxI, idI, mthF, mthZ, ini, up, ok_some, ok_bind, ok_ite, i0]
theorem M_guilds_eq {σ : Me} : m_M_guilds [0] σ = some (σ 128 2, σ) := by
  have i0 : ixI 2 592 = some 2 := ix_n (n := 2) (by omega) (by omega)
  simp [-Option.bind_some, m_M_guilds, b_M_guilds, sq, stS, exS, inS, pfS, pzS, poS, asS, aoS, ifS, brS, ctS, rtS, rvS, thS, swS, skS, cE, vE, gE, o1, o2, thE, dvE, rmE, dlE, ldE, kE, clE, aE, cB, zB, nB, andB, orB, tkB, cmpI, ob_some, addI, subI, mulI, i2lI, l2iI, minI, maxI, idI, mthF, mthZ, ini, up, ok_some, ok_bind, ok_ite, i0]
theorem M_users_eq {σ : Me} : m_M_users [0] σ = some (σ 128 3, σ) := by
  have i0 : ixI 3 592 = some 3 := ix_n (n := 3) (by omega) (by omega)
  simp [-Option.bind_some, m_M_users, b_M_users, sq, stS, exS, inS, pfS, pzS, poS, asS, aoS, ifS, brS, ctS, rtS, rvS, thS, swS, skS, cE, vE, gE, o1, o2, thE, dvE, rmE, dlE, ldE, kE, clE, aE, cB, zB, nB, andB, orB, tkB, cmpI, ob_some, addI, subI, mulI, i2lI, l2iI, minI, maxI, idI, mthF, mthZ, ini, up, ok_some, ok_bind, ok_ite, i0]
theorem M_bells_eq {σ : Me} : m_M_bells [0] σ = some (σ 128 160, σ) := by
  have i0 : ixI 160 592 = some 160 := ix_n (n := 160) (by omega) (by omega)
  simp [-Option.bind_some, m_M_bells, b_M_bells, sq, stS, exS, inS, pfS, pzS, poS, asS, aoS, ifS, brS, ctS, rtS, rvS, thS, swS, skS, cE, vE, gE, o1, o2, thE, dvE, rmE, dlE, ldE, kE, clE, aE, cB, zB, nB, andB, orB, tkB, cmpI, ob_some, addI, subI, mulI, i2lI, l2iI, minI, maxI, idI, mthF, mthZ, ini, up, ok_some, ok_bind, ok_ite, i0]
theorem M_isIn_eq {v a b : Int} {σ : Me} : m_M_isIn [v, a, b] σ = some (z1 (decide (w32 a ≤ w32 v ∧ w32 v ≤ w32 b)), σ) := by
  by_cases h1 : w32 a ≤ w32 v <;> by_cases h2 : w32 v ≤ w32 b
  · have h3 : ¬ w32 b < w32 v := by omega
    have h4 : ¬ w32 v < w32 a := by omega
    simp [-Option.bind_some, m_M_isIn, b_M_isIn, sq, stS, exS, inS, pfS, pzS, poS, asS, aoS, ifS, brS, ctS, rtS, rvS, thS, swS, skS, cE, vE, gE, o1, o2, thE, dvE, rmE, dlE, ldE, kE, clE, aE, cB, zB, nB, andB, orB, tkB, cmpI, ob_some, addI, subI, mulI, i2lI, l2iI, minI, maxI, idI, mthF, mthZ, ini, up, ok_some, ok_bind, ok_ite, z1, h1, h2, h3, h4]
  · have h3 : w32 b < w32 v := by omega
    have h4 : ¬ w32 v < w32 a := by omega
    simp [-Option.bind_some, m_M_isIn, b_M_isIn, sq, stS, exS, inS, pfS, pzS, poS, asS, aoS, ifS, brS, ctS, rtS, rvS, thS, swS, skS, cE, vE, gE, o1, o2, thE, dvE, rmE, dlE, ldE, kE, clE, aE, cB, zB, nB, andB, orB, tkB, cmpI, ob_some, addI, subI, mulI, i2lI, l2iI, minI, maxI, idI, mthF, mthZ, ini, up, ok_some, ok_bind, ok_ite, z1, h1, h2, h3, h4]
  · have h3 : ¬ w32 b < w32 v := by omega
    have h4 : w32 v < w32 a := by omega
    simp [-Option.bind_some, m_M_isIn, b_M_isIn, sq, stS, exS, inS, pfS, pzS, poS, asS, aoS, ifS, brS, ctS, rtS, rvS, thS, swS, skS, cE, vE, gE, o1, o2, thE, dvE, rmE, dlE, ldE, kE, clE, aE, cB, zB, nB, andB, orB, tkB, cmpI, ob_some, addI, subI, mulI, i2lI, l2iI, minI, maxI, idI, mthF, mthZ, ini, up, ok_some, ok_bind, ok_ite, z1, h1, h2, h3, h4]
  · have h3 : w32 b < w32 v := by omega
    have h4 : w32 v < w32 a := by omega
    simp [-Option.bind_some, m_M_isIn, b_M_isIn, sq, stS, exS, inS, pfS, pzS, poS, asS, aoS, ifS, brS, ctS, rtS, rvS, thS, swS, skS, cE, vE, gE, o1, o2, thE, dvE, rmE, dlE, ldE, kE, clE, aE, cB, zB, nB, andB, orB, tkB, cmpI, ob_some, addI, subI, mulI, i2lI, l2iI, minI, maxI, idI, mthF, mthZ, ini, up, ok_some, ok_bind, ok_ite, z1, h1, h2, h3, h4]
theorem M_has_eq {w g : Int} {σ : Me} : m_M_has [w, g] σ = some (z1 (decide (w32 (andI (shrI w g) 1) = 1)), σ) := by
  have e1 : w32 1 = 1 := rfl
  by_cases h : w32 (andI (shrI w g) 1) = 1
  · simp [-Option.bind_some, m_M_has, b_M_has, sq, stS, exS, inS, pfS, pzS, poS, asS, aoS, ifS, brS, ctS, rtS, rvS, thS, swS, skS, cE, vE, gE, o1, o2, thE, dvE, rmE, dlE, ldE, kE, clE, aE, cB, zB, nB, andB, orB, tkB, cmpI, ob_some, addI, subI, mulI, i2lI, l2iI, minI, maxI, idI, mthF, mthZ, ini, up, ok_some, ok_bind, ok_ite, z1, e1, h]
  · simp [-Option.bind_some, m_M_has, b_M_has, sq, stS, exS, inS, pfS, pzS, poS, asS, aoS, ifS, brS, ctS, rtS, rvS, thS, swS, skS, cE, vE, gE, o1, o2, thE, dvE, rmE, dlE, ldE, kE, clE, aE, cB, zB, nB, andB, orB, tkB, cmpI, ob_some, addI, subI, mulI, i2lI, l2iI, minI, maxI, idI, mthF, mthZ, ini, up, ok_some, ok_bind, ok_ite, z1, e1, h]
theorem M_thrown_eq {σ : Me} : m_M_thrown [0] σ = some (σ 0 0, σ) := by
  simp [-Option.bind_some, m_M_thrown, b_M_thrown, sq, stS, exS, inS, pfS, pzS, poS, asS, aoS, ifS, brS, ctS, rtS, rvS, thS, swS, skS, cE, vE, gE, o1, o2, thE, dvE, rmE, dlE, ldE, kE, clE, aE, cB, zB, nB, andB, orB, tkB, cmpI, ob_some, addI, subI, mulI, i2lI, l2iI, minI, maxI, idI, mthF, mthZ, ini, up, ok_some, ok_bind, ok_ite]
