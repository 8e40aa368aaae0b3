/-! who works when: bits by HOUR, out of the BELLS in their order -/
def wkF (hr gd hs : Nat → Int) (wo : Int) : Nat → Nat → Int
  | 0, _ => 0
  | k + 1, h => if gd k ≠ wo ∧ hr k ≤ (h : Int) ∧ (h : Int) < hr k + hs k then iorI (wkF hr gd hs wo k h) (shlI 1 (gd k)) else wkF hr gd hs wo k h
def wkM (σ : Me) (v0 : Nat) (f : Nat → Int) : Me := fun v i => if v = v0 ∧ i < 168 then f i else σ v i
theorem M_layWorks_eq {σ : Me} {K : Nat} {wo : Int} (hK : σ 128 160 = K) (h40 : K ≤ 40) (w0 : -1 ≤ wo) (w1 : wo < 6) (hb : ∀ k, k < K → 0 ≤ σ 128 (161 + 3 * k) ∧ 0 ≤ σ 128 (161 + 3 * k + 1) ∧ σ 128 (161 + 3 * k + 1) < 6 ∧ 1 ≤ σ 128 (161 + 3 * k + 2) ∧ σ 128 (161 + 3 * k) + σ 128 (161 + 3 * k + 2) ≤ 168) : m_M_layWorks [0, wo] σ = some (0, wkM σ 640 (wkF (fun k => σ 128 (161 + 3 * k)) (fun k => σ 128 (161 + 3 * k + 1)) (fun k => σ 128 (161 + 3 * k + 2)) wo K)) := by
  apply ok_eq
  have e168 : w32 168 = 168 := rfl
  have eK : w32 (K : Int) = K := w32_id (by omega) (by omega)
  have ewo : w32 wo = wo := w32_id (by omega) (by omega)
  generalize hhr : (fun k => σ 128 (161 + 3 * k)) = hr
  generalize hgd : (fun k => σ 128 (161 + 3 * k + 1)) = gd
  generalize hhs : (fun k => σ 128 (161 + 3 * k + 2)) = hs
  have hr' : ∀ k, σ 128 (161 + 3 * k) = hr k := fun k => by rw [← hhr]
  have gd' : ∀ k, σ 128 (161 + 3 * k + 1) = gd k := fun k => by rw [← hgd]
  have hs' : ∀ k, σ 128 (161 + 3 * k + 2) = hs k := fun k => by rw [← hhs]
  simp only [hr', gd', hs'] at hb
  simp only [m_M_layWorks, b_M_layWorks, sq, stS, exS, inS, pfS, pzS, poS, asS, aoS, ifS, brS, ctS, rtS, rvS, thS, swS, skS, cE, vE, gE, o1, o2, thE, dvE, rmE, dlE, ldE, kE, clE, aE, cB, zB, nB, andB, orB, tkB, cmpI, ob_some, addI, subI, mulI, i2lI, l2iI, minI, maxI, idI, mthF, mthZ, ini, up, ok_some, ok_bind, ok_ite, M_bells_eq]
  simp only [if_true]
  refine wh_ok (fun n ρ s => ρ 1 = wo ∧ ρ 2 = n ∧ s = fun v i => if v = 640 ∧ i < n then 0 else σ v i) 168 (by decide) ⟨by simp [up], by simp [up], by funext v i; simp⟩ ?_ ?_
  · rintro n ρ s hn ⟨h1, h2, rfl⟩
    have en : w32 (n : Int) = n := w32_id (by omega) (by omega)
    have hlt : ¬ (168 : Int) ≤ n := by omega
    have i1 : ixI (n : Int) 168 = some n := ix_n (by omega) (by omega)
    simp [-Option.bind_some, sq, stS, exS, inS, pfS, pzS, poS, asS, aoS, ifS, brS, ctS, rtS, rvS, thS, swS, skS, cE, vE, gE, o1, o2, thE, dvE, rmE, dlE, ldE, kE, clE, aE, cB, zB, nB, andB, orB, tkB, cmpI, ob_some, addI, subI, mulI, i2lI, l2iI, minI, maxI, idI, mthF, mthZ, ini, up, ok_some, ok_bind, ok_ite, h1, h2, e168, en, hlt, i1]
    funext v i
    simp only [u2]
    grind
  · rintro ρ s ⟨h1, h2, rfl⟩
    simp [-Option.bind_some, sq, stS, exS, inS, pfS, pzS, poS, asS, aoS, ifS, brS, ctS, rtS, rvS, thS, swS, skS, cE, vE, gE, o1, o2, thE, dvE, rmE, dlE, ldE, kE, clE, aE, cB, zB, nB, andB, orB, tkB, cmpI, ob_some, addI, subI, mulI, i2lI, l2iI, minI, maxI, idI, mthF, mthZ, ini, up, ok_some, ok_bind, ok_ite, h1, h2, e168]
    refine wh_ok (fun n ρ s => ρ 1 = wo ∧ ρ 2 = n ∧ s = wkM σ 640 (wkF hr gd hs wo n)) K (by omega) ⟨by simp [up, h1], by simp [up], by funext v i; simp [wkM, wkF]⟩ ?_ ?_
    · rintro n ρ s hn ⟨h1, h2, rfl⟩
      generalize hs9 : wkM σ 640 (wkF hr gd hs wo n) = s9
      obtain ⟨b1, b2, b3, b4, b5⟩ := hb n hn
      have en : w32 (n : Int) = n := w32_id (by omega) (by omega)
      have hlt : ¬ (K : Int) ≤ n := by omega
      have nw : ∀ i, s9 128 i = σ 128 i := fun i => by simp [← hs9, wkM]
      have i1 : ixI (161 + 3 * (n : Int)) 592 = some (161 + 3 * n) := by rw [ix_id (by omega) (by omega) (by omega)]; congr 1
      have i2 : ixI (161 + 3 * (n : Int) + 1) 592 = some (161 + 3 * n + 1) := by rw [ix_id (by omega) (by omega) (by omega)]; congr 1
      have i3 : ixI (161 + 3 * (n : Int) + 2) 592 = some (161 + 3 * n + 2) := by rw [ix_id (by omega) (by omega) (by omega)]; congr 1
      have eg : w32 (gd n) = gd n := w32_id (by omega) (by omega)
      by_cases hg : gd n = wo
      · simp [-Option.bind_some, sq, stS, exS, inS, pfS, pzS, poS, asS, aoS, ifS, brS, ctS, rtS, rvS, thS, swS, skS, cE, vE, gE, o1, o2, thE, dvE, rmE, dlE, ldE, kE, clE, aE, cB, zB, nB, andB, orB, tkB, cmpI, ob_some, addI, subI, mulI, i2lI, l2iI, minI, maxI, idI, mthF, mthZ, ini, up, ok_some, ok_bind, ok_ite, h1, h2, M_bells_eq, nw, hK, eK, en, hlt, i1, i2, i3, hr', gd', hs', eg, ewo, hg]
        subst hs9
        funext v i
        simp [wkM, wkF, hg]
      · simp [-Option.bind_some, sq, stS, exS, inS, pfS, pzS, poS, asS, aoS, ifS, brS, ctS, rtS, rvS, thS, swS, skS, cE, vE, gE, o1, o2, thE, dvE, rmE, dlE, ldE, kE, clE, aE, cB, zB, nB, andB, orB, tkB, cmpI, ob_some, addI, subI, mulI, i2lI, l2iI, minI, maxI, idI, mthF, mthZ, ini, up, ok_some, ok_bind, ok_ite, h1, h2, M_bells_eq, nw, hK, eK, en, hlt, i1, i2, i3, hr', gd', hs', eg, ewo, hg]
        obtain ⟨N, hN⟩ : ∃ N : Nat, hs n = N := ⟨(hs n).toNat, by omega⟩
        obtain ⟨A, hA⟩ : ∃ A : Nat, hr n = A := ⟨(hr n).toNat, by omega⟩
        refine wh_ok (fun k ρ s => ρ 1 = wo ∧ ρ 2 = n ∧ ρ 3 = 161 + 3 * n ∧ ρ 4 = k ∧ s = wkM σ 640 (fun h => if hr n ≤ (h : Int) ∧ (h : Int) < hr n + k then iorI (wkF hr gd hs wo n h) (shlI 1 (gd n)) else wkF hr gd hs wo n h)) N (by omega) ⟨by simp [up, h1], by simp [up, h2], by simp [up], by simp [up], by rw [← hs9]; funext v i; simp only [wkM]; grind⟩ ?_ ?_
        · rintro k ρ s hk ⟨g1, g2, g3, g4, rfl⟩
          generalize ht9 : wkM σ 640 (fun h => if hr n ≤ (h : Int) ∧ (h : Int) < hr n + k then iorI (wkF hr gd hs wo n h) (shlI 1 (gd n)) else wkF hr gd hs wo n h) = t9
          have nw2 : ∀ i, t9 128 i = σ 128 i := fun i => by simp [← ht9, wkM]
          have ek : w32 (k : Int) = k := w32_id (by omega) (by omega)
          have eN : w32 (N : Int) = N := w32_id (by omega) (by omega)
          have hltk : ¬ (N : Int) ≤ k := by omega
          have i4 : ixI ((A : Int) + k) 168 = some (A + k) := by rw [ix_id (by omega) (by omega) (by omega)]; congr 1
          simp [-Option.bind_some, sq, stS, exS, inS, pfS, pzS, poS, asS, aoS, ifS, brS, ctS, rtS, rvS, thS, swS, skS, cE, vE, gE, o1, o2, thE, dvE, rmE, dlE, ldE, kE, clE, aE, cB, zB, nB, andB, orB, tkB, cmpI, ob_some, addI, subI, mulI, i2lI, l2iI, minI, maxI, idI, mthF, mthZ, ini, up, ok_some, ok_bind, ok_ite, g1, g2, g3, g4, nw2, ek, eN, hltk, i1, i2, i3, i4, hr', gd', hs', hN, hA]
          have hold : t9 640 (A + k) = wkF hr gd hs wo n (A + k) := by
            rw [← ht9]
            simp [wkM, hA]
            omega
          rw [hold]
          subst ht9
          funext v i
          simp only [u2, wkM, hA]
          grind
        · rintro ρ s ⟨g1, g2, g3, g4, rfl⟩
          generalize ht9 : wkM σ 640 (fun h => if hr n ≤ (h : Int) ∧ (h : Int) < hr n + N then iorI (wkF hr gd hs wo n h) (shlI 1 (gd n)) else wkF hr gd hs wo n h) = t9
          have nw2 : ∀ i, t9 128 i = σ 128 i := fun i => by simp [← ht9, wkM]
          have eN : w32 (N : Int) = N := w32_id (by omega) (by omega)
          simp [-Option.bind_some, sq, stS, exS, inS, pfS, pzS, poS, asS, aoS, ifS, brS, ctS, rtS, rvS, thS, swS, skS, cE, vE, gE, o1, o2, thE, dvE, rmE, dlE, ldE, kE, clE, aE, cB, zB, nB, andB, orB, tkB, cmpI, ob_some, addI, subI, mulI, i2lI, l2iI, minI, maxI, idI, mthF, mthZ, ini, up, ok_some, ok_bind, ok_ite, g1, g2, g3, g4, nw2, eN, i3, hs', hN]
          subst ht9
          funext v i
          simp only [wkM, wkF, hN]
          grind
    · rintro ρ s ⟨h1, h2, rfl⟩
      have nw : wkM σ 640 (wkF hr gd hs wo K) 128 160 = K := by simp [wkM, hK]
      simp [-Option.bind_some, sq, stS, exS, inS, pfS, pzS, poS, asS, aoS, ifS, brS, ctS, rtS, rvS, thS, swS, skS, cE, vE, gE, o1, o2, thE, dvE, rmE, dlE, ldE, kE, clE, aE, cB, zB, nB, andB, orB, tkB, cmpI, ob_some, addI, subI, mulI, i2lI, l2iI, minI, maxI, idI, mthF, mthZ, ini, up, ok_some, ok_bind, ok_ite, h1, h2, M_bells_eq, nw, eK]
