/-! what the GUILDS that work put in -/
/-- whether bit g of w is set -/
def bt (w g : Int) : Bool := !decide (w32 (andI (shrI w g) 1) = 0)
def poured (σ : Me) (w : Int) (C : Nat) : Nat → Nat → Int
  | 0, _ => 0
  | g + 1, i => poured σ w C g i + (if bt w g = true ∧ (i / 4 : Nat) = (σ 704 g).toNat ∧ i % 4 < C then σ 832 (g * 4 + i % 4) else 0)
def pourM (σ : Me) (f : Nat → Int) : Me := fun v i => if v = 8896 then σ 8896 i + f i else σ v i
theorem pour_eq {σ : Me} {G C R : Nat} {w : Int} (hG : σ 261 0 = G) (h6 : G ≤ 6) (hC : σ 260 0 = C) (h4 : C ≤ 4) (hr : ∀ g, g < G → 0 ≤ σ 704 g ∧ σ 704 g < R) (h10 : R ≤ 10) : m_Week_pour [0, 0, w] σ = some (0, pourM σ (poured σ w C G)) := by
  apply ok_eq
  have eG : w32 (G : Int) = G := w32_id (by omega) (by omega)
  have eC : w32 (C : Int) = C := w32_id (by omega) (by omega)
  have e0 : w32 0 = 0 := rfl
  simp only [m_Week_pour, b_Week_pour, sq, stS, exS, inS, pfS, pzS, poS, asS, aoS, ifS, brS, ctS, rtS, rvS, thS, swS, skS, cE, vE, gE, o1, o2, thE, dvE, rmE, dlE, ldE, kE, clE, aE, cB, zB, nB, andB, orB, tkB, cmpI, ob_some, addI, subI, mulI, i2lI, l2iI, minI, maxI, idI, mthF, mthZ, ini, up, ok_some, ok_bind, ok_ite]
  simp only [if_true]
  refine wh_ok (fun n ρ s => ρ 2 = w ∧ ρ 3 = n ∧ s = pourM σ (poured σ w C n)) G (by omega) ⟨by simp [up], by simp [up], by funext v i; simp only [pourM, poured]; grind⟩ ?_ ?_
  · rintro n ρ s hn ⟨h1, h2, rfl⟩
    have en : w32 (n : Int) = n := w32_id (by omega) (by omega)
    have hlt : ¬ (G : Int) ≤ n := by omega
    have hG' : pourM σ (poured σ w C n) 261 0 = G := by simp [pourM, hG]
    by_cases hb : w32 (andI (shrI w n) 1) = 0
    · have hbt : bt w n = false := by simp [bt, hb]
      simp [-Option.bind_some, sq, stS, exS, inS, pfS, pzS, poS, asS, aoS, ifS, brS, ctS, rtS, rvS, thS, swS, skS, cE, vE, gE, o1, o2, thE, dvE, rmE, dlE, ldE, kE, clE, aE, cB, zB, nB, andB, orB, tkB, cmpI, ob_some, addI, subI, mulI, i2lI, l2iI, minI, maxI, idI, mthF, mthZ, ini, up, ok_some, ok_bind, ok_ite, h1, h2, en, eG, hG', hlt, e0, hb]
      funext v i
      simp [pourM, poured, hbt]
    · have hbt : bt w n = true := by simp [bt, hb]
      simp [-Option.bind_some, sq, stS, exS, inS, pfS, pzS, poS, asS, aoS, ifS, brS, ctS, rtS, rvS, thS, swS, skS, cE, vE, gE, o1, o2, thE, dvE, rmE, dlE, ldE, kE, clE, aE, cB, zB, nB, andB, orB, tkB, cmpI, ob_some, addI, subI, mulI, i2lI, l2iI, minI, maxI, idI, mthF, mthZ, ini, up, ok_some, ok_bind, ok_ite, h1, h2, en, eG, hG', hlt, e0, hb]
      refine wh_ok (fun k ρ s => ρ 2 = w ∧ ρ 3 = n ∧ ρ 4 = k ∧ s = pourM σ (fun i => poured σ w C n i + (if (i / 4 : Nat) = (σ 704 n).toNat ∧ i % 4 < k then σ 832 (n * 4 + i % 4) else 0))) C (by omega) ⟨by simp [up, h1], by simp [up, h2], by simp [up], by simp⟩ ?_ ?_
      · rintro k ρ s hk ⟨g1, g2, g3, rfl⟩
        generalize hs9 : pourM σ (fun i => poured σ w C n i + (if (i / 4 : Nat) = (σ 704 n).toNat ∧ i % 4 < k then σ 832 (n * 4 + i % 4) else 0)) = s9
        have ek : w32 (k : Int) = k := w32_id (by omega) (by omega)
        have hltk : ¬ (C : Int) ≤ k := by omega
        obtain ⟨r0, r1⟩ := hr n hn
        have hC' : s9 260 0 = C := by simp [← hs9, pourM, hC]
        have hr' : s9 704 n = σ 704 n := by simp [← hs9, pourM]
        have hp' : s9 832 (n * 4 + k) = σ 832 (n * 4 + k) := by simp [← hs9, pourM]
        have i1 : ixI (n : Int) 6 = some n := ix_n (by omega) (by omega)
        have i2 : ixI ((n : Int) * 4 + k) 24 = some (n * 4 + k) := by rw [ix_id (by omega) (by omega) (by omega)]; congr 1
        have i3 : ixI (σ 704 n * 4 + k) 40 = some ((σ 704 n).toNat * 4 + k) := by rw [ix_id (by omega) (by omega) (by omega)]; congr 1; omega
        simp [-Option.bind_some, sq, stS, exS, inS, pfS, pzS, poS, asS, aoS, ifS, brS, ctS, rtS, rvS, thS, swS, skS, cE, vE, gE, o1, o2, thE, dvE, rmE, dlE, ldE, kE, clE, aE, cB, zB, nB, andB, orB, tkB, cmpI, ob_some, addI, subI, mulI, i2lI, l2iI, minI, maxI, idI, mthF, mthZ, ini, up, ok_some, ok_bind, ok_ite, g1, g2, g3, ek, eC, hC', hltk, i1, i2, i3, hr', hp']
        subst hs9
        funext v i
        simp only [u2, pourM]
        grind
      · rintro ρ s ⟨g1, g2, g3, rfl⟩
        have hC' : pourM σ (fun i => poured σ w C n i + (if (i / 4 : Nat) = (σ 704 n).toNat ∧ i % 4 < C then σ 832 (n * 4 + i % 4) else 0)) 260 0 = C := by simp [pourM, hC]
        simp [-Option.bind_some, sq, stS, exS, inS, pfS, pzS, poS, asS, aoS, ifS, brS, ctS, rtS, rvS, thS, swS, skS, cE, vE, gE, o1, o2, thE, dvE, rmE, dlE, ldE, kE, clE, aE, cB, zB, nB, andB, orB, tkB, cmpI, ob_some, addI, subI, mulI, i2lI, l2iI, minI, maxI, idI, mthF, mthZ, ini, up, ok_some, ok_bind, ok_ite, g1, g2, g3, eC, hC']
        funext v i
        simp [pourM, poured, hbt]
  · rintro ρ s ⟨h1, h2, rfl⟩
    have hG' : pourM σ (poured σ w C G) 261 0 = G := by simp [pourM, hG]
    simp [-Option.bind_some, sq, stS, exS, inS, pfS, pzS, poS, asS, aoS, ifS, brS, ctS, rtS, rvS, thS, swS, skS, cE, vE, gE, o1, o2, thE, dvE, rmE, dlE, ldE, kE, clE, aE, cB, zB, nB, andB, orB, tkB, cmpI, ob_some, addI, subI, mulI, i2lI, l2iI, minI, maxI, idI, mthF, mthZ, ini, up, ok_some, ok_bind, ok_ite, h1, h2, eG, hG']
