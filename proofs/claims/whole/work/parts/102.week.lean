/-! THE WEEK, the class's side -/
theorem u2_e {σ : Me} {a i b j : Nat} {v : Int} : u2 σ a i v b j = if b = a ∧ j = i then v else σ b j := rfl
theorem empty_eq {σ : Me} : m_Week_empty [0] σ = some (0, fun v i => if (v = 8896 ∨ v = 8960) ∧ i < 40 then 0 else σ v i) := by
  apply ok_eq
  have e40 : w32 40 = 40 := rfl
  simp [-Option.bind_some, m_Week_empty, b_Week_empty, sq, stS, exS, inS, pfS, pzS, poS, asS, aoS, ifS, brS, ctS, rtS, rvS, thS, swS, skS, cE, vE, gE, o1, o2, thE, dvE, rmE, dlE, ldE, kE, clE, aE, cB, zB, nB, andB, orB, tkB, cmpI, ob_some, addI, subI, mulI, i2lI, l2iI, minI, maxI, idI, mthF, mthZ, ini, up, ok_some, ok_bind, ok_ite]
  refine wh_ok (fun n ρ s => ρ 1 = n ∧ s = fun v i => if (v = 8896 ∨ v = 8960) ∧ i < n then 0 else σ v i) 40 (by decide) (by simp [up]) ?_ ?_
  · rintro n ρ s hn ⟨h1, rfl⟩
    have en : w32 (n : Int) = n := w32_id (by omega) (by omega)
    have ei : ixI (n : Int) 40 = some n := by rw [ix_id (by omega) (by omega) (by omega)]; simp
    have hlt : ¬ (40 : Int) ≤ n := by omega
    simp [-Option.bind_some, sq, stS, exS, inS, pfS, pzS, poS, asS, aoS, ifS, brS, ctS, rtS, rvS, thS, swS, skS, cE, vE, gE, o1, o2, thE, dvE, rmE, dlE, ldE, kE, clE, aE, cB, zB, nB, andB, orB, tkB, cmpI, ob_some, addI, subI, mulI, i2lI, l2iI, minI, maxI, idI, mthF, mthZ, ini, up, ok_some, ok_bind, ok_ite, h1, e40, en, ei, hlt]
    funext v i
    simp only [u2]
    grind
  · rintro ρ s ⟨h1, rfl⟩
    simp [-Option.bind_some, sq, stS, exS, inS, pfS, pzS, poS, asS, aoS, ifS, brS, ctS, rtS, rvS, thS, swS, skS, cE, vE, gE, o1, o2, thE, dvE, rmE, dlE, ldE, kE, clE, aE, cB, zB, nB, andB, orB, tkB, cmpI, ob_some, addI, subI, mulI, i2lI, l2iI, minI, maxI, idI, mthF, mthZ, ini, up, ok_some, ok_bind, ok_ite, h1, e40]
theorem rest_eq {σ : Me} : m_Week_rest [0] σ = some (0, fun v i => if v = 8832 ∧ i < 168 then 0 else σ v i) := by
  apply ok_eq
  have e40 : w32 168 = 168 := rfl
  simp [-Option.bind_some, m_Week_rest, b_Week_rest, sq, stS, exS, inS, pfS, pzS, poS, asS, aoS, ifS, brS, ctS, rtS, rvS, thS, swS, skS, cE, vE, gE, o1, o2, thE, dvE, rmE, dlE, ldE, kE, clE, aE, cB, zB, nB, andB, orB, tkB, cmpI, ob_some, addI, subI, mulI, i2lI, l2iI, minI, maxI, idI, mthF, mthZ, ini, up, ok_some, ok_bind, ok_ite]
  refine wh_ok (fun n ρ s => ρ 1 = n ∧ s = fun v i => if v = 8832 ∧ i < n then 0 else σ v i) 168 (by decide) (by simp [up]) ?_ ?_
  · rintro n ρ s hn ⟨h1, rfl⟩
    have en : w32 (n : Int) = n := w32_id (by omega) (by omega)
    have ei : ixI (n : Int) 168 = some n := by rw [ix_id (by omega) (by omega) (by omega)]; simp
    have hlt : ¬ (168 : Int) ≤ n := by omega
    simp [-Option.bind_some, sq, stS, exS, inS, pfS, pzS, poS, asS, aoS, ifS, brS, ctS, rtS, rvS, thS, swS, skS, cE, vE, gE, o1, o2, thE, dvE, rmE, dlE, ldE, kE, clE, aE, cB, zB, nB, andB, orB, tkB, cmpI, ob_some, addI, subI, mulI, i2lI, l2iI, minI, maxI, idI, mthF, mthZ, ini, up, ok_some, ok_bind, ok_ite, h1, e40, en, ei, hlt]
    funext v i
    simp only [u2]
    grind
  · rintro ρ s ⟨h1, rfl⟩
    simp [-Option.bind_some, sq, stS, exS, inS, pfS, pzS, poS, asS, aoS, ifS, brS, ctS, rtS, rvS, thS, swS, skS, cE, vE, gE, o1, o2, thE, dvE, rmE, dlE, ldE, kE, clE, aE, cB, zB, nB, andB, orB, tkB, cmpI, ob_some, addI, subI, mulI, i2lI, l2iI, minI, maxI, idI, mthF, mthZ, ini, up, ok_some, ok_bind, ok_ite, h1, e40]
theorem ix_n {n N : Nat} (h : n < N) (hN : N ≤ 2147483648) : ixI (n : Int) N = some n := by
  rw [ix_id (by omega) (by omega) hN]
  simp
theorem washUp_eq {σ : Me} {R : Nat} (hR : σ 257 0 = R) (h10 : R ≤ 10) (hb : ∀ i, i < 40 → 0 ≤ σ 8960 i ∧ σ 8960 i < 2147483648) : m_Week_washUp [0, 0] σ = some (0, fun v i => if v = 8960 ∧ i < 4 * R then σ 8960 i - σ 8960 i / 2 else if v = 8896 ∧ i < 4 * R then σ 8896 i + σ 8960 i / 2 else σ v i) := by
  apply ok_eq
  simp [-Option.bind_some, m_Week_washUp, b_Week_washUp, sq, stS, exS, inS, pfS, pzS, poS, asS, aoS, ifS, brS, ctS, rtS, rvS, thS, swS, skS, cE, vE, gE, o1, o2, thE, dvE, rmE, dlE, ldE, kE, clE, aE, cB, zB, nB, andB, orB, tkB, cmpI, ob_some, addI, subI, mulI, i2lI, l2iI, minI, maxI, idI, mthF, mthZ, ini, up, ok_some, ok_bind, ok_ite]
  refine wh_ok (fun n ρ s => ρ 2 = n ∧ s = fun v i => if v = 8960 ∧ i < n then σ 8960 i - σ 8960 i / 2 else if v = 8896 ∧ i < n then σ 8896 i + σ 8960 i / 2 else σ v i) (4 * R) (by omega) (by simp [up]) ?_ ?_
  · rintro n ρ s hn ⟨h1, rfl⟩
    have en : w32 (n : Int) = n := w32_id (by omega) (by omega)
    have ei : ixI (n : Int) 40 = some n := ix_n (by omega) (by omega)
    have er : w32 ((R : Int) * 4) = R * 4 := w32_id (by omega) (by omega)
    have hlt : ¬ (R : Int) * 4 ≤ n := by omega
    have e2 : w32 2 = 2 := rfl
    obtain ⟨b0, b1⟩ := hb n (by omega)
    have eb : w32 (σ 8960 n) = σ 8960 n := w32_id (by omega) (by omega)
    simp [-Option.bind_some, sq, stS, exS, inS, pfS, pzS, poS, asS, aoS, ifS, brS, ctS, rtS, rvS, thS, swS, skS, cE, vE, gE, o1, o2, thE, dvE, rmE, dlE, ldE, kE, clE, aE, cB, zB, nB, andB, orB, tkB, cmpI, ob_some, addI, subI, mulI, i2lI, l2iI, minI, maxI, idI, mthF, mthZ, ini, up, ok_some, ok_bind, ok_ite, h1, en, ei, er, hR, hlt, e2, eb, tdiv_nn b0, u2]
    funext v i
    simp only [u2]
    grind
  · rintro ρ s ⟨h1, rfl⟩
    have en : w32 (4 * (R : Int)) = R * 4 := by rw [w32_id (by omega) (by omega)]; omega
    have er : w32 ((R : Int) * 4) = R * 4 := w32_id (by omega) (by omega)
    simp [-Option.bind_some, sq, stS, exS, inS, pfS, pzS, poS, asS, aoS, ifS, brS, ctS, rtS, rvS, thS, swS, skS, cE, vE, gE, o1, o2, thE, dvE, rmE, dlE, ldE, kE, clE, aE, cB, zB, nB, andB, orB, tkB, cmpI, ob_some, addI, subI, mulI, i2lI, l2iI, minI, maxI, idI, mthF, mthZ, ini, up, ok_some, ok_bind, ok_ite, h1, hR, er, en]
/-- what is done to the cells of which D holds: stuff goes to the bed -/
def sinkM (σ : Me) (D : Nat → Prop) [DecidablePred D] : Me := fun v i => if v = 8896 ∧ D i then σ 8896 i - σ 8896 i * σ 640 (i / 4) / 1000 else if v = 8960 ∧ D i then σ 8960 i + σ 8896 i * σ 640 (i / 4) / 1000 else σ v i
theorem sink_eq {σ : Me} {R C : Nat} (hR : σ 257 0 = R) (h10 : R ≤ 10) (hC : σ 260 0 = C) (h4 : C ≤ 4) (hw : ∀ i, i < 40 → 0 ≤ σ 8896 i ∧ σ 8896 i < 2147483648) (hs : ∀ r, r < R → 0 ≤ σ 640 r ∧ σ 640 r ≤ 500) : m_Week_sink [0, 0] σ = some (0, sinkM σ (fun i => i / 4 < R ∧ i % 4 < C)) := by
  apply ok_eq
  have er : w32 (R : Int) = R := w32_id (by omega) (by omega)
  have ec : w32 (C : Int) = C := w32_id (by omega) (by omega)
  simp only [m_Week_sink, b_Week_sink, sq, stS, exS, inS, pfS, pzS, poS, asS, aoS, ifS, brS, ctS, rtS, rvS, thS, swS, skS, cE, vE, gE, o1, o2, thE, dvE, rmE, dlE, ldE, kE, clE, aE, cB, zB, nB, andB, orB, tkB, cmpI, ob_some, addI, subI, mulI, i2lI, l2iI, minI, maxI, idI, mthF, mthZ, ini, up, ok_some, ok_bind, ok_ite]
  simp only [if_true]
  refine wh_ok (fun n ρ s => ρ 2 = n ∧ s = sinkM σ (fun i => i / 4 < n ∧ i % 4 < C)) R (by omega) ⟨by simp [up], by funext v i; simp [sinkM]⟩ ?_ ?_
  · rintro n ρ s hn ⟨h1, rfl⟩
    have en : w32 (n : Int) = n := w32_id (by omega) (by omega)
    have hlt : ¬ (R : Int) ≤ n := by omega
    have hR' : sinkM σ (fun i => i / 4 < n ∧ i % 4 < C) 257 0 = R := by simp [sinkM, hR]
    simp [-Option.bind_some, sq, stS, exS, inS, pfS, pzS, poS, asS, aoS, ifS, brS, ctS, rtS, rvS, thS, swS, skS, cE, vE, gE, o1, o2, thE, dvE, rmE, dlE, ldE, kE, clE, aE, cB, zB, nB, andB, orB, tkB, cmpI, ob_some, addI, subI, mulI, i2lI, l2iI, minI, maxI, idI, mthF, mthZ, ini, up, ok_some, ok_bind, ok_ite, h1, en, er, hR', hlt]
    refine wh_ok (fun k ρ s => ρ 2 = n ∧ ρ 3 = k ∧ s = sinkM σ (fun i => (i / 4 < n ∧ i % 4 < C) ∨ (i / 4 = n ∧ i % 4 < k))) C (by omega) ⟨by simp [up, h1], by simp [up], by funext v i; simp [sinkM]⟩ ?_ ?_
    · rintro k ρ s hk ⟨g1, g2, rfl⟩
      generalize hs9 : sinkM σ (fun i => (i / 4 < n ∧ i % 4 < C) ∨ (i / 4 = n ∧ i % 4 < k)) = s9
      have ek : w32 (k : Int) = k := w32_id (by omega) (by omega)
      have hltk : ¬ (C : Int) ≤ k := by omega
      have ecell : ixI ((n : Int) * 4 + k) 40 = some (n * 4 + k) := by rw [ix_id (by omega) (by omega) (by omega)]; congr 1
      have es : ixI (n : Int) 10 = some n := ix_n (by omega) (by omega)
      obtain ⟨w0, w1⟩ := hw (n * 4 + k) (by omega)
      obtain ⟨s0, s1⟩ := hs n (by omega)
      have d1 : (n * 4 + k) / 4 = n := by omega
      have d2 : (n * 4 + k) % 4 = k := by omega
      have hwv : s9 8896 (n * 4 + k) = σ 8896 (n * 4 + k) := by simp [← hs9, sinkM, d1, d2]
      have hC' : s9 260 0 = C := by simp [← hs9, sinkM, hC]
      have hS' : s9 640 n = σ 640 n := by simp [← hs9, sinkM]
      have hp := partOf_eq (σ := s9) w0 w1 s0 (by omega) (show (0 : Int) < 1000 by omega) (by omega)
      simp [-Option.bind_some, sq, stS, exS, inS, pfS, pzS, poS, asS, aoS, ifS, brS, ctS, rtS, rvS, thS, swS, skS, cE, vE, gE, o1, o2, thE, dvE, rmE, dlE, ldE, kE, clE, aE, cB, zB, nB, andB, orB, tkB, cmpI, ob_some, addI, subI, mulI, i2lI, l2iI, minI, maxI, idI, mthF, mthZ, ini, up, ok_some, ok_bind, ok_ite, g1, g2, ek, ec, hC', hltk, ecell, es, hwv, hS', hp]
      subst hs9
      funext v i
      simp only [u2, sinkM]
      by_cases hi : i = n * 4 + k
      · subst hi
        simp only [d1, d2]
        grind
      · have hd : (i / 4 = n ∧ i % 4 < k + 1) ↔ (i / 4 = n ∧ i % 4 < k) := by omega
        grind
    · rintro ρ s ⟨g1, g2, rfl⟩
      have hC' : sinkM σ (fun i => (i / 4 < n ∧ i % 4 < C) ∨ (i / 4 = n ∧ i % 4 < C)) 260 0 = C := by simp [sinkM, hC]
      simp [-Option.bind_some, sq, stS, exS, inS, pfS, pzS, poS, asS, aoS, ifS, brS, ctS, rtS, rvS, thS, swS, skS, cE, vE, gE, o1, o2, thE, dvE, rmE, dlE, ldE, kE, clE, aE, cB, zB, nB, andB, orB, tkB, cmpI, ob_some, addI, subI, mulI, i2lI, l2iI, minI, maxI, idI, mthF, mthZ, ini, up, ok_some, ok_bind, ok_ite, g1, g2, ec, hC']
      funext v i
      have hd : ((i / 4 < n ∧ i % 4 < C) ∨ (i / 4 = n ∧ i % 4 < C)) ↔ (i / 4 < n + 1 ∧ i % 4 < C) := by omega
      simp only [sinkM, hd]
  · rintro ρ s ⟨h1, rfl⟩
    have hR' : sinkM σ (fun i => i / 4 < R ∧ i % 4 < C) 257 0 = R := by simp [sinkM, hR]
    simp [-Option.bind_some, sq, stS, exS, inS, pfS, pzS, poS, asS, aoS, ifS, brS, ctS, rtS, rvS, thS, swS, skS, cE, vE, gE, o1, o2, thE, dvE, rmE, dlE, ldE, kE, clE, aE, cB, zB, nB, andB, orB, tkB, cmpI, ob_some, addI, subI, mulI, i2lI, l2iI, minI, maxI, idI, mthF, mthZ, ini, up, ok_some, ok_bind, ok_ite, h1, er, hR']
