/-- a ONE more is begun -/
theorem SD_one {s m s1 m1 : Me} {N : Nat → Int} {o S K : Nat} (h : SD s m N o S K) (ho : o < 20) (f : ∀ v, 4033 ≤ v → v < 4416 → s1 v = s v) (f1 : s1 4032 0 = ((o + 1 : Nat) : Int)) (g : ∀ v, v = 50 ∨ v = 1600 → m1 v = m v) (g1 : m1 51 0 = ((o + 1 : Nat) : Int)) : SD s1 m1 N (o + 1) S K ∧ GS s m s1 m1 S K := by
  obtain ⟨h1, h2, h3, h4, h5, h6, h7, h8, h9, h10⟩ := h
  have ev : ∀ V n, evL (shf s1 2112) V n = evL (shf s 2112) V n := fun V n => evL_ag (S := n) (fun i _ => by
    simp only [shf, Nat.reduceAdd]
    rw [f _ (by decide) (by decide), f _ (by decide) (by decide), f _ (by decide) (by decide), f _ (by decide) (by decide), f _ (by decide) (by decide)]
    exact ⟨rfl, rfl, rfl, rfl, rfl⟩) n (Nat.le_refl n)
  have nz : NZ m1 = NZ m := by unfold NZ; rw [g _ (by decide)]
  refine ⟨⟨f1, g1, by omega, by rw [f _ (by decide) (by decide)]; exact h4, by rw [g _ (by decide)]; exact h5, by omega, by omega, fun i hi => ?_, by rw [nz]; exact h9, fun V n hn => by rw [ev]; have := h10 V n hn; omega⟩, fun V n _ => ev V n, fun i _ => by rw [g _ (by decide)]⟩
  have := h8 i hi
  unfold stO shf at *
  simp only [Nat.reduceAdd] at *
  rw [f _ (by decide) (by decide), f _ (by decide) (by decide), f _ (by decide) (by decide), f _ (by decide) (by decide), f _ (by decide) (by decide)]
  exact this
