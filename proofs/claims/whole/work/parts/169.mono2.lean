theorem sfN_le {N W W' : Nat → Int} {u : Nat} (hN : rvN N) (hu : (u : Int) < N 3) (hW : ∀ i, W i ≤ W' i) : ∀ c, sfN N W u c = true → sfN N W' u c = true := by
  obtain ⟨u1, u2, _⟩ := hN.2.2.2.1 u hu
  have v := hN.2.1 (N (66 + 7 * u)).toNat (by omega)
  intro c
  induction c with
  | zero => intro h; exact h
  | succ c ih =>
    intro h
    simp only [sfN, Bool.or_eq_true, Bool.and_eq_true, decide_eq_true_eq] at h ⊢
    rcases h with h | ⟨h1, h2⟩
    · exact Or.inl (ih h)
    · refine Or.inr ⟨h1, ?_⟩
      have q := hW (4 * (N (66 + 7 * u)).toNat + c)
      have := Int.ediv_le_ediv (a := 100 * W (4 * (N (66 + 7 * u)).toNat + c)) (b := 100 * W' (4 * (N (66 + 7 * u)).toNat + c)) (c := N (10 + 2 * (N (66 + 7 * u)).toNat)) (by omega) (by omega)
      omega
theorem hmN_le {N W W' : Nat → Int} {u h : Nat} (hN : rvN N) (hu : (u : Int) < N 3) (hW : ∀ i, W i ≤ W' i) : z1 (hmN N W u h) ≤ z1 (hmN N W' u h) := by
  cases e : hmN N W u h
  · rw [z1_f]; exact (z1_bd _).1
  · have : hmN N W' u h = true := by
      unfold hmN at e ⊢
      simp only [Bool.and_eq_true] at e ⊢
      exact ⟨e.1, sfN_le hN hu hW _ e.2⟩
    rw [this]
    exact Int.le_refl _
theorem hsN_le {N fl : Nat → Int} {PP PP' : Nat → Nat → Int} (hN : rvN N) (hfl : flN fl) (hp : ∀ h i, PP h i ≤ PP' h i) : hsN N fl PP ≤ hsN N fl PP' := by
  rw [← hp_hs, ← hp_hs]
  refine sm_le (fun h hh => sm_le (fun u hu => ?_))
  exact hmN_le hN (by omega) (fun i => (wk_mono hN hfl hp (h + 1) (by omega) i).1)
/-- more works, no less put in -/
theorem ppW_le {N w w' : Nat → Int} (hN : rvN N) (hw : ∀ h, ∀ g : Nat, g < 32 → bt (w h) g = true → bt (w' h) g = true) : ∀ h i, ppW N w h i ≤ ppW N w' h i := by
  have h6 := hN.1.2.2.1
  intro h i
  unfold ppW
  obtain ⟨G, hG⟩ : ∃ G : Nat, N 2 = G := ⟨(N 2).toNat, by omega⟩
  rw [hG, Int.toNat_natCast]
  have key : ∀ g, g ≤ G → poN N (w h) g i ≤ poN N (w' h) g i := by
    intro g
    induction g with
    | zero => intro _; exact Int.le_refl _
    | succ g ih =>
      intro hg
      have q := ih (by omega)
      have p := (hN.2.2.1 g (by omega)).2.2.2.2 (i % 4) (by omega)
      simp only [poN]
      by_cases c : bt (w h) g = true
      · have c' := hw h g (by omega) c
        simp only [c, c', true_and]
        omega
      · have : ¬ (bt (w h) g = true ∧ N (30 + 6 * g) = ((i / 4 : Nat) : Int)) := fun z => c z.1
        rw [if_neg this]
        split <;> omega
  exact key G (Nat.le_refl _)
