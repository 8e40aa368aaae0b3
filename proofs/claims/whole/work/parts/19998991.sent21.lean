theorem ndO_M {N M : Nat → Int} {k : Nat} (h : ndO M N k) (e : ∀ i, i < 160 → M i = N i) : ndO M M k := by
  unfold ndO at *
  rcases h with h | ⟨h1, h2⟩ | ⟨h1, h2⟩ | ⟨h1, h2, h3⟩ | ⟨h1, h2, h3⟩
  · exact Or.inl h
  · exact Or.inr (Or.inl ⟨h1, lfO_lo h2 e⟩)
  · exact Or.inr (Or.inr (Or.inl ⟨h1, lfO_lo h2 e⟩))
  · exact Or.inr (Or.inr (Or.inr (Or.inl ⟨h1, h2, lfO_lo h3 e⟩)))
  · exact Or.inr (Or.inr (Or.inr (Or.inr ⟨h1, h2, lfO_lo h3 e⟩)))
/-- what was read, taken over, is a SENTENCE -/
theorem se_new {s0 m0 s m τ : Me} {N M : Nat → Int} (h : SG s0 m0 s m N 0 0 0) (t1 : τ 1920 0 = s 4032 0) (t2 : τ 1921 0 = s 4033 0) (t3 : ∀ i, i < 40 → τ 1984 i = shf s 2112 1984 i ∧ τ 2048 i = shf s 2112 2048 i ∧ τ 2112 i = shf s 2112 2112 i ∧ τ 2176 i = shf s 2112 2176 i ∧ τ 2240 i = shf s 2112 2240 i) (e : ∀ i, i < 160 → M i = N i) (e0 : M 350 = 1) (e1 : M 351 = m 53 0) (e2 : ∀ i, i < 240 → M (352 + i) = m 1600 i) : se0 τ M := by
  obtain ⟨o, S, K, t, d, a1, a2, a3, a4, a5, a6, a7, a8, a9⟩ := h
  obtain ⟨d1, d2, d3, d4, d5, d6, d7, d8, d9, d10⟩ := d
  have ev : ∀ V n, n ≤ S → evL τ V n = evL (shf s 2112) V n := fun V n hn => evL_ag (S := S) (fun i hi => t3 i (by omega)) n hn
  have row : ∀ i, 352 ≤ i → i < 352 + 4 * K → M i = NZ m i := fun i i1 i2 => by
    have := e2 (i - 352) (by omega)
    rw [show 352 + (i - 352) = i by omega] at this
    unfold NZ
    exact this
  refine Or.inr ⟨e0, by rw [t1, d1]; omega, by rw [t1, d1]; omega, S, t, by rw [t2, d4], by omega, by rw [e1, a6], by omega, fun i hi => ?_, fun k hk => ndO_M (ndO_row (d9 k (by omega)) (fun i i1 i2 => row i (by omega) (by omega))) e, fun V => ⟨?_, fun n hn => ?_⟩⟩
  · have q := d8 i hi
    obtain ⟨r1, r2, r3, r4, r5⟩ := t3 i (by omega)
    unfold stO at *
    rw [r1, r2, r3, r4, r5]
    rcases q with q | q | q | q
    · exact Or.inl q
    · exact Or.inr (Or.inl q)
    · exact Or.inr (Or.inr (Or.inl q))
    · exact Or.inr (Or.inr (Or.inr (lfO_lo q e)))
  · rw [ev V S (Nat.le_refl _), a9, evT_row d9 row 60 t a7]
    rfl
  · rw [ev V n hn]
    have := d10 V n hn
    omega
