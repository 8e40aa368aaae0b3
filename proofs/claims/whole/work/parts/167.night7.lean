theorem op_night {σ μ : Me} (h : Rl σ μ) : opR (m_D_night [0] σ) (m_M_night [0] μ) := by
  obtain ⟨ν, p1, p2, p3, p4, p5, p6, p7⟩ := rl_pre h
  have hs := p7.1.2.1
  rw [p6] at hs
  generalize hNN : nwM μ = N at *
  have c0 := hs.1.1.1
  have s0 := hs.1.2.2.1
  obtain ⟨S, hS⟩ : ∃ S : Nat, N 285 = S := ⟨(N 285).toNat, by omega⟩
  obtain ⟨G, hG⟩ : ∃ G : Nat, N 2 = G := ⟨(N 2).toNat, by omega⟩
  obtain ⟨nF, hnF⟩ : ∃ nF : Nat → Nat → Nat → Bool, ∀ g st h, nF g st h = true ↔ ∀ k, k < S → fit N (wkP N (floN N) (ppW N (nwI N g st h))) k := ⟨fun g st h => @decide _ (Classical.propDecidable (∀ k, k < S → fit N (wkP N (floN N) (ppW N (nwI N g st h))) k)), fun g st h => by simp⟩
  obtain ⟨τ, θ, k1, k2, k3, k4, k5⟩ := night_c p7 p6 hS hG hnF
  obtain ⟨κ, m1, m2, m3, m4⟩ := night_m p7 p1 p2 p3 hS hG hnF
  refine opR_mk k1 m1 ?_
  have tf : ∀ v, v ≠ 9728 → v ∉ weV → θ v = τ v := fun v h1 h2 => k3 v (by simp [h1, h2])
  have kf : ∀ v, v ∉ VN → κ v = ν v := m2
  obtain ⟨⟨h1, h2, h3, h4, h5, h6⟩, h7⟩ := k2
  have nk : nwM κ = nwM ν := by
    unfold nwM
    rw [kf _ (by decide), kf _ (by decide)]
  have kp : ∀ k f, k < 2 → f < 256 → kpR τ ν k f → kpR θ κ k f := by
    intro k f hk hf hh
    obtain ⟨q1, q2⟩ := hh
    refine ⟨by rw [tf f (by omega) (by simp [weV]; omega), kf _ (by decide)]; exact q1, ?_⟩
    rw [kf 576 (by decide), kf 256 (by decide), kf 512 (by decide)]
    rcases q2 with q2 | ⟨q2, q3⟩
    · exact Or.inl q2
    · exact Or.inr ⟨q2, sce_ag q3 (fun v v1 v2 => tf _ (by omega) (by simp [weV]; omega))⟩
  refine ⟨⟨by rw [kf _ (by decide)]; exact h1, ?_, kp 0 _ (by omega) (by decide) h3, kp 1 _ (by omega) (by decide) h4, ?_, ?_⟩, ?_⟩
  · rw [nk, kf _ (by decide)]
    exact sce_ag h2 (fun v v1 v2 => tf _ (by omega) (by simp [weV]; omega))
  · unfold tpR at *
    rw [tf _ (by decide) (by decide), tf _ (by decide) (by decide), kf _ (by decide), kf _ (by decide)]
    exact h5
  · unfold msR at *
    rw [tf 1 (by decide) (by decide), tf 14 (by decide) (by decide), tf 9664 (by decide) (by decide), tf 15 (by decide) (by decide), kf 10 (by decide), kf 44 (by decide), kf 1408 (by decide), kf 45 (by decide), kf 34 (by decide)]
    refine ⟨h6.1, h6.2.1, h6.2.2.1, fun i hi => ?_, h6.2.2.2.2⟩
    by_cases c1 : nsT nF G = 1
    · obtain ⟨e0, e1, e2⟩ := led_u c1 (k5 c1) (m4 c1)
      have : i = 0 ∨ i = 1 ∨ i = 2 := by omega
      rcases this with rfl | rfl | rfl
      · exact e0
      · exact e1
      · exact e2
    · rw [k4 c1 i hi, m3 c1 i hi]
  · rw [nk]
    refine RP_ag h7 (fun v hv => tf v (fun e => by subst e; revert hv; decide) (fun hm => ?_))
    simp only [weV, List.mem_cons, List.not_mem_nil, or_false] at hm
    rcases hm with rfl | rfl | rfl | rfl | rfl | rfl <;> revert hv <;> decide
