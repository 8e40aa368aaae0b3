/-- a leaf, whichever it is -/
theorem plain_ok {s m s1 m1 : Me} {N : Nat → Int} {y : Nat → Int} {L lim p o S K k : Nat} (h : TR s1 m1 y L lim p) (hc : ctN N) (hn : nmH s1 m1 N) (hD : SD s m N o S K) (ho : o < 20) (f : ∀ v, 4033 ≤ v → v < 4416 → s1 v = s v) (f1 : s1 4032 0 = ((o + 1 : Nat) : Int)) (g : ∀ v, v = 50 ∨ v = 1600 → m1 v = m v) (g1 : m1 51 0 = ((o + 1 : Nat) : Int)) (k1 : 11 ≤ k) (k2 : k < 17) (ha : atW m1 k = true) : plO s m s1 m1 N y L lim p o S K (if k < 13 then m_M_readOf else m_M_readCompare) k := by
  have p1 := plain_of h hc hn.1 hD ho f f1 g g1 (hn.2 2 (by omega)) (hn.2 3 (by omega))
  have p2 := plain_cmp h hD ho f f1 g g1
  have : k = 11 ∨ k = 12 ∨ k = 13 ∨ k = 14 ∨ k = 15 ∨ k = 16 := by omega
  rcases this with rfl | rfl | rfl | rfl | rfl | rfl
  · exact p1.1 ha
  · exact p1.2 ha
  · exact plain_shade h hc hn.1 hD ho f f1 g g1 (hn.2 0 (by omega)) (hn.2 1 (by omega)) ha
  · exact p2.1 ha
  · exact p2.2.1 ha
  · exact p2.2.2 ha
/-- NOT over what is read -/
theorem not_g {s m s1 m1 s2 m2 : Me} {N : Nat → Int} {o S K : Nat} (hD : SD s m N o S K) (h0 : GS s m s1 m1 S K) (h2 : SG s1 m1 s2 m2 N (o + 1) S K) :
    ∃ S2 K2 u : Nat, m2 53 0 = u ∧ s2 4033 0 = S2 ∧ S2 < 40 ∧ m2 50 0 = K2 ∧ K2 < 60 ∧ SG s m (adS s2 S2 0 0 0 0 0) (u2 (ndM m2 K2 1 u 0 0) 53 0 K2) N o S K := by
  obtain ⟨o2, S2, K2, u, d, b1, b2, b3, b4, b5, b6, b7, b8, b9⟩ := h2
  have o20 := d.2.2.1
  have dS := hD.2.2.2.2.2.1
  have dK := hD.2.2.2.2.2.2.1
  obtain ⟨e1, e2, e3⟩ := op_g (x := u) (y := 0) (kk := 0) (L := fun V => evT (NZ m2) V 60 u :: evL (shf s 2112) V S) (R := fun V => evL (shf s 2112) V S) (T := fun V => !evT (NZ m2) V 60 u) d (by omega) (by omega) (Or.inl rfl) b7 (Or.inr rfl) (fun V => by rw [b9, h0.1 V S (Nat.le_refl _)]) (fun V => ⟨fun _ => ⟨_, _, rfl, rfl, rfl, rfl⟩, fun z => by omega, fun z => by omega⟩)
  exact ⟨S2, K2, u, b6, d.2.2.2.1, by omega, d.2.2.2.2.1, by omega, o2, S2 + 1, K2 + 1, K2, e1, by omega, by omega, by omega, by omega, by omega, by simp [u2], by omega, GS_t (GS_t h0 b8 (by omega) (by omega)) e2 (by omega) (by omega), e3⟩
