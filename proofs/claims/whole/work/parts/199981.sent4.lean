/-- a step and a node over what is read -/
theorem op_g {s m : Me} {N : Nat → Int} {o S K x y : Nat} {kk : Int} {L R : (Int → Int → Int → Int → Int → Bool) → List Bool} {T : (Int → Int → Int → Int → Int → Bool) → Bool} (h : SD s m N o S K) (hS : S + 1 ≤ 2 * o) (hK : K + 1 ≤ 2 * o) (hk : kk = 0 ∨ kk = 1 ∨ kk = 2) (hx : x < K) (hy : y < K ∨ kk = 0)
    (hL : ∀ V, evL (shf s 2112) V S = L V) (hR : ∀ V, (kk = 0 → ∃ b t, L V = b :: t ∧ T V = !b ∧ R V = t ∧ b = evT (NZ m) V 60 x) ∧ (kk = 1 → ∃ a b t, L V = a :: b :: t ∧ T V = (a && b) ∧ R V = t ∧ b = evT (NZ m) V 60 x ∧ a = evT (NZ m) V 60 y) ∧ (kk = 2 → ∃ a b t, L V = a :: b :: t ∧ T V = (a || b) ∧ R V = t ∧ b = evT (NZ m) V 60 x ∧ a = evT (NZ m) V 60 y)) :
    SD (adS s S kk 0 0 0 0) (u2 (ndM m K (kk + 1) x y 0) 53 0 K) N o (S + 1) (K + 1) ∧ GS s m (adS s S kk 0 0 0 0) (u2 (ndM m K (kk + 1) x y 0) 53 0 K) S K ∧ ∀ V, evL (shf (adS s S kk 0 0 0 0) 2112) V (S + 1) = evT (NZ (u2 (ndM m K (kk + 1) x y 0) 53 0 K)) V 60 K :: R V := by
  obtain ⟨h1, h2, h3, h4, h5, h6, h7, h8, h9, h10⟩ := h
  have ev1 : ∀ V j, j ≤ S → evL (shf (adS s S kk 0 0 0 0) 2112) V j = evL (shf s 2112) V j := fun V j hj => adS_ev j hj
  have aK := (adS_k (s := s) (S := S) (i := S) (k := kk) (a := 0) (b := 0) (r := 0) (n := 0)).1
  rw [if_pos rfl] at aK
  have aK' : shf (adS s S kk 0 0 0 0) 2112 1984 S = kk := by simp only [shf, Nat.reduceAdd]; exact aK
  have evS : ∀ V, evL (shf (adS s S kk 0 0 0 0) 2112) V (S + 1) = T V :: R V := fun V => by
    have e := ev1 V S (Nat.le_refl S)
    rw [hL] at e
    obtain ⟨r0, r1, r2⟩ := hR V
    rcases hk with hk | hk | hk
    · obtain ⟨b, t, q1, q2, q3, _⟩ := r0 hk
      rw [q1] at e
      rw [evL_0 (by rw [aK', hk]) e, q2, q3]
    · obtain ⟨a, b, t, q1, q2, q3, _⟩ := r1 hk
      rw [q1] at e
      rw [evL_1 (by rw [aK', hk]) e, q2, q3]
    · obtain ⟨a, b, t, q1, q2, q3, _⟩ := r2 hk
      rw [q1] at e
      rw [evL_2 (by rw [aK', hk]) e, q2, q3]
  have nd' : ∀ i, u2 (ndM m K (kk + 1) x y 0) 53 0 K 1600 i = if i = 4 * K + 3 then 0 else if i = 4 * K + 2 then (y : Int) else if i = 4 * K + 1 then (x : Int) else if i = 4 * K then kk + 1 else m 1600 i := fun i => by
    rw [u2_o (by decide), ndM_n]
  have nz : ∀ i, 352 ≤ i → i < 352 + 4 * K → NZ (u2 (ndM m K (kk + 1) x y 0) 53 0 K) i = NZ m i := fun i i1 i2 => by
    unfold NZ
    rw [nd', if_neg (by omega), if_neg (by omega), if_neg (by omega), if_neg (by omega)]
  have z0 : NZ (u2 (ndM m K (kk + 1) x y 0) 53 0 K) (352 + 4 * K) = kk + 1 := by rw [NZ_0, nd', if_neg (by omega), if_neg (by omega), if_neg (by omega), if_pos rfl]
  have z1' : NZ (u2 (ndM m K (kk + 1) x y 0) 53 0 K) (353 + 4 * K) = x := by rw [NZ_1, nd', if_neg (by omega), if_neg (by omega), if_pos rfl]
  have z2 : NZ (u2 (ndM m K (kk + 1) x y 0) 53 0 K) (354 + 4 * K) = y := by rw [NZ_2, nd', if_neg (by omega), if_pos rfl]
  have nds : ∀ q, q < K + 1 → ndO (NZ (u2 (ndM m K (kk + 1) x y 0) 53 0 K)) N q := fun q hq => by
    by_cases e : q = K
    · subst e
      unfold ndO
      rw [z0, z1', z2]
      exact Or.inl ⟨by omega, by omega, by omega, fun _ => by omega⟩
    · exact ndO_row (h9 q (by omega)) (fun i i1 i2 => nz i (by omega) (by omega))
  have sub : ∀ V j, j < K → evT (NZ (u2 (ndM m K (kk + 1) x y 0) 53 0 K)) V 59 j = evT (NZ m) V 60 j := fun V j hj => by
    rw [evT_row h9 nz 59 j hj]
    exact evT_fuel h9 59 60 j hj (by omega) (by omega)
  refine ⟨⟨by rw [adS_o (by omega)]; exact h1, by rw [u2_o (by decide), ndM_o (by decide) (by decide)]; exact h2, h3, by rw [adS_s]; omega, by rw [u2_o (by decide)]; simp [ndM, u2], hS, hK, fun i hi => ?_, nds, fun V j hj => ?_⟩, ⟨ev1, fun i hi => by rw [nd', if_neg (by omega), if_neg (by omega), if_neg (by omega), if_neg (by omega)]⟩, fun V => ?_⟩
  · by_cases e : i = S
    · subst e
      unfold stO
      rw [aK']
      rcases hk with hk | hk | hk
      · exact Or.inl hk
      · exact Or.inr (Or.inl hk)
      · exact Or.inr (Or.inr (Or.inl hk))
    · have := h8 i (by omega)
      obtain ⟨b1', b2, b3, b4, b5⟩ := adS_k (s := s) (S := S) (i := i) (k := kk) (a := 0) (b := 0) (r := 0) (n := 0)
      rw [if_neg e] at b1' b2 b3 b4 b5
      unfold stO at *
      simp only [shf, Nat.reduceAdd] at *
      rw [b1', b2, b3, b4, b5]
      exact this
  · by_cases e : j = S + 1
    · subst e
      rw [evS]
      have l := h10 V S (Nat.le_refl S)
      rw [hL] at l
      obtain ⟨r0, r1, r2⟩ := hR V
      rcases hk with hk | hk | hk
      · obtain ⟨b, t, q1, q2, q3, _⟩ := r0 hk
        rw [q1] at l; rw [q3]; simpa using l
      · obtain ⟨a, b, t, q1, q2, q3, _⟩ := r1 hk
        rw [q1] at l; rw [q3]; simp only [List.length_cons] at l ⊢; omega
      · obtain ⟨a, b, t, q1, q2, q3, _⟩ := r2 hk
        rw [q1] at l; rw [q3]; simp only [List.length_cons] at l ⊢; omega
    · rw [ev1 V j (by omega)]
      exact h10 V j (by omega)
  · have e60 : evT (NZ (u2 (ndM m K (kk + 1) x y 0) 53 0 K)) V (59 + 1) K = T V := by
      rw [evT_s, z0, z1', z2, Int.toNat_natCast, Int.toNat_natCast]
      obtain ⟨r0, r1, r2⟩ := hR V
      rcases hk with hk | hk | hk
      · obtain ⟨b, t, q1, q2, q3, q4⟩ := r0 hk
        rw [if_pos (by omega), sub V x hx, q2, q4]
      · obtain ⟨a, b, t, q1, q2, q3, q4, q5⟩ := r1 hk
        rw [if_neg (by omega), if_pos (by omega), sub V x hx, sub V y (by omega), q2, ← q4, ← q5, Bool.and_comm]
      · obtain ⟨a, b, t, q1, q2, q3, q4, q5⟩ := r2 hk
        rw [if_neg (by omega), if_neg (by omega), if_pos (by omega), sub V x hx, sub V y (by omega), q2, ← q4, ← q5, Bool.or_comm]
    rw [evS, ← e60]
