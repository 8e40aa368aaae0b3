/-- the NAMES and counts stay -/
def nmH (s m : Me) (N : Nat → Int) : Prop := nm0 s N (m 384) ∧ ∀ i, i < 4 → m 128 i = N i
theorem nmH_f {s m s' m' : Me} {N : Nat → Int} (h : nmH s m N) (f : fS s s') (g : gS m m') : nmH s' m' N := by
  refine ⟨?_, fun i hi => by rw [g _ (by decide) (by decide) (by decide)]; exact h.2 i hi⟩
  rw [g _ (by decide) (by decide) (by decide)]
  exact nm2_s h.1 (fun v h1 h2 => f v (by omega) (by omega))
/-- a reader of both sides that leaves one truth more -/
def oneP (c g : FM) (N : Nat → Int) (w : Nat) : Prop := ∀ (s m : Me) (y : Nat → Int) (L lim p o S K : Nat), TR s m y L lim p → nmH s m N → SD s m N o S K → m 52 0 = w → ∃ s', c [0, 0, 0, (w : Int) + 1] s = some (0, s') ∧ fS s s' ∧ ((∃ m' p', g [0] m = some (1, m') ∧ TR s' m' y L lim p' ∧ p < p' ∧ SG s m s' m' N o S K ∧ gS m m' ∧ m' 52 0 = w) ∨ (∃ m', g [0] m = some (0, m') ∧ FL s' m' ∧ QS s' ∧ gS m m'))
/-- as SG, the node's number in hand -/
def SA (s m s' m' : Me) (N : Nat → Int) (o S K t : Nat) : Prop := ∃ o' S' K' : Nat, SD s' m' N o' S' K' ∧ o < o' ∧ S < S' ∧ S' + 2 * o + 1 ≤ S + 2 * o' ∧ K < K' ∧ K' + 2 * o + 1 ≤ K + 2 * o' ∧ t < K' ∧ GS s m s' m' S K ∧ ∀ V, evL (shf s' 2112) V S' = evT (NZ m') V 60 t :: evL (shf s 2112) V S
/-- two that stand one behind the other are joined -/
theorem join_g {s m s1 m1 s2 m2 : Me} {N : Nat → Int} {o S K t o1 S1 K1 : Nat} {kk : Int} (hk : kk = 1 ∨ kk = 2) (S2o : S ≤ 2 * o) (K2o : K ≤ 2 * o) (h1 : SD s1 m1 N o1 S1 K1) (a1 : o < o1) (a2 : S < S1) (a3 : S1 + 2 * o + 1 ≤ S + 2 * o1) (a4 : K < K1) (a5 : K1 + 2 * o + 1 ≤ K + 2 * o1) (a6 : t < K1) (a7 : GS s m s1 m1 S K) (a8 : ∀ V, evL (shf s1 2112) V S1 = evT (NZ m1) V 60 t :: evL (shf s 2112) V S) (h2 : SG s1 m1 s2 m2 N o1 S1 K1) :
    ∃ o2 S2 K2 u : Nat, SD s2 m2 N o2 S2 K2 ∧ m2 53 0 = u ∧ s2 4033 0 = S2 ∧ S2 < 40 ∧ m2 50 0 = K2 ∧ K2 < 60 ∧ o1 < o2 ∧ SA s m (adS s2 S2 kk 0 0 0 0) (u2 (ndM m2 K2 (kk + 1) t u 0) 53 0 K2) N o S K K2 := by
  obtain ⟨o2, S2, K2, u, d, b1, b2, b3, b4, b5, b6, b7, b8, b9⟩ := h2
  have o20 := d.2.2.1
  have nd1 := h1.2.2.2.2.2.2.2.2.1
  have nd2 := d.2.2.2.2.2.2.2.2.1
  have tr : ∀ V, evT (NZ m1) V 60 t = evT (NZ m2) V 60 t := fun V => (evT_row nd1 (fun i i1 i2 => by
    unfold NZ; rw [b8.2 _ (by omega)]) 60 t a6).symm
  obtain ⟨e1, e2, e3⟩ := op_g (x := t) (y := u) (kk := kk) (L := fun V => evT (NZ m2) V 60 u :: evT (NZ m2) V 60 t :: evL (shf s 2112) V S) (R := fun V => evL (shf s 2112) V S) (T := fun V => if kk = 1 then (evT (NZ m2) V 60 u && evT (NZ m2) V 60 t) else (evT (NZ m2) V 60 u || evT (NZ m2) V 60 t)) d (by omega) (by omega) (by omega) (by omega) (Or.inl b7) (fun V => by rw [b9, a8, tr]) (fun V => ⟨fun z => by omega, fun z => ⟨_, _, _, rfl, by simp only [z, if_true], rfl, rfl, rfl⟩, fun z => ⟨_, _, _, rfl, by simp only [z]; rfl, rfl, rfl, rfl⟩⟩)
  exact ⟨o2, S2, K2, u, d, b6, d.2.2.2.1, by omega, d.2.2.2.2.1, by omega, b1, o2, S2 + 1, K2 + 1, e1, by omega, by omega, by omega, by omega, by omega, by omega, GS_t (GS_t a7 b8 (by omega) (by omega)) e2 (by omega) (by omega), e3⟩
