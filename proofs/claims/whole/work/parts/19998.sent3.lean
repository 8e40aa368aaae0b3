theorem evT_s {N : Nat → Int} {V : Int → Int → Int → Int → Int → Bool} {f k : Nat} : evT N V (f + 1) k = if N (352 + 4 * k) = 1 then !evT N V f (N (353 + 4 * k)).toNat else if N (352 + 4 * k) = 2 then evT N V f (N (353 + 4 * k)).toNat && evT N V f (N (354 + 4 * k)).toNat else if N (352 + 4 * k) = 3 then evT N V f (N (353 + 4 * k)).toNat || evT N V f (N (354 + 4 * k)).toNat else lfN V (N (352 + 4 * k)) (N (353 + 4 * k)) (N (354 + 4 * k)) (N (355 + 4 * k)) := rfl
theorem adS_k {s : Me} {S i : Nat} {k a b r n : Int} : adS s S k a b r n 4096 i = (if i = S then k else s 4096 i) ∧ adS s S k a b r n 4160 i = (if i = S then a else s 4160 i) ∧ adS s S k a b r n 4224 i = (if i = S then b else s 4224 i) ∧ adS s S k a b r n 4288 i = (if i = S then r else s 4288 i) ∧ adS s S k a b r n 4352 i = (if i = S then n else s 4352 i) := by
  simp [adS, u2]
theorem adS_o {s : Me} {S v : Nat} {k a b r n : Int} (h : v < 4033 ∨ 4416 ≤ v) : adS s S k a b r n v = s v := by
  have : v ≠ 4033 ∧ v ≠ 4096 ∧ v ≠ 4160 ∧ v ≠ 4224 ∧ v ≠ 4288 ∧ v ≠ 4352 := by omega
  funext i; simp [adS, u2, this]
theorem adS_s {s : Me} {S : Nat} {k a b r n : Int} : adS s S k a b r n 4033 0 = (S : Int) + 1 := by simp [adS, u2]
theorem adS_ev {s : Me} {S : Nat} {k a b r n : Int} {V : Int → Int → Int → Int → Int → Bool} : ∀ j, j ≤ S → evL (shf (adS s S k a b r n) 2112) V j = evL (shf s 2112) V j := fun j hj => evL_ag (S := S) (fun i hi => by
  have := adS_k (s := s) (S := S) (i := i) (k := k) (a := a) (b := b) (r := r) (n := n)
  rw [if_neg (by omega), if_neg (by omega), if_neg (by omega), if_neg (by omega), if_neg (by omega)] at this
  simp only [shf, Nat.reduceAdd]
  exact this) j hj
theorem ndM_n {m : Me} {K i : Nat} {w a b r : Int} : ndM m K w a b r 1600 i = if i = 4 * K + 3 then r else if i = 4 * K + 2 then b else if i = 4 * K + 1 then a else if i = 4 * K then w else m 1600 i := by
  simp [ndM, u2]
theorem ndM_o {m : Me} {K v : Nat} {w a b r : Int} (h1 : v ≠ 1600) (h2 : v ≠ 50) : ndM m K w a b r v = m v := by
  funext i; simp [ndM, u2, h1, h2]
/-- the same, at other places of the memory -/
theorem SD_fr {s m s' m' : Me} {N : Nat → Int} {o S K : Nat} (h : SD s m N o S K) (f : ∀ v, 4032 ≤ v → v < 4416 → s' v = s v) (g : ∀ v, v = 51 ∨ v = 50 ∨ v = 1600 → m' v = m v) : SD s' m' N o S K ∧ GS s m s' m' S K := by
  obtain ⟨h1, h2, h3, h4, h5, h6, h7, h8, h9, h10⟩ := h
  have ev : ∀ V n, evL (shf s' 2112) V n = evL (shf s 2112) V n := fun V n => evL_ag (S := n) (fun i _ => by
    simp only [shf, Nat.reduceAdd]
    rw [f _ (by decide) (by decide), f _ (by decide) (by decide), f _ (by decide) (by decide), f _ (by decide) (by decide), f _ (by decide) (by decide)]
    exact ⟨rfl, rfl, rfl, rfl, rfl⟩) n (Nat.le_refl n)
  have nz : NZ m' = NZ m := by unfold NZ; rw [g _ (by decide)]
  refine ⟨⟨by rw [f _ (by decide) (by decide)]; exact h1, by rw [g _ (by decide)]; exact h2, h3, by rw [f _ (by decide) (by decide)]; exact h4, by rw [g _ (by decide)]; exact h5, h6, h7, fun i hi => ?_, by rw [nz]; exact h9, fun V n hn => by rw [ev]; exact h10 V n hn⟩, fun V n _ => ev V n, fun i _ => by rw [g _ (by decide)]⟩
  have := h8 i hi
  unfold stO shf at *
  simp only [Nat.reduceAdd] at *
  rw [f _ (by decide) (by decide), f _ (by decide) (by decide), f _ (by decide) (by decide), f _ (by decide) (by decide), f _ (by decide) (by decide)]
  exact this
/-- a leaf is read -/
theorem leaf_g {s m s1 m1 : Me} {N : Nat → Int} {o S K : Nat} {k a b r n w x y z : Int} (h : SD s m N o S K) (ho : o < 20) (f : ∀ v, 4033 ≤ v → v < 4416 → s1 v = s v) (f1 : s1 4032 0 = ((o + 1 : Nat) : Int)) (g : ∀ v, v = 50 ∨ v = 1600 → m1 v = m v) (g1 : m1 51 0 = ((o + 1 : Nat) : Int)) (hl : lfO N k a b r n) (hnd : ∀ Z : Nat → Int, Z (352 + 4 * K) = w → Z (353 + 4 * K) = x → Z (354 + 4 * K) = y → Z (355 + 4 * K) = z → ndO Z N K) (hw : w ≠ 1 ∧ w ≠ 2 ∧ w ≠ 3) (hV : ∀ V, lfN V w x y z = V k a b r n) :
    SG s m (adS s1 S k a b r n) (u2 (ndM m1 K w x y z) 53 0 K) N o S K := by
  obtain ⟨h1, h2, h3, h4, h5, h6, h7, h8, h9, h10⟩ := h
  have k3 : k ≠ 0 ∧ k ≠ 1 ∧ k ≠ 2 := by rcases hl with ⟨q, _⟩ | ⟨q, _⟩ | ⟨q, _⟩ | ⟨q, _⟩ <;> omega
  have ev1 : ∀ V j, j ≤ S → evL (shf (adS s1 S k a b r n) 2112) V j = evL (shf s 2112) V j := fun V j hj => by
    rw [adS_ev j hj]
    exact evL_ag (S := j) (fun i _ => by
      simp only [shf, Nat.reduceAdd]
      rw [f _ (by decide) (by decide), f _ (by decide) (by decide), f _ (by decide) (by decide), f _ (by decide) (by decide), f _ (by decide) (by decide)]
      exact ⟨rfl, rfl, rfl, rfl, rfl⟩) j (Nat.le_refl j)
  obtain ⟨aK, aF, aS, aR, aN⟩ := adS_k (s := s1) (S := S) (i := S) (k := k) (a := a) (b := b) (r := r) (n := n)
  rw [if_pos rfl] at aK aF aS aR aN
  have evS : ∀ V, evL (shf (adS s1 S k a b r n) 2112) V (S + 1) = V k a b r n :: evL (shf s 2112) V S := fun V => by
    have e := evL_3 (s := shf (adS s1 S k a b r n) 2112) (V := V) (n := S) (k := k) (by simp only [shf, Nat.reduceAdd]; exact aK) k3.1 k3.2.1 k3.2.2
    rw [e, ev1 V S (Nat.le_refl S)]
    simp only [shf, Nat.reduceAdd]
    rw [aF, aS, aR, aN]
  have nd' : ∀ i, u2 (ndM m1 K w x y z) 53 0 K 1600 i = if i = 4 * K + 3 then z else if i = 4 * K + 2 then y else if i = 4 * K + 1 then x else if i = 4 * K then w else m 1600 i := fun i => by
    rw [u2_o (by decide), ndM_n, g _ (by decide)]
  have nz : ∀ i, 352 ≤ i → i < 352 + 4 * K → NZ (u2 (ndM m1 K w x y z) 53 0 K) i = NZ m i := fun i i1 i2 => by
    unfold NZ
    rw [nd', if_neg (by omega), if_neg (by omega), if_neg (by omega), if_neg (by omega)]
  have z0 : NZ (u2 (ndM m1 K w x y z) 53 0 K) (352 + 4 * K) = w := by rw [NZ_0, nd', if_neg (by omega), if_neg (by omega), if_neg (by omega), if_pos rfl]
  have z1' : NZ (u2 (ndM m1 K w x y z) 53 0 K) (353 + 4 * K) = x := by rw [NZ_1, nd', if_neg (by omega), if_neg (by omega), if_pos rfl]
  have z2 : NZ (u2 (ndM m1 K w x y z) 53 0 K) (354 + 4 * K) = y := by rw [NZ_2, nd', if_neg (by omega), if_pos rfl]
  have z3 : NZ (u2 (ndM m1 K w x y z) 53 0 K) (355 + 4 * K) = z := by rw [NZ_3, nd', if_pos rfl]
  refine ⟨o + 1, S + 1, K + 1, K, ⟨by rw [adS_o (by omega)]; exact f1, by rw [u2_o (by decide), ndM_o (by decide) (by decide)]; exact g1, by omega, by rw [adS_s]; omega, by rw [u2_o (by decide)]; simp [ndM, u2], by omega, by omega, fun i hi => ?_, fun q hq => ?_, fun V j hj => ?_⟩, by omega, by omega, by omega, by omega, by omega, by simp [u2], by omega, ⟨ev1, fun i hi => by rw [nd', if_neg (by omega), if_neg (by omega), if_neg (by omega), if_neg (by omega)]⟩, fun V => ?_⟩
  · by_cases e : i = S
    · subst e
      unfold stO
      simp only [shf, Nat.reduceAdd]
      rw [aK, aF, aS, aR, aN]
      exact Or.inr (Or.inr (Or.inr hl))
    · have := h8 i (by omega)
      obtain ⟨b1', b2, b3, b4, b5⟩ := adS_k (s := s1) (S := S) (i := i) (k := k) (a := a) (b := b) (r := r) (n := n)
      rw [if_neg e] at b1' b2 b3 b4 b5
      unfold stO at *
      simp only [shf, Nat.reduceAdd] at *
      rw [b1', b2, b3, b4, b5, f _ (by decide) (by decide), f _ (by decide) (by decide), f _ (by decide) (by decide), f _ (by decide) (by decide), f _ (by decide) (by decide)]
      exact this
  · by_cases e : q = K
    · subst e; exact hnd _ z0 z1' z2 z3
    · exact ndO_row (h9 q (by omega)) (fun i i1 i2 => nz i (by omega) (by omega))
  · by_cases e : j = S + 1
    · subst e
      rw [evS]
      have := h10 V S (Nat.le_refl S)
      simp only [List.length_cons]
      omega
    · rw [ev1 V j (by omega)]
      have := h10 V j (by omega)
      omega
  · have e60 : evT (NZ (u2 (ndM m1 K w x y z) 53 0 K)) V (59 + 1) K = V k a b r n := by
      rw [evT_s, z0, z1', z2, z3, if_neg hw.1, if_neg hw.2.1, if_neg hw.2.2]
      exact hV V
    rw [evS, ← e60]
