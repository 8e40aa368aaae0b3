/-- the reference's nodes, as they will stand in its row -/
def NZ (m : Me) : Nat → Int := fun i => m 1600 (i - 352)
theorem NZ_0 {m : Me} {k : Nat} : NZ m (352 + 4 * k) = m 1600 (4 * k) := by
  exact congrArg (m 1600) (by omega)
theorem NZ_1 {m : Me} {k : Nat} : NZ m (353 + 4 * k) = m 1600 (4 * k + 1) := by
  exact congrArg (m 1600) (by omega)
theorem NZ_2 {m : Me} {k : Nat} : NZ m (354 + 4 * k) = m 1600 (4 * k + 2) := by
  exact congrArg (m 1600) (by omega)
theorem NZ_3 {m : Me} {k : Nat} : NZ m (355 + 4 * k) = m 1600 (4 * k + 3) := by
  exact congrArg (m 1600) (by omega)
theorem evT_fuel {Z N : Nat → Int} {V : Int → Int → Int → Int → Int → Bool} {K : Nat} (hz : ∀ k, k < K → ndO Z N k) : ∀ f f' k : Nat, k < K → k < f → k < f' → evT Z V f k = evT Z V f' k := by
  intro f
  induction f with
  | zero => intro f' k _ h; omega
  | succ f ih =>
    intro f' k hk h1 h2
    obtain ⟨g, rfl⟩ : ∃ g, f' = g + 1 := ⟨f' - 1, by omega⟩
    simp only [evT]
    rcases hz k hk with ⟨h3, a0, a1, b0⟩ | ⟨h3, _⟩ | ⟨h3, _⟩ | ⟨h3, _⟩ | ⟨h3, h4, _⟩
    · rcases h3 with h3 | h3 | h3
      · simp only [h3, if_true]
        rw [ih g _ (by omega) (by omega) (by omega)]
      · have b0 := b0 (by omega)
        simp only [h3]
        rw [ih g _ (by omega) (by omega) (by omega), ih g _ (by omega) (by omega) (by omega)]
      · have b0 := b0 (by omega)
        simp only [h3]
        rw [ih g _ (by omega) (by omega) (by omega), ih g _ (by omega) (by omega) (by omega)]
    · simp only [h3]
      rfl
    · simp only [h3]
      rfl
    · simp only [h3]
      rfl
    · rw [if_neg (by omega), if_neg (by omega), if_neg (by omega), if_neg (by omega), if_neg (by omega), if_neg (by omega)]
theorem evT_row {Z Z' N : Nat → Int} {V : Int → Int → Int → Int → Int → Bool} {K : Nat} (hz : ∀ k, k < K → ndO Z N k) (e : ∀ i, 352 ≤ i → i < 352 + 4 * K → Z' i = Z i) : ∀ f k : Nat, k < K → evT Z' V f k = evT Z V f k := by
  intro f
  induction f with
  | zero => intro k _; rfl
  | succ f ih =>
    intro k hk
    simp only [evT]
    rw [e (352 + 4 * k) (by omega) (by omega), e (353 + 4 * k) (by omega) (by omega), e (354 + 4 * k) (by omega) (by omega), e (355 + 4 * k) (by omega) (by omega)]
    rcases hz k hk with ⟨h3, a0, a1, b0⟩ | ⟨h3, _⟩ | ⟨h3, _⟩ | ⟨h3, _⟩ | ⟨h3, h4, _⟩
    · rcases h3 with h3 | h3 | h3
      · simp only [h3, if_true]
        rw [ih _ (by omega)]
      · have b0 := b0 (by omega)
        simp only [h3]
        rw [ih _ (by omega), ih _ (by omega)]
      · have b0 := b0 (by omega)
        simp only [h3]
        rw [ih _ (by omega), ih _ (by omega)]
    · simp only [h3]
      rfl
    · simp only [h3]
      rfl
    · simp only [h3]
      rfl
    · rw [if_neg (by omega), if_neg (by omega), if_neg (by omega), if_neg (by omega), if_neg (by omega), if_neg (by omega)]
theorem ndO_row {Z Z' N : Nat → Int} {k : Nat} (h : ndO Z N k) (e : ∀ i, 352 + 4 * k ≤ i → i < 356 + 4 * k → Z' i = Z i) : ndO Z' N k := by
  unfold ndO at *
  rw [e (352 + 4 * k) (by omega) (by omega), e (353 + 4 * k) (by omega) (by omega), e (354 + 4 * k) (by omega) (by omega), e (355 + 4 * k) (by omega) (by omega)]
  exact h
/-- what is read of a SENTENCE so far: o ONES, S steps, K nodes -/
def SD (s m : Me) (N : Nat → Int) (o S K : Nat) : Prop := s 4032 0 = o ∧ m 51 0 = o ∧ o ≤ 20 ∧ s 4033 0 = S ∧ m 50 0 = K ∧ S ≤ 2 * o ∧ K ≤ 2 * o ∧ (∀ i, i < S → stO (shf s 2112) N i) ∧ (∀ k, k < K → ndO (NZ m) N k) ∧ ∀ V n, n ≤ S → (evL (shf s 2112) V n).length ≤ o
/-- what was read before stays -/
def GS (s m s' m' : Me) (S K : Nat) : Prop := (∀ V n, n ≤ S → evL (shf s' 2112) V n = evL (shf s 2112) V n) ∧ ∀ i, i < 4 * K → m' 1600 i = m 1600 i
theorem GS_t {s m s1 m1 s2 m2 : Me} {S K S1 K1 : Nat} (h : GS s m s1 m1 S K) (h' : GS s1 m1 s2 m2 S1 K1) (hS : S ≤ S1) (hK : K ≤ K1) : GS s m s2 m2 S K := ⟨fun V n hn => by rw [h'.1 V n (by omega), h.1 V n hn], fun i hi => by rw [h'.2 i (by omega), h.2 i hi]⟩
/-- a ONE, or more, is read: its truth lies on top -/
def SG (s m s' m' : Me) (N : Nat → Int) (o S K : Nat) : Prop := ∃ o' S' K' t : Nat, SD s' m' N o' S' K' ∧ o < o' ∧ S < S' ∧ S' + 2 * o + 1 ≤ S + 2 * o' ∧ K < K' ∧ K' + 2 * o + 1 ≤ K + 2 * o' ∧ m' 53 0 = t ∧ t < K' ∧ GS s m s' m' S K ∧ ∀ V, evL (shf s' 2112) V S' = evT (NZ m') V 60 t :: evL (shf s 2112) V S
