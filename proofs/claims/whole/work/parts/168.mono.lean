/-! more work never makes less water -/
theorem part_mono {x y m v : Int} (h0 : 0 ≤ m) (h1 : m ≤ v) (hv : 0 < v) (hxy : x ≤ y) : x * m / v ≤ y * m / v ∧ x - x * m / v ≤ y - y * m / v := by
  constructor
  · exact Int.ediv_le_ediv hv (Int.mul_le_mul_of_nonneg_right hxy h0)
  · have e1 : y * m = x * m + (y - x) * m := by rw [← Int.add_mul]; congr 1; omega
    have e2 : (y - x) * m ≤ (y - x) * v := Int.mul_le_mul_of_nonneg_left h1 (by omega)
    have e3 : y * m / v ≤ (x * m + (y - x) * v) / v := Int.ediv_le_ediv hv (by omega)
    rw [Int.add_mul_ediv_right _ _ (by omega)] at e3
    omega
theorem half_mono {x y : Int} (h : x ≤ y) : x / 2 ≤ y / 2 ∧ x - x / 2 ≤ y - y / 2 := by omega
/-- an HOUR keeps the order of amounts -/
theorem st_mono {N X B X' B' : Nat → Int} {f : Int} (hN : rvN N) (hf : 0 ≤ f) (hX : ∀ i, X i ≤ X' i) (hB : ∀ i, B i ≤ B' i) : ∀ i, stW N f X B i ≤ stW N f X' B' i ∧ stB N f X B i ≤ stB N f X' B' i := by
  have x2 : ∀ i, x2N N f X B i ≤ x2N N f X' B' i ∧ b2N N f B i ≤ b2N N f B' i := fun i => by
    have h1 := hX i
    have h2 := hB i
    unfold x2N b2N
    split <;> omega
  have go : ∀ i : Nat, ((i / 4 : Nat) : Int) < N 0 → goN N f X B i ≤ goN N f X' B' i ∧ x2N N f X B i - goN N f X B i ≤ x2N N f X' B' i - goN N f X' B' i := fun i hi => by
    have v := hN.2.1 (i / 4) hi
    unfold goN gon vlN
    exact part_mono (by split <;> omega) (by split <;> omega) (by omega) (x2 i).1
  intro i
  unfold stW stB
  by_cases ha : ((i / 4 : Nat) : Int) < N 0 ∧ ((i % 4 : Nat) : Int) < N 1
  · rw [if_pos ha, if_pos ha, if_pos ha, if_pos ha]
    have v := hN.2.1 (i / 4) ha.1
    have g1 := go i ha.1
    have y3 : y3N N f X B i ≤ y3N N f X' B' i := by
      unfold y3N
      by_cases h4 : 4 ≤ i
      · rw [if_pos h4, if_pos h4]
        have := go (i - 4) (by omega)
        omega
      · rw [if_neg h4, if_neg h4]
        omega
    have p := part_mono (m := N (11 + 2 * (i / 4))) (v := 1000) (by omega) (by omega) (by omega) y3
    have := (x2 i).2
    omega
  · rw [if_neg ha, if_neg ha, if_neg ha, if_neg ha]
    omega
theorem wk_mono {N fl : Nat → Int} {PP PP' : Nat → Nat → Int} (hN : rvN N) (hfl : flN fl) (hp : ∀ h i, PP h i ≤ PP' h i) : ∀ h, h ≤ 168 → ∀ i, (wkS N fl PP h).1 i ≤ (wkS N fl PP' h).1 i ∧ (wkS N fl PP h).2 i ≤ (wkS N fl PP' h).2 i := by
  intro h
  induction h with
  | zero => intro _ i; exact ⟨Int.le_refl _, Int.le_refl _⟩
  | succ h ih =>
    intro hh i
    have q := ih (by omega)
    rw [wkS_W, wkS_B, wkS_W, wkS_B]
    refine st_mono hN (hfl (h / 24) (by omega)).1 (fun j => ?_) (fun j => (q j).2) i
    have := (q j).1
    have := hp h j
    unfold wkX
    omega
