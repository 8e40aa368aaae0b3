/-! both sides at one TOKEN -/
def TS (s m : Me) (y : Nat → Int) (L lim : Nat) : Prop := L ≤ 940 ∧ lim ≤ 940 ∧ (∀ i, i < L → bR (s 128 i) (y i) ∧ m 64 i = y i) ∧ s 66 0 = L ∧ m 3 0 = L ∧ m 4 0 = lim ∧ s 67 0 = ((min L lim : Nat) : Int) ∧ s 74 0 = 0 ∧ m 10 0 = 0
def TK (s m : Me) (L lim p : Nat) : Prop := s 70 0 = p ∧ m 6 0 = p ∧ p ≤ min L lim ∧
  ((s 69 0 = 0 ∧ m 7 0 = (if lim < L then 1 else 0)) ∨ (p < min L lim ∧ ∃ e : Nat, p < e ∧ e ≤ L ∧ s 68 0 = e ∧ m 5 0 = e ∧
    ((s 69 0 = 1 ∧ m 7 0 = 2 ∧ wr (s 73 0) (m 12 0)) ∨ (s 69 0 = 2 ∧ m 7 0 = 3 ∧ s 72 0 = m 8 0 ∧ 0 ≤ m 8 0 ∧ m 8 0 ≤ 9999) ∨ (s 69 0 = 3 ∧ m 7 0 = 4 ∧ s 72 0 = m 9 0 ∧ 0 ≤ m 9 0 ∧ m 9 0 ≤ 255) ∨ (s 69 0 = 4 ∧ m 7 0 = 1))))
/-- both stand at the same TOKEN, at byte p, and there is no FAULT -/
def TR (s m : Me) (y : Nat → Int) (L lim p : Nat) : Prop := TS s m y L lim ∧ TK s m L lim p
/-- the FAULT that both have found -/
def FL (s m : Me) : Prop := s 74 0 = m 10 0 ∧ 1 ≤ m 10 0 ∧ m 10 0 ≤ 4 ∧ s 75 0 = m 11 0 ∧ 0 ≤ m 11 0 ∧ m 11 0 ≤ 940
theorem adv0 {s m : Me} {y : Nat → Int} {L lim e : Nat} (h : TS s m y L lim) (h1 : s 68 0 = e) (h2 : m 5 0 = e) (he : e ≤ L) :
    ∃ s' m' p, m_Tape_advance [0] s = some (0, s') ∧ m_M_go [0] m = some (0, m') ∧ fr txV s s' ∧ fr tmV m m' ∧ s' 71 0 = s 70 0 ∧ TR s' m' y L lim p ∧ (e ≤ p ∨ min L lim ≤ p) := by
  obtain ⟨t1, t2, t3, t4, t5, t6, t7, t8, t9⟩ := h
  obtain ⟨q, hq⟩ := sk_ex (y := y) (L := L) (L - e) e (by omega)
  obtain ⟨n, hn⟩ := run_ex (y := y) (L := L) (L - q) q (by have := hq.2.1; omega)
  obtain ⟨s', a1, a2, a3, a4⟩ := advance_ok (S := min L lim) t1 t8 t4 t7 (by omega) h1 (fun i hi => (t3 i hi).1) hq hn
  obtain ⟨m', b1, b2, b3⟩ := M_go_ok t1 t2 t5 t6 h2 (fun i hi => ⟨(t3 i hi).2, (t3 i hi).1.1, (t3 i hi).1.2.1⟩) hq hn
  have TS' : TS s' m' y L lim := ⟨t1, t2, fun i hi => by rw [a2 _ (by decide), b2 _ (by decide)]; exact t3 i hi, by rw [a2 _ (by decide)]; exact t4, by rw [b2 _ (by decide)]; exact t5, by rw [b2 _ (by decide)]; exact t6, by rw [a2 _ (by decide)]; exact t7, by rw [a2 _ (by decide)]; exact t8, by rw [b2 _ (by decide)]; exact t9⟩
  have eq := hq.1
  have qL := hq.2.1
  by_cases c : q < min L lim
  · rcases a4 with ⟨c1, _⟩ | ⟨_, a5, a6⟩
    · omega
    rcases b3 with ⟨c1, c2, _⟩ | ⟨c1, c2, _⟩ | ⟨_, _, b5, b6⟩
    · omega
    · omega
    refine ⟨s', m', q, a1, b1, a2, b2, a3, ⟨TS', a5, b5, by omega, Or.inr ⟨c, ?_⟩⟩, Or.inl eq⟩
    rcases a6 with ⟨n0, x1, x2, x3, x4⟩ | ⟨n0, x1, x2, x3⟩
    · rcases b6 with ⟨_, z1', z2, z3, z4⟩ | ⟨z0, _⟩
      · refine ⟨q + n, by omega, hn.1, x1, z1', ?_⟩
        by_cases k1 : laB y q n = true ∧ n ≤ 6
        · rw [if_pos k1] at x2 z2
          left
          exact ⟨x2, z2, lsN y q n, by rw [lsN_len]; omega, by rw [lsN_len]; omega, lsN_lt n k1.1, x3 k1.1 k1.2, z3 k1.1 k1.2⟩
        · rw [if_neg k1] at x2 z2
          by_cases k2 : ldB y q n = true ∧ n ≤ 4
          · rw [if_pos k2] at x2 z2
            right; left
            have v := vN_bd n k2.1
            have v2 : (10 : Int) ^ n ≤ 10000 := by
              have : n = 1 ∨ n = 2 ∨ n = 3 ∨ n = 4 := by omega
              rcases this with rfl | rfl | rfl | rfl <;> decide
            rw [z4 k2.1 k2.2]
            exact ⟨x2, z2, x4 k2.1 k2.2, v.1, by omega⟩
          · rw [if_neg k2] at x2 z2
            right; right; right
            exact ⟨x2, z2⟩
      · omega
    · rcases b6 with ⟨z0, _⟩ | ⟨_, z1', z2, z3⟩
      · omega
      · refine ⟨q + 1, by omega, by omega, x1, z1', ?_⟩
        by_cases k1 : sgB (y q) = true
        · rw [if_pos k1] at x2 z2
          right; right; left
          have := (t3 q (by omega)).1
          exact ⟨x2, z2, by rw [x3 k1, z3], by rw [z3]; exact this.1, by rw [z3]; have := this.2.1; omega⟩
        · rw [if_neg k1] at x2 z2
          right; right; right
          exact ⟨x2, z2⟩
  · rcases a4 with ⟨_, a5, a6⟩ | ⟨c1, _⟩
    · refine ⟨s', m', min L lim, a1, b1, a2, b2, a3, ⟨TS', a5, ?_, by omega, Or.inl ⟨a6, ?_⟩⟩, Or.inr (by omega)⟩
      · rcases b3 with ⟨c1, c2, c3, c4⟩ | ⟨c1, c2, c3, c4⟩ | ⟨c1, c2, _⟩
        · rw [c3]; omega
        · rw [c3]; omega
        · omega
      · rcases b3 with ⟨c1, c2, c3, c4⟩ | ⟨c1, c2, c3, c4⟩ | ⟨c1, c2, _⟩
        · rw [if_pos c1]; exact c4
        · rw [if_neg (by omega)]; exact c4
        · omega
    · omega
