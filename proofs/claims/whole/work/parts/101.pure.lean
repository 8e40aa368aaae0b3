/-! PURE ROWS: numbers, memory, loops -/
theorem w32_id {x : Int} (h1 : -2147483648 ≤ x) (h2 : x < 2147483648) : w32 x = x := Int32.toInt_ofInt_of_le h1 h2
theorem w64_id {x : Int} (h1 : -9223372036854775808 ≤ x) (h2 : x < 9223372036854775808) : w64 x = x := Int64.toInt_ofInt_of_le h1 h2
theorem up_s {ρ : Lo} {i : Nat} {v : Int} : up ρ i v i = v := by simp [up]
theorem up_n {ρ : Lo} {i j : Nat} {v : Int} (h : j ≠ i) : up ρ i v j = ρ j := by simp [up, h]
theorem ix_id {i : Int} {n : Nat} (h1 : 0 ≤ i) (h2 : i < n) (h3 : n ≤ 2147483648) : ixI i n = some i.toNat := by
  have e : w32 i = i := w32_id (by omega) (by omega)
  rw [ixI, e, if_pos ⟨h1, h2⟩]
theorem tdiv_nn {a b : Int} (h : 0 ≤ a) : a.tdiv b = a / b := Int.tdiv_eq_ediv_of_nonneg h
/-- not by rfl alone: simp would try a rfl row up to unfolding, and run loops -/
theorem ob_some {α β : Type} {a : α} {f : α → Option β} : (some a).bind f = f a := Eq.trans (b := f a) rfl rfl
/-- it comes to an end, and P holds there -/
def ok {α : Type} (x : Option α) (P : α → Prop) : Prop := ∃ r, x = some r ∧ P r
theorem ok_some {α : Type} {a : α} {P : α → Prop} : ok (some a) P ↔ P a := ⟨fun ⟨_, h, p⟩ => by cases h; exact p, fun h => ⟨a, rfl, h⟩⟩
theorem ok_bind {α β : Type} {x : Option α} {f : α → Option β} {P : β → Prop} : ok (x.bind f) P ↔ ok x (fun a => ok (f a) P) := by
  constructor
  · rintro ⟨r, h, p⟩
    obtain ⟨a, h1, h2⟩ : ∃ a, x = some a ∧ f a = some r := by
      cases x with
      | none => cases h
      | some a => exact ⟨a, rfl, h⟩
    exact ⟨a, h1, r, h2, p⟩
  · rintro ⟨a, h1, r, h2, p⟩
    exact ⟨r, by rw [h1]; exact h2, p⟩
theorem ok_ite {α : Type} {c : Prop} [Decidable c] {x y : Option α} {P : α → Prop} : ok (if c then x else y) P ↔ (if c then ok x P else ok y P) := by
  by_cases h : c <;> simp [h]
theorem ok_mono {α : Type} {x : Option α} {P Q : α → Prop} (h : ok x P) (hq : ∀ a, P a → Q a) : ok x Q := by
  obtain ⟨r, h1, h2⟩ := h
  exact ⟨r, h1, hq r h2⟩
theorem ok_eq {α : Type} {x : Option α} {a : α} (h : ok x (fun r => r = a)) : x = some a := by
  obtain ⟨r, h1, rfl⟩ := h
  exact h1
/-- a loop that goes round N times: I n is what holds with n rounds behind it -/
theorem wh_ok {c : BM} {b u : SM} (I : Nat → Lo → Me → Prop) (N : Nat) (hN : N < 100000) {P : Nat × Int × Lo × Me → Prop} {ρ : Lo} {σ : Me} (h0 : I 0 ρ σ)
    (hs : ∀ n ρ σ, n < N → I n ρ σ → ok (c ρ σ) fun x => x.1 = true ∧ ok (b ρ x.2) fun y => (y.1 = 0 ∨ y.1 = 2) ∧ ok (u y.2.2.1 y.2.2.2) fun z => z.1 = 0 ∧ I (n + 1) z.2.2.1 z.2.2.2)
    (he : ∀ ρ σ, I N ρ σ → ok (c ρ σ) fun x => x.1 = false ∧ P (0, 0, ρ, x.2)) : ok (whS c b u FU ρ σ) P := by
  have key : ∀ (k n F : Nat) (ρ : Lo) (σ : Me), n + k = N → k < F → I n ρ σ → ok (whS c b u F ρ σ) P := by
    intro k
    induction k with
    | zero =>
      intro n F ρ σ hn hF hI
      cases F with
      | zero => omega
      | succ F =>
        have e : n = N := by omega
        subst e
        obtain ⟨⟨x1, x2⟩, h1, h2, h3⟩ := he ρ σ hI
        simp only at h2 h3
        subst h2
        simp [-Option.bind_some, whS, ok_bind, h1, ok_some, h3]
    | succ k ih =>
      intro n F ρ σ hn hF hI
      cases F with
      | zero => omega
      | succ F =>
        obtain ⟨⟨x1, x2⟩, h1, h2, ⟨o, y1, y2, y3⟩, h3, h4, ⟨o2, z1, z2, z3⟩, h5, h6, h7⟩ := hs n ρ σ (by omega) hI
        simp only at h2 h3 h4 h5 h6 h7
        subst h2 h6
        have := ih (n + 1) F z2 z3 (by omega) (by omega) h7
        simp only [whS, ok_bind, h1, ok_some, if_true, h3, if_pos h4, h5]
        exact this
  exact key N 0 FU ρ σ (by omega) (by rw [FU_eq]; exact hN) h0
theorem partOf_eq {much part whole : Int} {σ : Me} (h0 : 0 ≤ much) (h1 : much < 2147483648) (p0 : 0 ≤ part) (p1 : part < 2147483648) (q0 : 0 < whole) (q1 : whole < 2147483648) : m_Week_partOf [much, part, whole] σ = some (much * part / whole, σ) := by
  have hp : 0 ≤ much * part := Int.mul_nonneg h0 p0
  have hq : much * part < 9223372036854775808 := by
    have := Int.mul_le_mul (show much ≤ 2147483647 by omega) (show part ≤ 2147483647 by omega) p0 (by omega)
    omega
  have e1 : w32 much = much := w32_id (by omega) (by omega)
  have e2 : w32 part = part := w32_id (by omega) (by omega)
  have e3 : w32 whole = whole := w32_id (by omega) (by omega)
  have e4 : w64 (much * part) = much * part := w64_id (by omega) hq
  have e5 : w64 whole = whole := w64_id (by omega) (by omega)
  have e6 : w32 0 = 0 := rfl
  have f1 : ¬ whole = 0 := by omega
  have f2 : ¬ whole ≤ 0 := by omega
  by_cases hm : much ≤ 0
  · have : much = 0 := by omega
    subst this
    simp [-Option.bind_some, m_Week_partOf, b_Week_partOf, sq, stS, exS, inS, pfS, pzS, poS, asS, aoS, ifS, brS, ctS, rtS, rvS, thS, swS, skS, cE, vE, gE, o1, o2, thE, dvE, rmE, dlE, ldE, kE, clE, aE, cB, zB, nB, andB, orB, tkB, cmpI, ob_some, addI, subI, mulI, i2lI, l2iI, minI, maxI, idI, mthF, mthZ, ini, up, ok_some, ok_bind, ok_ite, e6]
  · simp [-Option.bind_some, m_Week_partOf, b_Week_partOf, sq, stS, exS, inS, pfS, pzS, poS, asS, aoS, ifS, brS, ctS, rtS, rvS, thS, swS, skS, cE, vE, gE, o1, o2, thE, dvE, rmE, dlE, ldE, kE, clE, aE, cB, zB, nB, andB, orB, tkB, cmpI, ob_some, addI, subI, mulI, i2lI, l2iI, minI, maxI, idI, mthF, mthZ, ini, up, ok_some, ok_bind, ok_ite, e1, e2, e3, e4, e5, e6, hm, f1, f2, tdiv_nn hp]
