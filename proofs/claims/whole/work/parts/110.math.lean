/-! A WEEK, as numbers: N is what the reference's row 'now' has -/
def acN (N : Nat → Int) (i : Nat) : Prop := ((i / 4 : Nat) : Int) < N 0 ∧ ((i % 4 : Nat) : Int) < N 1
theorem acN_iff {N : Nat → Int} {R C i : Nat} (hR : N 0 = R) (hC : N 1 = C) : acN N i ↔ (i / 4 < R ∧ i % 4 < C) := by
  unfold acN
  rw [hR, hC]
  omega
/-- what the GUILDS that work put into a cell -/
def poN (N : Nat → Int) (w : Int) : Nat → Nat → Int
  | 0, _ => 0
  | g + 1, i => poN N w g i + (if bt w g = true ∧ N (30 + 6 * g) = ((i / 4 : Nat) : Int) then N (32 + 6 * g + i % 4) else 0)
def vlN (N : Nat → Int) (r : Nat) : Int := N (10 + 2 * r)
def x2N (N : Nat → Int) (f : Int) (X B : Nat → Int) (i : Nat) : Int := if N 5 ≤ f then X i + B i / 2 else X i
def b2N (N : Nat → Int) (f : Int) (B : Nat → Int) (i : Nat) : Int := if N 5 ≤ f then B i - B i / 2 else B i
def goN (N : Nat → Int) (f : Int) (X B : Nat → Int) (i : Nat) : Int := gon (vlN N) f (x2N N f X B) i
def y3N (N : Nat → Int) (f : Int) (X B : Nat → Int) (i : Nat) : Int := x2N N f X B i - goN N f X B i + (if 4 ≤ i then goN N f X B (i - 4) else 0)
/-- water, bed behind an HOUR: X what is in the water when all have put in -/
def stW (N : Nat → Int) (f : Int) (X B : Nat → Int) (i : Nat) : Int := if ((i / 4 : Nat) : Int) < N 0 ∧ ((i % 4 : Nat) : Int) < N 1 then y3N N f X B i - y3N N f X B i * N (11 + 2 * (i / 4)) / 1000 else 0
def stB (N : Nat → Int) (f : Int) (X B : Nat → Int) (i : Nat) : Int := if ((i / 4 : Nat) : Int) < N 0 ∧ ((i % 4 : Nat) : Int) < N 1 then b2N N f B i + y3N N f X B i * N (11 + 2 * (i / 4)) / 1000 else 0
def stP (N : Nat → Int) (f : Int) (X B : Nat → Int) (c : Nat) : Int := if N 0 = 0 then 0 else goN N f X B (4 * ((N 0).toNat - 1) + c)
/-- the week behind h HOURS; PP: what is put in, by HOUR and cell -/
def wkS (N fl : Nat → Int) (PP : Nat → Nat → Int) : Nat → (Nat → Int) × (Nat → Int)
  | 0 => (fun _ => 0, fun _ => 0)
  | h + 1 => (stW N (fl (h / 24)) (fun i => (wkS N fl PP h).1 i + PP h i) (wkS N fl PP h).2, stB N (fl (h / 24)) (fun i => (wkS N fl PP h).1 i + PP h i) (wkS N fl PP h).2)
def wkX (N fl : Nat → Int) (PP : Nat → Nat → Int) (h i : Nat) : Int := (wkS N fl PP h).1 i + PP h i
def wkP (N fl : Nat → Int) (PP : Nat → Nat → Int) (h c : Nat) : Int := stP N (fl (h / 24)) (wkX N fl PP h) (wkS N fl PP h).2 c
theorem wkS_W {N fl : Nat → Int} {PP : Nat → Nat → Int} {h : Nat} : (wkS N fl PP (h + 1)).1 = stW N (fl (h / 24)) (wkX N fl PP h) (wkS N fl PP h).2 := rfl
theorem wkS_B {N fl : Nat → Int} {PP : Nat → Nat → Int} {h : Nat} : (wkS N fl PP (h + 1)).2 = stB N (fl (h / 24)) (wkX N fl PP h) (wkS N fl PP h).2 := rfl
/-- the RIVER is as told -/
def rvN (N : Nat → Int) : Prop :=
  ((0 ≤ N 0 ∧ N 0 ≤ 10) ∧ (0 ≤ N 1 ∧ N 1 ≤ 4) ∧ (0 ≤ N 2 ∧ N 2 ≤ 6) ∧ (0 ≤ N 3 ∧ N 3 ≤ 6) ∧ (0 ≤ N 4 ∧ N 4 ≤ 12) ∧ (1 ≤ N 5 ∧ N 5 ≤ 9999)) ∧
  (∀ r : Nat, (r : Int) < N 0 → 1 ≤ N (10 + 2 * r) ∧ N (10 + 2 * r) ≤ 9999 ∧ 0 ≤ N (11 + 2 * r) ∧ N (11 + 2 * r) ≤ 500) ∧
  (∀ g : Nat, (g : Int) < N 2 → 0 ≤ N (30 + 6 * g) ∧ N (30 + 6 * g) < N 0 ∧ 1 ≤ N (31 + 6 * g) ∧ N (31 + 6 * g) ≤ 24 ∧ ∀ c, c < 4 → 0 ≤ N (32 + 6 * g + c) ∧ N (32 + 6 * g + c) ≤ 9999) ∧
  (∀ u : Nat, (u : Int) < N 3 → 0 ≤ N (66 + 7 * u) ∧ N (66 + 7 * u) < N 0 ∧ 0 ≤ N (67 + 7 * u) ∧ N (67 + 7 * u) < N (68 + 7 * u) ∧ N (68 + 7 * u) ≤ 24 ∧ ∀ c, c < 4 → -1 ≤ N (69 + 7 * u + c) ∧ N (69 + 7 * u + c) ≤ 9999) ∧
  (∀ d, d < 7 → 0 ≤ N (110 + d) ∧ N (110 + d) ≤ 9999) ∧
  (∀ k : Nat, (k : Int) < N 4 → 0 ≤ N (118 + 3 * k) ∧ N (118 + 3 * k) < N 1 ∧ 1 ≤ N (119 + 3 * k) ∧ N (119 + 3 * k) ≤ 9999 ∧ 0 ≤ N (120 + 3 * k) ∧ N (120 + 3 * k) ≤ 999)
def blN (N : Nat → Int) : Prop := (0 ≤ N 160 ∧ N 160 ≤ 40) ∧ ∀ k : Nat, (k : Int) < N 160 → 0 ≤ N (161 + 3 * k) ∧ 0 ≤ N (162 + 3 * k) ∧ N (162 + 3 * k) < N 2 ∧ 1 ≤ N (163 + 3 * k) ∧ N (163 + 3 * k) ≤ 24 ∧ N (161 + 3 * k) + N (163 + 3 * k) ≤ 168
def sgN (N : Nat → Int) : Prop := (0 ≤ N 285 ∧ N 285 ≤ 20) ∧ ∀ k : Nat, (k : Int) < N 285 → 0 ≤ N (286 + 3 * k) ∧ N (286 + 3 * k) < 168 ∧ 0 ≤ N (287 + 3 * k) ∧ N (287 + 3 * k) < N 1 ∧ 0 ≤ N (288 + 3 * k) ∧ N (288 + 3 * k) < 2147483648
def sm (f : Nat → Int) : Nat → Int
  | 0 => 0
  | n + 1 => sm f n + f n
theorem sm_le {f g : Nat → Int} {n : Nat} (h : ∀ i, i < n → f i ≤ g i) : sm f n ≤ sm g n := by
  induction n with
  | zero => exact Int.le_refl _
  | succ n ih =>
    have := ih (fun i hi => h i (by omega))
    have := h n (by omega)
    simp only [sm]
    omega
theorem sm_eq {f g : Nat → Int} {n : Nat} (h : ∀ i, i < n → f i = g i) : sm f n = sm g n := by
  induction n with
  | zero => rfl
  | succ n ih =>
    have := ih (fun i hi => h i (by omega))
    have := h n (by omega)
    simp only [sm]
    omega
theorem sm_0 {n : Nat} : sm (fun _ => 0) n = 0 := by
  induction n with
  | zero => rfl
  | succ n ih => simp only [sm, ih]; rfl
theorem sm_nn {f : Nat → Int} {n : Nat} (h : ∀ i, i < n → 0 ≤ f i) : 0 ≤ sm f n := by
  have := sm_le (f := fun _ => 0) (g := f) h
  rw [sm_0] at this
  exact this
theorem sm_get {f : Nat → Int} {n i : Nat} (h : ∀ i, i < n → 0 ≤ f i) (hi : i < n) : f i ≤ sm f n := by
  induction n with
  | zero => omega
  | succ n ih =>
    simp only [sm]
    have h0 := sm_nn (f := f) (n := n) (fun i hi => h i (by omega))
    have h1 := h n (by omega)
    by_cases he : i = n
    · subst he; omega
    · have := ih (fun i hi => h i (by omega)) (by omega)
      omega
theorem sm_add {f g : Nat → Int} {n : Nat} : sm (fun i => f i + g i) n = sm f n + sm g n := by
  induction n with
  | zero => rfl
  | succ n ih => simp only [sm, ih]; omega
theorem sm_tel {X g : Nat → Int} {n : Nat} : sm (fun r => X r - g r + (if r = 0 then 0 else g (r - 1))) n = sm X n - (if n = 0 then 0 else g (n - 1)) := by
  induction n with
  | zero => rfl
  | succ n ih =>
    simp only [sm, ih]
    by_cases h : n = 0
    · subst h; simp [sm]
    · simp [h]; omega
theorem sm_one {n k : Nat} {x : Int} (hx : 0 ≤ x) : sm (fun r => if k = r then x else 0) n ≤ x := by
  induction n with
  | zero => exact hx
  | succ n ih =>
    simp only [sm]
    by_cases h : k = n
    · have : sm (fun r => if k = r then x else 0) n = 0 := by
        rw [sm_eq (g := fun _ => 0) (fun i hi => if_neg (by omega)), sm_0]
      rw [this, if_pos h]
      omega
    · rw [if_neg h]
      omega
theorem part_le {x m v : Int} (hx : 0 ≤ x) (h0 : 0 ≤ m) (h1 : m ≤ v) (hv : 0 < v) : 0 ≤ x * m / v ∧ x * m / v ≤ x := by
  constructor
  · exact Int.ediv_nonneg (Int.mul_nonneg hx h0) (by omega)
  · have h2 : x * m ≤ x * v := Int.mul_le_mul_of_nonneg_left h1 hx
    have h3 : x * m / v ≤ x * v / v := Int.ediv_le_ediv hv h2
    rwa [Int.mul_ediv_cancel x (by omega)] at h3
theorem gon_bd {V X : Nat → Int} {f : Int} {i : Nat} (hx : 0 ≤ X i) (hv : 0 < V (i / 4)) (hf : 0 ≤ f) : 0 ≤ gon V f X i ∧ gon V f X i ≤ X i := by
  unfold gon
  exact part_le hx (by split <;> omega) (by split <;> omega) hv
