/-! runs of a week -/
theorem wkS_out {N fl : Nat → Int} {PP : Nat → Nat → Int} {h i : Nat} (hi : ¬ (((i / 4 : Nat) : Int) < N 0 ∧ ((i % 4 : Nat) : Int) < N 1)) : (wkS N fl PP h).1 i = 0 ∧ (wkS N fl PP h).2 i = 0 := by
  cases h with
  | zero => exact ⟨rfl, rfl⟩
  | succ h =>
    rw [wkS_W, wkS_B]
    simp only [stW, stB, if_neg hi, and_self]
theorem wk_congr {N fl fl' : Nat → Int} {PP PP' : Nat → Nat → Int} (hN : rvN N) : ∀ n, (∀ h i : Nat, h < n → ((i / 4 : Nat) : Int) < N 0 → ((i % 4 : Nat) : Int) < N 1 → PP h i = PP' h i) → (∀ h, h < n → fl (h / 24) = fl' (h / 24)) → wkS N fl PP n = wkS N fl' PP' n := by
  have hr := hN.1.1
  have hc := hN.1.2.1
  obtain ⟨R, hR⟩ : ∃ R : Nat, N 0 = R := ⟨(N 0).toNat, by omega⟩
  obtain ⟨C, hC⟩ : ∃ C : Nat, N 1 = C := ⟨(N 1).toNat, by omega⟩
  intro n
  induction n with
  | zero => intro _ _; rfl
  | succ n ih =>
    intro h1 h2
    have e := ih (fun h i hh => h1 h i (by omega)) (fun h hh => h2 h (by omega))
    have ef := h2 n (by omega)
    apply Prod.ext
    · rw [wkS_W, wkS_W, ef]
      funext i
      by_cases hi : i / 4 < R ∧ i % 4 < C
      · refine ((st_congr (c := i % 4) hR (by omega) ?_).1 i hi.1 rfl).1
        intro j j1 j2
        unfold wkX
        rw [e, h1 n j (by omega) (by omega) (by omega)]
        exact ⟨rfl, rfl⟩
      · have hn : ¬ (((i / 4 : Nat) : Int) < N 0 ∧ ((i % 4 : Nat) : Int) < N 1) := by omega
        simp only [stW, if_neg hn]
    · rw [wkS_B, wkS_B, ef]
      funext i
      by_cases hi : i / 4 < R ∧ i % 4 < C
      · refine ((st_congr (c := i % 4) hR (by omega) ?_).1 i hi.1 rfl).2
        intro j j1 j2
        unfold wkX
        rw [e, h1 n j (by omega) (by omega) (by omega)]
        exact ⟨rfl, rfl⟩
      · have hn : ¬ (((i / 4 : Nat) : Int) < N 0 ∧ ((i % 4 : Nat) : Int) < N 1) := by omega
        simp only [stB, if_neg hn]
theorem wkP_congr {N fl fl' : Nat → Int} {PP PP' : Nat → Nat → Int} {n c : Nat} (hN : rvN N) (hc : (c : Int) < N 1) (h1 : ∀ h i : Nat, h < n + 1 → ((i / 4 : Nat) : Int) < N 0 → ((i % 4 : Nat) : Int) < N 1 → PP h i = PP' h i) (h2 : ∀ h, h < n + 1 → fl (h / 24) = fl' (h / 24)) : wkP N fl PP n c = wkP N fl' PP' n c := by
  have hr := hN.1.1
  have hc4 := hN.1.2.1
  obtain ⟨R, hR⟩ : ∃ R : Nat, N 0 = R := ⟨(N 0).toNat, by omega⟩
  have e := wk_congr (PP := PP) (PP' := PP') (fl := fl) (fl' := fl') hN n (fun h i hh => h1 h i (by omega)) (fun h hh => h2 h (by omega))
  unfold wkP
  rw [h2 n (by omega)]
  refine (st_congr (c := c) hR (by omega) ?_).2
  intro j j1 j2
  unfold wkX
  rw [e, h1 n j (by omega) (by omega) (by omega)]
  exact ⟨rfl, rfl⟩
/-- how many are HARMED in HOUR h; in the HOURS ahead of n -/
def hhN (N fl : Nat → Int) (PP : Nat → Nat → Int) (h : Nat) : Int := sm (fun u => z1 (hmN N (wkS N fl PP (h + 1)).1 u h)) (N 3).toNat
def hpN (N fl : Nat → Int) (PP : Nat → Nat → Int) (n : Nat) : Int := sm (hhN N fl PP) n
theorem sm_swap {f : Nat → Nat → Int} {m : Nat} : ∀ n, sm (fun h => sm (fun u => f u h) m) n = sm (fun u => sm (fun h => f u h) n) m := by
  intro n
  induction n with
  | zero =>
    have : (fun u => sm (fun h => f u h) 0) = fun _ => 0 := rfl
    rw [this, sm_0]; rfl
  | succ n ih =>
    rw [sm_s, ih, ← sm_add]
    exact sm_eq (fun i _ => rfl)
theorem hp_hs {N fl : Nat → Int} {PP : Nat → Nat → Int} : hpN N fl PP 168 = hsN N fl PP := by
  unfold hpN hsN
  exact sm_swap (f := fun u h => z1 (hmN N (wkS N fl PP (h + 1)).1 u h)) 168
theorem hhN_bd {N fl : Nat → Int} {PP : Nat → Nat → Int} {h : Nat} (hN : rvN N) : 0 ≤ hhN N fl PP h ∧ hhN N fl PP h ≤ 6 := by
  have hu := hN.1.2.2.2.1
  have := sm_bd (f := fun u => z1 (hmN N (wkS N fl PP (h + 1)).1 u h)) (n := (N 3).toNat) (a := 1) (fun i _ => z1_bd _)
  unfold hhN
  omega
theorem hpN_bd {N fl : Nat → Int} {PP : Nat → Nat → Int} {n : Nat} (hN : rvN N) : 0 ≤ hpN N fl PP n ∧ hpN N fl PP n ≤ 6 * n := sm_bd (fun _ _ => hhN_bd hN)
theorem hpN_s {N fl : Nat → Int} {PP : Nat → Nat → Int} {n : Nat} : hpN N fl PP (n + 1) = hpN N fl PP n + hhN N fl PP n := rfl
theorem hpN_mono {N fl : Nat → Int} {PP : Nat → Nat → Int} {m n : Nat} (hN : rvN N) (h : m ≤ n) : hpN N fl PP m ≤ hpN N fl PP n := by
  induction n with
  | zero =>
    have : m = 0 := by omega
    subst this; exact Int.le_refl _
  | succ n ih =>
    by_cases he : m = n + 1
    · subst he; exact Int.le_refl _
    · have := ih (by omega)
      have := hhN_bd (fl := fl) (PP := PP) (h := n) hN
      rw [hpN_s]
      omega
theorem hhN_congr {N fl fl' : Nat → Int} {PP PP' : Nat → Nat → Int} {h : Nat} (e : wkS N fl PP (h + 1) = wkS N fl' PP' (h + 1)) : hhN N fl PP h = hhN N fl' PP' h := by
  unfold hhN
  rw [e]
theorem hpN_congr {N fl fl' : Nat → Int} {PP PP' : Nat → Nat → Int} {n : Nat} (hN : rvN N) (h1 : ∀ h i : Nat, h < n → ((i / 4 : Nat) : Int) < N 0 → ((i % 4 : Nat) : Int) < N 1 → PP h i = PP' h i) (h2 : ∀ h, h < n → fl (h / 24) = fl' (h / 24)) : hpN N fl PP n = hpN N fl' PP' n :=
  sm_eq (fun i hi => hhN_congr (wk_congr hN (i + 1) (fun h j hh => h1 h j (by omega)) (fun h hh => h2 h (by omega))))
