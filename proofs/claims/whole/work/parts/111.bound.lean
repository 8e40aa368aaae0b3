/-! bounds of a week -/
theorem x2N_nn {N X B : Nat → Int} {f : Int} {i : Nat} (hX : 0 ≤ X i) (hB : 0 ≤ B i) : 0 ≤ x2N N f X B i ∧ 0 ≤ b2N N f B i ∧ x2N N f X B i + b2N N f B i = X i + B i := by
  unfold x2N b2N
  split <;> omega
theorem y3N_nn {N X B : Nat → Int} {f : Int} {i : Nat} (hf : 0 ≤ f) (hX : ∀ i, 0 ≤ X i) (hB : ∀ i, 0 ≤ B i) (hv : 0 < vlN N (i / 4)) (hv2 : 4 ≤ i → 0 < vlN N ((i - 4) / 4)) : 0 ≤ y3N N f X B i := by
  obtain ⟨h1, h2, h3⟩ := x2N_nn (N := N) (f := f) (hX i) (hB i)
  have h4 := gon_bd (V := vlN N) (X := x2N N f X B) (f := f) (i := i) h1 hv hf
  unfold y3N goN
  split
  · rename_i h
    have h5 := gon_bd (V := vlN N) (X := x2N N f X B) (f := f) (i := i - 4) (x2N_nn (hX _) (hB _)).1 (hv2 h) hf
    omega
  · omega
theorem sink_bd {y s : Int} (hy : 0 ≤ y) (h0 : 0 ≤ s) (h1 : s ≤ 500) : 0 ≤ y * s / 1000 ∧ y * s / 1000 ≤ y := part_le hy h0 (by omega) (by omega)
theorem rvN_v {N : Nat → Int} (h : rvN N) {R : Nat} (hR : N 0 = R) {r : Nat} (hr : r < R) : 1 ≤ N (10 + 2 * r) ∧ N (10 + 2 * r) ≤ 9999 ∧ 0 ≤ N (11 + 2 * r) ∧ N (11 + 2 * r) ≤ 500 := h.2.1 r (by omega)
theorem st_nn {N X B : Nat → Int} {f : Int} {i : Nat} (hN : rvN N) (hf : 0 ≤ f) (hX : ∀ i, 0 ≤ X i) (hB : ∀ i, 0 ≤ B i) : 0 ≤ stW N f X B i ∧ 0 ≤ stB N f X B i := by
  unfold stW stB
  split
  · rename_i h
    have hv := hN.2.1 (i / 4) h.1
    have hy := y3N_nn (N := N) (f := f) (X := X) (B := B) (i := i) hf hX hB (by unfold vlN; omega) (fun h4 => by
      have := hN.2.1 ((i - 4) / 4) (by omega)
      unfold vlN; omega)
    have hs := sink_bd hy hv.2.2.1 hv.2.2.2
    have := x2N_nn (N := N) (f := f) (hX i) (hB i)
    omega
  · omega
theorem st_sum {N X B : Nat → Int} {f : Int} {R C c : Nat} (hN : rvN N) (hR : N 0 = R) (hC : N 1 = C) (hc : c < C) (hf : 0 ≤ f) (hX : ∀ i, 0 ≤ X i) (hB : ∀ i, 0 ≤ B i) : sm (fun r => stW N f X B (4 * r + c) + stB N f X B (4 * r + c)) R ≤ sm (fun r => X (4 * r + c) + B (4 * r + c)) R := by
  have h4 : C ≤ 4 := by have := hN.1.2.1; omega
  have e1 : sm (fun r => stW N f X B (4 * r + c) + stB N f X B (4 * r + c)) R = sm (fun r => (fun r => x2N N f X B (4 * r + c) + b2N N f B (4 * r + c)) r - (fun r => goN N f X B (4 * r + c)) r + (if r = 0 then 0 else (fun r => goN N f X B (4 * r + c)) (r - 1))) R := by
    apply sm_eq
    intro r hr
    have d1 : (4 * r + c) / 4 = r := by omega
    have d2 : (4 * r + c) % 4 = c := by omega
    have ha : (((4 * r + c) / 4 : Nat) : Int) < N 0 ∧ (((4 * r + c) % 4 : Nat) : Int) < N 1 := by rw [d1, d2, hR, hC]; omega
    simp only [stW, stB, if_pos ha, y3N]
    by_cases h0 : r = 0
    · subst h0
      have : ¬ 4 ≤ 4 * 0 + c := by omega
      simp [this]
      omega
    · have h1 : 4 ≤ 4 * r + c := by omega
      have h2 : 4 * r + c - 4 = 4 * (r - 1) + c := by omega
      simp [h0, h1, h2]
      omega
  rw [e1, sm_tel]
  have e2 : sm (fun r => x2N N f X B (4 * r + c) + b2N N f B (4 * r + c)) R = sm (fun r => X (4 * r + c) + B (4 * r + c)) R := sm_eq (fun i _ => (x2N_nn (hX _) (hB _)).2.2)
  rw [e2]
  by_cases h0 : R = 0
  · simp [h0]
  · have hv := rvN_v hN hR (r := R - 1) (by omega)
    have d1 : (4 * (R - 1) + c) / 4 = R - 1 := by omega
    have := gon_bd (V := vlN N) (X := x2N N f X B) (f := f) (i := 4 * (R - 1) + c) (x2N_nn (hX _) (hB _)).1 (by rw [d1]; unfold vlN; omega) hf
    simp only [h0, if_false, goN]
    omega
/-- what is put in is as told -/
def ppN (PP : Nat → Nat → Int) (R : Nat) : Prop := (∀ h i, 0 ≤ PP h i) ∧ ∀ h c, c < 4 → sm (fun r => PP h (4 * r + c)) R ≤ 59994
def flN (fl : Nat → Int) : Prop := ∀ d, d < 7 → 0 ≤ fl d ∧ fl d ≤ 9999
theorem wk_bd {N fl : Nat → Int} {PP : Nat → Nat → Int} {R C : Nat} (hN : rvN N) (hR : N 0 = R) (hC : N 1 = C) (hp : ppN PP R) (hf : flN fl) : ∀ h, h ≤ 168 → (∀ i, 0 ≤ (wkS N fl PP h).1 i ∧ 0 ≤ (wkS N fl PP h).2 i) ∧ ∀ c, c < C → sm (fun r => (wkS N fl PP h).1 (4 * r + c) + (wkS N fl PP h).2 (4 * r + c)) R ≤ 59994 * h := by
  intro h
  induction h with
  | zero =>
    intro _
    refine ⟨fun i => by simp [wkS], fun c hc => ?_⟩
    have : sm (fun r => (wkS N fl PP 0).1 (4 * r + c) + (wkS N fl PP 0).2 (4 * r + c)) R = 0 := by
      rw [sm_eq (g := fun _ => 0) (fun i _ => by simp [wkS]), sm_0]
    omega
  | succ h ih =>
    intro hh
    obtain ⟨i1, i2⟩ := ih (by omega)
    have hfd := hf (h / 24) (by omega)
    have hX : ∀ i, 0 ≤ wkX N fl PP h i := fun i => by
      have := i1 i; have := hp.1 h i
      unfold wkX; omega
    rw [wkS_W, wkS_B]
    refine ⟨fun i => st_nn hN hfd.1 hX (fun i => (i1 i).2), fun c hc => ?_⟩
    have h4 : C ≤ 4 := by have := hN.1.2.1; omega
    have s1 := st_sum (N := N) (f := fl (h / 24)) (X := wkX N fl PP h) (B := (wkS N fl PP h).2) hN hR hC hc hfd.1 hX (fun i => (i1 i).2)
    have s2 := i2 c hc
    have s3 := hp.2 h c (by omega)
    have s4 : sm (fun r => wkX N fl PP h (4 * r + c) + (wkS N fl PP h).2 (4 * r + c)) R = sm (fun r => (wkS N fl PP h).1 (4 * r + c) + (wkS N fl PP h).2 (4 * r + c)) R + sm (fun r => PP h (4 * r + c)) R := by
      rw [← sm_add]
      exact sm_eq (fun i _ => by unfold wkX; omega)
    omega
/-- what a cell has when all have put in -/
theorem wkX_bd {N fl : Nat → Int} {PP : Nat → Nat → Int} {R C : Nat} (hN : rvN N) (hR : N 0 = R) (hC : N 1 = C) (hp : ppN PP R) (hf : flN fl) {h : Nat} (hh : h < 168) : (∀ i, 0 ≤ wkX N fl PP h i ∧ 0 ≤ (wkS N fl PP h).2 i) ∧ ∀ i, i / 4 < R → i % 4 < C → wkX N fl PP h i + (wkS N fl PP h).2 i ≤ 10078992 := by
  obtain ⟨i1, i2⟩ := wk_bd hN hR hC hp hf h (by omega)
  have h4 : C ≤ 4 := by have := hN.1.2.1; omega
  refine ⟨fun i => ?_, fun i hr hc => ?_⟩
  · have := i1 i; have := hp.1 h i
    unfold wkX; omega
  · have s2 := i2 (i % 4) hc
    have s3 := hp.2 h (i % 4) (by omega)
    have g1 := sm_get (f := fun r => (wkS N fl PP h).1 (4 * r + i % 4) + (wkS N fl PP h).2 (4 * r + i % 4)) (n := R) (i := i / 4) (fun r _ => by have := i1 (4 * r + i % 4); omega) hr
    have g2 := sm_get (f := fun r => PP h (4 * r + i % 4)) (n := R) (i := i / 4) (fun r _ => hp.1 h _) hr
    have d : 4 * (i / 4) + i % 4 = i := by omega
    simp only [d] at g1 g2
    unfold wkX
    omega
theorem wkW_bd {N fl : Nat → Int} {PP : Nat → Nat → Int} {R C : Nat} (hN : rvN N) (hR : N 0 = R) (hC : N 1 = C) (hp : ppN PP R) (hf : flN fl) {h : Nat} (hh : h ≤ 168) : ∀ i, i / 4 < R → i % 4 < C → 0 ≤ (wkS N fl PP h).1 i ∧ (wkS N fl PP h).1 i ≤ 10078992 := by
  obtain ⟨i1, i2⟩ := wk_bd hN hR hC hp hf h hh
  have h4 : C ≤ 4 := by have := hN.1.2.1; omega
  intro i hr hc
  have s2 := i2 (i % 4) hc
  have g1 := sm_get (f := fun r => (wkS N fl PP h).1 (4 * r + i % 4) + (wkS N fl PP h).2 (4 * r + i % 4)) (n := R) (i := i / 4) (fun r _ => by have := i1 (4 * r + i % 4); omega) hr
  have d : 4 * (i / 4) + i % 4 = i := by omega
  simp only [d] at g1
  have := i1 i
  omega
theorem poN_pp {N : Nat → Int} {ws : Nat → Int} {R G : Nat} (hN : rvN N) (hG : N 2 = G) : ppN (fun h i => poN N (ws h) G i) R := by
  have key : ∀ (w : Int) (g : Nat), g ≤ G → (∀ i, 0 ≤ poN N w g i) ∧ ∀ c, c < 4 → sm (fun r => poN N w g (4 * r + c)) R ≤ 9999 * g := by
    intro w g
    induction g with
    | zero => exact fun _ => ⟨fun i => Int.le_refl _, fun c _ => by simp only [poN]; rw [sm_0]; omega⟩
    | succ g ih =>
      intro hg
      obtain ⟨i1, i2⟩ := ih (by omega)
      obtain ⟨g1, g2, g3, g4, g5⟩ := hN.2.2.1 g (by omega)
      refine ⟨fun i => ?_, fun c hc => ?_⟩
      · have := i1 i
        have := g5 (i % 4) (by omega)
        simp only [poN]
        split <;> omega
      · have := i2 c hc
        have g6 := g5 c hc
        simp only [poN]
        rw [sm_add]
        have h1 : sm (fun r => if bt w g = true ∧ N (30 + 6 * g) = (((4 * r + c) / 4 : Nat) : Int) then N (32 + 6 * g + (4 * r + c) % 4) else 0) R ≤ sm (fun r => if (N (30 + 6 * g)).toNat = r then N (32 + 6 * g + c) else 0) R := by
          apply sm_le
          intro r hr
          have d1 : (4 * r + c) / 4 = r := by omega
          have d2 : (4 * r + c) % 4 = c := by omega
          simp only [d1, d2]
          split <;> split <;> omega
        have h2 := sm_one (n := R) (k := (N (30 + 6 * g)).toNat) (x := N (32 + 6 * g + c)) g6.1
        omega
  have h6 : G ≤ 6 := by have := hN.1.2.2.1; omega
  refine ⟨fun h i => (key (ws h) G (Nat.le_refl _)).1 i, fun h c hc => ?_⟩
  have := (key (ws h) G (Nat.le_refl _)).2 c hc
  simp only
  omega
