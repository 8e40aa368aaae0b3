/-! the RIVER that is read: the class's draft, the reference's row 'read' -/
def fX (s s' : Me) : Prop := ∀ v, ¬ (68 ≤ v ∧ v ≤ 75) → ¬ (2368 ≤ v ∧ v < 3520) → s' v = s v
def fM (m m' : Me) : Prop := ∀ v, ¬ (5 ≤ v ∧ v ≤ 13) → v ≠ 192 → v ≠ 448 → v ≠ 23 → v ≠ 24 → m' v = m v
theorem fX_t {a b c : Me} (h : fX a b) (h' : fX b c) : fX a c := fun v h1 h2 => by rw [h' v h1 h2, h v h1 h2]
theorem fM_t {a b c : Me} (h : fM a b) (h' : fM b c) : fM a c := fun v h1 h2 h3 h4 h5 => by rw [h' v h1 h2 h3 h4 h5, h v h1 h2 h3 h4 h5]
theorem fX_fr {V : List Nat} {a b : Me} (h : fr V a b) (hV : V.all (fun v => (decide (68 ≤ v) && decide (v ≤ 75)) || (decide (2368 ≤ v) && decide (v < 3520))) = true) : fX a b := fun v h1 h2 => h v (fun hm => by
  have := List.all_eq_true.mp hV v hm
  simp only [Bool.or_eq_true, Bool.and_eq_true, decide_eq_true_eq] at this
  omega)
theorem fM_fr {V : List Nat} {a b : Me} (h : fr V a b) (hV : V.all (fun v => (decide (5 ≤ v) && decide (v ≤ 13)) || v == 192 || v == 448 || v == 23 || v == 24) = true) : fM a b := fun v h1 h2 h3 h4 h5 => h v (fun hm => by
  have := List.all_eq_true.mp hV v hm
  simp only [Bool.or_eq_true, Bool.and_eq_true, decide_eq_true_eq, beq_iff_eq] at this
  omega)
theorem fX_u {a : Me} {v i : Nat} {x : Int} (h : 2368 ≤ v ∧ v < 3520) : fX a (u2 a v i x) := fun w h1 h2 => by
  have : w ≠ v := by omega
  funext j; simp [u2, this]
theorem fM_u {a : Me} {v i : Nat} {x : Int} (h : v = 192 ∨ v = 448 ∨ v = 23 ∨ v = 24 ∨ (5 ≤ v ∧ v ≤ 13)) : fM a (u2 a v i x) := fun w h1 h2 h3 h4 h5 => by
  have : w ≠ v := by omega
  funext j; simp [u2, this]
/-- behind a FAULT -/
def Qt (s : Me) : Prop := (1 ≤ s 74 0 ∧ s 74 0 ≤ 4) ∧ KB s
theorem Qt_u {s : Me} {v i : Nat} {x : Int} (h : Qt s) (hv : 2368 ≤ v) : Qt (u2 s v i x) := by
  have : ∀ w, w < 2368 → u2 s v i x w = s w := fun w hw => by
    have : w ≠ v := by omega
    funext j; simp [u2, this]
  unfold Qt KB at *
  rw [this _ (by decide), this _ (by decide), this _ (by decide)]
  exact h
theorem Qt_FL {s m : Me} (h : FL s m) (k : KB s) : Qt s := ⟨by rw [h.1]; exact ⟨h.2.1, h.2.2.1⟩, k⟩
theorem FL_u {s m : Me} {v i : Nat} {x : Int} (h : FL s m) (hv : 2368 ≤ v) : FL (u2 s v i x) m := by
  have : ∀ w, w < 2368 → u2 s v i x w = s w := fun w hw => by
    have : w ≠ v := by omega
    funext j; simp [u2, this]
  unfold FL at *
  rw [this _ (by decide), this _ (by decide)]
  exact h
theorem num_q {s : Me} {a b : Int} (h : Qt s) : m_Tape_takeNumber [0, a, b] s = some (0, s) := takeNumber_q h.1 h.2.1
theorem TR_u {s m : Me} {y : Nat → Int} {L lim p v i : Nat} {x : Int} (h : TR s m y L lim p) (hv : 2368 ≤ v) : TR (u2 s v i x) m y L lim p := TR_fr h (fun w hw => by
  have : w ≠ v := by omega
  funext j; simp [u2, this]) (fun _ _ => rfl)
theorem TR_m {s m : Me} {y : Nat → Int} {L lim p v i : Nat} {x : Int} (h : TR s m y L lim p) (hv : v = 192 ∨ v = 448 ∨ v = 23 ∨ v = 24 ∨ v = 13) : TR s (u2 m v i x) y L lim p := TR_fr h (fun _ _ => rfl) (fun w hw => by
  have : w ≠ v := by omega
  funext j; simp [u2, this])
def drG (s : Me) (R : Nat → Int) (g : Nat) : Prop := s 2816 g = R (30 + 6 * g) ∧ s 2880 g = R (31 + 6 * g) ∧ (0 ≤ R (30 + 6 * g) ∧ R (30 + 6 * g) < R 0) ∧ (1 ≤ R (31 + 6 * g) ∧ R (31 + 6 * g) ≤ 24) ∧ ∀ c, c < 4 → s 2944 (g * 4 + c) = R (32 + 6 * g + c) ∧ 0 ≤ R (32 + 6 * g + c) ∧ R (32 + 6 * g + c) ≤ 9999
def drU (s : Me) (R : Nat → Int) (u : Nat) : Prop := s 3008 u = R (66 + 7 * u) ∧ s 3072 u = R (67 + 7 * u) ∧ s 3136 u = R (68 + 7 * u) ∧ (0 ≤ R (66 + 7 * u) ∧ R (66 + 7 * u) < R 0) ∧ (0 ≤ R (67 + 7 * u) ∧ R (67 + 7 * u) < R (68 + 7 * u) ∧ R (68 + 7 * u) ≤ 24) ∧ ∀ c, c < 4 → s 3200 (u * 4 + c) = R (69 + 7 * u + c) ∧ -1 ≤ R (69 + 7 * u + c) ∧ R (69 + 7 * u + c) ≤ 9999
def drR (s : Me) (R : Nat → Int) (r : Nat) : Prop := s 2688 r = R (10 + 2 * r) ∧ s 2752 r = R (11 + 2 * r) ∧ (1 ≤ R (10 + 2 * r) ∧ R (10 + 2 * r) ≤ 9999) ∧ (0 ≤ R (11 + 2 * r) ∧ R (11 + 2 * r) ≤ 500)
def drP (s : Me) (R : Nat → Int) (k : Nat) : Prop := s 3328 k = R (118 + 3 * k) ∧ s 3392 k = R (119 + 3 * k) ∧ s 3456 k = R (120 + 3 * k) ∧ (0 ≤ R (118 + 3 * k) ∧ R (118 + 3 * k) < R 1) ∧ (1 ≤ R (119 + 3 * k) ∧ R (119 + 3 * k) ≤ 9999) ∧ (0 ≤ R (120 + 3 * k) ∧ R (120 + 3 * k) ≤ 999)
def drF (s : Me) (R : Nat → Int) (hd : Int) (d : Nat) : Prop := (-1 ≤ s 3264 d ∧ s 3264 d ≤ 9999) ∧ R (110 + d) = (if s 3264 d = -1 then 100 else s 3264 d) ∧ (bt hd d = true ↔ s 3264 d ≠ -1)
def drD (s : Me) (R : Nat → Int) (had : Int) : Prop := (s 2383 0 = -1 ∧ R 5 = 9999 ∧ had = 0) ∨ (1 ≤ s 2383 0 ∧ s 2383 0 ≤ 9999 ∧ R 5 = s 2383 0 ∧ had = 1)
def drZ (s : Me) (R : Nat → Int) : Prop := (∀ g c : Nat, R 2 ≤ g → g < 6 → c < 4 → s 2944 (g * 4 + c) = 0) ∧ (∀ u c : Nat, R 3 ≤ u → u < 6 → c < 4 → s 3200 (u * 4 + c) = -1)
def drC (s : Me) (R : Nat → Int) : Prop := s 2369 0 = R 0 ∧ s 2372 0 = R 1 ∧ s 2373 0 = R 2 ∧ s 2377 0 = R 3 ∧ s 2384 0 = R 4
/-- all but the NAMES -/
def DB (s : Me) (R : Nat → Int) (had hd : Int) : Prop := ctN R ∧ (0 ≤ R 4 ∧ R 4 ≤ 12) ∧ drC s R ∧ (∀ r : Nat, (r : Int) < R 0 → drR s R r) ∧ (∀ g : Nat, (g : Int) < R 2 → drG s R g) ∧ (∀ u : Nat, (u : Int) < R 3 → drU s R u) ∧ (∀ d, d < 7 → drF s R hd d) ∧ drD s R had ∧ (∀ k : Nat, (k : Int) < R 4 → drP s R k) ∧ drZ s R
def DR (s m : Me) : Prop := DB s (m 192) (m 23 0) (m 24 0) ∧ nm0 (shf s 2112) (m 192) (m 448)
theorem DB_s {s t : Me} {R : Nat → Int} {had hd : Int} (h : DB s R had hd) (f : ∀ v, 2368 ≤ v → v < 3520 → ¬ (2432 ≤ v ∧ v < 2688) → t v = s v) : DB t R had hd := by
  unfold DB drC drR drG drU drF drD drP drZ at *
  rw [f 2369 (by decide) (by decide) (by decide), f 2372 (by decide) (by decide) (by decide), f 2373 (by decide) (by decide) (by decide), f 2377 (by decide) (by decide) (by decide), f 2384 (by decide) (by decide) (by decide), f 2688 (by decide) (by decide) (by decide), f 2752 (by decide) (by decide) (by decide), f 2816 (by decide) (by decide) (by decide), f 2880 (by decide) (by decide) (by decide), f 2944 (by decide) (by decide) (by decide), f 3008 (by decide) (by decide) (by decide), f 3072 (by decide) (by decide) (by decide), f 3136 (by decide) (by decide) (by decide), f 3200 (by decide) (by decide) (by decide), f 3264 (by decide) (by decide) (by decide), f 2383 (by decide) (by decide) (by decide), f 3328 (by decide) (by decide) (by decide), f 3392 (by decide) (by decide) (by decide), f 3456 (by decide) (by decide) (by decide)]
  exact h
theorem nm_s {s t : Me} {N NM : Nat → Int} (h : nm0 (shf s 2112) N NM) (f : ∀ v, 2432 ≤ v → v < 2688 → t v = s v) : nm0 (shf t 2112) N NM := by
  unfold nm0 shf at *
  rw [f _ (by decide) (by decide), f _ (by decide) (by decide), f _ (by decide) (by decide), f _ (by decide) (by decide)]
  exact h
theorem nm_N {s : Me} {N N' NM : Nat → Int} (h : nm0 s N NM) (e : ∀ k, k < 4 → N' k = N k) : nm0 s N' NM := by
  obtain ⟨h1, h2, h3, h4⟩ := h
  unfold nm0
  rw [e 0 (by omega), e 1 (by omega), e 2 (by omega), e 3 (by omega)]
  refine ⟨h1, fun i hi => ?_, fun k m hk hm => h3 k m hk (by rw [← e k hk]; exact hm), h4⟩
  obtain ⟨a1, a2, a3, a4, a5⟩ := h2 i hi
  exact ⟨a1, a2, a3, by rw [e _ (by omega)]; exact a4, a5⟩
theorem DR_fr {s m s' m' : Me} (h : DR s m) (f : ∀ v, 2368 ≤ v → v < 3520 → s' v = s v) (g : ∀ v, v = 192 ∨ v = 448 ∨ v = 23 ∨ v = 24 → m' v = m v) : DR s' m' := by
  unfold DR
  rw [g 192 (by decide), g 448 (by decide), g 23 (by decide), g 24 (by decide)]
  exact ⟨DB_s h.1 (fun v a b _ => f v a b), nm_s h.2 (fun v a b => f v (by omega) (by omega))⟩
theorem tx_d {s s' : Me} (h : fr txV s s') : ∀ v, 2368 ≤ v → s' v = s v := fun v hv => h v (by simp [txV]; omega)
theorem trx_d {s s' : Me} (h : fr trX s s') : ∀ v, 2368 ≤ v → s' v = s v := fun v hv => h v (by simp [trX]; omega)
theorem tm_d {m m' : Me} (h : fr tmV m m') : ∀ v, 13 ≤ v → m' v = m v := fun v hv => h v (by simp [tmV]; omega)
theorem trm_d {m m' : Me} (h : fr trM m m') : ∀ v, 14 ≤ v → m' v = m v := fun v hv => h v (by simp [trM]; omega)
/-- one LINE, ahead of its end -/
def lnO (f g : FM) (w : Nat) : Prop := ∀ (s m : Me) (y : Nat → Int) (L lim p : Nat), TR s m y L lim p → DR s m → atW m w = true → ∃ s' m', f [0, 0] s = some (0, s') ∧ fX s s' ∧ fM m m' ∧ ((∃ p', g [0] m = some (1, m') ∧ TR s' m' y L lim p' ∧ p < p' ∧ DR s' m') ∨ (g [0] m = some (0, m') ∧ FL s' m'))
theorem atW_k {s m : Me} {y : Nat → Int} {L lim p w : Nat} (h : TR s m y L lim p) (ha : atW m w = true) : s 69 0 = 1 ∧ m 7 0 = 2 := by
  simp only [atW, decide_eq_true_eq] at ha
  exact ⟨((TK_b h.2).2.2.1).mpr ha.1, ha.1⟩
/-- too many of them -/
theorem many_bad {s m : Me} {y : Nat → Int} {L lim p w : Nat} {k : Int} (h : TR s m y L lim p) (ha : atW m w = true) (hk : 1 ≤ k ∧ k ≤ 4) : m_Tape_refuse [0, k] s = some (0, rfX s p k) ∧ m_M_bad [0, k] m = some (0, rfM m p k) ∧ FL (rfX s p k) (rfM m p k) := by
  obtain ⟨a1, a2⟩ := atW_k h ha
  exact ⟨refuse_0 h.1.2.2.2.2.2.2.2.1 h.2.1, bad_eq h.2.2.1 (by omega) (fun q => by omega), FL_rf hk (TR_p h)⟩
