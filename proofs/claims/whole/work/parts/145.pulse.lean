/-! pulse -/
def fiP (p : Nat → Int) : Nat → Int
  | 0 => -1
  | n + 1 => if fiP p n = -1 ∧ 0 < p n then n else fiP p n
def moP (p : Nat → Int) : Nat → Int
  | 0 => 0
  | n + 1 => if moP p n < p n then p n else moP p n
def buP (p : Nat → Int) : Nat → Int
  | 0 => -1
  | n + 1 => if moP p n < p n then n else buP p n
theorem puP_inv {p : Nat → Int} {z : Int} (hp : ∀ n, n < 168 → 0 ≤ p n ∧ p n ≤ z) (hz : 0 ≤ z) : ∀ n, n ≤ 168 → ((-1 ≤ fiP p n ∧ fiP p n < 168) ∧ (0 ≤ moP p n ∧ moP p n ≤ z)) ∧ ((buP p n = -1 ∧ moP p n = 0) ∨ (∃ q : Nat, buP p n = q ∧ q < n ∧ moP p n = p q ∧ 0 < p q)) := by
  intro n
  induction n with
  | zero => intro _; exact ⟨⟨by simp [fiP], by simp [moP, hz]⟩, Or.inl ⟨rfl, rfl⟩⟩
  | succ n ih =>
    intro hn
    obtain ⟨⟨i1, i2⟩, i3⟩ := ih (by omega)
    have h := hp n (by omega)
    refine ⟨⟨?_, ?_⟩, ?_⟩
    · simp only [fiP]; split <;> omega
    · simp only [moP]; split <;> omega
    · simp only [buP, moP]
      by_cases c : moP p n < p n
      · rw [if_pos c, if_pos c]
        exact Or.inr ⟨n, rfl, by omega, rfl, by omega⟩
      · rw [if_neg c, if_neg c]
        rcases i3 with ⟨a1, a2⟩ | ⟨q, a1, a2, a3, a4⟩
        · exact Or.inl ⟨a1, a2⟩
        · exact Or.inr ⟨q, a1, by omega, a3, a4⟩
theorem wkP_bd {N fl : Nat → Int} {PP : Nat → Nat → Int} {R C h c : Nat} (hN : rvN N) (hR : N 0 = R) (hC : N 1 = C) (hpp : ppN PP R) (hfl : flN fl) (hh : h < 168) (hc : c < C) : 0 ≤ wkP N fl PP h c ∧ wkP N fl PP h c ≤ 10078992 := by
  have h4 : C ≤ 4 := by have := hN.1.2.1; omega
  obtain ⟨x1, x2⟩ := wkX_bd hN hR hC hpp hfl hh
  have hf := hfl (h / 24) (by omega)
  unfold wkP stP
  rw [hR]
  by_cases h0 : R = 0
  · simp [h0]
  · have h0' : ¬ (R : Int) = 0 := by omega
    rw [if_neg h0', Int.toNat_natCast]
    have d1 : (4 * (R - 1) + c) / 4 = R - 1 := by omega
    have v := rvN_v hN hR (r := R - 1) (by omega)
    have q := x2N_nn (N := N) (f := fl (h / 24)) (x1 (4 * (R - 1) + c)).1 (x1 (4 * (R - 1) + c)).2
    have g := gon_bd (V := vlN N) (X := x2N N (fl (h / 24)) (wkX N fl PP h) (wkS N fl PP h).2) (f := fl (h / 24)) (i := 4 * (R - 1) + c) q.1 (by rw [d1]; unfold vlN; omega) hf.1
    have := x2 (4 * (R - 1) + c) (by omega) (by omega)
    unfold goN
    omega
theorem poN_0 {N : Nat → Int} : ∀ G i, G ≤ 32 → poN N 0 G i = 0 := by
  intro G
  induction G with
  | zero => intro i _; rfl
  | succ G ih =>
    intro i hg
    simp only [poN, ih i (by omega), bt_0 (show G < 32 by omega)]
    rfl
def ppP (r c : Nat) (n : Int) (h i : Nat) : Int := if h = 0 ∧ i = 4 * r + c then n else 0
theorem ppP_pp {r c R : Nat} {n : Int} (n0 : 0 ≤ n) (n1 : n ≤ 9999) : ppN (ppP r c n) R := by
  refine ⟨fun h i => by unfold ppP; split <;> omega, fun h k hk => ?_⟩
  have h1 : sm (fun q => ppP r c n h (4 * q + k)) R ≤ sm (fun q => if r + c / 4 = q then n else 0) R := by
    apply sm_le
    intro q hq
    simp only [ppP]
    split <;> split <;> omega
  have := sm_one (n := R) (k := r + c / 4) n0
  omega
theorem pulse_st {s : Me} {N : Nat → Int} {r c h : Nat} {n : Int} (hN : rvN N) (n0 : 0 ≤ n) (n1 : n ≤ 9999) (hr : (r : Int) < N 0) (hc : (c : Int) < N 1) (hX : rdX s N) (hv : ∀ q : Nat, (q : Int) < N 0 → s 8704 q = N (10 + 2 * q)) (hf : ∀ d, d < 7 → s 8768 d = N (110 + d)) (hw : ∀ h, h < 168 → s 8832 h = 0) (hh : h < 168)
    (hs : (h = 0 ∧ ∀ i, i < 40 → s 8896 i = (if i = 4 * r + c then n else 0) ∧ s 8960 i = 0) ∨ (1 ≤ h ∧ csX s N (floN N) (ppP r c n) h)) :
    ∃ τ, m_Week_pass [0, 0, h] s = some (0, τ) ∧ fr [8896, 8960, 9024] s τ ∧ csX τ N (floN N) (ppP r c n) (h + 1) ∧ τ 9024 c = wkP N (floN N) (ppP r c n) h c := by
  have hr0 := hN.1.1
  have hc0 := hN.1.2.1
  have hg0 := hN.1.2.2.1
  rcases hs with ⟨rfl, hs⟩ | ⟨h1, hs⟩
  · obtain ⟨R, hR⟩ : ∃ R : Nat, N 0 = R := ⟨(N 0).toNat, by omega⟩
    obtain ⟨C, hC⟩ : ∃ C : Nat, N 1 = C := ⟨(N 1).toNat, by omega⟩
    obtain ⟨G, hG⟩ : ∃ G : Nat, N 2 = G := ⟨(N 2).toNat, by omega⟩
    obtain ⟨x1, x2⟩ := wkX_bd (fl := floN N) hN hR hC (ppP_pp (r := r) (c := c) n0 n1) (floN_fl hN) hh
    have fb := floN_fl hN 0 (by omega)
    obtain ⟨τ, t1, t2, t3, t4⟩ := pass_ok (σ := s) (N := N) (X := wkX N (floN N) (ppP r c n) 0) (B := (wkS N (floN N) (ppP r c n) 0).2) (h := 0) (f := floN N 0) hN hX hR hC hG hh (fun q hq => hv q (by omega)) (hf 0 (by omega)) fb.1 fb.2
      (fun i hi _ _ => by
        rw [hw 0 hh, poN_0 _ _ (by omega), (hs i hi).1]
        simp [wkX, wkS, ppP])
      (fun i hi _ _ => by rw [(hs i hi).2]; rfl)
      (fun i hi hn => by
        refine ⟨?_, (hs i hi).2⟩
        rw [(hs i hi).1, if_neg (by omega)])
      (fun i => (x1 i).1) (fun i => (x1 i).2) x2
    refine ⟨τ, by simpa using t1, fun v hv => ?_, fun i hi => ?_, t4 c (by omega)⟩
    · simp only [List.mem_cons, List.not_mem_nil, or_false, not_or] at hv
      exact t2 v hv.1 hv.2.1 hv.2.2
    · rw [wkS_W, wkS_B]
      exact t3 i hi
  · have E : enX s N (floN N) (ppP r c n) 1 := ⟨hX, hv, hf, fun h i h1 hh _ _ => by
      rw [hw h hh, poN_0 _ _ (by omega)]
      unfold ppP
      rw [if_neg (by omega)]⟩
    obtain ⟨τ, t1, t2, t3, t4⟩ := pass_st hN (ppP_pp n0 n1) (floN_fl hN) E hs h1 hh
    exact ⟨τ, t1, t2, t3, t4 c hc⟩
