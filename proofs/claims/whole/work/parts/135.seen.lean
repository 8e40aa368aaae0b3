/-! nothing of a week hangs on what was SEEN or said -/
theorem stN_N {N M X B : Nat → Int} {f : Int} (hN : rvN N) (e : ∀ i, i < 160 → M i = N i) : stW M f X B = stW N f X B ∧ stB M f X B = stB N f X B ∧ ∀ c, c < 4 → stP M f X B c = stP N f X B c := by
  have c0 := hN.1
  have g : ∀ i, i / 4 < 10 → goN M f X B i = goN N f X B i := fun i hi => by
    have ev : vlN M (i / 4) = vlN N (i / 4) := e _ (by omega)
    simp only [goN, gon, x2N, ev, e 5 (by omega)]
  have y : ∀ i, i / 4 < 10 → y3N M f X B i = y3N N f X B i := fun i hi => by
    simp only [y3N, g i hi]
    have : x2N M f X B i = x2N N f X B i := by simp only [x2N]; rw [e 5 (by omega)]
    rw [this]
    by_cases h4 : 4 ≤ i
    · rw [if_pos h4, if_pos h4, g (i - 4) (by omega)]
    · rw [if_neg h4, if_neg h4]
  refine ⟨?_, ?_, fun c hc => ?_⟩
  · funext i
    simp only [stW, e 0 (by omega), e 1 (by omega)]
    by_cases ha : ((i / 4 : Nat) : Int) < N 0 ∧ ((i % 4 : Nat) : Int) < N 1
    · rw [if_pos ha, if_pos ha, y i (by omega), e _ (by omega)]
    · rw [if_neg ha, if_neg ha]
  · funext i
    simp only [stB, e 0 (by omega), e 1 (by omega)]
    by_cases ha : ((i / 4 : Nat) : Int) < N 0 ∧ ((i % 4 : Nat) : Int) < N 1
    · have : b2N M f B i = b2N N f B i := by simp only [b2N]; rw [e 5 (by omega)]
      rw [if_pos ha, if_pos ha, y i (by omega), e _ (by omega), this]
    · rw [if_neg ha, if_neg ha]
  · simp only [stP, e 0 (by omega)]
    by_cases h0 : N 0 = 0
    · rw [if_pos h0, if_pos h0]
    · rw [if_neg h0, if_neg h0, g _ (by omega)]
theorem wkS_N {N M fl : Nat → Int} {PP : Nat → Nat → Int} (hN : rvN N) (e : ∀ i, i < 160 → M i = N i) : ∀ h, wkS M fl PP h = wkS N fl PP h := by
  intro h
  induction h with
  | zero => rfl
  | succ h ih =>
    have w : wkX M fl PP h = wkX N fl PP h := by funext i; unfold wkX; rw [ih]
    apply Prod.ext
    · rw [wkS_W, wkS_W, (stN_N hN e).1, w, ih]
    · rw [wkS_B, wkS_B, (stN_N hN e).2.1, w, ih]
theorem poN_N {N M : Nat → Int} {w : Int} (e : ∀ i, i < 160 → M i = N i) : ∀ g i, g ≤ 6 → poN M w g i = poN N w g i := by
  intro g
  induction g with
  | zero => intro i _; rfl
  | succ g ih =>
    intro i hg
    simp only [poN, ih i (by omega)]
    rw [e _ (by omega), e _ (by omega)]
theorem wkF_N {a b c a' b' c' : Nat → Int} {wo : Int} {h : Nat} : ∀ K, (∀ k, k < K → a' k = a k ∧ b' k = b k ∧ c' k = c k) → wkF a' b' c' wo K h = wkF a b c wo K h := by
  intro K
  induction K with
  | zero => intro _; rfl
  | succ K ih =>
    intro hk
    obtain ⟨h1, h2, h3⟩ := hk K (by omega)
    simp only [wkF, h1, h2, h3, ih (fun k q => hk k (by omega))]
theorem wsN_N {N M : Nat → Int} {wo : Int} (hB : blN N) (e : ∀ i, i < 285 → M i = N i) : wsN M wo = wsN N wo := by
  have := hB.1
  funext h
  unfold wsN
  rw [e 160 (by omega)]
  exact wkF_N _ (fun k hk => ⟨e _ (by omega), e _ (by omega), e _ (by omega)⟩)
theorem sfN_N {N M W : Nat → Int} {u : Nat} (hN : rvN N) (hu : (u : Int) < N 3) (e : ∀ i, i < 160 → M i = N i) : ∀ c, c ≤ 4 → sfN M W u c = sfN N W u c := by
  have c0 := hN.1
  obtain ⟨u1, u2, _⟩ := hN.2.2.2.1 u hu
  intro c
  induction c with
  | zero => intro _; rfl
  | succ c ih =>
    intro hc
    simp only [sfN, ih (by omega)]
    rw [e (69 + 7 * u + c) (by omega), e (66 + 7 * u) (by omega), e (10 + 2 * (N (66 + 7 * u)).toNat) (by omega)]
theorem hmN_N {N M W : Nat → Int} {u h : Nat} (hN : rvN N) (hu : (u : Int) < N 3) (e : ∀ i, i < 160 → M i = N i) : hmN M W u h = hmN N W u h := by
  have c0 := hN.1
  simp only [hmN]
  rw [e (67 + 7 * u) (by omega), e (68 + 7 * u) (by omega), e 1 (by omega), sfN_N hN hu e _ (by omega)]
theorem bitsF_c {b c : Nat → Bool} : ∀ U, (∀ u, u < U → b u = c u) → bitsF b U = bitsF c U := by
  intro U
  induction U with
  | zero => intro _; rfl
  | succ U ih =>
    intro h
    simp only [bitsF, h U (by omega), ih (fun u q => h u (by omega))]
theorem hhN_N {N M fl : Nat → Int} {PP : Nat → Nat → Int} {h : Nat} (hN : rvN N) (e : ∀ i, i < 160 → M i = N i) : hhN M fl PP h = hhN N fl PP h := by
  unfold hhN
  rw [e 3 (by omega), wkS_N hN e]
  exact sm_eq (fun u hu => by rw [hmN_N hN (by omega) e])
theorem hpN_N {N M fl : Nat → Int} {PP : Nat → Nat → Int} {n : Nat} (hN : rvN N) (e : ∀ i, i < 160 → M i = N i) : hpN M fl PP n = hpN N fl PP n := sm_eq (fun _ _ => hhN_N hN e)
theorem floN_N {N M : Nat → Int} {PP : Nat → Nat → Int} {n : Nat} (hN : rvN N) (hn : n ≤ 168) (e : ∀ i, i < 160 → M i = N i) : wkS N (floN M) PP n = wkS N (floN N) PP n := wk_congr hN n (fun _ _ _ _ _ => rfl) (fun h hh => e _ (by omega))
theorem psX_N {σ : Me} {N M : Nat → Int} (hN : rvN N) (hB : blN N) (h : psX σ N 168) (e : ∀ i, i < 285 → M i = N i) : psX σ M 168 := by
  have c0 := hN.1
  have e' : ∀ i, i < 160 → M i = N i := fun i hi => e i (by omega)
  have pw : ppW M (wsN M (-1)) = ppW N (wsN N (-1)) := by
    funext h i
    unfold ppW
    rw [wsN_N hB e, e 2 (by omega), poN_N e' _ _ (by omega)]
  have wk : ∀ h, h ≤ 168 → wkS M (floN M) (ppW M (wsN M (-1))) h = wkS N (floN N) (ppW N (wsN N (-1))) h := fun h hh => by rw [pw, wkS_N hN e', floN_N hN hh e']
  obtain ⟨h1, h2, h3, h4⟩ := h
  refine ⟨fun h i hh hi => by rw [wk _ (by omega)]; exact h1 h i hh hi, fun h c hh hc => ?_, fun h hh => ⟨by rw [wsN_N hB e]; exact (h3 h hh).1, ?_⟩, fun h hh => ?_⟩
  · rw [e 1 (by omega)] at hc
    have q : wkP M (floN M) (ppW M (wsN M (-1))) h c = wkP N (floN N) (ppW N (wsN N (-1))) h c := by
      unfold wkP
      have w : wkX M (floN M) (ppW M (wsN M (-1))) h = wkX N (floN N) (ppW N (wsN N (-1))) h := by funext i; unfold wkX; rw [wk _ (by omega), pw]
      rw [(stN_N hN e').2.2 c (by omega), w, wk _ (by omega), show floN M (h / 24) = floN N (h / 24) from e _ (by omega)]
    rw [q]
    exact h2 h c hh hc
  · rw [wk _ (by omega), e 3 (by omega), bitsF_c (c := fun u => hmN N (wkS N (floN N) (ppW N (wsN N (-1))) (h + 1)).1 u h) _ (fun u hu => hmN_N hN (by omega) e')]
    exact (h3 h hh).2
  · rw [h4 h hh, hpN_N hN e', pw]
    exact (sm_eq (fun i hi => hhN_congr (floN_N hN (by omega) e'))).symm
/-- the class has changed its ORDER, or what was SEEN: the reference's row is N' -/
theorem Rl_now {σ τ μ ν : Me} (h : Rl σ μ) (hx : ∀ v, v < 256 ∨ 2304 ≤ v → v ≠ 10 → relX v = true ∨ relP v = true → τ v = σ v) (hm : agM μ ν) (hb : ν 22 0 = 1) (hs : sce τ (ν 128) (μ 384)) (hp : τ 10 0 = 1 ∨ (τ 10 0 = σ 10 0 ∧ ∀ i, i < 285 → ν 128 i = nwM μ i)) : Rl τ ν := by
  have hn : nwM ν = ν 128 := nwM_1 hb
  obtain ⟨⟨h1, h2, h3, h4, h5, h6⟩, h7⟩ := h
  have kp : ∀ k f, k < 2 → relX f = true → f < 256 → f ≠ 10 → kpR σ μ k f → kpR τ ν k f := by
    intro k f hk hf hf2 hf3 h
    obtain ⟨q1, q2⟩ := h
    refine ⟨by rw [hx f (Or.inl hf2) hf3 (Or.inl hf), hm _ (by decide)]; exact q1, ?_⟩
    rw [hm 576 (by decide), hm 256 (by decide), hm 512 (by decide)]
    rcases q2 with q2 | ⟨q2, q3⟩
    · exact Or.inl q2
    · refine Or.inr ⟨q2, sce_ag q3 (fun v v1 v2 => hx _ (Or.inr (by omega)) (by omega) (Or.inl ?_))⟩
      simp only [relX, Bool.or_eq_true, Bool.and_eq_true, decide_eq_true_eq, beq_iff_eq]
      omega
  refine ⟨⟨Or.inr hb, by rw [hn, hm 384 (by decide)]; exact hs, kp 0 _ (by decide) (by decide) (by decide) (by decide) h3, kp 1 _ (by decide) (by decide) (by decide) (by decide) h4, ?_, ?_⟩, ?_⟩
  · unfold tpR at *
    rw [hx 65 (by decide) (by decide) (by decide), hx 128 (by decide) (by decide) (by decide), hm _ (by decide), hm _ (by decide)]
    exact h5
  · unfold msR at *
    rw [hx 1 (by decide) (by decide) (by decide), hx 14 (by decide) (by decide) (by decide), hx 9664 (by decide) (by decide) (by decide), hx 15 (by decide) (by decide) (by decide), hx 9728 (by decide) (by decide) (by decide), hm 10 (by decide), hm 44 (by decide), hm 1408 (by decide), hm 45 (by decide), hm 1472 (by decide), hm 34 (by decide)]
    exact h6
  · rw [hn]
    obtain ⟨p1, p2, p3⟩ := h7
    rcases hp with hp | ⟨hp, hp2⟩
    · refine ⟨Or.inr hp, ?_, fun e => by omega⟩
      rw [hx 9472 (by decide) (by decide) (by decide)]
      exact p2
    · refine ⟨by rw [hp]; exact p1, by rw [hx 9472 (by decide) (by decide) (by decide)]; exact p2, fun e => ?_⟩
      have := psX_N h2.1.1 h2.1.2.1 (p3 (by rw [← hp]; exact e)) hp2
      unfold psX at *
      rw [hx 9152 (by decide) (by decide) (by decide), hx 9216 (by decide) (by decide) (by decide), hx 9280 (by decide) (by decide) (by decide), hx 9344 (by decide) (by decide) (by decide), hx 9408 (by decide) (by decide) (by decide), hx 9472 (by decide) (by decide) (by decide)]
      exact this
