/-! calls: what they share -/
def rg (x : Int) : Prop := -2147483648 ≤ x ∧ x < 2147483648
def opR (f g : Option (Int × Me)) : Prop := ∃ a b σ' μ', f = some (a, σ') ∧ g = some (b, μ') ∧ w32 a = w32 b ∧ Rl σ' μ'
theorem opR_mk {f g : Option (Int × Me)} {a : Int} {σ' μ' : Me} (hf : f = some (a, σ')) (hg : g = some (a, μ')) (hr : Rl σ' μ') : opR f g := ⟨a, a, σ', μ', hf, hg, rfl, hr⟩
theorem Rl_mu {σ μ ν : Me} (h : Rl σ μ) (hm : agM μ ν) (hb : ν 22 0 = 0 ∨ ν 22 0 = 1) (hn : nwM ν = nwM μ) : Rl σ ν := ⟨RA_ag h.1 (fun _ _ => rfl) hm hb hn, by rw [hn]; exact h.2⟩
/-- the reference has set 'thrown', and laid its row -/
theorem rl_pre {σ μ : Me} (h : Rl σ μ) : ∃ ν, m_M_lay [0] (u2 μ 0 0 0) = some (0, ν) ∧ ν 128 = nwM μ ∧ ν 22 0 = 1 ∧ ν 0 0 = 0 ∧ fr [128, 22, 0] μ ν ∧ nwM ν = nwM μ ∧ Rl σ ν := by
  have e0 : ∀ v, v ≠ 0 → u2 μ 0 0 0 v = μ v := fun v hv => by funext i; simp [u2, hv]
  have en : nwM (u2 μ 0 0 0) = nwM μ := by
    unfold nwM
    rw [e0 _ (by decide), e0 _ (by decide)]
  obtain ⟨ν, p1, p2, p3, p4⟩ := M_lay_ok (μ := u2 μ 0 0 0) (by rw [e0 _ (by decide)]; exact h.1.1)
  rw [en] at p3
  have f : fr [128, 22, 0] μ ν := by
    intro v hv
    simp only [List.mem_cons, List.not_mem_nil, or_false, not_or] at hv
    rw [p2 v (by simp [hv]), e0 v hv.2.2]
  have n : nwM ν = nwM μ := by rw [nwM_1 p4, p3]
  exact ⟨ν, p1, p3, p4, by rw [p2 _ (by decide)]; simp [u2], f, n, Rl_mu h (agM_fr f (by decide)) (Or.inr p4) n⟩
/-- the reference lays its row -/
theorem rl_lay {σ μ : Me} (h : Rl σ μ) : ∃ ν, m_M_lay [0] μ = some (0, ν) ∧ ν 128 = nwM μ ∧ ν 22 0 = 1 ∧ fr [128, 22] μ ν ∧ nwM ν = nwM μ ∧ Rl σ ν := by
  obtain ⟨ν, p1, p2, p3, p4⟩ := M_lay_ok h.1.1
  have n : nwM ν = nwM μ := by rw [nwM_1 p4, p3]
  exact ⟨ν, p1, p3, p4, p2, n, Rl_mu h (agM_fr p2 (by decide)) (Or.inr p4) n⟩
theorem rl_thr {σ μ : Me} {x : Int} (h : Rl σ μ) : Rl σ (u2 μ 0 0 x) := by
  have e0 : ∀ v, v ≠ 0 → u2 μ 0 0 x v = μ v := fun v hv => by funext i; simp [u2, hv]
  refine Rl_mu h (fun v hv => e0 v (fun e => by subst e; revert hv; decide)) (by rw [e0 _ (by decide)]; exact h.1.1) ?_
  unfold nwM
  rw [e0 _ (by decide), e0 _ (by decide)]
theorem tsP_in {lo z : Int} {cs : List SM} {df q : SM} {ρ : Lo} {s : Me} (k : Nat) (h : w32 z = lo + k) (hk : cs[k]? = some q) : tsP lo cs df ρ s z = q ρ s := by
  have hl : k < cs.length := by
    rcases Nat.lt_or_ge k cs.length with h1 | h1
    · exact h1
    · rw [List.getElem?_eq_none h1] at hk
      cases hk
  unfold tsP
  rw [if_pos (by omega), h, show (lo + (k : Int) - lo).toNat = k by omega, hk]
theorem tsP_out {lo z : Int} {cs : List SM} {df : SM} {ρ : Lo} {s : Me} (h : ¬ (lo ≤ w32 z ∧ w32 z < lo + cs.length)) : tsP lo cs df ρ s z = df ρ s := by
  unfold tsP
  rw [if_neg h]
theorem M_isReach_eq {x : Int} {σ : Me} : m_M_isReach [0, x] σ = some (z1 (decide (0 ≤ w32 x ∧ w32 x < w32 (σ 128 0))), σ) := by
  by_cases h1 : w32 x < 0
  · have h2 : ¬ 0 ≤ w32 x := by omega
    simp [-Option.bind_some, m_M_isReach, b_M_isReach, sq, stS, exS, inS, pfS, pzS, poS, asS, aoS, ifS, brS, ctS, rtS, rvS, thS, swS, skS, cE, vE, gE, o1, o2, thE, dvE, rmE, dlE, ldE, kE, clE, aE, cB, zB, nB, andB, orB, tkB, cmpI, ob_some, addI, subI, mulI, i2lI, l2iI, minI, maxI, idI, mthF, mthZ, ini, up, ok_some, ok_bind, ok_ite, z1, M_reaches_eq, w3_0, h1, h2]
  · have h2 : 0 ≤ w32 x := by omega
    by_cases h3 : w32 (σ 128 0) ≤ w32 x
    · have h4 : ¬ w32 x < w32 (σ 128 0) := by omega
      simp [-Option.bind_some, m_M_isReach, b_M_isReach, sq, stS, exS, inS, pfS, pzS, poS, asS, aoS, ifS, brS, ctS, rtS, rvS, thS, swS, skS, cE, vE, gE, o1, o2, thE, dvE, rmE, dlE, ldE, kE, clE, aE, cB, zB, nB, andB, orB, tkB, cmpI, ob_some, addI, subI, mulI, i2lI, l2iI, minI, maxI, idI, mthF, mthZ, ini, up, ok_some, ok_bind, ok_ite, z1, M_reaches_eq, w3_0, h1, h2, h3, h4]
    · have h4 : w32 x < w32 (σ 128 0) := by omega
      simp [-Option.bind_some, m_M_isReach, b_M_isReach, sq, stS, exS, inS, pfS, pzS, poS, asS, aoS, ifS, brS, ctS, rtS, rvS, thS, swS, skS, cE, vE, gE, o1, o2, thE, dvE, rmE, dlE, ldE, kE, clE, aE, cB, zB, nB, andB, orB, tkB, cmpI, ob_some, addI, subI, mulI, i2lI, l2iI, minI, maxI, idI, mthF, mthZ, ini, up, ok_some, ok_bind, ok_ite, z1, M_reaches_eq, w3_0, h1, h2, h3, h4]
theorem M_isColour_eq {x : Int} {σ : Me} : m_M_isColour [0, x] σ = some (z1 (decide (0 ≤ w32 x ∧ w32 x < w32 (σ 128 1))), σ) := by
  by_cases h1 : w32 x < 0
  · have h2 : ¬ 0 ≤ w32 x := by omega
    simp [-Option.bind_some, m_M_isColour, b_M_isColour, sq, stS, exS, inS, pfS, pzS, poS, asS, aoS, ifS, brS, ctS, rtS, rvS, thS, swS, skS, cE, vE, gE, o1, o2, thE, dvE, rmE, dlE, ldE, kE, clE, aE, cB, zB, nB, andB, orB, tkB, cmpI, ob_some, addI, subI, mulI, i2lI, l2iI, minI, maxI, idI, mthF, mthZ, ini, up, ok_some, ok_bind, ok_ite, z1, M_colours_eq, w3_0, h1, h2]
  · have h2 : 0 ≤ w32 x := by omega
    by_cases h3 : w32 (σ 128 1) ≤ w32 x
    · have h4 : ¬ w32 x < w32 (σ 128 1) := by omega
      simp [-Option.bind_some, m_M_isColour, b_M_isColour, sq, stS, exS, inS, pfS, pzS, poS, asS, aoS, ifS, brS, ctS, rtS, rvS, thS, swS, skS, cE, vE, gE, o1, o2, thE, dvE, rmE, dlE, ldE, kE, clE, aE, cB, zB, nB, andB, orB, tkB, cmpI, ob_some, addI, subI, mulI, i2lI, l2iI, minI, maxI, idI, mthF, mthZ, ini, up, ok_some, ok_bind, ok_ite, z1, M_colours_eq, w3_0, h1, h2, h3, h4]
    · have h4 : w32 x < w32 (σ 128 1) := by omega
      simp [-Option.bind_some, m_M_isColour, b_M_isColour, sq, stS, exS, inS, pfS, pzS, poS, asS, aoS, ifS, brS, ctS, rtS, rvS, thS, swS, skS, cE, vE, gE, o1, o2, thE, dvE, rmE, dlE, ldE, kE, clE, aE, cB, zB, nB, andB, orB, tkB, cmpI, ob_some, addI, subI, mulI, i2lI, l2iI, minI, maxI, idI, mthF, mthZ, ini, up, ok_some, ok_bind, ok_ite, z1, M_colours_eq, w3_0, h1, h2, h3, h4]
theorem M_isGuild_eq {x : Int} {σ : Me} : m_M_isGuild [0, x] σ = some (z1 (decide (0 ≤ w32 x ∧ w32 x < w32 (σ 128 2))), σ) := by
  by_cases h1 : w32 x < 0
  · have h2 : ¬ 0 ≤ w32 x := by omega
    simp [-Option.bind_some, m_M_isGuild, b_M_isGuild, sq, stS, exS, inS, pfS, pzS, poS, asS, aoS, ifS, brS, ctS, rtS, rvS, thS, swS, skS, cE, vE, gE, o1, o2, thE, dvE, rmE, dlE, ldE, kE, clE, aE, cB, zB, nB, andB, orB, tkB, cmpI, ob_some, addI, subI, mulI, i2lI, l2iI, minI, maxI, idI, mthF, mthZ, ini, up, ok_some, ok_bind, ok_ite, z1, M_guilds_eq, w3_0, h1, h2]
  · have h2 : 0 ≤ w32 x := by omega
    by_cases h3 : w32 (σ 128 2) ≤ w32 x
    · have h4 : ¬ w32 x < w32 (σ 128 2) := by omega
      simp [-Option.bind_some, m_M_isGuild, b_M_isGuild, sq, stS, exS, inS, pfS, pzS, poS, asS, aoS, ifS, brS, ctS, rtS, rvS, thS, swS, skS, cE, vE, gE, o1, o2, thE, dvE, rmE, dlE, ldE, kE, clE, aE, cB, zB, nB, andB, orB, tkB, cmpI, ob_some, addI, subI, mulI, i2lI, l2iI, minI, maxI, idI, mthF, mthZ, ini, up, ok_some, ok_bind, ok_ite, z1, M_guilds_eq, w3_0, h1, h2, h3, h4]
    · have h4 : w32 x < w32 (σ 128 2) := by omega
      simp [-Option.bind_some, m_M_isGuild, b_M_isGuild, sq, stS, exS, inS, pfS, pzS, poS, asS, aoS, ifS, brS, ctS, rtS, rvS, thS, swS, skS, cE, vE, gE, o1, o2, thE, dvE, rmE, dlE, ldE, kE, clE, aE, cB, zB, nB, andB, orB, tkB, cmpI, ob_some, addI, subI, mulI, i2lI, l2iI, minI, maxI, idI, mthF, mthZ, ini, up, ok_some, ok_bind, ok_ite, z1, M_guilds_eq, w3_0, h1, h2, h3, h4]
theorem M_isUser_eq {x : Int} {σ : Me} : m_M_isUser [0, x] σ = some (z1 (decide (0 ≤ w32 x ∧ w32 x < w32 (σ 128 3))), σ) := by
  by_cases h1 : w32 x < 0
  · have h2 : ¬ 0 ≤ w32 x := by omega
    simp [-Option.bind_some, m_M_isUser, b_M_isUser, sq, stS, exS, inS, pfS, pzS, poS, asS, aoS, ifS, brS, ctS, rtS, rvS, thS, swS, skS, cE, vE, gE, o1, o2, thE, dvE, rmE, dlE, ldE, kE, clE, aE, cB, zB, nB, andB, orB, tkB, cmpI, ob_some, addI, subI, mulI, i2lI, l2iI, minI, maxI, idI, mthF, mthZ, ini, up, ok_some, ok_bind, ok_ite, z1, M_users_eq, w3_0, h1, h2]
  · have h2 : 0 ≤ w32 x := by omega
    by_cases h3 : w32 (σ 128 3) ≤ w32 x
    · have h4 : ¬ w32 x < w32 (σ 128 3) := by omega
      simp [-Option.bind_some, m_M_isUser, b_M_isUser, sq, stS, exS, inS, pfS, pzS, poS, asS, aoS, ifS, brS, ctS, rtS, rvS, thS, swS, skS, cE, vE, gE, o1, o2, thE, dvE, rmE, dlE, ldE, kE, clE, aE, cB, zB, nB, andB, orB, tkB, cmpI, ob_some, addI, subI, mulI, i2lI, l2iI, minI, maxI, idI, mthF, mthZ, ini, up, ok_some, ok_bind, ok_ite, z1, M_users_eq, w3_0, h1, h2, h3, h4]
    · have h4 : w32 x < w32 (σ 128 3) := by omega
      simp [-Option.bind_some, m_M_isUser, b_M_isUser, sq, stS, exS, inS, pfS, pzS, poS, asS, aoS, ifS, brS, ctS, rtS, rvS, thS, swS, skS, cE, vE, gE, o1, o2, thE, dvE, rmE, dlE, ldE, kE, clE, aE, cB, zB, nB, andB, orB, tkB, cmpI, ob_some, addI, subI, mulI, i2lI, l2iI, minI, maxI, idI, mthF, mthZ, ini, up, ok_some, ok_bind, ok_ite, z1, M_users_eq, w3_0, h1, h2, h3, h4]
theorem M_isHour_eq {x : Int} {σ : Me} : m_M_isHour [x] σ = some (z1 (decide (0 ≤ w32 x ∧ w32 x < 168)), σ) := by
  by_cases h1 : w32 x < 0
  · have h2 : ¬ 0 ≤ w32 x := by omega
    simp [-Option.bind_some, m_M_isHour, b_M_isHour, sq, stS, exS, inS, pfS, pzS, poS, asS, aoS, ifS, brS, ctS, rtS, rvS, thS, swS, skS, cE, vE, gE, o1, o2, thE, dvE, rmE, dlE, ldE, kE, clE, aE, cB, zB, nB, andB, orB, tkB, cmpI, ob_some, addI, subI, mulI, i2lI, l2iI, minI, maxI, idI, mthF, mthZ, ini, up, ok_some, ok_bind, ok_ite, z1, w3_0, w3_168, h1, h2]
  · have h2 : 0 ≤ w32 x := by omega
    by_cases h3 : 168 ≤ w32 x
    · have h4 : ¬ w32 x < 168 := by omega
      simp [-Option.bind_some, m_M_isHour, b_M_isHour, sq, stS, exS, inS, pfS, pzS, poS, asS, aoS, ifS, brS, ctS, rtS, rvS, thS, swS, skS, cE, vE, gE, o1, o2, thE, dvE, rmE, dlE, ldE, kE, clE, aE, cB, zB, nB, andB, orB, tkB, cmpI, ob_some, addI, subI, mulI, i2lI, l2iI, minI, maxI, idI, mthF, mthZ, ini, up, ok_some, ok_bind, ok_ite, z1, w3_0, w3_168, h1, h2, h3, h4]
    · have h4 : w32 x < 168 := by omega
      simp [-Option.bind_some, m_M_isHour, b_M_isHour, sq, stS, exS, inS, pfS, pzS, poS, asS, aoS, ifS, brS, ctS, rtS, rvS, thS, swS, skS, cE, vE, gE, o1, o2, thE, dvE, rmE, dlE, ldE, kE, clE, aE, cB, zB, nB, andB, orB, tkB, cmpI, ob_some, addI, subI, mulI, i2lI, l2iI, minI, maxI, idI, mthF, mthZ, ini, up, ok_some, ok_bind, ok_ite, z1, w3_0, w3_168, h1, h2, h3, h4]
-- what a scene keeps when its later rows change
def boX (s : Me) (N : Nat → Int) : Prop := s 1408 0 = N 160 ∧ ∀ k : Nat, (k : Int) < N 160 → s 1472 k = N (161 + 3 * k) ∧ s 1536 k = N (162 + 3 * k) ∧ s 1600 k = N (163 + 3 * k)
def siX (s : Me) (N : Nat → Int) : Prop := s 1664 0 = N 285 ∧ ∀ k : Nat, (k : Int) < N 285 → s 1728 k = N (286 + 3 * k) ∧ s 1792 k = N (287 + 3 * k) ∧ s 1856 k = N (288 + 3 * k)
theorem rvN_lo {N M : Nat → Int} (h : rvN N) (e : ∀ i, i < 160 → M i = N i) : rvN M := by
  obtain ⟨h1, h2, h3, h4, h5, h6⟩ := h
  unfold rvN
  rw [e 0 (by omega), e 1 (by omega), e 2 (by omega), e 3 (by omega), e 4 (by omega), e 5 (by omega)]
  refine ⟨h1, fun r hr => ?_, fun g hg => ?_, fun u hu => ?_, fun d hd => ?_, fun k hk => ?_⟩
  · rw [e _ (by omega), e _ (by omega)]; exact h2 r hr
  · obtain ⟨a1, a2, a3, a4, a5⟩ := h3 g hg
    rw [e _ (by omega), e _ (by omega)]
    exact ⟨a1, a2, a3, a4, fun c hc => by rw [e _ (by omega)]; exact a5 c hc⟩
  · obtain ⟨a1, a2, a3, a4, a5, a6⟩ := h4 u hu
    rw [e _ (by omega), e _ (by omega), e _ (by omega)]
    exact ⟨a1, a2, a3, a4, a5, fun c hc => by rw [e _ (by omega)]; exact a6 c hc⟩
  · rw [e _ (by omega)]; exact h5 d hd
  · rw [e _ (by omega), e _ (by omega), e _ (by omega)]; exact h6 k hk
theorem rdX_ag {s t : Me} {N M : Nat → Int} (hN : rvN N) (h : rdX s N) (e : ∀ i, i < 160 → M i = N i) (f : ∀ v, 256 ≤ v → v < 1408 → t v = s v) : rdX t M := by
  obtain ⟨⟨h1, h2, h3, h4, h5⟩, h6, h7, h8⟩ := h
  have c0 := hN.1
  unfold rdX
  rw [e 0 (by omega), e 1 (by omega), e 2 (by omega), e 3 (by omega), e 5 (by omega), f _ (by decide) (by decide), f _ (by decide) (by decide), f _ (by decide) (by decide), f _ (by decide) (by decide), f _ (by decide) (by decide), f _ (by decide) (by decide), f _ (by decide) (by decide), f _ (by decide) (by decide), f _ (by decide) (by decide), f _ (by decide) (by decide), f _ (by decide) (by decide), f _ (by decide) (by decide)]
  refine ⟨⟨h1, h2, h3, h4, h5⟩, fun r hr => by rw [e _ (by omega)]; exact h6 r hr, fun g hg => ?_, fun u hu => ?_⟩
  · obtain ⟨a1, a2⟩ := h7 g hg
    exact ⟨by rw [e _ (by omega)]; exact a1, fun c hc => by rw [e _ (by omega)]; exact a2 c hc⟩
  · obtain ⟨a1, a2, a3, a4⟩ := h8 u hu
    exact ⟨by rw [e _ (by omega)]; exact a1, by rw [e _ (by omega)]; exact a2, by rw [e _ (by omega)]; exact a3, fun c hc => by rw [e _ (by omega)]; exact a4 c hc⟩
theorem nm0_ag {s t : Me} {N M NM : Nat → Int} (hN : rvN N) (h : nm0 s N NM) (e : ∀ i, i < 160 → M i = N i) (f : ∀ v, 256 ≤ v → v < 1408 → t v = s v) : nm0 t M NM := by
  obtain ⟨h1, h2, h3, h4⟩ := h
  unfold nm0
  rw [e 0 (by omega), e 1 (by omega), e 2 (by omega), e 3 (by omega), f _ (by decide) (by decide), f _ (by decide) (by decide), f _ (by decide) (by decide), f _ (by decide) (by decide)]
  refine ⟨h1, fun i hi => ?_, fun k m hk hm => ?_, h4⟩
  · obtain ⟨a1, a2, a3, a4, a5⟩ := h2 i hi
    exact ⟨a1, a2, a3, by rw [e _ (by omega)]; exact a4, a5⟩
  · rw [e k (by omega)] at hm
    exact h3 k m hk hm
theorem sce_upd {s t : Me} {N M NM : Nat → Int} (h : sce s N NM) (e : ∀ i, i < 160 → M i = N i) (f : ∀ v, 256 ≤ v → v < 1408 → t v = s v) (hb : blN M) (ho : boX t M) (hg : sgN M) (hi : siX t M) (he : se0 t M) : sce t M NM := by
  obtain ⟨⟨n1, n2, n3⟩, ⟨s1, s2, s3, s4, s5, s6⟩, h3, h4⟩ := h
  have c0 := n1.1
  refine ⟨⟨rvN_lo n1 e, hb, hg⟩, ⟨rdX_ag n1 s1 e f, ⟨?_, ?_, ho⟩, ?_, ?_, ?_, hi⟩, nm0_ag n1 h3 e f, he⟩
  · intro r hr
    rw [e 0 (by omega)] at hr
    rw [f _ (by decide) (by decide), e _ (by omega)]
    exact s2.1 r hr
  · intro d hd
    rw [f _ (by decide) (by decide), e _ (by omega)]
    exact s2.2.1 d hd
  · rw [f _ (by decide) (by decide), e _ (by omega)]; exact s3
  · intro g hg
    rw [e 2 (by omega)] at hg
    rw [f _ (by decide) (by decide), e _ (by omega)]
    exact s4 g hg
  · intro k hk
    rw [e 4 (by omega)] at hk
    rw [f _ (by decide) (by decide), f _ (by decide) (by decide), f _ (by decide) (by decide), e _ (by omega), e _ (by omega), e _ (by omega)]
    exact s5 k hk
theorem evT_lo {N M : Nat → Int} {V : Int → Int → Int → Int → Int → Bool} {T : Nat} (hT : ∀ k, k ≤ T → ndO N N k) (e : ∀ i, 350 ≤ i → M i = N i) : ∀ f k, k ≤ T → evT M V f k = evT N V f k := by
  intro f
  induction f with
  | zero => intro k _; rfl
  | succ f ih =>
    intro k hk
    simp only [evT]
    rw [e _ (by omega), e _ (by omega), e _ (by omega), e _ (by omega)]
    rcases hT k hk with ⟨h1, h2, h3, h4⟩ | h
    · rcases h1 with h1 | h1 | h1
      · simp only [h1, if_true]
        rw [ih _ (by omega)]
      · have := h4 (by omega)
        simp only [h1]
        rw [ih _ (by omega), ih _ (by omega)]
      · have := h4 (by omega)
        simp only [h1]
        rw [ih _ (by omega), ih _ (by omega)]
    · have : ¬ N (352 + 4 * k) = 1 ∧ ¬ N (352 + 4 * k) = 2 ∧ ¬ N (352 + 4 * k) = 3 := by omega
      simp only [this, if_false]
theorem lfO_lo {N M : Nat → Int} {k a b r n : Int} (h : lfO N k a b r n) (e : ∀ i, i < 160 → M i = N i) : lfO M k a b r n := by
  unfold lfO at *
  rw [e 0 (by omega), e 1 (by omega), e 2 (by omega), e 3 (by omega)]
  exact h
theorem ndO_lo {N M : Nat → Int} {k : Nat} (h : ndO N N k) (e : ∀ i, i < 160 → M i = N i) (e2 : ∀ i, 350 ≤ i → M i = N i) : ndO M M k := by
  unfold ndO at *
  rw [e2 _ (by omega), e2 _ (by omega), e2 _ (by omega), e2 _ (by omega)]
  rcases h with h | ⟨h1, h2⟩ | ⟨h1, h2⟩ | ⟨h1, h2, h3⟩ | ⟨h1, h2, h3⟩
  · exact Or.inl h
  · exact Or.inr (Or.inl ⟨h1, lfO_lo h2 e⟩)
  · exact Or.inr (Or.inr (Or.inl ⟨h1, lfO_lo h2 e⟩))
  · exact Or.inr (Or.inr (Or.inr (Or.inl ⟨h1, h2, lfO_lo h3 e⟩)))
  · exact Or.inr (Or.inr (Or.inr (Or.inr ⟨h1, h2, lfO_lo h3 e⟩)))
theorem se0_same {s t : Me} {N M : Nat → Int} (h : se0 s N) (e : ∀ i, i < 160 → M i = N i) (e2 : ∀ i, 350 ≤ i → M i = N i) (f : ∀ v, 1920 ≤ v → v < 2304 → t v = s v) : se0 t M := by
  unfold se0 at *
  rw [e2 350 (by omega), e2 351 (by omega), f 1920 (by decide) (by decide), f 1921 (by decide) (by decide)]
  rcases h with h | ⟨h1, h2, h3, S, T, h4, h5, h6, h7, h8, h9, h10⟩
  · exact Or.inl h
  · have ev : ∀ V n, evL t V n = evL s V n := fun V n => evL_ag (S := n) (fun i _ => by rw [f _ (by decide) (by decide), f _ (by decide) (by decide), f _ (by decide) (by decide), f _ (by decide) (by decide), f _ (by decide) (by decide)]; exact ⟨rfl, rfl, rfl, rfl, rfl⟩) n (Nat.le_refl n)
    refine Or.inr ⟨h1, h2, h3, S, T, h4, h5, h6, h7, fun i hi => ?_, fun k hk => ndO_lo (h9 k hk) e e2, fun V => ?_⟩
    · have := h8 i hi
      unfold stO at *
      rw [f _ (by decide) (by decide), f _ (by decide) (by decide), f _ (by decide) (by decide), f _ (by decide) (by decide), f _ (by decide) (by decide)]
      rcases this with q | q | q | q
      · exact Or.inl q
      · exact Or.inr (Or.inl q)
      · exact Or.inr (Or.inr (Or.inl q))
      · exact Or.inr (Or.inr (Or.inr (lfO_lo q e)))
    · rw [ev, evT_lo h9 e2 60 T (Nat.le_refl _)]
      refine ⟨(h10 V).1, fun n hn => ?_⟩
      rw [ev]
      exact (h10 V).2 n hn
