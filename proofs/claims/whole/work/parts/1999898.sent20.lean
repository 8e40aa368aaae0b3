/-- a ONE, whatever stands there -/
theorem one_P {F : FM × FM × FM} {G G' : FM × FM × FM × FM × FM} {N : Nat → Int} {w : Nat} (w8 : w ≤ 8) (hc : ctN N) (hG1 : w < 8 → G.2.2.2.1 = mthZ [0] (b_M_readNot G') ∧ G.2.2.2.2 = mthZ [0] (b_M_readBracket G')) (h1 : w < 8 → oneP F.2.2 G'.2.2.1 N (w + 1)) (h2 : w < 8 → oneP F.1 G'.1 N (w + 1)) : oneP (mthF [0, 1, 2, 3] (b_SentenceText_readOne F)) (mthZ [0] (b_M_readOne G)) N w := by
  intro s m y L lim p o S K h hn hD hw
  have o20 := hD.2.2.1
  by_cases cb : opB m = true
  · have ys : m 7 0 = 4 ∧ w32 (m 9 0) = w32 40 := by unfold opB at cb; exact of_decide_eq_true cb
    have na : ∀ j, atW m j = false := fun j => by unfold atW; exact decide_eq_false (fun q => by omega)
    by_cases cm : o = 20 ∨ w = 8
    · obtain ⟨s', m', a1, a2, a3, a4, a5, a6⟩ := one_many (F := F) (G := G) (k := 17) w8 h hD hw (by omega) (by omega) (fun j _ _ _ => na j) (fun z => by omega) ⟨fun _ => rfl, fun _ => cb⟩ cm
      exact ⟨s', a1, a2, Or.inr ⟨m', a3, a4, a5, a6⟩⟩
    · exact one_bracket (by omega) (by omega) h hn hD hw cb (hG1 (by omega)).2 (h2 (by omega))
  · have ns : ¬ (m 7 0 = 4 ∧ w32 (m 9 0) = w32 40) := fun q => cb (by unfold opB; exact decide_eq_true q)
    by_cases ck : ∃ k, 10 ≤ k ∧ k < 17 ∧ atW m k = true
    · obtain ⟨k, k1, k2, ha⟩ := ck
      by_cases cm : o = 20 ∨ w = 8
      · obtain ⟨s', m', a1, a2, a3, a4, a5, a6⟩ := one_many (F := F) (G := G) (k := k) w8 h hD hw k1 (by omega) (fun j _ j2 j3 => atW_1 k2 j2 ha j3) (fun _ => ha) ⟨fun z => absurd z cb, fun z => by omega⟩ cm
        exact ⟨s', a1, a2, Or.inr ⟨m', a3, a4, a5, a6⟩⟩
      · by_cases c10 : k = 10
        · subst c10
          exact one_not (by omega) (by omega) h hn hD hw ha (hG1 (by omega)).1 (h1 (by omega))
        · exact one_leaf (by omega) (by omega) hc h hn hD hw (by omega) k2 ha
    · obtain ⟨s', m', a1, a2, a3, a4, a5, a6⟩ := one_no (F := F) (G := G) w8 h hD hw ns (fun k k1 k2 => by
        cases z : atW m k
        · rfl
        · exact absurd ⟨k, k1, k2, z⟩ ck)
      exact ⟨s', a1, a2, Or.inr ⟨m', a3, a4, a5, a6⟩⟩
theorem all_P {N : Nat → Int} (hc : ctN N) : ∀ (d w : Nat), w + d = 8 → ∀ f g, 3 * d + 1 ≤ f → 4 * d + 1 ≤ g → oneP (g_SentenceText_readCond f).2.2 (g_M_readOr g).2.2.1 N w := by
  intro d
  induction d with
  | zero =>
    intro w hw f g hf hg
    obtain ⟨f, rfl⟩ : ∃ q, f = q + 1 := ⟨f - 1, by omega⟩
    obtain ⟨g, rfl⟩ : ∃ q, g = q + 1 := ⟨g - 1, by omega⟩
    exact one_P (G' := g_M_readOr 0) (by omega) hc (fun z => by omega) (fun z => by omega) (fun z => by omega)
  | succ d ih =>
    intro w hw f g hf hg
    obtain ⟨f, rfl⟩ : ∃ q, f = q + 1 + 1 + 1 := ⟨f - 3, by omega⟩
    obtain ⟨g, rfl⟩ : ∃ q, g = q + 1 + 1 + 1 + 1 := ⟨g - 4, by omega⟩
    refine one_P (G' := g_M_readOr (g + 1 + 1)) (by omega) hc (fun z => ⟨rfl, rfl⟩) (fun z => ih (w + 1) (by omega) (f + 1 + 1) (g + 1 + 1) (by omega) (by omega)) (fun z => ?_)
    exact or_P (F := g_SentenceText_readCond (f + 1)) (G := g_M_readOr (g + 1)) (by omega) (and_P (F := g_SentenceText_readCond f) (G := g_M_readOr g) (by omega) (ih (w + 1) (by omega) f g (by omega) (by omega)))
theorem cond_P {N : Nat → Int} (hc : ctN N) : oneP (g_SentenceText_readCond 60).1 (g_M_readOr 60).1 N 0 :=
  or_P (F := g_SentenceText_readCond 59) (G := g_M_readOr 59) (by omega) (and_P (F := g_SentenceText_readCond 58) (G := g_M_readOr 58) (by omega) (all_P hc 8 0 (by omega) 58 58 (by omega) (by omega)))
