theorem sce_cp {s t : Me} {N M NM MM : Nat → Int} (h : sce s N NM) (e : ∀ i, i < 592 → M i = N i) (e2 : ∀ i, i < 26 → MM i = NM i) (hc : ∀ v n, (v, n) ∈ L0 → ∀ i, i < n → t v i = s v i) : sce t M MM := by
  obtain ⟨⟨n1, n2, n3⟩, ⟨⟨⟨r1, r2, r3, r4, r5⟩, r6, r7, r8⟩, ⟨b1, b2, b3, b4⟩, s3, s4, s5, s6, s7⟩, ⟨m1, m2, m3, m4⟩, h4⟩ := h
  have c0 := n1.1
  have c1 := n2.1
  have c2 := n3.1
  have e' : ∀ i, i < 160 → M i = N i := fun i hi => e i (by omega)
  refine ⟨⟨rvN_lo n1 e', ?_, ?_⟩, ⟨⟨⟨?_, ?_, ?_, ?_, ?_⟩, ?_, ?_, ?_⟩, ⟨?_, ?_, ?_, ?_⟩, ?_, ?_, ?_, ?_, ?_⟩, ⟨?_, ?_, ?_, ?_⟩, ?_⟩
  · unfold blN
    rw [e 160 (by omega), e 2 (by omega)]
    exact ⟨n2.1, fun k hk => by rw [e _ (by omega), e _ (by omega), e _ (by omega)]; exact n2.2 k hk⟩
  · unfold sgN
    rw [e 285 (by omega), e 1 (by omega)]
    exact ⟨n3.1, fun k hk => by rw [e _ (by omega), e _ (by omega), e _ (by omega)]; exact n3.2 k hk⟩
  · rw [hc 257 1 (by decide) 0 (by omega), e 0 (by omega)]; exact r1
  · rw [hc 260 1 (by decide) 0 (by omega), e 1 (by omega)]; exact r2
  · rw [hc 261 1 (by decide) 0 (by omega), e 2 (by omega)]; exact r3
  · rw [hc 265 1 (by decide) 0 (by omega), e 3 (by omega)]; exact r4
  · rw [hc 271 1 (by decide) 0 (by omega), e 5 (by omega)]; exact r5
  · intro r hr
    rw [e 0 (by omega)] at hr
    rw [hc 640 10 (by decide) r (by omega), e _ (by omega)]
    exact r6 r hr
  · intro g hg
    rw [e 2 (by omega)] at hg
    refine ⟨by rw [hc 704 6 (by decide) g (by omega), e _ (by omega)]; exact (r7 g hg).1, fun c hcc => ?_⟩
    rw [e 1 (by omega)] at hcc
    rw [hc 832 24 (by decide) (g * 4 + c) (by omega), e _ (by omega)]
    exact (r7 g hg).2 c hcc
  · intro u hu
    rw [e 3 (by omega)] at hu
    obtain ⟨a1, a2, a3, a4⟩ := r8 u hu
    refine ⟨by rw [hc 896 6 (by decide) u (by omega), e _ (by omega)]; exact a1, by rw [hc 960 6 (by decide) u (by omega), e _ (by omega)]; exact a2, by rw [hc 1024 6 (by decide) u (by omega), e _ (by omega)]; exact a3, fun c hcc => ?_⟩
    rw [e 1 (by omega)] at hcc
    rw [hc 1088 24 (by decide) (u * 4 + c) (by omega), e _ (by omega)]
    exact a4 c hcc
  · intro r hr
    rw [e 0 (by omega)] at hr
    rw [hc 576 10 (by decide) r (by omega), e _ (by omega)]
    exact b1 r hr
  · intro d hd
    rw [hc 1152 7 (by decide) d (by omega), e _ (by omega)]
    exact b2 d hd
  · rw [hc 1408 1 (by decide) 0 (by omega), e 160 (by omega)]; exact b3
  · intro k hk
    rw [e 160 (by omega)] at hk
    rw [hc 1472 40 (by decide) k (by omega), hc 1536 40 (by decide) k (by omega), hc 1600 40 (by decide) k (by omega), e _ (by omega), e _ (by omega), e _ (by omega)]
    exact b4 k hk
  · rw [hc 272 1 (by decide) 0 (by omega), e 4 (by omega)]; exact s3
  · intro g hg
    rw [e 2 (by omega)] at hg
    rw [hc 768 6 (by decide) g (by omega), e _ (by omega)]
    exact s4 g hg
  · intro k hk
    rw [e 4 (by omega)] at hk
    rw [hc 1216 12 (by decide) k (by omega), hc 1280 12 (by decide) k (by omega), hc 1344 12 (by decide) k (by omega), e _ (by omega), e _ (by omega), e _ (by omega)]
    exact s5 k hk
  · rw [hc 1664 1 (by decide) 0 (by omega), e 285 (by omega)]; exact s6
  · intro k hk
    rw [e 285 (by omega)] at hk
    rw [hc 1728 20 (by decide) k (by omega), hc 1792 20 (by decide) k (by omega), hc 1856 20 (by decide) k (by omega), e _ (by omega), e _ (by omega), e _ (by omega)]
    exact s7 k hk
  · rw [hc 320 1 (by decide) 0 (by omega), e 0 (by omega), e 1 (by omega), e 2 (by omega), e 3 (by omega)]; exact m1
  · intro i hi
    rw [e 0 (by omega), e 1 (by omega), e 2 (by omega), e 3 (by omega)] at hi
    obtain ⟨a1, a2, a3, a4, a5⟩ := m2 i hi
    rw [hc 448 26 (by decide) i (by omega), hc 512 26 (by decide) i (by omega), hc 384 26 (by decide) i (by omega)]
    refine ⟨a1, a2, a3, by rw [e _ (by omega)]; exact a4, ?_⟩
    have bs : bsN (s 448 i) + (s 512 i).toNat < 26 := by
      have hcase : s 448 i = 0 ∨ s 448 i = 1 ∨ s 448 i = 2 ∨ s 448 i = 3 := by omega
      rcases hcase with q | q | q | q <;> rw [q] at a4 ⊢ <;> simp [bsN] at a4 ⊢ <;> omega
    rw [e2 _ bs]
    exact a5
  · intro k m hk hm
    rw [e k (by omega)] at hm
    obtain ⟨i, i1, i2, i3⟩ := m3 k m hk hm
    exact ⟨i, by rw [e 0 (by omega), e 1 (by omega), e 2 (by omega), e 3 (by omega)]; exact i1, by rw [hc 448 26 (by decide) i (by omega)]; exact i2, by rw [hc 512 26 (by decide) i (by omega)]; exact i3⟩
  · intro i j hi hj he
    rw [e 0 (by omega), e 1 (by omega), e 2 (by omega), e 3 (by omega)] at hi hj
    rw [hc 384 26 (by decide) i (by omega), hc 384 26 (by decide) j (by omega)] at he
    exact m4 i j hi hj he
  · unfold se0
    rw [e 350 (by omega), e 351 (by omega), hc 1920 1 (by decide) 0 (by omega), hc 1921 1 (by decide) 0 (by omega)]
    rcases h4 with h4 | ⟨q1, q2, q3, S, T, q4, q5, q6, q7, q8, q9, q10⟩
    · exact Or.inl h4
    · have ev : ∀ V n, n ≤ S → evL t V n = evL s V n := fun V n hn => evL_ag (S := S) (fun i hi => by
        rw [hc 1984 40 (by decide) i (by omega), hc 2048 40 (by decide) i (by omega), hc 2112 40 (by decide) i (by omega), hc 2176 40 (by decide) i (by omega), hc 2240 40 (by decide) i (by omega)]
        exact ⟨rfl, rfl, rfl, rfl, rfl⟩) n hn
      have et : ∀ V f k, k ≤ T → evT M V f k = evT N V f k := by
        intro V f
        induction f with
        | zero => intro k _; rfl
        | succ f ih =>
          intro k hk
          simp only [evT]
          rw [e (352 + 4 * k) (by omega), e (353 + 4 * k) (by omega), e (354 + 4 * k) (by omega), e (355 + 4 * k) (by omega)]
          rcases q9 k hk with ⟨h1, h2, h3, h4⟩ | hh
          · rcases h1 with h1 | h1 | h1
            · simp only [h1, if_true]
              rw [ih _ (by omega)]
            · have := h4 (by omega)
              simp only [h1]
              rw [ih _ (by omega), ih _ (by omega)]
            · have := h4 (by omega)
              simp only [h1]
              rw [ih _ (by omega), ih _ (by omega)]
          · have : ¬ N (352 + 4 * k) = 1 ∧ ¬ N (352 + 4 * k) = 2 ∧ ¬ N (352 + 4 * k) = 3 := by omega
            simp only [this, if_false]
      refine Or.inr ⟨q1, q2, q3, S, T, q4, q5, q6, q7, fun i hi => ?_, fun k hk => ?_, fun V => ?_⟩
      · have := q8 i hi
        unfold stO at *
        rw [hc 1984 40 (by decide) i (by omega), hc 2048 40 (by decide) i (by omega), hc 2112 40 (by decide) i (by omega), hc 2176 40 (by decide) i (by omega), hc 2240 40 (by decide) i (by omega)]
        rcases this with q | q | q | q
        · exact Or.inl q
        · exact Or.inr (Or.inl q)
        · exact Or.inr (Or.inr (Or.inl q))
        · exact Or.inr (Or.inr (Or.inr (lfO_lo q e')))
      · have := q9 k hk
        unfold ndO at *
        rw [e (352 + 4 * k) (by omega), e (353 + 4 * k) (by omega), e (354 + 4 * k) (by omega), e (355 + 4 * k) (by omega)]
        rcases this with h | ⟨h1, h2⟩ | ⟨h1, h2⟩ | ⟨h1, h2, h3⟩ | ⟨h1, h2, h3⟩
        · exact Or.inl h
        · exact Or.inr (Or.inl ⟨h1, lfO_lo h2 e'⟩)
        · exact Or.inr (Or.inr (Or.inl ⟨h1, lfO_lo h2 e'⟩))
        · exact Or.inr (Or.inr (Or.inr (Or.inl ⟨h1, h2, lfO_lo h3 e'⟩)))
        · exact Or.inr (Or.inr (Or.inr (Or.inr ⟨h1, h2, lfO_lo h3 e'⟩)))
      · rw [ev V S (Nat.le_refl _), et V 60 T (Nat.le_refl _)]
        refine ⟨(q10 V).1, fun n hn => ?_⟩
        rw [ev V n hn]
        exact (q10 V).2 n hn
