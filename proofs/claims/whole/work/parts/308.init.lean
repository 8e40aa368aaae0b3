/-- what the reference's row says ahead of all calls -/
def N00 : Nat → Int := fun i => if i = 5 then 9999 else if 110 ≤ i ∧ i < 117 then 100 else 0
theorem nw_0 : nwM KMz4 = N00 := by
  unfold nwM
  rw [if_pos (by decide +kernel)]
  funext i
  have z : KMz4 128 i = 0 := by simp [KMz4, KMz3, KMz2, KMz1, u2, Z0]
  unfold stdN N00
  rw [z]
  split
  · rfl
  · split
    · rfl
    · split <;> rfl
theorem vac0 {n : Nat} {P : Prop} {x : Int} (h : (n : Int) < x) (hx : x = 0) : P := by omega
theorem sce_0 {NM : Nat → Int} : sce KXz36 N00 NM := by
  have z0 : N00 0 = 0 := by decide
  have z1 : N00 1 = 0 := by decide
  have z2 : N00 2 = 0 := by decide
  have z3 : N00 3 = 0 := by decide
  have z4 : N00 4 = 0 := by decide
  have z160 : N00 160 = 0 := by decide
  have z285 : N00 285 = 0 := by decide
  have zs : N00 0 + N00 1 + N00 2 + N00 3 = 0 := by decide
  have f7 : ∀ d, d < 7 → N00 (110 + d) = 100 := fun d hd => by
    unfold N00
    rw [if_neg (by omega), if_pos (by omega)]
  refine ⟨⟨⟨⟨by decide, by decide, by decide, by decide, by decide, by decide⟩, fun r hr => vac0 hr z0, fun g hg => vac0 hg z2, fun u hu => vac0 hu z3, fun d hd => by rw [f7 d hd]; decide, fun k hk => vac0 hk z4⟩, ⟨by decide, fun k hk => vac0 hk z160⟩, ⟨by decide, fun k hk => vac0 hk z285⟩⟩, ⟨⟨⟨by decide +kernel, by decide +kernel, by decide +kernel, by decide +kernel, by decide +kernel⟩, fun r hr => vac0 hr z0, fun g hg => vac0 hg z2, fun u hu => vac0 hu z3⟩, ⟨fun r hr => vac0 hr z0, fun d hd => ?_, by decide +kernel, fun k hk => vac0 hk z160⟩, by decide +kernel, fun g hg => vac0 hg z2, fun k hk => vac0 hk z4, by decide +kernel, fun k hk => vac0 hk z285⟩, ⟨by decide +kernel, fun i hi => vac0 hi zs, fun k m hk hm => ?_, fun i j hi _ _ => vac0 hi zs⟩, Or.inl ⟨by decide, by decide +kernel⟩⟩
  · rcases (show d = 0 ∨ d = 1 ∨ d = 2 ∨ d = 3 ∨ d = 4 ∨ d = 5 ∨ d = 6 by omega) with rfl | rfl | rfl | rfl | rfl | rfl | rfl <;> decide +kernel
  · rcases (show k = 0 ∨ k = 1 ∨ k = 2 ∨ k = 3 by omega) with rfl | rfl | rfl | rfl
    · exact vac0 hm z0
    · exact vac0 hm z1
    · exact vac0 hm z2
    · exact vac0 hm z3
/-- new objects stand to each other as they should -/
theorem Rl_0 : Rl KXz36 KMz4 := by
  refine ⟨⟨Or.inl (by decide +kernel), ?_, ⟨by decide +kernel, Or.inl (by decide +kernel)⟩, ⟨by decide +kernel, Or.inl (by decide +kernel)⟩, ⟨0, by omega, by decide +kernel, by decide +kernel, fun i hi => by omega⟩, ⟨⟨by decide +kernel, by decide +kernel, by decide +kernel⟩, ⟨by decide +kernel, by decide +kernel, by decide +kernel, fun i hi => vac0 hi (by decide +kernel)⟩, ⟨by decide +kernel, by decide +kernel, by decide +kernel⟩, fun i hi => ?_, by decide +kernel⟩⟩, ⟨Or.inr (by decide +kernel), by decide +kernel, fun h => absurd h (by decide +kernel)⟩⟩
  · rw [nw_0]
    exact sce_0
  · rcases (show i = 0 ∨ i = 1 ∨ i = 2 by omega) with rfl | rfl | rfl <;> decide +kernel
