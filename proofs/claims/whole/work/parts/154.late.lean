/-! late -/
theorem wkF_c {a b c a' b' c' : Nat → Int} {wo : Int} {h : Nat} : ∀ K, (∀ k, k < K → (b' k = b k ∧ ((a' k ≤ (h : Int) ∧ (h : Int) < a' k + c' k) ↔ (a k ≤ (h : Int) ∧ (h : Int) < a k + c k))) ∨ (¬ (a' k ≤ (h : Int) ∧ (h : Int) < a' k + c' k) ∧ ¬ (a k ≤ (h : Int) ∧ (h : Int) < a k + c k))) → wkF a' b' c' wo K h = wkF a b c wo K h := by
  intro K
  induction K with
  | zero => intro _; rfl
  | succ K ih =>
    intro hk
    have i := ih (fun k q => hk k (by omega))
    simp only [wkF, i]
    rcases hk K (by omega) with ⟨h1, h2⟩ | ⟨h1, h2⟩
    · rw [h1]
      by_cases e : b K ≠ wo ∧ a K ≤ (h : Int) ∧ (h : Int) < a K + c K
      · rw [if_pos ⟨e.1, h2.mpr e.2⟩, if_pos e]
      · rw [if_neg (fun q => e ⟨q.1, h2.mp q.2⟩), if_neg e]
    · rw [if_neg (fun q => h1 q.2), if_neg (fun q => h2 q.2)]
theorem hsN_N {N M fl : Nat → Int} {PP : Nat → Nat → Int} (hN : rvN N) (e : ∀ i, i < 160 → M i = N i) : hsN M fl PP = hsN N fl PP := by
  rw [← hp_hs, ← hp_hs, hpN_N hN e]
/-- another ORDER over the same RIVER -/
theorem harm_N {N M : Nat → Int} (hN : rvN N) (e : ∀ i, i < 160 → M i = N i) : hsN M (floN M) (ppW M (wsN M (-1))) = hsN N (floN N) (ppW N (wsN M (-1))) := by
  have c0 := hN.1
  have pw : ppW M (wsN M (-1)) = ppW N (wsN M (-1)) := by
    funext h i
    unfold ppW
    rw [e 2 (by omega), poN_N e _ _ (by omega)]
  rw [hsN_N hN e, pw, ← hp_hs, ← hp_hs]
  exact sm_eq (fun i hi => hhN_congr (floN_N hN (by omega) e))
def ltF (g : Nat → Bool) : Nat → Nat
  | 0 => 0
  | n + 1 => if ltF g n = n ∧ g (n + 1) = true then n + 1 else ltF g n
theorem ltF_le {g : Nat → Bool} : ∀ n, ltF g n ≤ n := by
  intro n
  induction n with
  | zero => exact Nat.le_refl _
  | succ n ih => simp only [ltF]; split <;> omega
theorem ltF_stop {g : Nat → Bool} {n m : Nat} (h : ltF g n = n) (hg : g (n + 1) = false) (hm : n ≤ m) : ltF g m = n := by
  induction m with
  | zero =>
    have : n = 0 := by omega
    subst this; rfl
  | succ m ih =>
    by_cases e : n = m + 1
    · subst e; exact h
    · have i := ih (by omega)
      simp only [ltF, i]
      by_cases q : n = m
      · subst q; simp [hg]
      · rw [if_neg (fun z => q z.1)]
/-- the class: the BELLS of row M over the RIVER of N, from HOUR a on -/
theorem tryM {s : Me} {N M : Nat → Int} {a : Nat} {en : Int} (hN : rvN N) (hB : blN M) (e : ∀ i, i < 160 → M i = N i) (hX : rdX s N) (hD : bdX s M) (hP : psX s N 168) (ha : a ≤ 168) (hag : ∀ h, h < a → wsN M (-1) h = wsN N (-1) h) (en0 : -10000 < en) (en1 : en < 10000) :
    ∃ s1 r s2, m_Week_prepare [0, 0, 0] s = some (0, s1) ∧ m_Week_harmFrom [0, 0, 0, a, en] s1 = some (r, s2) ∧ fr weV s s2 ∧ fr weV s s1 ∧ 0 ≤ r ∧ r ≤ 1008 ∧ (hsN M (floN M) (ppW M (wsN M (-1))) < en → r = hsN M (floN M) (ppW M (wsN M (-1)))) ∧ (en ≤ hsN M (floN M) (ppW M (wsN M (-1))) → en ≤ r) := by
  obtain ⟨s1, p1, p2, p3, p4, p5⟩ := prepare_ok hD (rvN_lo hN e) hB
  have f1 : fr weV s s1 := fr_sub p2 (by decide)
  have c0 := hN.1
  have E : enX s1 N (floN N) (ppW N (wsN M (-1))) a := by
    refine ⟨rdX_lo hX (fun v hv => p2 v (by simp; omega)), fun q hq => ?_, fun d hd => ?_, fun h i _ hh _ _ => ?_⟩
    · rw [p3 q (by rw [e 0 (by omega)]; exact hq), e _ (by omega)]
    · rw [p4 d hd, e _ (by omega)]; rfl
    · rw [p5 h hh]; rfl
  obtain ⟨r, s2, q1, q2, q3⟩ := harmFrom_ok (σ := s1) (N := N) (PP := ppW N (wsN M (-1))) (a := a) (en := en) hN (ppW_pp hN) E (psX_ag hP f1) ha (fun h i hh _ _ => by unfold ppW; rw [hag h hh]) en0 en1
  rw [harm_N hN e]
  exact ⟨s1, r, s2, p1, q1, fr_trans f1 (fr_sub q2 (by decide)), f1, q3⟩
