/-! days: the tries as numbers -/
def upN (d : Nat → Nat) (i n : Nat) : Nat → Nat := fun j => if j = i then n else d j
def itr {α : Type} (f : Nat → α → α) : Nat → α → α
  | 0, x => x
  | n + 1, x => f n (itr f n x)
def trS (H : (Nat → Nat) → Nat → Int) (nd : Nat → Nat) : Nat → (Nat → Nat) → Nat → Int × (Nat → Nat) → Int × (Nat → Nat)
  | 0, d, i, st => if H d i < st.1 then (H d i, d) else st
  | k + 1, d, i, st => itr (fun n r => trS H nd k (upN d i n) (i + 1) r) (nd i) st
theorem trS_pr {H : (Nat → Nat) → Nat → Int} {nd : Nat → Nat} (hH : ∀ d i n, H d i ≤ H (upN d i n) (i + 1)) : ∀ k d i st, st.1 ≤ H d i → trS H nd k d i st = st := by
  intro k
  induction k with
  | zero => intro d i st h; simp only [trS]; rw [if_neg (by omega)]
  | succ k ih =>
    intro d i st h
    simp only [trS]
    have key : ∀ n, itr (fun n r => trS H nd k (upN d i n) (i + 1) r) n st = st := by
      intro n
      induction n with
      | zero => rfl
      | succ n ihn =>
        simp only [itr, ihn]
        exact ih _ _ _ (by have := hH d i n; omega)
    exact key _
theorem trS_bd {H : (Nat → Nat) → Nat → Int} {nd : Nat → Nat} (hb : ∀ d i, 0 ≤ H d i ∧ H d i ≤ 1008) : ∀ k d i st, 0 ≤ st.1 → st.1 ≤ 1009 → 0 ≤ (trS H nd k d i st).1 ∧ (trS H nd k d i st).1 ≤ 1009 := by
  intro k
  induction k with
  | zero =>
    intro d i st h0 h1
    simp only [trS]
    have := hb d i
    split
    · simp only; omega
    · omega
  | succ k ih =>
    intro d i st h0 h1
    simp only [trS]
    have key : ∀ n, 0 ≤ (itr (fun n r => trS H nd k (upN d i n) (i + 1) r) n st).1 ∧ (itr (fun n r => trS H nd k (upN d i n) (i + 1) r) n st).1 ≤ 1009 := by
      intro n
      induction n with
      | zero => exact ⟨h0, h1⟩
      | succ n ihn =>
        simp only [itr]
        exact ih _ _ _ ihn.1 ihn.2
    exact key _
/-- the works with the days of the first i as tried -/
def dwI (N : Nat → Int) (a : Nat → Nat) (hr : Nat) (d : Nat → Nat) : Nat → Nat → Int
  | 0, q => wsN N (-1) q
  | i + 1, q => if ((24 * d i + hr : Nat) : Int) ≤ q ∧ (q : Int) < ((24 * d i + hr : Nat) : Int) + N (31 + 6 * a i) then iorI (dwI N a hr d i q) (shlI 1 (a i)) else dwI N a hr d i q
def dhs (N : Nat → Int) (a : Nat → Nat) (hr : Nat) (d : Nat → Nat) (i : Nat) : Int := hsN N (floN N) (ppW N (dwI N a hr d i))
theorem upN_s {d : Nat → Nat} {i n : Nat} : upN d i n i = n := by simp [upN]
theorem upN_o {d : Nat → Nat} {i n j : Nat} (h : j ≠ i) : upN d i n j = d j := by simp [upN, h]
theorem dwI_c {N : Nat → Int} {a : Nat → Nat} {hr : Nat} {d d' : Nat → Nat} : ∀ i q, (∀ j, j < i → d j = d' j) → dwI N a hr d i q = dwI N a hr d' i q := by
  intro i
  induction i with
  | zero => intro q _; rfl
  | succ i ih =>
    intro q h
    simp only [dwI]
    rw [ih q (fun j hj => h j (by omega)), h i (by omega)]
theorem dwI_bt {N : Nat → Int} {a : Nat → Nat} {hr : Nat} {d : Nat → Nat} {i q k : Nat} (ha : a i < 32) (hk : k < 32) : bt (dwI N a hr d (i + 1) q) k = (bt (dwI N a hr d i q) k || (decide (k = a i) && decide (((24 * d i + hr : Nat) : Int) ≤ q ∧ (q : Int) < ((24 * d i + hr : Nat) : Int) + N (31 + 6 * a i)))) := by
  simp only [dwI]
  by_cases c : ((24 * d i + hr : Nat) : Int) ≤ q ∧ (q : Int) < ((24 * d i + hr : Nat) : Int) + N (31 + 6 * a i)
  · rw [if_pos c, bt_or hk, bt_shl1 ha hk, decide_eq_true c, Bool.and_true]
  · rw [if_neg c, decide_eq_false c, Bool.and_false, Bool.or_false]
theorem dwI_own {N : Nat → Int} {a : Nat → Nat} {hr : Nat} {d : Nat → Nat} {q k : Nat} (hk : k < 32) : ∀ i, (∀ j, j < i → a j < 32 ∧ k ≠ a j) → bt (dwI N a hr d i q) k = bt (wsN N (-1) q) k := by
  intro i
  induction i with
  | zero => intro _; rfl
  | succ i ih =>
    intro h
    rw [dwI_bt (h i (by omega)).1 hk, ih (fun j hj => h j (by omega)), decide_eq_false (h i (by omega)).2, Bool.false_and, Bool.or_false]
theorem dwI_bef {N : Nat → Int} {a : Nat → Nat} {hr : Nat} {d : Nat → Nat} {q : Nat} : ∀ i, (∀ j, j < i → q < 24 * d j + hr) → dwI N a hr d i q = wsN N (-1) q := by
  intro i
  induction i with
  | zero => intro _; rfl
  | succ i ih =>
    intro h
    simp only [dwI]
    have := h i (by omega)
    rw [if_neg (by omega)]
    exact ih (fun j hj => h j (by omega))
theorem dhs_bd {N : Nat → Int} {a : Nat → Nat} {hr : Nat} {d : Nat → Nat} {i : Nat} (hN : rvN N) : 0 ≤ dhs N a hr d i ∧ dhs N a hr d i ≤ 1008 := by
  have := hpN_bd (N := N) (fl := floN N) (PP := ppW N (dwI N a hr d i)) (n := 168) hN
  rw [hp_hs] at this
  unfold dhs
  omega
theorem dhs_le {N : Nat → Int} {a : Nat → Nat} {hr : Nat} (hN : rvN N) (d : Nat → Nat) (i n : Nat) : dhs N a hr d i ≤ dhs N a hr (upN d i n) (i + 1) := by
  unfold dhs
  refine hsN_le hN (floN_fl hN) (ppW_le hN (fun h g hg hb => ?_))
  rw [dwI_c i h (d' := upN d i n) (fun j hj => (upN_o (by omega)).symm)] at hb
  simp only [dwI]
  split
  · rw [bt_or hg, hb]; rfl
  · exact hb
/-- the reference's row with i BELLS more -/
def roR (N M : Nat → Int) (a : Nat → Nat) (hr : Nat) (d : Nat → Nat) (B i : Nat) : Prop :=
  (∀ x, x < 160 → M x = N x) ∧ (∀ x, 281 ≤ x → M x = N x) ∧ M 160 = ((B + i : Nat) : Int) ∧ (∀ x, 161 ≤ x → x < 161 + 3 * B → M x = N x) ∧ ∀ j, j < i → M (161 + 3 * (B + j)) = ((24 * d j + hr : Nat) : Int) ∧ M (162 + 3 * (B + j)) = a j ∧ M (163 + 3 * (B + j)) = N (31 + 6 * a j)
theorem roR_ws {N M : Nat → Int} {a : Nat → Nat} {hr : Nat} {d : Nat → Nat} {B i : Nat} (hB : N 160 = B) (h : roR N M a hr d B i) : wsN M (-1) = dwI N a hr d i := by
  obtain ⟨h1, h2, h3, h4, h5⟩ := h
  funext q
  unfold wsN
  rw [h3, Int.toNat_natCast]
  clear h3
  induction i with
  | zero =>
    simp only [dwI, wsN, hB, Int.toNat_natCast, Nat.add_zero]
    refine wkF_c _ (fun k hk => ?_)
    rw [h4 _ (by omega) (by omega), h4 _ (by omega) (by omega), h4 _ (by omega) (by omega)]
    left
    exact ⟨rfl, Iff.rfl⟩
  | succ i ih =>
    have e := ih (fun j hj => h5 j (by omega))
    obtain ⟨j1, j2, j3⟩ := h5 i (by omega)
    rw [← Nat.add_assoc]
    simp only [dwI, wkF]
    rw [e, j1, j2, j3]
    have n1 : ((a i : Nat) : Int) ≠ -1 := by omega
    simp only [n1, ne_eq, not_false_eq_true, true_and]
theorem roR_bl {N M : Nat → Int} {a : Nat → Nat} {hr : Nat} {d : Nat → Nat} {B i : Nat} (hN : rvN N) (hbl : blN N) (hB : N 160 = B) (h : roR N M a hr d B i) (hi : B + i ≤ 40) (ha : ∀ j, j < i → (a j : Int) < N 2) (hd : ∀ j, j < i → ((24 * d j + hr : Nat) : Int) + N (31 + 6 * a j) ≤ 168) : blN M := by
  obtain ⟨h1, h2, h3, h4, h5⟩ := h
  unfold blN
  rw [h3, h1 2 (by omega)]
  refine ⟨by omega, fun k hk => ?_⟩
  by_cases c : k < B
  · rw [h4 _ (by omega) (by omega), h4 _ (by omega) (by omega), h4 _ (by omega) (by omega)]
    exact hbl.2 k (by omega)
  · obtain ⟨j, rfl⟩ : ∃ j, k = B + j := ⟨k - B, by omega⟩
    obtain ⟨j1, j2, j3⟩ := h5 j (by omega)
    have q1 := ha j (by omega)
    have q2 := hd j (by omega)
    have q3 := hN.2.2.1 (a j) q1
    rw [j1, j2, j3]
    omega
