/-! THE RELATION between the class's memory and the reference's -/
def okN (N : Nat → Int) : Prop := rvN N ∧ blN N ∧ sgN N
def sc0 (s : Me) (N : Nat → Int) : Prop := rdX s N ∧ bdX s N ∧
  (s 272 0 = N 4 ∧ (∀ g : Nat, (g : Int) < N 2 → s 768 g = N (31 + 6 * g)) ∧
  (∀ k : Nat, (k : Int) < N 4 → s 1216 k = N (118 + 3 * k) ∧ s 1280 k = N (119 + 3 * k) ∧ s 1344 k = N (120 + 3 * k)) ∧
  s 1664 0 = N 285 ∧ (∀ k : Nat, (k : Int) < N 285 → s 1728 k = N (286 + 3 * k) ∧ s 1792 k = N (287 + 3 * k) ∧ s 1856 k = N (288 + 3 * k)))
/-- a WORD as the class holds it (by 256) and as the reference does (by 27) -/
def e256 : List Int → Int
  | [] => 0
  | x :: l => x + 256 * e256 l
def e27 : List Int → Int
  | [] => 0
  | x :: l => (x - 96) + 27 * e27 l
def wr (a b : Int) : Prop := ∃ l : List Int, 1 ≤ l.length ∧ l.length ≤ 6 ∧ (∀ x, x ∈ l → 97 ≤ x ∧ x ≤ 122) ∧ a = e256 l ∧ b = e27 l
def bsN (k : Int) : Nat := if k = 0 then 0 else if k = 1 then 10 else if k = 2 then 14 else 20
def nm0 (s : Me) (N NM : Nat → Int) : Prop :=
  s 320 0 = N 0 + N 1 + N 2 + N 3 ∧
  (∀ i : Nat, (i : Int) < N 0 + N 1 + N 2 + N 3 → 0 ≤ s 448 i ∧ s 448 i < 4 ∧ 0 ≤ s 512 i ∧ s 512 i < N (s 448 i).toNat ∧ wr (s 384 i) (NM (bsN (s 448 i) + (s 512 i).toNat))) ∧
  (∀ k m : Nat, k < 4 → (m : Int) < N k → ∃ i : Nat, (i : Int) < N 0 + N 1 + N 2 + N 3 ∧ s 448 i = k ∧ s 512 i = m) ∧
  (∀ i j : Nat, (i : Int) < N 0 + N 1 + N 2 + N 3 → (j : Int) < N 0 + N 1 + N 2 + N 3 → s 384 i = s 384 j → i = j)
/-- the SENTENCE: the class's stack of truths, the reference's tree; V says what is so -/
def evL (s : Me) (V : Int → Int → Int → Int → Int → Bool) : Nat → List Bool
  | 0 => []
  | n + 1 => if s 1984 n = 0 then (match evL s V n with
      | b :: t => (!b) :: t
      | _ => List.replicate 30 false) else if s 1984 n = 1 then (match evL s V n with
      | a :: b :: t => (a && b) :: t
      | _ => List.replicate 30 false) else if s 1984 n = 2 then (match evL s V n with
      | a :: b :: t => (a || b) :: t
      | _ => List.replicate 30 false) else V (s 1984 n) (s 2048 n) (s 2112 n) (s 2176 n) (s 2240 n) :: evL s V n
def lfN (V : Int → Int → Int → Int → Int → Bool) (w a b r : Int) : Bool := if w = 4 then V 3 a 0 0 0 else if w = 5 then V 4 a 0 0 0 else if w = 6 then V 5 (a % 4) (a / 4) r b else V (w - 58) 0 0 r b
def evT (N : Nat → Int) (V : Int → Int → Int → Int → Int → Bool) : Nat → Nat → Bool
  | 0, _ => false
  | f + 1, k => if N (352 + 4 * k) = 1 then !evT N V f (N (353 + 4 * k)).toNat else if N (352 + 4 * k) = 2 then evT N V f (N (353 + 4 * k)).toNat && evT N V f (N (354 + 4 * k)).toNat else if N (352 + 4 * k) = 3 then evT N V f (N (353 + 4 * k)).toNat || evT N V f (N (354 + 4 * k)).toNat else lfN V (N (352 + 4 * k)) (N (353 + 4 * k)) (N (354 + 4 * k)) (N (355 + 4 * k))
def sgn3 (x : Int) : Prop := x = 60 ∨ x = 61 ∨ x = 62
/-- a leaf's numbers are as told -/
def lfO (N : Nat → Int) (k a b r n : Int) : Prop := (k = 3 ∧ 0 ≤ a ∧ a < N 2) ∨ (k = 4 ∧ 0 ≤ a ∧ a < N 3) ∨ (k = 5 ∧ 0 ≤ a ∧ a < N 1 ∧ 0 ≤ b ∧ b < N 0 ∧ sgn3 r ∧ 0 ≤ n ∧ n ≤ 9999) ∨ ((k = 6 ∨ k = 7 ∨ k = 8) ∧ sgn3 r ∧ 0 ≤ n ∧ n ≤ 9999)
def stO (s : Me) (N : Nat → Int) (i : Nat) : Prop := s 1984 i = 0 ∨ s 1984 i = 1 ∨ s 1984 i = 2 ∨ lfO N (s 1984 i) (s 2048 i) (s 2112 i) (s 2176 i) (s 2240 i)
def ndO (N M : Nat → Int) (k : Nat) : Prop := ((N (352 + 4 * k) = 1 ∨ N (352 + 4 * k) = 2 ∨ N (352 + 4 * k) = 3) ∧ 0 ≤ N (353 + 4 * k) ∧ N (353 + 4 * k) < k ∧ (N (352 + 4 * k) ≠ 1 → 0 ≤ N (354 + 4 * k) ∧ N (354 + 4 * k) < k)) ∨ (N (352 + 4 * k) = 4 ∧ lfO M 3 (N (353 + 4 * k)) 0 0 0) ∨ (N (352 + 4 * k) = 5 ∧ lfO M 4 (N (353 + 4 * k)) 0 0 0) ∨ (N (352 + 4 * k) = 6 ∧ 0 ≤ N (353 + 4 * k) ∧ lfO M 5 (N (353 + 4 * k) % 4) (N (353 + 4 * k) / 4) (N (355 + 4 * k)) (N (354 + 4 * k))) ∨ (64 ≤ N (352 + 4 * k) ∧ N (352 + 4 * k) ≤ 66 ∧ lfO M (N (352 + 4 * k) - 58) 0 0 (N (355 + 4 * k)) (N (354 + 4 * k)))
def se0 (s : Me) (N : Nat → Int) : Prop := (N 350 = 0 ∧ s 1920 0 = 0) ∨ (N 350 = 1 ∧ 1 ≤ s 1920 0 ∧ s 1920 0 ≤ 20 ∧ ∃ S T : Nat, s 1921 0 = S ∧ S ≤ 40 ∧ N 351 = T ∧ T < 60 ∧ (∀ i, i < S → stO s N i) ∧ (∀ k, k ≤ T → ndO N N k) ∧ ∀ V, evL s V S = [evT N V 60 T] ∧ ∀ n, n ≤ S → (evL s V n).length ≤ 20)
def sce (s : Me) (N NM : Nat → Int) : Prop := okN N ∧ sc0 s N ∧ nm0 s N NM ∧ se0 s N
theorem evL_ag {s t : Me} {V : Int → Int → Int → Int → Int → Bool} {S : Nat} (h : ∀ i, i < S → t 1984 i = s 1984 i ∧ t 2048 i = s 2048 i ∧ t 2112 i = s 2112 i ∧ t 2176 i = s 2176 i ∧ t 2240 i = s 2240 i) : ∀ n, n ≤ S → evL t V n = evL s V n := by
  intro n
  induction n with
  | zero => intro _; rfl
  | succ n ih =>
    intro hn
    obtain ⟨h1, h2, h3, h4, h5⟩ := h n (by omega)
    simp only [evL, h1, h2, h3, h4, h5, ih (by omega)]
theorem sce_ag {s t : Me} {N NM : Nat → Int} (hs : sce s N NM) (h : ∀ v, 256 ≤ v → v < 2304 → t v = s v) : sce t N NM := by
  obtain ⟨h1, h2, h3, h4⟩ := hs
  refine ⟨h1, ?_, ?_, ?_⟩
  · unfold sc0 rdX bdX at *
    rw [h 257 (by decide) (by decide), h 260 (by decide) (by decide), h 261 (by decide) (by decide), h 265 (by decide) (by decide), h 271 (by decide) (by decide), h 272 (by decide) (by decide), h 576 (by decide) (by decide), h 640 (by decide) (by decide), h 704 (by decide) (by decide), h 768 (by decide) (by decide), h 832 (by decide) (by decide), h 896 (by decide) (by decide), h 960 (by decide) (by decide), h 1024 (by decide) (by decide), h 1088 (by decide) (by decide), h 1152 (by decide) (by decide), h 1216 (by decide) (by decide), h 1280 (by decide) (by decide), h 1344 (by decide) (by decide), h 1408 (by decide) (by decide), h 1472 (by decide) (by decide), h 1536 (by decide) (by decide), h 1600 (by decide) (by decide), h 1664 (by decide) (by decide), h 1728 (by decide) (by decide), h 1792 (by decide) (by decide), h 1856 (by decide) (by decide)]
    exact h2
  · unfold nm0 at *
    rw [h 320 (by decide) (by decide), h 448 (by decide) (by decide), h 512 (by decide) (by decide), h 384 (by decide) (by decide)]
    exact h3
  · unfold se0 stO at *
    have e : ∀ V n, evL t V n = evL s V n := fun V n => evL_ag (S := n) (fun i _ => by rw [h 1984 (by decide) (by decide), h 2048 (by decide) (by decide), h 2112 (by decide) (by decide), h 2176 (by decide) (by decide), h 2240 (by decide) (by decide)]; exact ⟨rfl, rfl, rfl, rfl, rfl⟩) n (Nat.le_refl n)
    simp only [e]
    rw [h 1920 (by decide) (by decide), h 1921 (by decide) (by decide), h 1984 (by decide) (by decide), h 2048 (by decide) (by decide), h 2112 (by decide) (by decide), h 2176 (by decide) (by decide), h 2240 (by decide) (by decide)]
    exact h4
def shf (σ : Me) (o : Nat) : Me := fun v => σ (v + o)
/-- a byte of the tape -/
def bR (x y : Int) : Prop := 0 ≤ y ∧ y < 256 ∧ x = if y < 128 then y else y - 256
def tpR (σ μ : Me) : Prop := ∃ T : Nat, T ≤ 940 ∧ σ 65 0 = T ∧ μ 2 0 = T ∧ ∀ i, i < T → bR (σ 128 i) (μ 64 i)
def kpR (σ μ : Me) (k f : Nat) : Prop := σ f 0 = μ 576 k ∧ (μ 576 k = 0 ∨ (μ 576 k = 1 ∧ sce (shf σ (4224 + 2112 * k)) (fun i => μ 256 (592 * k + i)) (fun i => μ 512 (26 * k + i))))
def msR (σ μ : Me) : Prop := (σ 1 0 = μ 10 0 ∧ 0 ≤ μ 10 0 ∧ μ 10 0 ≤ 4) ∧
  (σ 14 0 = μ 44 0 ∧ 0 ≤ μ 44 0 ∧ μ 44 0 ≤ 4 ∧ ∀ i : Nat, (i : Int) < μ 44 0 → σ 9664 i = μ 1408 i) ∧
  (σ 15 0 = μ 45 0 ∧ 0 ≤ μ 45 0 ∧ μ 45 0 ≤ 50) ∧ (∀ i, i < 3 → σ 9728 i = μ 1472 i) ∧ μ 34 0 = -1
def RA (σ μ : Me) : Prop := (μ 22 0 = 0 ∨ μ 22 0 = 1) ∧ sce σ (nwM μ) (μ 384) ∧ kpR σ μ 0 6 ∧ kpR σ μ 1 7 ∧ tpR σ μ ∧ msR σ μ
def RP (σ : Me) (N : Nat → Int) : Prop := (σ 10 0 = 0 ∨ σ 10 0 = 1) ∧ σ 9472 0 = 0 ∧ (σ 10 0 = 0 → psX σ N 168)
def Rl (σ μ : Me) : Prop := RA σ μ ∧ RP σ (nwM μ)
def relX (v : Nat) : Bool := v == 1 || v == 6 || v == 7 || v == 14 || v == 15 || v == 65 || v == 128 || (decide (256 ≤ v) && decide (v < 2304)) || (decide (4480 ≤ v) && decide (v < 6528)) || (decide (6592 ≤ v) && decide (v < 8640)) || v == 9664 || v == 9728
def relM (v : Nat) : Bool := v == 384 || v == 256 || v == 512 || v == 576 || v == 64 || v == 2 || v == 10 || v == 44 || v == 1408 || v == 45 || v == 1472 || v == 34
def agX (σ τ : Me) : Prop := ∀ v, relX v = true → τ v = σ v
def agM (μ ν : Me) : Prop := ∀ v, relM v = true → ν v = μ v
theorem agX_fr {V : List Nat} {σ τ : Me} (h : fr V σ τ) (hV : V.all (fun v => !relX v) = true) : agX σ τ := fun v hv => h v (fun hm => by
  have := List.all_eq_true.mp hV v hm
  simp [hv] at this)
theorem agM_fr {V : List Nat} {σ τ : Me} (h : fr V σ τ) (hV : V.all (fun v => !relM v) = true) : agM σ τ := fun v hv => h v (fun hm => by
  have := List.all_eq_true.mp hV v hm
  simp [hv] at this)
theorem agX_trans {σ τ υ : Me} (h1 : agX σ τ) (h2 : agX τ υ) : agX σ υ := fun v hv => (h2 v hv).trans (h1 v hv)
theorem agM_trans {σ τ υ : Me} (h1 : agM σ τ) (h2 : agM τ υ) : agM σ υ := fun v hv => (h2 v hv).trans (h1 v hv)
theorem kpR_ag {σ τ μ ν : Me} {k f : Nat} (h : kpR σ μ k f) (hk : k < 2) (hf : relX f = true) (hx : agX σ τ) (hm : agM μ ν) : kpR τ ν k f := by
  obtain ⟨h1, h2⟩ := h
  refine ⟨by rw [hx f hf, hm _ (by decide)]; exact h1, ?_⟩
  rw [hm 576 (by decide), hm 256 (by decide), hm 512 (by decide)]
  rcases h2 with h2 | ⟨h2, h3⟩
  · exact Or.inl h2
  · refine Or.inr ⟨h2, sce_ag h3 (fun v v1 v2 => hx _ ?_)⟩
    simp only [relX, Bool.or_eq_true, Bool.and_eq_true, decide_eq_true_eq, beq_iff_eq]
    omega
theorem RA_ag {σ τ μ ν : Me} (h : RA σ μ) (hx : agX σ τ) (hm : agM μ ν) (hb : ν 22 0 = 0 ∨ ν 22 0 = 1) (hn : nwM ν = nwM μ) : RA τ ν := by
  obtain ⟨h1, h2, h3, h4, h5, h6⟩ := h
  refine ⟨hb, ?_, kpR_ag h3 (by decide) (by decide) hx hm, kpR_ag h4 (by decide) (by decide) hx hm, ?_, ?_⟩
  · rw [hn, hm _ (by decide)]
    refine sce_ag h2 (fun v v1 v2 => hx v ?_)
    simp only [relX, Bool.or_eq_true, Bool.and_eq_true, decide_eq_true_eq, beq_iff_eq]
    omega
  · unfold tpR at *
    rw [hx _ (by decide), hx _ (by decide), hm _ (by decide), hm _ (by decide)]
    exact h5
  · unfold msR at *
    rw [hx 1 (by decide), hx 14 (by decide), hx 9664 (by decide), hx 15 (by decide), hx 9728 (by decide), hm 10 (by decide), hm 44 (by decide), hm 1408 (by decide), hm 45 (by decide), hm 1472 (by decide), hm 34 (by decide)]
    exact h6
theorem nwM_1 {ν : Me} (h : ν 22 0 = 1) : nwM ν = ν 128 := by simp [nwM, h]
