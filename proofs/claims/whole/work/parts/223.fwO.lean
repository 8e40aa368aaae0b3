section FWO
variable {lay : List CD} {own : String} {cc : ByteArray} {nL d : Nat} {r : Option Nat} {T : FT} {b pc pc1 pc2 : Nat} {f g : EM}
theorem bind_some {α β : Type} {a : Option α} {k : α → Option β} {y : β} (h : a.bind k = some y) : ∃ x, a = some x ∧ k x = some y := by
  cases a with
  | none => cases h
  | some x => exact ⟨x, rfl, h⟩
/-- the words of a field: of class ci, the j-th, by the number 'index' of own's constants -/
def fw_fl (own : String) (index ci j : Nat) : Prop := ∃ (C : String) (Tt : u_T) (N : Nat), vwCl[ci]? = some (C, Tt, N) ∧ (∀ w ∈ u_ws C Tt N, w ∈ lw_tb) ∧ j < N ∧ Cond.fieldLink own index (Tt j).1 (Tt j).2.1 (Tt j).2.2.1 ∈ lw_tb
/-- and so that it may be set -/
def fw_fp (own : String) (index ci j : Nat) (ty : FieldType) : Prop := ∃ (C : String) (Tt : u_T) (N : Nat) (t0 : Nat → FieldType), vwCl[ci]? = some (C, Tt, N) ∧ (∀ w ∈ u_ws C Tt N, w ∈ lw_tb) ∧ j < N ∧ Cond.fieldLink own index (Tt j).1 (Tt j).2.1 (Tt j).2.2.1 ∈ lw_tb ∧ (∀ k, k < N → parseFieldDescriptor (Tt k).2.2.1 = some (t0 k)) ∧ (∀ a, a < N → ∀ b, b < N → a ≠ b → (Tt a).2.1 ≠ (Tt b).2.1) ∧ (Tt j).2.2.2 = false ∧ t0 j = ty
theorem fw_fv {adr : Nat → Nat} {σ : Me} {k j : Nat} {fs : List (Nat × Nat)} {z : Nat × Nat} (hj : fs[j]? = some z) : (fs.mapIdx (fw_f adr σ k))[j]? = some (fw_f adr σ k j z) := by
  rw [List.getElem?_mapIdx, hj]
  rfl
theorem fe_getI {k ci j q index : Nat} {fs : List (Nat × Nat)} (a : fw_E (lay, own, cc, nL, d, r) T b pc pc1 (k + 2) f) (hl : fw_fl own index ci j) (hk : lay[k]? = some (.inl (ci, fs))) (hj : fs[j]? = some (1, q)) (h : decode cc pc1 = .ok (.getfield index, 3)) : fw_E (lay, own, cc, nL, d, r) T b pc (pc1 + 3) 0 (thE f (gE (64 * k + j))) := by
  rintro ⟨p, l, e, R, s, m, args, below, meth, c, D, adr, cA, A, cells, slots, Q⟩ ⟨hx, hb, hml, hown, hts, hK, hA, hR⟩ ρ σ x σ' H locs ls st hL hM hst hf k_
  have X : fw_X (lay, own, cc, nL, d, r) (p, l, e, R, s, m, args, below, meth, c, D, adr, cA, A, cells, slots, Q) := ⟨hx, hb, hml, hown, hts, hK, hA, hR⟩
  obtain ⟨y, e1, e2⟩ := bind_some hf
  obtain ⟨C, Tt, N, hc, hin, hjN, hw⟩ := hl
  cases e2
  refine a _ X ρ σ y.1 y.2 H locs ls st hL hM hst e1 (fun H1 l1 hM1 => ?_)
  exact va_get hx hb hts hin hown hK hM1.1 k (fw_w_at hk) hc j hjN (hts _ hw) (fun _ z => z) (fw_fv hj) h (k_ H1 l1 hM1)
theorem fe_getL {k ci j q index : Nat} {fs : List (Nat × Nat)} (a : fw_E (lay, own, cc, nL, d, r) T b pc pc1 (k + 2) f) (hl : fw_fl own index ci j) (hk : lay[k]? = some (.inl (ci, fs))) (hj : fs[j]? = some (2, q)) (h : decode cc pc1 = .ok (.getfield index, 3)) : fw_E (lay, own, cc, nL, d, r) T b pc (pc1 + 3) 1 (thE f (gE (64 * k + j))) := by
  rintro ⟨p, l, e, R, s, m, args, below, meth, c, D, adr, cA, A, cells, slots, Q⟩ ⟨hx, hb, hml, hown, hts, hK, hA, hR⟩ ρ σ x σ' H locs ls st hL hM hst hf k_
  have X : fw_X (lay, own, cc, nL, d, r) (p, l, e, R, s, m, args, below, meth, c, D, adr, cA, A, cells, slots, Q) := ⟨hx, hb, hml, hown, hts, hK, hA, hR⟩
  obtain ⟨y, e1, e2⟩ := bind_some hf
  obtain ⟨C, Tt, N, hc, hin, hjN, hw⟩ := hl
  cases e2
  refine a _ X ρ σ y.1 y.2 H locs ls st hL hM hst e1 (fun H1 l1 hM1 => ?_)
  exact va_get hx hb hts hin hown hK hM1.1 k (fw_w_at hk) hc j hjN (hts _ hw) (fun _ z => z) (fw_fv hj) h (k_ H1 l1 hM1)
theorem fe_getR {k ci j q index : Nat} {fs : List (Nat × Nat)} (a : fw_E (lay, own, cc, nL, d, r) T b pc pc1 (k + 2) f) (hl : fw_fl own index ci j) (hk : lay[k]? = some (.inl (ci, fs))) (hj : fs[j]? = some (0, q)) (h : decode cc pc1 = .ok (.getfield index, 3)) : fw_E (lay, own, cc, nL, d, r) T b pc (pc1 + 3) (q + 2) (thE f (cE 0)) := by
  rintro ⟨p, l, e, R, s, m, args, below, meth, c, D, adr, cA, A, cells, slots, Q⟩ ⟨hx, hb, hml, hown, hts, hK, hA, hR⟩ ρ σ x σ' H locs ls st hL hM hst hf k_
  have X : fw_X (lay, own, cc, nL, d, r) (p, l, e, R, s, m, args, below, meth, c, D, adr, cA, A, cells, slots, Q) := ⟨hx, hb, hml, hown, hts, hK, hA, hR⟩
  obtain ⟨y, e1, e2⟩ := bind_some hf
  obtain ⟨C, Tt, N, hc, hin, hjN, hw⟩ := hl
  cases e2
  refine a _ X ρ σ y.1 y.2 H locs ls st hL hM hst e1 (fun H1 l1 hM1 => ?_)
  exact va_get hx hb hts hin hown hK hM1.1 k (fw_w_at hk) hc j hjN (hts _ hw) (fun _ z => z) (fw_fv hj) h (k_ H1 l1 hM1)
theorem fe_iald {k n : Nat} (a : fw_E (lay, own, cc, nL, d, r) T b pc pc1 (k + 2) f) (i : fw_E (lay, own, cc, nL, d, r) T (b + 1) pc1 pc2 0 g) (hk : lay[k]? = some (.inr (0, n))) (h : decode cc pc2 = .ok (.iaload, 1)) : fw_E (lay, own, cc, nL, d, r) T b pc (pc2 + 1) 0 (ldE (64 * k) n f g) := by
  rintro ⟨p, l, e, R, s, m, args, below, meth, c, D, adr, cA, A, cells, slots, Q⟩ ⟨hx, hb, hml, hown, hts, hK, hA, hR⟩ ρ σ x σ' H locs ls st hL hM hst hf k_
  have X : fw_X (lay, own, cc, nL, d, r) (p, l, e, R, s, m, args, below, meth, c, D, adr, cA, A, cells, slots, Q) := ⟨hx, hb, hml, hown, hts, hK, hA, hR⟩
  obtain ⟨y, e1, e2⟩ := bind_some hf
  obtain ⟨z, e3, e4⟩ := bind_some e2
  obtain ⟨u, e5, e6⟩ := bind_some e4
  cases e6
  obtain ⟨h1, h2⟩ := fw_in e5
  refine a _ X ρ σ y.1 y.2 H locs ls st hL hM hst e1 (fun H1 l1 hM1 => ?_)
  refine i _ X ρ y.2 z.1 z.2 H1 l1 ls _ hL hM1 (by simp only [List.map_cons, List.sum_cons]; have : (fw_val (p, l, e, R, s, m, args, below, meth, c, D, adr, cA, A, cells, slots, Q) (k + 2) y.1).category = 1 := rfl; omega) e3 (fun H2 l2 hM2 => ?_)
  subst h2
  exact va_iald hx hb hK hM2.1 k 0 (fw_w_at hk) rfl h1 h (k_ H2 l2 hM2)
theorem fe_lald {k n : Nat} (a : fw_E (lay, own, cc, nL, d, r) T b pc pc1 (k + 2) f) (i : fw_E (lay, own, cc, nL, d, r) T (b + 1) pc1 pc2 0 g) (hk : lay[k]? = some (.inr (1, n))) (h : decode cc pc2 = .ok (.laload, 1)) : fw_E (lay, own, cc, nL, d, r) T b pc (pc2 + 1) 1 (ldE (64 * k) n f g) := by
  rintro ⟨p, l, e, R, s, m, args, below, meth, c, D, adr, cA, A, cells, slots, Q⟩ ⟨hx, hb, hml, hown, hts, hK, hA, hR⟩ ρ σ x σ' H locs ls st hL hM hst hf k_
  have X : fw_X (lay, own, cc, nL, d, r) (p, l, e, R, s, m, args, below, meth, c, D, adr, cA, A, cells, slots, Q) := ⟨hx, hb, hml, hown, hts, hK, hA, hR⟩
  obtain ⟨y, e1, e2⟩ := bind_some hf
  obtain ⟨z, e3, e4⟩ := bind_some e2
  obtain ⟨u, e5, e6⟩ := bind_some e4
  cases e6
  obtain ⟨h1, h2⟩ := fw_in e5
  refine a _ X ρ σ y.1 y.2 H locs ls st hL hM hst e1 (fun H1 l1 hM1 => ?_)
  refine i _ X ρ y.2 z.1 z.2 H1 l1 ls _ hL hM1 (by simp only [List.map_cons, List.sum_cons]; have : (fw_val (p, l, e, R, s, m, args, below, meth, c, D, adr, cA, A, cells, slots, Q) (k + 2) y.1).category = 1 := rfl; omega) e3 (fun H2 l2 hM2 => ?_)
  subst h2
  exact va_lald hx hb hK hM2.1 k 1 (fw_w_at hk) rfl h1 h (k_ H2 l2 hM2)
theorem fe_bald {k n : Nat} (a : fw_E (lay, own, cc, nL, d, r) T b pc pc1 (k + 2) f) (i : fw_E (lay, own, cc, nL, d, r) T (b + 1) pc1 pc2 0 g) (hk : lay[k]? = some (.inr (2, n))) (h : decode cc pc2 = .ok (.baload, 1)) : fw_E (lay, own, cc, nL, d, r) T b pc (pc2 + 1) 0 (ldE (64 * k) n f g) := by
  rintro ⟨p, l, e, R, s, m, args, below, meth, c, D, adr, cA, A, cells, slots, Q⟩ ⟨hx, hb, hml, hown, hts, hK, hA, hR⟩ ρ σ x σ' H locs ls st hL hM hst hf k_
  have X : fw_X (lay, own, cc, nL, d, r) (p, l, e, R, s, m, args, below, meth, c, D, adr, cA, A, cells, slots, Q) := ⟨hx, hb, hml, hown, hts, hK, hA, hR⟩
  obtain ⟨y, e1, e2⟩ := bind_some hf
  obtain ⟨z, e3, e4⟩ := bind_some e2
  obtain ⟨u, e5, e6⟩ := bind_some e4
  cases e6
  obtain ⟨h1, h2⟩ := fw_in e5
  refine a _ X ρ σ y.1 y.2 H locs ls st hL hM hst e1 (fun H1 l1 hM1 => ?_)
  refine i _ X ρ y.2 z.1 z.2 H1 l1 ls _ hL hM1 (by simp only [List.map_cons, List.sum_cons]; have : (fw_val (p, l, e, R, s, m, args, below, meth, c, D, adr, cA, A, cells, slots, Q) (k + 2) y.1).category = 1 := rfl; omega) e3 (fun H2 l2 hM2 => ?_)
  subst h2
  exact va_bald hx hb hK hM2.1 k 2 (fw_w_at hk) rfl h1 h (k_ H2 l2 hM2)
theorem fe_zald {k n : Nat} (a : fw_E (lay, own, cc, nL, d, r) T b pc pc1 (k + 2) f) (i : fw_E (lay, own, cc, nL, d, r) T (b + 1) pc1 pc2 0 g) (hk : lay[k]? = some (.inr (3, n))) (h : decode cc pc2 = .ok (.baload, 1)) : fw_E (lay, own, cc, nL, d, r) T b pc (pc2 + 1) 0 (ldE (64 * k) n f g) := by
  rintro ⟨p, l, e, R, s, m, args, below, meth, c, D, adr, cA, A, cells, slots, Q⟩ ⟨hx, hb, hml, hown, hts, hK, hA, hR⟩ ρ σ x σ' H locs ls st hL hM hst hf k_
  have X : fw_X (lay, own, cc, nL, d, r) (p, l, e, R, s, m, args, below, meth, c, D, adr, cA, A, cells, slots, Q) := ⟨hx, hb, hml, hown, hts, hK, hA, hR⟩
  obtain ⟨y, e1, e2⟩ := bind_some hf
  obtain ⟨z, e3, e4⟩ := bind_some e2
  obtain ⟨u, e5, e6⟩ := bind_some e4
  cases e6
  obtain ⟨h1, h2⟩ := fw_in e5
  refine a _ X ρ σ y.1 y.2 H locs ls st hL hM hst e1 (fun H1 l1 hM1 => ?_)
  refine i _ X ρ y.2 z.1 z.2 H1 l1 ls _ hL hM1 (by simp only [List.map_cons, List.sum_cons]; have : (fw_val (p, l, e, R, s, m, args, below, meth, c, D, adr, cA, A, cells, slots, Q) (k + 2) y.1).category = 1 := rfl; omega) e3 (fun H2 l2 hM2 => ?_)
  subst h2
  exact va_zald hx hb hK hM2.1 k 3 (fw_w_at hk) rfl h1 h (k_ H2 l2 hM2)
theorem fe_iadd (a : fw_E (lay, own, cc, nL, d, r) T b pc pc1 0 f) (a2 : fw_E (lay, own, cc, nL, d, r) T (b + 1) pc1 pc2 0 g) (h : decode cc pc2 = .ok (.iadd, 1)) : fw_E (lay, own, cc, nL, d, r) T b pc (pc2 + 1) 0 (o2 addI f g) := by
  rintro ⟨p, l, e, R, s, m, args, below, meth, c, D, adr, cA, A, cells, slots, Q⟩ ⟨hx, hb, hml, hown, hts, hK, hA, hR⟩ ρ σ x σ' H locs ls st hL hM hst hf k
  have X : fw_X (lay, own, cc, nL, d, r) (p, l, e, R, s, m, args, below, meth, c, D, adr, cA, A, cells, slots, Q) := ⟨hx, hb, hml, hown, hts, hK, hA, hR⟩
  obtain ⟨y, e1, e2⟩ := bind_some hf
  obtain ⟨z, e3, e4⟩ := bind_some e2
  cases e4
  refine a _ X ρ σ y.1 y.2 H locs ls st hL hM hst e1 (fun H1 l1 hM1 => ?_)
  refine a2 _ X ρ y.2 z.1 z.2 H1 l1 ls _ hL hM1 (by simp only [List.map_cons, List.sum_cons]; have : (fw_val (p, l, e, R, s, m, args, below, meth, c, D, adr, cA, A, cells, slots, Q) 0 y.1).category = 1 := rfl; omega) e3 (fun H2 l2 hM2 => ?_)
  have kk := k H2 l2 hM2
  refine lv_iadd hx hb h ?_
  rw [← Int32.ofInt_add]
  exact kk
theorem fe_isub (a : fw_E (lay, own, cc, nL, d, r) T b pc pc1 0 f) (a2 : fw_E (lay, own, cc, nL, d, r) T (b + 1) pc1 pc2 0 g) (h : decode cc pc2 = .ok (.isub, 1)) : fw_E (lay, own, cc, nL, d, r) T b pc (pc2 + 1) 0 (o2 subI f g) := by
  rintro ⟨p, l, e, R, s, m, args, below, meth, c, D, adr, cA, A, cells, slots, Q⟩ ⟨hx, hb, hml, hown, hts, hK, hA, hR⟩ ρ σ x σ' H locs ls st hL hM hst hf k
  have X : fw_X (lay, own, cc, nL, d, r) (p, l, e, R, s, m, args, below, meth, c, D, adr, cA, A, cells, slots, Q) := ⟨hx, hb, hml, hown, hts, hK, hA, hR⟩
  obtain ⟨y, e1, e2⟩ := bind_some hf
  obtain ⟨z, e3, e4⟩ := bind_some e2
  cases e4
  refine a _ X ρ σ y.1 y.2 H locs ls st hL hM hst e1 (fun H1 l1 hM1 => ?_)
  refine a2 _ X ρ y.2 z.1 z.2 H1 l1 ls _ hL hM1 (by simp only [List.map_cons, List.sum_cons]; have : (fw_val (p, l, e, R, s, m, args, below, meth, c, D, adr, cA, A, cells, slots, Q) 0 y.1).category = 1 := rfl; omega) e3 (fun H2 l2 hM2 => ?_)
  have kk := k H2 l2 hM2
  refine lv_isub hx hb h ?_
  rw [← Int32.ofInt_sub]
  exact kk
theorem fe_imul (a : fw_E (lay, own, cc, nL, d, r) T b pc pc1 0 f) (a2 : fw_E (lay, own, cc, nL, d, r) T (b + 1) pc1 pc2 0 g) (h : decode cc pc2 = .ok (.imul, 1)) : fw_E (lay, own, cc, nL, d, r) T b pc (pc2 + 1) 0 (o2 mulI f g) := by
  rintro ⟨p, l, e, R, s, m, args, below, meth, c, D, adr, cA, A, cells, slots, Q⟩ ⟨hx, hb, hml, hown, hts, hK, hA, hR⟩ ρ σ x σ' H locs ls st hL hM hst hf k
  have X : fw_X (lay, own, cc, nL, d, r) (p, l, e, R, s, m, args, below, meth, c, D, adr, cA, A, cells, slots, Q) := ⟨hx, hb, hml, hown, hts, hK, hA, hR⟩
  obtain ⟨y, e1, e2⟩ := bind_some hf
  obtain ⟨z, e3, e4⟩ := bind_some e2
  cases e4
  refine a _ X ρ σ y.1 y.2 H locs ls st hL hM hst e1 (fun H1 l1 hM1 => ?_)
  refine a2 _ X ρ y.2 z.1 z.2 H1 l1 ls _ hL hM1 (by simp only [List.map_cons, List.sum_cons]; have : (fw_val (p, l, e, R, s, m, args, below, meth, c, D, adr, cA, A, cells, slots, Q) 0 y.1).category = 1 := rfl; omega) e3 (fun H2 l2 hM2 => ?_)
  have kk := k H2 l2 hM2
  refine lv_imul hx hb h ?_
  rw [← Int32.ofInt_mul]
  exact kk
theorem fe_iand (a : fw_E (lay, own, cc, nL, d, r) T b pc pc1 0 f) (a2 : fw_E (lay, own, cc, nL, d, r) T (b + 1) pc1 pc2 0 g) (h : decode cc pc2 = .ok (.iand, 1)) : fw_E (lay, own, cc, nL, d, r) T b pc (pc2 + 1) 0 (o2 andI f g) := by
  rintro ⟨p, l, e, R, s, m, args, below, meth, c, D, adr, cA, A, cells, slots, Q⟩ ⟨hx, hb, hml, hown, hts, hK, hA, hR⟩ ρ σ x σ' H locs ls st hL hM hst hf k
  have X : fw_X (lay, own, cc, nL, d, r) (p, l, e, R, s, m, args, below, meth, c, D, adr, cA, A, cells, slots, Q) := ⟨hx, hb, hml, hown, hts, hK, hA, hR⟩
  obtain ⟨y, e1, e2⟩ := bind_some hf
  obtain ⟨z, e3, e4⟩ := bind_some e2
  cases e4
  refine a _ X ρ σ y.1 y.2 H locs ls st hL hM hst e1 (fun H1 l1 hM1 => ?_)
  refine a2 _ X ρ y.2 z.1 z.2 H1 l1 ls _ hL hM1 (by simp only [List.map_cons, List.sum_cons]; have : (fw_val (p, l, e, R, s, m, args, below, meth, c, D, adr, cA, A, cells, slots, Q) 0 y.1).category = 1 := rfl; omega) e3 (fun H2 l2 hM2 => ?_)
  have kk := k H2 l2 hM2
  refine lv_iand hx hb h ?_
  have e := kk
  simp only [fw_val, fw_v, fw_W, andI, Int32.ofInt_toInt] at e
  exact e
theorem fe_ior (a : fw_E (lay, own, cc, nL, d, r) T b pc pc1 0 f) (a2 : fw_E (lay, own, cc, nL, d, r) T (b + 1) pc1 pc2 0 g) (h : decode cc pc2 = .ok (.ior, 1)) : fw_E (lay, own, cc, nL, d, r) T b pc (pc2 + 1) 0 (o2 iorI f g) := by
  rintro ⟨p, l, e, R, s, m, args, below, meth, c, D, adr, cA, A, cells, slots, Q⟩ ⟨hx, hb, hml, hown, hts, hK, hA, hR⟩ ρ σ x σ' H locs ls st hL hM hst hf k
  have X : fw_X (lay, own, cc, nL, d, r) (p, l, e, R, s, m, args, below, meth, c, D, adr, cA, A, cells, slots, Q) := ⟨hx, hb, hml, hown, hts, hK, hA, hR⟩
  obtain ⟨y, e1, e2⟩ := bind_some hf
  obtain ⟨z, e3, e4⟩ := bind_some e2
  cases e4
  refine a _ X ρ σ y.1 y.2 H locs ls st hL hM hst e1 (fun H1 l1 hM1 => ?_)
  refine a2 _ X ρ y.2 z.1 z.2 H1 l1 ls _ hL hM1 (by simp only [List.map_cons, List.sum_cons]; have : (fw_val (p, l, e, R, s, m, args, below, meth, c, D, adr, cA, A, cells, slots, Q) 0 y.1).category = 1 := rfl; omega) e3 (fun H2 l2 hM2 => ?_)
  have kk := k H2 l2 hM2
  refine lv_ior hx hb h ?_
  have e := kk
  simp only [fw_val, fw_v, fw_W, iorI, Int32.ofInt_toInt] at e
  exact e
theorem fe_ixor (a : fw_E (lay, own, cc, nL, d, r) T b pc pc1 0 f) (a2 : fw_E (lay, own, cc, nL, d, r) T (b + 1) pc1 pc2 0 g) (h : decode cc pc2 = .ok (.ixor, 1)) : fw_E (lay, own, cc, nL, d, r) T b pc (pc2 + 1) 0 (o2 xorI f g) := by
  rintro ⟨p, l, e, R, s, m, args, below, meth, c, D, adr, cA, A, cells, slots, Q⟩ ⟨hx, hb, hml, hown, hts, hK, hA, hR⟩ ρ σ x σ' H locs ls st hL hM hst hf k
  have X : fw_X (lay, own, cc, nL, d, r) (p, l, e, R, s, m, args, below, meth, c, D, adr, cA, A, cells, slots, Q) := ⟨hx, hb, hml, hown, hts, hK, hA, hR⟩
  obtain ⟨y, e1, e2⟩ := bind_some hf
  obtain ⟨z, e3, e4⟩ := bind_some e2
  cases e4
  refine a _ X ρ σ y.1 y.2 H locs ls st hL hM hst e1 (fun H1 l1 hM1 => ?_)
  refine a2 _ X ρ y.2 z.1 z.2 H1 l1 ls _ hL hM1 (by simp only [List.map_cons, List.sum_cons]; have : (fw_val (p, l, e, R, s, m, args, below, meth, c, D, adr, cA, A, cells, slots, Q) 0 y.1).category = 1 := rfl; omega) e3 (fun H2 l2 hM2 => ?_)
  have kk := k H2 l2 hM2
  refine lv_ixor hx hb h ?_
  have e := kk
  simp only [fw_val, fw_v, fw_W, xorI, Int32.ofInt_toInt] at e
  exact e
theorem fe_ishl (a : fw_E (lay, own, cc, nL, d, r) T b pc pc1 0 f) (a2 : fw_E (lay, own, cc, nL, d, r) T (b + 1) pc1 pc2 0 g) (h : decode cc pc2 = .ok (.ishl, 1)) : fw_E (lay, own, cc, nL, d, r) T b pc (pc2 + 1) 0 (o2 shlI f g) := by
  rintro ⟨p, l, e, R, s, m, args, below, meth, c, D, adr, cA, A, cells, slots, Q⟩ ⟨hx, hb, hml, hown, hts, hK, hA, hR⟩ ρ σ x σ' H locs ls st hL hM hst hf k
  have X : fw_X (lay, own, cc, nL, d, r) (p, l, e, R, s, m, args, below, meth, c, D, adr, cA, A, cells, slots, Q) := ⟨hx, hb, hml, hown, hts, hK, hA, hR⟩
  obtain ⟨y, e1, e2⟩ := bind_some hf
  obtain ⟨z, e3, e4⟩ := bind_some e2
  cases e4
  refine a _ X ρ σ y.1 y.2 H locs ls st hL hM hst e1 (fun H1 l1 hM1 => ?_)
  refine a2 _ X ρ y.2 z.1 z.2 H1 l1 ls _ hL hM1 (by simp only [List.map_cons, List.sum_cons]; have : (fw_val (p, l, e, R, s, m, args, below, meth, c, D, adr, cA, A, cells, slots, Q) 0 y.1).category = 1 := rfl; omega) e3 (fun H2 l2 hM2 => ?_)
  have kk := k H2 l2 hM2
  refine lv_ishl hx hb h ?_
  have e := kk
  simp only [fw_val, fw_v, fw_W, shlI, Int32.ofInt_toInt] at e
  exact e
theorem fe_ishr (a : fw_E (lay, own, cc, nL, d, r) T b pc pc1 0 f) (a2 : fw_E (lay, own, cc, nL, d, r) T (b + 1) pc1 pc2 0 g) (h : decode cc pc2 = .ok (.ishr, 1)) : fw_E (lay, own, cc, nL, d, r) T b pc (pc2 + 1) 0 (o2 shrI f g) := by
  rintro ⟨p, l, e, R, s, m, args, below, meth, c, D, adr, cA, A, cells, slots, Q⟩ ⟨hx, hb, hml, hown, hts, hK, hA, hR⟩ ρ σ x σ' H locs ls st hL hM hst hf k
  have X : fw_X (lay, own, cc, nL, d, r) (p, l, e, R, s, m, args, below, meth, c, D, adr, cA, A, cells, slots, Q) := ⟨hx, hb, hml, hown, hts, hK, hA, hR⟩
  obtain ⟨y, e1, e2⟩ := bind_some hf
  obtain ⟨z, e3, e4⟩ := bind_some e2
  cases e4
  refine a _ X ρ σ y.1 y.2 H locs ls st hL hM hst e1 (fun H1 l1 hM1 => ?_)
  refine a2 _ X ρ y.2 z.1 z.2 H1 l1 ls _ hL hM1 (by simp only [List.map_cons, List.sum_cons]; have : (fw_val (p, l, e, R, s, m, args, below, meth, c, D, adr, cA, A, cells, slots, Q) 0 y.1).category = 1 := rfl; omega) e3 (fun H2 l2 hM2 => ?_)
  have kk := k H2 l2 hM2
  refine lv_ishr hx hb h ?_
  have e := kk
  simp only [fw_val, fw_v, fw_W, shrI, Int32.ofInt_toInt] at e
  exact e
theorem fe_iushr (a : fw_E (lay, own, cc, nL, d, r) T b pc pc1 0 f) (a2 : fw_E (lay, own, cc, nL, d, r) T (b + 1) pc1 pc2 0 g) (h : decode cc pc2 = .ok (.iushr, 1)) : fw_E (lay, own, cc, nL, d, r) T b pc (pc2 + 1) 0 (o2 usrI f g) := by
  rintro ⟨p, l, e, R, s, m, args, below, meth, c, D, adr, cA, A, cells, slots, Q⟩ ⟨hx, hb, hml, hown, hts, hK, hA, hR⟩ ρ σ x σ' H locs ls st hL hM hst hf k
  have X : fw_X (lay, own, cc, nL, d, r) (p, l, e, R, s, m, args, below, meth, c, D, adr, cA, A, cells, slots, Q) := ⟨hx, hb, hml, hown, hts, hK, hA, hR⟩
  obtain ⟨y, e1, e2⟩ := bind_some hf
  obtain ⟨z, e3, e4⟩ := bind_some e2
  cases e4
  refine a _ X ρ σ y.1 y.2 H locs ls st hL hM hst e1 (fun H1 l1 hM1 => ?_)
  refine a2 _ X ρ y.2 z.1 z.2 H1 l1 ls _ hL hM1 (by simp only [List.map_cons, List.sum_cons]; have : (fw_val (p, l, e, R, s, m, args, below, meth, c, D, adr, cA, A, cells, slots, Q) 0 y.1).category = 1 := rfl; omega) e3 (fun H2 l2 hM2 => ?_)
  have kk := k H2 l2 hM2
  refine lv_iushr hx hb h rfl ?_
  have e := kk
  simp only [fw_val, fw_v, fw_W, usrI, Int32.ofInt_toInt] at e
  exact e
theorem fe_ladd (a : fw_E (lay, own, cc, nL, d, r) T b pc pc1 1 f) (a2 : fw_E (lay, own, cc, nL, d, r) T (b + 2) pc1 pc2 1 g) (h : decode cc pc2 = .ok (.ladd, 1)) : fw_E (lay, own, cc, nL, d, r) T b pc (pc2 + 1) 1 (o2 addI f g) := by
  rintro ⟨p, l, e, R, s, m, args, below, meth, c, D, adr, cA, A, cells, slots, Q⟩ ⟨hx, hb, hml, hown, hts, hK, hA, hR⟩ ρ σ x σ' H locs ls st hL hM hst hf k
  have X : fw_X (lay, own, cc, nL, d, r) (p, l, e, R, s, m, args, below, meth, c, D, adr, cA, A, cells, slots, Q) := ⟨hx, hb, hml, hown, hts, hK, hA, hR⟩
  obtain ⟨y, e1, e2⟩ := bind_some hf
  obtain ⟨z, e3, e4⟩ := bind_some e2
  cases e4
  refine a _ X ρ σ y.1 y.2 H locs ls st hL hM hst e1 (fun H1 l1 hM1 => ?_)
  refine a2 _ X ρ y.2 z.1 z.2 H1 l1 ls _ hL hM1 (by simp only [List.map_cons, List.sum_cons]; have : (fw_val (p, l, e, R, s, m, args, below, meth, c, D, adr, cA, A, cells, slots, Q) 1 y.1).category = 2 := rfl; omega) e3 (fun H2 l2 hM2 => ?_)
  have kk := k H2 l2 hM2
  refine lv_ladd hx hb h ?_
  rw [← Int64.ofInt_add]
  exact kk
theorem fe_lsub (a : fw_E (lay, own, cc, nL, d, r) T b pc pc1 1 f) (a2 : fw_E (lay, own, cc, nL, d, r) T (b + 2) pc1 pc2 1 g) (h : decode cc pc2 = .ok (.lsub, 1)) : fw_E (lay, own, cc, nL, d, r) T b pc (pc2 + 1) 1 (o2 subI f g) := by
  rintro ⟨p, l, e, R, s, m, args, below, meth, c, D, adr, cA, A, cells, slots, Q⟩ ⟨hx, hb, hml, hown, hts, hK, hA, hR⟩ ρ σ x σ' H locs ls st hL hM hst hf k
  have X : fw_X (lay, own, cc, nL, d, r) (p, l, e, R, s, m, args, below, meth, c, D, adr, cA, A, cells, slots, Q) := ⟨hx, hb, hml, hown, hts, hK, hA, hR⟩
  obtain ⟨y, e1, e2⟩ := bind_some hf
  obtain ⟨z, e3, e4⟩ := bind_some e2
  cases e4
  refine a _ X ρ σ y.1 y.2 H locs ls st hL hM hst e1 (fun H1 l1 hM1 => ?_)
  refine a2 _ X ρ y.2 z.1 z.2 H1 l1 ls _ hL hM1 (by simp only [List.map_cons, List.sum_cons]; have : (fw_val (p, l, e, R, s, m, args, below, meth, c, D, adr, cA, A, cells, slots, Q) 1 y.1).category = 2 := rfl; omega) e3 (fun H2 l2 hM2 => ?_)
  have kk := k H2 l2 hM2
  refine lv_lsub hx hb h ?_
  rw [← Int64.ofInt_sub]
  exact kk
theorem fe_lmul (a : fw_E (lay, own, cc, nL, d, r) T b pc pc1 1 f) (a2 : fw_E (lay, own, cc, nL, d, r) T (b + 2) pc1 pc2 1 g) (h : decode cc pc2 = .ok (.lmul, 1)) : fw_E (lay, own, cc, nL, d, r) T b pc (pc2 + 1) 1 (o2 mulI f g) := by
  rintro ⟨p, l, e, R, s, m, args, below, meth, c, D, adr, cA, A, cells, slots, Q⟩ ⟨hx, hb, hml, hown, hts, hK, hA, hR⟩ ρ σ x σ' H locs ls st hL hM hst hf k
  have X : fw_X (lay, own, cc, nL, d, r) (p, l, e, R, s, m, args, below, meth, c, D, adr, cA, A, cells, slots, Q) := ⟨hx, hb, hml, hown, hts, hK, hA, hR⟩
  obtain ⟨y, e1, e2⟩ := bind_some hf
  obtain ⟨z, e3, e4⟩ := bind_some e2
  cases e4
  refine a _ X ρ σ y.1 y.2 H locs ls st hL hM hst e1 (fun H1 l1 hM1 => ?_)
  refine a2 _ X ρ y.2 z.1 z.2 H1 l1 ls _ hL hM1 (by simp only [List.map_cons, List.sum_cons]; have : (fw_val (p, l, e, R, s, m, args, below, meth, c, D, adr, cA, A, cells, slots, Q) 1 y.1).category = 2 := rfl; omega) e3 (fun H2 l2 hM2 => ?_)
  have kk := k H2 l2 hM2
  refine lv_lmul hx hb h ?_
  rw [← Int64.ofInt_mul]
  exact kk
theorem fe_lor (a : fw_E (lay, own, cc, nL, d, r) T b pc pc1 1 f) (a2 : fw_E (lay, own, cc, nL, d, r) T (b + 2) pc1 pc2 1 g) (h : decode cc pc2 = .ok (.lor, 1)) : fw_E (lay, own, cc, nL, d, r) T b pc (pc2 + 1) 1 (o2 iorL f g) := by
  rintro ⟨p, l, e, R, s, m, args, below, meth, c, D, adr, cA, A, cells, slots, Q⟩ ⟨hx, hb, hml, hown, hts, hK, hA, hR⟩ ρ σ x σ' H locs ls st hL hM hst hf k
  have X : fw_X (lay, own, cc, nL, d, r) (p, l, e, R, s, m, args, below, meth, c, D, adr, cA, A, cells, slots, Q) := ⟨hx, hb, hml, hown, hts, hK, hA, hR⟩
  obtain ⟨y, e1, e2⟩ := bind_some hf
  obtain ⟨z, e3, e4⟩ := bind_some e2
  cases e4
  refine a _ X ρ σ y.1 y.2 H locs ls st hL hM hst e1 (fun H1 l1 hM1 => ?_)
  refine a2 _ X ρ y.2 z.1 z.2 H1 l1 ls _ hL hM1 (by simp only [List.map_cons, List.sum_cons]; have : (fw_val (p, l, e, R, s, m, args, below, meth, c, D, adr, cA, A, cells, slots, Q) 1 y.1).category = 2 := rfl; omega) e3 (fun H2 l2 hM2 => ?_)
  have kk := k H2 l2 hM2
  refine lv_lor hx hb h ?_
  have e := kk
  simp only [fw_val, fw_v, fw_W, iorL, Int64.ofInt_toInt] at e
  exact e
theorem fe_lshl (a : fw_E (lay, own, cc, nL, d, r) T b pc pc1 1 f) (a2 : fw_E (lay, own, cc, nL, d, r) T (b + 2) pc1 pc2 0 g) (h : decode cc pc2 = .ok (.lshl, 1)) : fw_E (lay, own, cc, nL, d, r) T b pc (pc2 + 1) 1 (o2 shlL f g) := by
  rintro ⟨p, l, e, R, s, m, args, below, meth, c, D, adr, cA, A, cells, slots, Q⟩ ⟨hx, hb, hml, hown, hts, hK, hA, hR⟩ ρ σ x σ' H locs ls st hL hM hst hf k
  have X : fw_X (lay, own, cc, nL, d, r) (p, l, e, R, s, m, args, below, meth, c, D, adr, cA, A, cells, slots, Q) := ⟨hx, hb, hml, hown, hts, hK, hA, hR⟩
  obtain ⟨y, e1, e2⟩ := bind_some hf
  obtain ⟨z, e3, e4⟩ := bind_some e2
  cases e4
  refine a _ X ρ σ y.1 y.2 H locs ls st hL hM hst e1 (fun H1 l1 hM1 => ?_)
  refine a2 _ X ρ y.2 z.1 z.2 H1 l1 ls _ hL hM1 (by simp only [List.map_cons, List.sum_cons]; have : (fw_val (p, l, e, R, s, m, args, below, meth, c, D, adr, cA, A, cells, slots, Q) 1 y.1).category = 2 := rfl; omega) e3 (fun H2 l2 hM2 => ?_)
  have kk := k H2 l2 hM2
  refine lv_lshl hx hb h rfl ?_
  have e := kk
  simp only [fw_val, fw_v, fw_W, shlL, Int64.ofInt_toInt] at e
  exact e
theorem cmpL_of (a b : Int) : lg_cmp (Int64.ofInt a) (Int64.ofInt b) = Int32.ofInt (cmpL a b) := by
  by_cases h1 : w64 b < w64 a
  · have e1 : cmpL a b = 1 := if_pos h1
    have e2 : Int64.ofInt a > Int64.ofInt b := Int64.lt_iff_toInt_lt.mpr h1
    rw [e1, lg_cmp, if_pos e2]
    rfl
  · have e2 : ¬ Int64.ofInt a > Int64.ofInt b := fun z => h1 (Int64.lt_iff_toInt_lt.mp z)
    by_cases h2 : w64 a = w64 b
    · have e1 : cmpL a b = 0 := by rw [cmpL, if_neg h1, if_pos h2]
      rw [e1, lg_cmp, if_neg e2, if_pos (Int64.toInt_inj.mp h2)]
      rfl
    · have e1 : cmpL a b = -1 := by rw [cmpL, if_neg h1, if_neg h2]
      rw [e1, lg_cmp, if_neg e2, if_neg (fun z => h2 (by rw [w64, w64, z]))]
      rfl
theorem fe_lcmp (a : fw_E (lay, own, cc, nL, d, r) T b pc pc1 1 f) (a2 : fw_E (lay, own, cc, nL, d, r) T (b + 2) pc1 pc2 1 g) (h : decode cc pc2 = .ok (.lcmp, 1)) : fw_E (lay, own, cc, nL, d, r) T b pc (pc2 + 1) 0 (o2 cmpL f g) := by
  rintro ⟨p, l, e, R, s, m, args, below, meth, c, D, adr, cA, A, cells, slots, Q⟩ ⟨hx, hb, hml, hown, hts, hK, hA, hR⟩ ρ σ x σ' H locs ls st hL hM hst hf k
  have X : fw_X (lay, own, cc, nL, d, r) (p, l, e, R, s, m, args, below, meth, c, D, adr, cA, A, cells, slots, Q) := ⟨hx, hb, hml, hown, hts, hK, hA, hR⟩
  obtain ⟨y, e1, e2⟩ := bind_some hf
  obtain ⟨z, e3, e4⟩ := bind_some e2
  cases e4
  refine a _ X ρ σ y.1 y.2 H locs ls st hL hM hst e1 (fun H1 l1 hM1 => ?_)
  refine a2 _ X ρ y.2 z.1 z.2 H1 l1 ls _ hL hM1 (by simp only [List.map_cons, List.sum_cons]; have : (fw_val (p, l, e, R, s, m, args, below, meth, c, D, adr, cA, A, cells, slots, Q) 1 y.1).category = 2 := rfl; omega) e3 (fun H2 l2 hM2 => ?_)
  have kk := k H2 l2 hM2
  have e9 := cmpL_of y.1 z.1
  refine W.lcmp hx hb h ?_
  rw [e9]
  exact kk
theorem i32_div (a b : Int) : Int32.ofInt ((w32 a).tdiv (w32 b)) = Int32.ofInt a / Int32.ofInt b := by
  rw [← Int32.toInt_inj, Int32.toInt_div, Int32.toInt_ofInt]
  rfl
theorem i64_div (a b : Int) : Int64.ofInt ((w64 a).tdiv (w64 b)) = Int64.ofInt a / Int64.ofInt b := by
  rw [← Int64.toInt_inj, Int64.toInt_div, Int64.toInt_ofInt]
  rfl
theorem fe_idiv (a : fw_E (lay, own, cc, nL, d, r) T b pc pc1 0 f) (a2 : fw_E (lay, own, cc, nL, d, r) T (b + 1) pc1 pc2 0 g) (h : decode cc pc2 = .ok (.idiv, 1)) : fw_E (lay, own, cc, nL, d, r) T b pc (pc2 + 1) 0 (dvE f g) := by
  rintro ⟨p, l, e, R, s, m, args, below, meth, c, D, adr, cA, A, cells, slots, Q⟩ ⟨hx, hb, hml, hown, hts, hK, hA, hR⟩ ρ σ x σ' H locs ls st hL hM hst hf k
  have X : fw_X (lay, own, cc, nL, d, r) (p, l, e, R, s, m, args, below, meth, c, D, adr, cA, A, cells, slots, Q) := ⟨hx, hb, hml, hown, hts, hK, hA, hR⟩
  obtain ⟨y, e1, e2⟩ := bind_some hf
  obtain ⟨z, e3, e4⟩ := bind_some e2
  split at e4
  · cases e4
  rename_i hne
  cases e4
  refine a _ X ρ σ y.1 y.2 H locs ls st hL hM hst e1 (fun H1 l1 hM1 => ?_)
  refine a2 _ X ρ y.2 z.1 z.2 H1 l1 ls _ hL hM1 (by simp only [List.map_cons, List.sum_cons]; have : (fw_val (p, l, e, R, s, m, args, below, meth, c, D, adr, cA, A, cells, slots, Q) 0 y.1).category = 1 := rfl; omega) e3 (fun H2 l2 hM2 => ?_)
  have kk := k H2 l2 hM2
  refine lv_idiv hx hb h (fun q => hne (by rw [w32, q]; rfl)) ?_
  rw [← i32_div]
  exact kk
theorem fe_irem (a : fw_E (lay, own, cc, nL, d, r) T b pc pc1 0 f) (a2 : fw_E (lay, own, cc, nL, d, r) T (b + 1) pc1 pc2 0 g) (h : decode cc pc2 = .ok (.irem, 1)) : fw_E (lay, own, cc, nL, d, r) T b pc (pc2 + 1) 0 (rmE f g) := by
  rintro ⟨p, l, e, R, s, m, args, below, meth, c, D, adr, cA, A, cells, slots, Q⟩ ⟨hx, hb, hml, hown, hts, hK, hA, hR⟩ ρ σ x σ' H locs ls st hL hM hst hf k
  have X : fw_X (lay, own, cc, nL, d, r) (p, l, e, R, s, m, args, below, meth, c, D, adr, cA, A, cells, slots, Q) := ⟨hx, hb, hml, hown, hts, hK, hA, hR⟩
  obtain ⟨y, e1, e2⟩ := bind_some hf
  obtain ⟨z, e3, e4⟩ := bind_some e2
  split at e4
  · cases e4
  rename_i hne
  cases e4
  refine a _ X ρ σ y.1 y.2 H locs ls st hL hM hst e1 (fun H1 l1 hM1 => ?_)
  refine a2 _ X ρ y.2 z.1 z.2 H1 l1 ls _ hL hM1 (by simp only [List.map_cons, List.sum_cons]; have : (fw_val (p, l, e, R, s, m, args, below, meth, c, D, adr, cA, A, cells, slots, Q) 0 y.1).category = 1 := rfl; omega) e3 (fun H2 l2 hM2 => ?_)
  have kk := k H2 l2 hM2
  refine lv_irem hx hb h (fun q => hne (by rw [w32, q]; rfl)) ?_
  have e : Int32.ofInt y.1 - Int32.ofInt y.1 / Int32.ofInt z.1 * Int32.ofInt z.1 = Int32.ofInt (w32 y.1 - (w32 y.1).tdiv (w32 z.1) * w32 z.1) := by
    rw [Int32.ofInt_sub, Int32.ofInt_mul, i32_div, w32, w32, Int32.ofInt_toInt, Int32.ofInt_toInt]
  rw [e]
  exact kk
theorem fe_ldiv (a : fw_E (lay, own, cc, nL, d, r) T b pc pc1 1 f) (a2 : fw_E (lay, own, cc, nL, d, r) T (b + 2) pc1 pc2 1 g) (h : decode cc pc2 = .ok (.ldiv, 1)) : fw_E (lay, own, cc, nL, d, r) T b pc (pc2 + 1) 1 (dlE f g) := by
  rintro ⟨p, l, e, R, s, m, args, below, meth, c, D, adr, cA, A, cells, slots, Q⟩ ⟨hx, hb, hml, hown, hts, hK, hA, hR⟩ ρ σ x σ' H locs ls st hL hM hst hf k
  have X : fw_X (lay, own, cc, nL, d, r) (p, l, e, R, s, m, args, below, meth, c, D, adr, cA, A, cells, slots, Q) := ⟨hx, hb, hml, hown, hts, hK, hA, hR⟩
  obtain ⟨y, e1, e2⟩ := bind_some hf
  obtain ⟨z, e3, e4⟩ := bind_some e2
  split at e4
  · cases e4
  rename_i hne
  cases e4
  refine a _ X ρ σ y.1 y.2 H locs ls st hL hM hst e1 (fun H1 l1 hM1 => ?_)
  refine a2 _ X ρ y.2 z.1 z.2 H1 l1 ls _ hL hM1 (by simp only [List.map_cons, List.sum_cons]; have : (fw_val (p, l, e, R, s, m, args, below, meth, c, D, adr, cA, A, cells, slots, Q) 1 y.1).category = 2 := rfl; omega) e3 (fun H2 l2 hM2 => ?_)
  have kk := k H2 l2 hM2
  refine lv_ldiv hx hb h (fun q => hne (by rw [w64, q]; rfl)) ?_
  rw [← i64_div]
  exact kk
theorem fe_i2l (a : fw_E (lay, own, cc, nL, d, r) T b pc pc1 0 f) (h : decode cc pc1 = .ok (.i2l, 1)) : fw_E (lay, own, cc, nL, d, r) T b pc (pc1 + 1) 1 (o1 i2lI f) := by
  rintro ⟨p, l, e, R, s, m, args, below, meth, c, D, adr, cA, A, cells, slots, Q⟩ ⟨hx, hb, hml, hown, hts, hK, hA, hR⟩ ρ σ x σ' H locs ls st hL hM hst hf k
  have X : fw_X (lay, own, cc, nL, d, r) (p, l, e, R, s, m, args, below, meth, c, D, adr, cA, A, cells, slots, Q) := ⟨hx, hb, hml, hown, hts, hK, hA, hR⟩
  obtain ⟨y, e1, e2⟩ := bind_some hf
  cases e2
  refine a _ X ρ σ y.1 y.2 H locs ls st hL hM hst e1 (fun H1 l1 hM1 => ?_)
  have kk := k H1 l1 hM1
  exact lv_i2l (v := Int64.ofInt (i2lI y.1)) hx hb h (Int64.ofInt_int32ToInt _).symm kk
theorem fe_l2i (a : fw_E (lay, own, cc, nL, d, r) T b pc pc1 1 f) (h : decode cc pc1 = .ok (.l2i, 1)) : fw_E (lay, own, cc, nL, d, r) T b pc (pc1 + 1) 0 (o1 l2iI f) := by
  rintro ⟨p, l, e, R, s, m, args, below, meth, c, D, adr, cA, A, cells, slots, Q⟩ ⟨hx, hb, hml, hown, hts, hK, hA, hR⟩ ρ σ x σ' H locs ls st hL hM hst hf k
  have X : fw_X (lay, own, cc, nL, d, r) (p, l, e, R, s, m, args, below, meth, c, D, adr, cA, A, cells, slots, Q) := ⟨hx, hb, hml, hown, hts, hK, hA, hR⟩
  obtain ⟨y, e1, e2⟩ := bind_some hf
  cases e2
  refine a _ X ρ σ y.1 y.2 H locs ls st hL hM hst e1 (fun H1 l1 hM1 => ?_)
  have kk := k H1 l1 hM1
  exact lv_l2i (v := Int32.ofInt (l2iI y.1)) hx hb h Int64.toInt32_ofInt kk
theorem fe_i2b (a : fw_E (lay, own, cc, nL, d, r) T b pc pc1 0 f) (h : decode cc pc1 = .ok (.i2b, 1)) : fw_E (lay, own, cc, nL, d, r) T b pc (pc1 + 1) 0 (o1 i2bI f) := by
  rintro ⟨p, l, e, R, s, m, args, below, meth, c, D, adr, cA, A, cells, slots, Q⟩ ⟨hx, hb, hml, hown, hts, hK, hA, hR⟩ ρ σ x σ' H locs ls st hL hM hst hf k
  have X : fw_X (lay, own, cc, nL, d, r) (p, l, e, R, s, m, args, below, meth, c, D, adr, cA, A, cells, slots, Q) := ⟨hx, hb, hml, hown, hts, hK, hA, hR⟩
  obtain ⟨y, e1, e2⟩ := bind_some hf
  cases e2
  refine a _ X ρ σ y.1 y.2 H locs ls st hL hM hst e1 (fun H1 l1 hM1 => ?_)
  have kk := k H1 l1 hM1
  exact lv_i2b (v := Int32.ofInt (i2bI y.1)) hx hb h (Int32.ofInt_toInt _).symm kk
end FWO
