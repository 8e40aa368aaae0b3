section FWP
variable {lay : List CD} {own : String} {cc : ByteArray} {nL d : Nat} {r : Option Nat} {T T' : FT} {b pc pc1 pc2 pc3 pt pf tgt : Nat} {f g h3 : EM} {off : Int} {N B C : Nat × FT}
theorem fw_D {lay : List CD} {adr : Nat → Nat} {cA : Nat → ClassId} {σ σ' : Me} {A : Nat → Prop} (h : va_D A (fw_w lay adr cA σ)) : va_D A (fw_w lay adr cA σ') := by
  refine ⟨fun i j u v hi hj huv => ?_, fun k q hk => ?_⟩
  · obtain ⟨a, ha, rfl⟩ := fw_w_of hi
    obtain ⟨b, hb, rfl⟩ := fw_w_of hj
    exact h.1 i j _ _ (fw_w_at ha) (fw_w_at hb) huv
  · obtain ⟨a, ha, rfl⟩ := fw_w_of hk
    exact h.2 k (adr k, fw_c adr cA σ k a) (fw_w_at ha)
theorem fw_M_put {S : SI} {p : Program} {l : Launch} {e : Env} {R : Room} {s : State} {m : MethodId} {args : Array Value} {below : List Frame} {meth : Method} {c : Code} {D : va_G} {adr : Nat → Nat} {cA : Nat → ClassId} {A : Nat → Prop} {cells slots : Nat} {Q : State → Prop} {σ : Me} {v i k : Nat} {x : Int} {q : CD} {e1 : va_E} {H : Heap} {locs : List Loc}
    (hok : fw_ok S.1) (hk : S.1[k]? = some q) (hv : ∃ j, j < 64 ∧ v = 64 * k + j) (he : fw_c adr cA (u2 σ v i x) k q = e1) (hP : va_P D vwCl ((fw_w S.1 adr cA σ).set k (adr k, e1)) H) (hD : va_D A ((fw_w S.1 adr cA σ).set k (adr k, e1))) (hS : va_S A s.heap H locs) : fw_M S (p, l, e, R, s, m, args, below, meth, c, D, adr, cA, A, cells, slots, Q) (u2 σ v i x) H locs := by
  rw [fw_w_set hok hk hv he] at hP hD
  exact ⟨hP, hD, hS⟩
theorem fw_jlt {k ci j : Nat} {fs : List (Nat × Nat)} {z : Nat × Nat} (hok : fw_ok lay) (hk : lay[k]? = some (.inl (ci, fs))) (hj : fs[j]? = some z) : j < 64 := by
  have h1 : fs.length ≤ 64 := hok k (ci, fs) hk
  have h2 := (List.getElem?_eq_some_iff.mp hj).1
  omega
theorem fs_put {k ci j q index : Nat} {fs : List (Nat × Nat)} (ob : fw_E (lay, own, cc, nL, d, r) T 0 pc pc1 (k + 2) f) (a : fw_E (lay, own, cc, nL, d, r) T 1 pc1 pc2 0 g) (hl : fw_fp own index ci j .int) (hk : lay[k]? = some (.inl (ci, fs))) (hj : fs[j]? = some (1, q)) (h : decode cc pc2 = .ok (.putfield index, 3)) (hT : fw_ts T' T = true) : fw_S (lay, own, cc, nL, d, r) T pc (pfS (64 * k + j) f g) (pc2 + 3, T') B C := by
  rintro ⟨p, l, e, R, s, m, args, below, meth, c, D, adr, cA, A, cells, slots, Q⟩ ⟨hx, hb, hml, hown, hts, hK, hA, hR⟩ ρ σ o x ρ' σ' H locs ls hL hM hf k_
  have X : fw_X (lay, own, cc, nL, d, r) (p, l, e, R, s, m, args, below, meth, c, D, adr, cA, A, cells, slots, Q) := ⟨hx, hb, hml, hown, hts, hK, hA, hR⟩
  obtain ⟨y, e1, e2⟩ := bind_some hf
  obtain ⟨z, e3, e4⟩ := bind_some e2
  obtain ⟨C1, Tt, N1, t0, hc, hin, hjN, hw, hty, hnm, hfin, ht0⟩ := hl
  cases e4
  refine ob _ X ρ σ y.1 y.2 H locs ls [] hL hM (Nat.le_refl _) e1 (fun H1 l1 hM1 => ?_)
  refine a _ X ρ y.2 z.1 z.2 H1 l1 ls _ hL hM1 (by simp only [List.map_cons, List.sum_cons]; have : (fw_val (p, l, e, R, s, m, args, below, meth, c, D, adr, cA, A, cells, slots, Q) (k + 2) y.1).category = 1 := rfl; simp only [this, List.map_nil, List.sum_nil]; omega) e3 (fun H2 l2 hM2 => ?_)
  refine va_put hx hb hts hin t0 hty hnm hown hK hM2.1 hM2.2.1 hM2.2.2 k (fw_w_at hk) hc j hjN (hts _ hw) (fun _ z => z) hfin (ht0 ▸ hty j hjN) rfl rfl (by simpa using (List.getElem?_eq_some_iff.mp hj).1) h (fun H3 l3 hP hD hS => ?_)
  exact k_.1 rfl H3 l3 ls (fw_L_sub hT hL) (fw_M_put (S := (lay, own, cc, nL, d, r)) hR.2.2.2.2.1 hk ⟨j, fw_jlt hR.2.2.2.2.1 hk hj, rfl⟩ (fw_c_fld hj (by simp only [fw_f, u2_s]; rfl)) hP hD hS)
theorem fs_putL {k ci j q index : Nat} {fs : List (Nat × Nat)} (ob : fw_E (lay, own, cc, nL, d, r) T 0 pc pc1 (k + 2) f) (a : fw_E (lay, own, cc, nL, d, r) T 1 pc1 pc2 1 g) (hl : fw_fp own index ci j .long) (hk : lay[k]? = some (.inl (ci, fs))) (hj : fs[j]? = some (2, q)) (h : decode cc pc2 = .ok (.putfield index, 3)) (hT : fw_ts T' T = true) : fw_S (lay, own, cc, nL, d, r) T pc (pfS (64 * k + j) f g) (pc2 + 3, T') B C := by
  rintro ⟨p, l, e, R, s, m, args, below, meth, c, D, adr, cA, A, cells, slots, Q⟩ ⟨hx, hb, hml, hown, hts, hK, hA, hR⟩ ρ σ o x ρ' σ' H locs ls hL hM hf k_
  have X : fw_X (lay, own, cc, nL, d, r) (p, l, e, R, s, m, args, below, meth, c, D, adr, cA, A, cells, slots, Q) := ⟨hx, hb, hml, hown, hts, hK, hA, hR⟩
  obtain ⟨y, e1, e2⟩ := bind_some hf
  obtain ⟨z, e3, e4⟩ := bind_some e2
  obtain ⟨C1, Tt, N1, t0, hc, hin, hjN, hw, hty, hnm, hfin, ht0⟩ := hl
  cases e4
  refine ob _ X ρ σ y.1 y.2 H locs ls [] hL hM (Nat.le_refl _) e1 (fun H1 l1 hM1 => ?_)
  refine a _ X ρ y.2 z.1 z.2 H1 l1 ls _ hL hM1 (by simp only [List.map_cons, List.sum_cons]; have : (fw_val (p, l, e, R, s, m, args, below, meth, c, D, adr, cA, A, cells, slots, Q) (k + 2) y.1).category = 1 := rfl; simp only [this, List.map_nil, List.sum_nil]; omega) e3 (fun H2 l2 hM2 => ?_)
  refine va_put hx hb hts hin t0 hty hnm hown hK hM2.1 hM2.2.1 hM2.2.2 k (fw_w_at hk) hc j hjN (hts _ hw) (fun _ z => z) hfin (ht0 ▸ hty j hjN) rfl rfl (by simpa using (List.getElem?_eq_some_iff.mp hj).1) h (fun H3 l3 hP hD hS => ?_)
  exact k_.1 rfl H3 l3 ls (fw_L_sub hT hL) (fw_M_put (S := (lay, own, cc, nL, d, r)) hR.2.2.2.2.1 hk ⟨j, fw_jlt hR.2.2.2.2.1 hk hj, rfl⟩ (fw_c_fld hj (by simp only [fw_f, u2_s]; rfl)) hP hD hS)
theorem fs_putZ {k ci j q index : Nat} {fs : List (Nat × Nat)} (ob : fw_E (lay, own, cc, nL, d, r) T 0 pc pc1 (k + 2) f) (a : fw_E (lay, own, cc, nL, d, r) T 1 pc1 pc2 0 g) (hl : fw_fp own index ci j .boolean) (hk : lay[k]? = some (.inl (ci, fs))) (hj : fs[j]? = some (1, q)) (h : decode cc pc2 = .ok (.putfield index, 3)) (hT : fw_ts T' T = true) : fw_S (lay, own, cc, nL, d, r) T pc (pzS (64 * k + j) f g) (pc2 + 3, T') B C := by
  rintro ⟨p, l, e, R, s, m, args, below, meth, c, D, adr, cA, A, cells, slots, Q⟩ ⟨hx, hb, hml, hown, hts, hK, hA, hR⟩ ρ σ o x ρ' σ' H locs ls hL hM hf k_
  have X : fw_X (lay, own, cc, nL, d, r) (p, l, e, R, s, m, args, below, meth, c, D, adr, cA, A, cells, slots, Q) := ⟨hx, hb, hml, hown, hts, hK, hA, hR⟩
  obtain ⟨y, e1, e2⟩ := bind_some hf
  obtain ⟨z, e3, e4⟩ := bind_some e2
  obtain ⟨C1, Tt, N1, t0, hc, hin, hjN, hw, hty, hnm, hfin, ht0⟩ := hl
  split at e4
  case isFalse => cases e4
  rename_i hz
  cases e4
  refine ob _ X ρ σ y.1 y.2 H locs ls [] hL hM (Nat.le_refl _) e1 (fun H1 l1 hM1 => ?_)
  refine a _ X ρ y.2 z.1 z.2 H1 l1 ls _ hL hM1 (by simp only [List.map_cons, List.sum_cons]; have : (fw_val (p, l, e, R, s, m, args, below, meth, c, D, adr, cA, A, cells, slots, Q) (k + 2) y.1).category = 1 := rfl; simp only [this, List.map_nil, List.sum_nil]; omega) e3 (fun H2 l2 hM2 => ?_)
  refine va_put hx hb hts hin t0 hty hnm hown hK hM2.1 hM2.2.1 hM2.2.2 k (fw_w_at hk) hc j hjN (hts _ hw) (fun _ z => z) hfin (ht0 ▸ hty j hjN) (by rcases hz with hz | hz <;> rw [hz] <;> rfl) (by rcases hz with hz | hz <;> rw [hz] <;> rfl) (by simpa using (List.getElem?_eq_some_iff.mp hj).1) h (fun H3 l3 hP hD hS => ?_)
  exact k_.1 rfl H3 l3 ls (fw_L_sub hT hL) (fw_M_put (S := (lay, own, cc, nL, d, r)) hR.2.2.2.2.1 hk ⟨j, fw_jlt hR.2.2.2.2.1 hk hj, rfl⟩ (fw_c_fld hj (by simp only [fw_f, u2_s]; rfl)) hP hD hS)
theorem fs_po_add {k ci j q index : Nat} {fs : List (Nat × Nat)} (ob : fw_E (lay, own, cc, nL, d, r) T 0 pc pc1 (k + 2) f) (h1 : decode cc pc1 = .ok (.dup, 1)) (h2 : decode cc (pc1 + 1) = .ok (.getfield index, 3)) (a : fw_E (lay, own, cc, nL, d, r) T 2 (pc1 + 1 + 3) pc2 0 g) (h3 : decode cc pc2 = .ok (.iadd, 1)) (hl : fw_fp own index ci j .int) (hk : lay[k]? = some (.inl (ci, fs))) (hj : fs[j]? = some (1, q)) (h : decode cc (pc2 + 1) = .ok (.putfield index, 3)) (hT : fw_ts T' T = true) : fw_S (lay, own, cc, nL, d, r) T pc (poS (64 * k + j) addI f g) (pc2 + 1 + 3, T') B C := by
  rintro ⟨p, l, e, R, s, m, args, below, meth, c, D, adr, cA, A, cells, slots, Q⟩ ⟨hx, hb, hml, hown, hts, hK, hA, hR⟩ ρ σ o x ρ' σ' H locs ls hL hM hf k_
  have X : fw_X (lay, own, cc, nL, d, r) (p, l, e, R, s, m, args, below, meth, c, D, adr, cA, A, cells, slots, Q) := ⟨hx, hb, hml, hown, hts, hK, hA, hR⟩
  obtain ⟨y, e1, e2⟩ := bind_some hf
  obtain ⟨z, e3, e4⟩ := bind_some e2
  obtain ⟨C1, Tt, N1, t0, hc, hin, hjN, hw, hty, hnm, hfin, ht0⟩ := hl
  cases e4
  refine ob _ X ρ σ y.1 y.2 H locs ls [] hL hM (Nat.le_refl _) e1 (fun H1 l1 hM1 => ?_)
  refine lv_dup hx hb h1 rfl ?_
  refine va_get hx hb hts hin hown hK hM1.1 k (fw_w_at hk) hc j hjN (hts _ hw) (fun _ z => z) (fw_fv hj) h2 ?_
  refine a _ X ρ y.2 z.1 z.2 H1 l1 ls [.int (Int32.ofInt (y.2 (64 * k + j) 0)), .ref (adr k)] hL hM1 (Nat.le_refl _) e3 (fun H2 l2 hM2 => ?_)
  refine lv_iadd hx hb h3 ?_
  refine va_put hx hb hts hin t0 hty hnm hown hK hM2.1 hM2.2.1 hM2.2.2 k (fw_w_at hk) hc j hjN (hts _ hw) (fun _ z => z) hfin (ht0 ▸ hty j hjN) rfl rfl (by simpa using (List.getElem?_eq_some_iff.mp hj).1) h (fun H3 l3 hP hD hS => ?_)
  exact k_.1 rfl H3 l3 ls (fw_L_sub hT hL) (fw_M_put (S := (lay, own, cc, nL, d, r)) hR.2.2.2.2.1 hk ⟨j, fw_jlt hR.2.2.2.2.1 hk hj, rfl⟩ (fw_c_fld hj (by simp only [fw_f, u2_s]; exact congrArg Value.int (Int32.ofInt_add _ _))) hP hD hS)
theorem fs_po_sub {k ci j q index : Nat} {fs : List (Nat × Nat)} (ob : fw_E (lay, own, cc, nL, d, r) T 0 pc pc1 (k + 2) f) (h1 : decode cc pc1 = .ok (.dup, 1)) (h2 : decode cc (pc1 + 1) = .ok (.getfield index, 3)) (a : fw_E (lay, own, cc, nL, d, r) T 2 (pc1 + 1 + 3) pc2 0 g) (h3 : decode cc pc2 = .ok (.isub, 1)) (hl : fw_fp own index ci j .int) (hk : lay[k]? = some (.inl (ci, fs))) (hj : fs[j]? = some (1, q)) (h : decode cc (pc2 + 1) = .ok (.putfield index, 3)) (hT : fw_ts T' T = true) : fw_S (lay, own, cc, nL, d, r) T pc (poS (64 * k + j) subI f g) (pc2 + 1 + 3, T') B C := by
  rintro ⟨p, l, e, R, s, m, args, below, meth, c, D, adr, cA, A, cells, slots, Q⟩ ⟨hx, hb, hml, hown, hts, hK, hA, hR⟩ ρ σ o x ρ' σ' H locs ls hL hM hf k_
  have X : fw_X (lay, own, cc, nL, d, r) (p, l, e, R, s, m, args, below, meth, c, D, adr, cA, A, cells, slots, Q) := ⟨hx, hb, hml, hown, hts, hK, hA, hR⟩
  obtain ⟨y, e1, e2⟩ := bind_some hf
  obtain ⟨z, e3, e4⟩ := bind_some e2
  obtain ⟨C1, Tt, N1, t0, hc, hin, hjN, hw, hty, hnm, hfin, ht0⟩ := hl
  cases e4
  refine ob _ X ρ σ y.1 y.2 H locs ls [] hL hM (Nat.le_refl _) e1 (fun H1 l1 hM1 => ?_)
  refine lv_dup hx hb h1 rfl ?_
  refine va_get hx hb hts hin hown hK hM1.1 k (fw_w_at hk) hc j hjN (hts _ hw) (fun _ z => z) (fw_fv hj) h2 ?_
  refine a _ X ρ y.2 z.1 z.2 H1 l1 ls [.int (Int32.ofInt (y.2 (64 * k + j) 0)), .ref (adr k)] hL hM1 (Nat.le_refl _) e3 (fun H2 l2 hM2 => ?_)
  refine lv_isub hx hb h3 ?_
  refine va_put hx hb hts hin t0 hty hnm hown hK hM2.1 hM2.2.1 hM2.2.2 k (fw_w_at hk) hc j hjN (hts _ hw) (fun _ z => z) hfin (ht0 ▸ hty j hjN) rfl rfl (by simpa using (List.getElem?_eq_some_iff.mp hj).1) h (fun H3 l3 hP hD hS => ?_)
  exact k_.1 rfl H3 l3 ls (fw_L_sub hT hL) (fw_M_put (S := (lay, own, cc, nL, d, r)) hR.2.2.2.2.1 hk ⟨j, fw_jlt hR.2.2.2.2.1 hk hj, rfl⟩ (fw_c_fld hj (by simp only [fw_f, u2_s]; exact congrArg Value.int (Int32.ofInt_sub _ _))) hP hD hS)
theorem fs_po_or {k ci j q index : Nat} {fs : List (Nat × Nat)} (ob : fw_E (lay, own, cc, nL, d, r) T 0 pc pc1 (k + 2) f) (h1 : decode cc pc1 = .ok (.dup, 1)) (h2 : decode cc (pc1 + 1) = .ok (.getfield index, 3)) (a : fw_E (lay, own, cc, nL, d, r) T 2 (pc1 + 1 + 3) pc2 0 g) (h3 : decode cc pc2 = .ok (.ior, 1)) (hl : fw_fp own index ci j .int) (hk : lay[k]? = some (.inl (ci, fs))) (hj : fs[j]? = some (1, q)) (h : decode cc (pc2 + 1) = .ok (.putfield index, 3)) (hT : fw_ts T' T = true) : fw_S (lay, own, cc, nL, d, r) T pc (poS (64 * k + j) iorI f g) (pc2 + 1 + 3, T') B C := by
  rintro ⟨p, l, e, R, s, m, args, below, meth, c, D, adr, cA, A, cells, slots, Q⟩ ⟨hx, hb, hml, hown, hts, hK, hA, hR⟩ ρ σ o x ρ' σ' H locs ls hL hM hf k_
  have X : fw_X (lay, own, cc, nL, d, r) (p, l, e, R, s, m, args, below, meth, c, D, adr, cA, A, cells, slots, Q) := ⟨hx, hb, hml, hown, hts, hK, hA, hR⟩
  obtain ⟨y, e1, e2⟩ := bind_some hf
  obtain ⟨z, e3, e4⟩ := bind_some e2
  obtain ⟨C1, Tt, N1, t0, hc, hin, hjN, hw, hty, hnm, hfin, ht0⟩ := hl
  cases e4
  refine ob _ X ρ σ y.1 y.2 H locs ls [] hL hM (Nat.le_refl _) e1 (fun H1 l1 hM1 => ?_)
  refine lv_dup hx hb h1 rfl ?_
  refine va_get hx hb hts hin hown hK hM1.1 k (fw_w_at hk) hc j hjN (hts _ hw) (fun _ z => z) (fw_fv hj) h2 ?_
  refine a _ X ρ y.2 z.1 z.2 H1 l1 ls [.int (Int32.ofInt (y.2 (64 * k + j) 0)), .ref (adr k)] hL hM1 (Nat.le_refl _) e3 (fun H2 l2 hM2 => ?_)
  refine lv_ior hx hb h3 ?_
  refine va_put hx hb hts hin t0 hty hnm hown hK hM2.1 hM2.2.1 hM2.2.2 k (fw_w_at hk) hc j hjN (hts _ hw) (fun _ z => z) hfin (ht0 ▸ hty j hjN) rfl rfl (by simpa using (List.getElem?_eq_some_iff.mp hj).1) h (fun H3 l3 hP hD hS => ?_)
  exact k_.1 rfl H3 l3 ls (fw_L_sub hT hL) (fw_M_put (S := (lay, own, cc, nL, d, r)) hR.2.2.2.2.1 hk ⟨j, fw_jlt hR.2.2.2.2.1 hk hj, rfl⟩ (fw_c_fld hj (by simp only [fw_f, u2_s]; exact congrArg Value.int (Int32.ofInt_toInt _))) hP hD hS)
theorem fs_iast {k n : Nat} (ar : fw_E (lay, own, cc, nL, d, r) T 0 pc pc1 (k + 2) f) (ix : fw_E (lay, own, cc, nL, d, r) T 1 pc1 pc2 0 g) (a : fw_E (lay, own, cc, nL, d, r) T 2 pc2 pc3 0 h3) (hk : lay[k]? = some (.inr (0, n))) (h : decode cc pc3 = .ok (.iastore, 1)) (hT : fw_ts T' T = true) : fw_S (lay, own, cc, nL, d, r) T pc (asS (64 * k) n idI f g h3) (pc3 + 1, T') B C := by
  rintro ⟨p, l, e, R, s, m, args, below, meth, c, D, adr, cA, A, cells, slots, Q⟩ ⟨hx, hb, hml, hown, hts, hK, hA, hR⟩ ρ σ o x ρ' σ' H locs ls hL hM hf k_
  have X : fw_X (lay, own, cc, nL, d, r) (p, l, e, R, s, m, args, below, meth, c, D, adr, cA, A, cells, slots, Q) := ⟨hx, hb, hml, hown, hts, hK, hA, hR⟩
  obtain ⟨y, e1, e2⟩ := bind_some hf
  obtain ⟨z, e3, e4⟩ := bind_some e2
  obtain ⟨u, e5, e6⟩ := bind_some e4
  obtain ⟨w, e7, e8⟩ := bind_some e6
  cases e8
  obtain ⟨h1, h2⟩ := fw_in e7
  refine ar _ X ρ σ y.1 y.2 H locs ls [] hL hM (Nat.le_refl _) e1 (fun H1 l1 hM1 => ?_)
  refine ix _ X ρ y.2 z.1 z.2 H1 l1 ls [.ref (adr k)] hL hM1 (Nat.le_refl _) e3 (fun H2 l2 hM2 => ?_)
  refine a _ X ρ z.2 u.1 u.2 H2 l2 ls [.int (Int32.ofInt z.1), .ref (adr k)] hL hM2 (Nat.le_refl _) e5 (fun H3 l3 hM3 => ?_)
  subst h2
  refine va_iast hx hb hK hM3.1 hM3.2.1 hM3.2.2 k 0 (fw_w_at hk) rfl h1 h (fun H4 l4 hP hD hS => ?_)
  exact k_.1 rfl H4 l4 ls (fw_L_sub hT hL) (fw_M_put (S := (lay, own, cc, nL, d, r)) hR.2.2.2.2.1 hk ⟨0, by decide, rfl⟩ (fw_c_arr (by decide)) hP hD hS)
theorem fs_bast {k n : Nat} (ar : fw_E (lay, own, cc, nL, d, r) T 0 pc pc1 (k + 2) f) (ix : fw_E (lay, own, cc, nL, d, r) T 1 pc1 pc2 0 g) (a : fw_E (lay, own, cc, nL, d, r) T 2 pc2 pc3 0 h3) (hk : lay[k]? = some (.inr (2, n))) (h : decode cc pc3 = .ok (.bastore, 1)) (hT : fw_ts T' T = true) : fw_S (lay, own, cc, nL, d, r) T pc (asS (64 * k) n i2bI f g h3) (pc3 + 1, T') B C := by
  rintro ⟨p, l, e, R, s, m, args, below, meth, c, D, adr, cA, A, cells, slots, Q⟩ ⟨hx, hb, hml, hown, hts, hK, hA, hR⟩ ρ σ o x ρ' σ' H locs ls hL hM hf k_
  have X : fw_X (lay, own, cc, nL, d, r) (p, l, e, R, s, m, args, below, meth, c, D, adr, cA, A, cells, slots, Q) := ⟨hx, hb, hml, hown, hts, hK, hA, hR⟩
  obtain ⟨y, e1, e2⟩ := bind_some hf
  obtain ⟨z, e3, e4⟩ := bind_some e2
  obtain ⟨u, e5, e6⟩ := bind_some e4
  obtain ⟨w, e7, e8⟩ := bind_some e6
  cases e8
  obtain ⟨h1, h2⟩ := fw_in e7
  refine ar _ X ρ σ y.1 y.2 H locs ls [] hL hM (Nat.le_refl _) e1 (fun H1 l1 hM1 => ?_)
  refine ix _ X ρ y.2 z.1 z.2 H1 l1 ls [.ref (adr k)] hL hM1 (Nat.le_refl _) e3 (fun H2 l2 hM2 => ?_)
  refine a _ X ρ z.2 u.1 u.2 H2 l2 ls [.int (Int32.ofInt z.1), .ref (adr k)] hL hM2 (Nat.le_refl _) e5 (fun H3 l3 hM3 => ?_)
  subst h2
  refine va_bast hx hb hK hM3.1 hM3.2.1 hM3.2.2 k 2 (fw_w_at hk) rfl h1 h (fun H4 l4 hP hD hS => ?_)
  exact k_.1 rfl H4 l4 ls (fw_L_sub hT hL) (fw_M_put (S := (lay, own, cc, nL, d, r)) hR.2.2.2.2.1 hk ⟨0, by decide, rfl⟩ ((fw_c_arr (by decide)).trans (by rw [i2bI, Int32.ofInt_toInt, vp_nar_byte])) hP hD hS)
theorem fs_zast {k n : Nat} (ar : fw_E (lay, own, cc, nL, d, r) T 0 pc pc1 (k + 2) f) (ix : fw_E (lay, own, cc, nL, d, r) T 1 pc1 pc2 0 g) (a : fw_E (lay, own, cc, nL, d, r) T 2 pc2 pc3 0 h3) (hk : lay[k]? = some (.inr (3, n))) (h : decode cc pc3 = .ok (.bastore, 1)) (hT : fw_ts T' T = true) : fw_S (lay, own, cc, nL, d, r) T pc (asS (64 * k) n nzI f g h3) (pc3 + 1, T') B C := by
  rintro ⟨p, l, e, R, s, m, args, below, meth, c, D, adr, cA, A, cells, slots, Q⟩ ⟨hx, hb, hml, hown, hts, hK, hA, hR⟩ ρ σ o x ρ' σ' H locs ls hL hM hf k_
  have X : fw_X (lay, own, cc, nL, d, r) (p, l, e, R, s, m, args, below, meth, c, D, adr, cA, A, cells, slots, Q) := ⟨hx, hb, hml, hown, hts, hK, hA, hR⟩
  obtain ⟨y, e1, e2⟩ := bind_some hf
  obtain ⟨z, e3, e4⟩ := bind_some e2
  obtain ⟨u, e5, e6⟩ := bind_some e4
  obtain ⟨w, e7, e8⟩ := bind_some e6
  cases e8
  obtain ⟨h1, h2⟩ := fw_in e7
  refine ar _ X ρ σ y.1 y.2 H locs ls [] hL hM (Nat.le_refl _) e1 (fun H1 l1 hM1 => ?_)
  refine ix _ X ρ y.2 z.1 z.2 H1 l1 ls [.ref (adr k)] hL hM1 (Nat.le_refl _) e3 (fun H2 l2 hM2 => ?_)
  refine a _ X ρ z.2 u.1 u.2 H2 l2 ls [.int (Int32.ofInt z.1), .ref (adr k)] hL hM2 (Nat.le_refl _) e5 (fun H3 l3 hM3 => ?_)
  subst h2
  refine va_zast hx hb hK hM3.1 hM3.2.1 hM3.2.2 k 3 (fw_w_at hk) rfl h1 h (fun H4 l4 hP hD hS => ?_)
  exact k_.1 rfl H4 l4 ls (fw_L_sub hT hL) (fw_M_put (S := (lay, own, cc, nL, d, r)) hR.2.2.2.2.1 hk ⟨0, by decide, rfl⟩ ((fw_c_arr (by decide)).trans (by rw [nzI, Int32.ofInt_toInt])) hP hD hS)
theorem fs_last {k n : Nat} (ar : fw_E (lay, own, cc, nL, d, r) T 0 pc pc1 (k + 2) f) (ix : fw_E (lay, own, cc, nL, d, r) T 1 pc1 pc2 0 g) (a : fw_E (lay, own, cc, nL, d, r) T 2 pc2 pc3 1 h3) (hk : lay[k]? = some (.inr (1, n))) (h : decode cc pc3 = .ok (.lastore, 1)) (hT : fw_ts T' T = true) : fw_S (lay, own, cc, nL, d, r) T pc (asS (64 * k) n idI f g h3) (pc3 + 1, T') B C := by
  rintro ⟨p, l, e, R, s, m, args, below, meth, c, D, adr, cA, A, cells, slots, Q⟩ ⟨hx, hb, hml, hown, hts, hK, hA, hR⟩ ρ σ o x ρ' σ' H locs ls hL hM hf k_
  have X : fw_X (lay, own, cc, nL, d, r) (p, l, e, R, s, m, args, below, meth, c, D, adr, cA, A, cells, slots, Q) := ⟨hx, hb, hml, hown, hts, hK, hA, hR⟩
  obtain ⟨y, e1, e2⟩ := bind_some hf
  obtain ⟨z, e3, e4⟩ := bind_some e2
  obtain ⟨u, e5, e6⟩ := bind_some e4
  obtain ⟨w, e7, e8⟩ := bind_some e6
  cases e8
  obtain ⟨h1, h2⟩ := fw_in e7
  refine ar _ X ρ σ y.1 y.2 H locs ls [] hL hM (Nat.le_refl _) e1 (fun H1 l1 hM1 => ?_)
  refine ix _ X ρ y.2 z.1 z.2 H1 l1 ls [.ref (adr k)] hL hM1 (Nat.le_refl _) e3 (fun H2 l2 hM2 => ?_)
  refine a _ X ρ z.2 u.1 u.2 H2 l2 ls [.int (Int32.ofInt z.1), .ref (adr k)] hL hM2 (Nat.le_refl _) e5 (fun H3 l3 hM3 => ?_)
  subst h2
  refine va_last hx hb hK hM3.1 hM3.2.1 hM3.2.2 k 1 (fw_w_at hk) rfl h1 h (fun H4 l4 hP hD hS => ?_)
  exact k_.1 rfl H4 l4 ls (fw_L_sub hT hL) (fw_M_put (S := (lay, own, cc, nL, d, r)) hR.2.2.2.2.1 hk ⟨0, by decide, rfl⟩ (fw_c_arL) hP hD hS)
theorem fs_ao_add {k n : Nat} (ar : fw_E (lay, own, cc, nL, d, r) T 0 pc pc1 (k + 2) f) (ix : fw_E (lay, own, cc, nL, d, r) T 1 pc1 pc2 0 g) (h1 : decode cc pc2 = .ok (.dup2, 1)) (h2 : decode cc (pc2 + 1) = .ok (.iaload, 1)) (a : fw_E (lay, own, cc, nL, d, r) T 3 (pc2 + 1 + 1) pc3 0 h3) (h4 : decode cc pc3 = .ok (.iadd, 1)) (hk : lay[k]? = some (.inr (0, n))) (h : decode cc (pc3 + 1) = .ok (.iastore, 1)) (hT : fw_ts T' T = true) : fw_S (lay, own, cc, nL, d, r) T pc (aoS (64 * k) n addI f g h3) (pc3 + 1 + 1, T') B C := by
  rintro ⟨p, l, e, R, s, m, args, below, meth, c, D, adr, cA, A, cells, slots, Q⟩ ⟨hx, hb, hml, hown, hts, hK, hA, hR⟩ ρ σ o x ρ' σ' H locs ls hL hM hf k_
  have X : fw_X (lay, own, cc, nL, d, r) (p, l, e, R, s, m, args, below, meth, c, D, adr, cA, A, cells, slots, Q) := ⟨hx, hb, hml, hown, hts, hK, hA, hR⟩
  obtain ⟨y, e1, e2⟩ := bind_some hf
  obtain ⟨z, e3, e4⟩ := bind_some e2
  obtain ⟨w, e7, e6⟩ := bind_some e4
  obtain ⟨u, e5, e8⟩ := bind_some e6
  cases e8
  obtain ⟨i1, i2⟩ := fw_in e7
  refine ar _ X ρ σ y.1 y.2 H locs ls [] hL hM (Nat.le_refl _) e1 (fun H1 l1 hM1 => ?_)
  refine ix _ X ρ y.2 z.1 z.2 H1 l1 ls [.ref (adr k)] hL hM1 (Nat.le_refl _) e3 (fun H2 l2 hM2 => ?_)
  subst i2
  refine lv_dup2_11 hx hb h1 rfl rfl ?_
  refine va_iald hx hb hK hM2.1 k 0 (fw_w_at hk) rfl i1 h2 ?_
  refine a _ X ρ z.2 u.1 u.2 H2 l2 ls [.int (Int32.ofInt (z.2 (64 * k) (Int32.ofInt z.1).toNatClampNeg)), .int (Int32.ofInt z.1), .ref (adr k)] hL hM2 (Nat.le_refl _) e5 (fun H3 l3 hM3 => ?_)
  refine lv_iadd hx hb h4 ?_
  refine va_iast hx hb hK hM3.1 hM3.2.1 hM3.2.2 k 0 (fw_w_at hk) rfl i1 h (fun H4 l4 hP hD hS => ?_)
  exact k_.1 rfl H4 l4 ls (fw_L_sub hT hL) (fw_M_put (S := (lay, own, cc, nL, d, r)) hR.2.2.2.2.1 hk ⟨0, by decide, rfl⟩ ((fw_c_arr (by decide)).trans (by rw [addI, Int32.ofInt_add])) hP hD hS)
theorem fs_ao_sub {k n : Nat} (ar : fw_E (lay, own, cc, nL, d, r) T 0 pc pc1 (k + 2) f) (ix : fw_E (lay, own, cc, nL, d, r) T 1 pc1 pc2 0 g) (h1 : decode cc pc2 = .ok (.dup2, 1)) (h2 : decode cc (pc2 + 1) = .ok (.iaload, 1)) (a : fw_E (lay, own, cc, nL, d, r) T 3 (pc2 + 1 + 1) pc3 0 h3) (h4 : decode cc pc3 = .ok (.isub, 1)) (hk : lay[k]? = some (.inr (0, n))) (h : decode cc (pc3 + 1) = .ok (.iastore, 1)) (hT : fw_ts T' T = true) : fw_S (lay, own, cc, nL, d, r) T pc (aoS (64 * k) n subI f g h3) (pc3 + 1 + 1, T') B C := by
  rintro ⟨p, l, e, R, s, m, args, below, meth, c, D, adr, cA, A, cells, slots, Q⟩ ⟨hx, hb, hml, hown, hts, hK, hA, hR⟩ ρ σ o x ρ' σ' H locs ls hL hM hf k_
  have X : fw_X (lay, own, cc, nL, d, r) (p, l, e, R, s, m, args, below, meth, c, D, adr, cA, A, cells, slots, Q) := ⟨hx, hb, hml, hown, hts, hK, hA, hR⟩
  obtain ⟨y, e1, e2⟩ := bind_some hf
  obtain ⟨z, e3, e4⟩ := bind_some e2
  obtain ⟨w, e7, e6⟩ := bind_some e4
  obtain ⟨u, e5, e8⟩ := bind_some e6
  cases e8
  obtain ⟨i1, i2⟩ := fw_in e7
  refine ar _ X ρ σ y.1 y.2 H locs ls [] hL hM (Nat.le_refl _) e1 (fun H1 l1 hM1 => ?_)
  refine ix _ X ρ y.2 z.1 z.2 H1 l1 ls [.ref (adr k)] hL hM1 (Nat.le_refl _) e3 (fun H2 l2 hM2 => ?_)
  subst i2
  refine lv_dup2_11 hx hb h1 rfl rfl ?_
  refine va_iald hx hb hK hM2.1 k 0 (fw_w_at hk) rfl i1 h2 ?_
  refine a _ X ρ z.2 u.1 u.2 H2 l2 ls [.int (Int32.ofInt (z.2 (64 * k) (Int32.ofInt z.1).toNatClampNeg)), .int (Int32.ofInt z.1), .ref (adr k)] hL hM2 (Nat.le_refl _) e5 (fun H3 l3 hM3 => ?_)
  refine lv_isub hx hb h4 ?_
  refine va_iast hx hb hK hM3.1 hM3.2.1 hM3.2.2 k 0 (fw_w_at hk) rfl i1 h (fun H4 l4 hP hD hS => ?_)
  exact k_.1 rfl H4 l4 ls (fw_L_sub hT hL) (fw_M_put (S := (lay, own, cc, nL, d, r)) hR.2.2.2.2.1 hk ⟨0, by decide, rfl⟩ ((fw_c_arr (by decide)).trans (by rw [subI, Int32.ofInt_sub])) hP hD hS)
theorem fs_ao_or {k n : Nat} (ar : fw_E (lay, own, cc, nL, d, r) T 0 pc pc1 (k + 2) f) (ix : fw_E (lay, own, cc, nL, d, r) T 1 pc1 pc2 0 g) (h1 : decode cc pc2 = .ok (.dup2, 1)) (h2 : decode cc (pc2 + 1) = .ok (.iaload, 1)) (a : fw_E (lay, own, cc, nL, d, r) T 3 (pc2 + 1 + 1) pc3 0 h3) (h4 : decode cc pc3 = .ok (.ior, 1)) (hk : lay[k]? = some (.inr (0, n))) (h : decode cc (pc3 + 1) = .ok (.iastore, 1)) (hT : fw_ts T' T = true) : fw_S (lay, own, cc, nL, d, r) T pc (aoS (64 * k) n iorI f g h3) (pc3 + 1 + 1, T') B C := by
  rintro ⟨p, l, e, R, s, m, args, below, meth, c, D, adr, cA, A, cells, slots, Q⟩ ⟨hx, hb, hml, hown, hts, hK, hA, hR⟩ ρ σ o x ρ' σ' H locs ls hL hM hf k_
  have X : fw_X (lay, own, cc, nL, d, r) (p, l, e, R, s, m, args, below, meth, c, D, adr, cA, A, cells, slots, Q) := ⟨hx, hb, hml, hown, hts, hK, hA, hR⟩
  obtain ⟨y, e1, e2⟩ := bind_some hf
  obtain ⟨z, e3, e4⟩ := bind_some e2
  obtain ⟨w, e7, e6⟩ := bind_some e4
  obtain ⟨u, e5, e8⟩ := bind_some e6
  cases e8
  obtain ⟨i1, i2⟩ := fw_in e7
  refine ar _ X ρ σ y.1 y.2 H locs ls [] hL hM (Nat.le_refl _) e1 (fun H1 l1 hM1 => ?_)
  refine ix _ X ρ y.2 z.1 z.2 H1 l1 ls [.ref (adr k)] hL hM1 (Nat.le_refl _) e3 (fun H2 l2 hM2 => ?_)
  subst i2
  refine lv_dup2_11 hx hb h1 rfl rfl ?_
  refine va_iald hx hb hK hM2.1 k 0 (fw_w_at hk) rfl i1 h2 ?_
  refine a _ X ρ z.2 u.1 u.2 H2 l2 ls [.int (Int32.ofInt (z.2 (64 * k) (Int32.ofInt z.1).toNatClampNeg)), .int (Int32.ofInt z.1), .ref (adr k)] hL hM2 (Nat.le_refl _) e5 (fun H3 l3 hM3 => ?_)
  refine lv_ior hx hb h4 ?_
  refine va_iast hx hb hK hM3.1 hM3.2.1 hM3.2.2 k 0 (fw_w_at hk) rfl i1 h (fun H4 l4 hP hD hS => ?_)
  exact k_.1 rfl H4 l4 ls (fw_L_sub hT hL) (fw_M_put (S := (lay, own, cc, nL, d, r)) hR.2.2.2.2.1 hk ⟨0, by decide, rfl⟩ ((fw_c_arr (by decide)).trans (by rw [iorI, Int32.ofInt_toInt])) hP hD hS)
theorem fs_ao_and {k n : Nat} (ar : fw_E (lay, own, cc, nL, d, r) T 0 pc pc1 (k + 2) f) (ix : fw_E (lay, own, cc, nL, d, r) T 1 pc1 pc2 0 g) (h1 : decode cc pc2 = .ok (.dup2, 1)) (h2 : decode cc (pc2 + 1) = .ok (.iaload, 1)) (a : fw_E (lay, own, cc, nL, d, r) T 3 (pc2 + 1 + 1) pc3 0 h3) (h4 : decode cc pc3 = .ok (.iand, 1)) (hk : lay[k]? = some (.inr (0, n))) (h : decode cc (pc3 + 1) = .ok (.iastore, 1)) (hT : fw_ts T' T = true) : fw_S (lay, own, cc, nL, d, r) T pc (aoS (64 * k) n andI f g h3) (pc3 + 1 + 1, T') B C := by
  rintro ⟨p, l, e, R, s, m, args, below, meth, c, D, adr, cA, A, cells, slots, Q⟩ ⟨hx, hb, hml, hown, hts, hK, hA, hR⟩ ρ σ o x ρ' σ' H locs ls hL hM hf k_
  have X : fw_X (lay, own, cc, nL, d, r) (p, l, e, R, s, m, args, below, meth, c, D, adr, cA, A, cells, slots, Q) := ⟨hx, hb, hml, hown, hts, hK, hA, hR⟩
  obtain ⟨y, e1, e2⟩ := bind_some hf
  obtain ⟨z, e3, e4⟩ := bind_some e2
  obtain ⟨w, e7, e6⟩ := bind_some e4
  obtain ⟨u, e5, e8⟩ := bind_some e6
  cases e8
  obtain ⟨i1, i2⟩ := fw_in e7
  refine ar _ X ρ σ y.1 y.2 H locs ls [] hL hM (Nat.le_refl _) e1 (fun H1 l1 hM1 => ?_)
  refine ix _ X ρ y.2 z.1 z.2 H1 l1 ls [.ref (adr k)] hL hM1 (Nat.le_refl _) e3 (fun H2 l2 hM2 => ?_)
  subst i2
  refine lv_dup2_11 hx hb h1 rfl rfl ?_
  refine va_iald hx hb hK hM2.1 k 0 (fw_w_at hk) rfl i1 h2 ?_
  refine a _ X ρ z.2 u.1 u.2 H2 l2 ls [.int (Int32.ofInt (z.2 (64 * k) (Int32.ofInt z.1).toNatClampNeg)), .int (Int32.ofInt z.1), .ref (adr k)] hL hM2 (Nat.le_refl _) e5 (fun H3 l3 hM3 => ?_)
  refine lv_iand hx hb h4 ?_
  refine va_iast hx hb hK hM3.1 hM3.2.1 hM3.2.2 k 0 (fw_w_at hk) rfl i1 h (fun H4 l4 hP hD hS => ?_)
  exact k_.1 rfl H4 l4 ls (fw_L_sub hT hL) (fw_M_put (S := (lay, own, cc, nL, d, r)) hR.2.2.2.2.1 hk ⟨0, by decide, rfl⟩ ((fw_c_arr (by decide)).trans (by rw [andI, Int32.ofInt_toInt])) hP hD hS)
end FWP
