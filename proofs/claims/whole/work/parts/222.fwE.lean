/-! cells of the world, by their places -/
theorem fw_w_at {lay : List CD} {adr : Nat → Nat} {cA : Nat → ClassId} {σ : Me} {k : Nat} {q : CD} (h : lay[k]? = some q) : (fw_w lay adr cA σ)[k]? = some (adr k, fw_c adr cA σ k q) := by
  unfold fw_w
  rw [List.getElem?_mapIdx, h]
  rfl
theorem fw_w_of {lay : List CD} {adr : Nat → Nat} {cA : Nat → ClassId} {σ : Me} {k : Nat} {e : Nat × va_E} (h : (fw_w lay adr cA σ)[k]? = some e) : ∃ q, lay[k]? = some q ∧ e = (adr k, fw_c adr cA σ k q) := by
  unfold fw_w at h
  rw [List.getElem?_mapIdx] at h
  cases hq : lay[k]? with
  | none => rw [hq] at h; cases h
  | some q => rw [hq] at h; exact ⟨q, rfl, (Option.some.inj h).symm⟩
theorem u2_n {σ : Me} {a i b j : Nat} {v : Int} (h : ¬ (b = a ∧ j = i)) : u2 σ a i v b j = σ b j := by simp [u2, h]
theorem fw_f_n {adr : Nat → Nat} {σ : Me} {v i k j : Nat} {x : Int} {q : Nat × Nat} (h : 64 * k + j ≠ v) : fw_f adr (u2 σ v i x) k j q = fw_f adr σ k j q := by
  unfold fw_f
  rw [u2_n (fun z => h z.1)]
theorem fw_a_n {σ : Me} {v i k ty : Nat} {x : Int} (h : 64 * k ≠ v) : fw_a (u2 σ v i x) k ty = fw_a σ k ty := by
  unfold fw_a
  have e : ∀ j, u2 σ v i x (64 * k) j = σ (64 * k) j := fun j => u2_n (fun z => h z.1)
  split <;> simp only [e]
theorem fw_c_n {adr : Nat → Nat} {cA : Nat → ClassId} {σ : Me} {v i k : Nat} {x : Int} {q : CD} (h : ∀ j, j < 64 → 64 * k + j ≠ v) (ho : ∀ o, q = .inl o → o.2.length ≤ 64) : fw_c adr cA (u2 σ v i x) k q = fw_c adr cA σ k q := by
  cases q with
  | inl o =>
    simp only [fw_c]
    congr 2
    apply List.ext_getElem?
    intro j
    rw [List.getElem?_mapIdx, List.getElem?_mapIdx]
    cases hj : o.2[j]? with
    | none => rfl
    | some z =>
      have hl := (List.getElem?_eq_some_iff.mp hj).1
      have := ho o rfl
      simp only [Option.map_some]
      rw [fw_f_n (h j (by omega))]
  | inr a =>
    simp only [fw_c]
    rw [fw_a_n (by have := h 0 (by omega); omega)]
/-- a change of one variable changes one cell -/
theorem fw_w_set {lay : List CD} {adr : Nat → Nat} {cA : Nat → ClassId} {σ : Me} {v i k : Nat} {x : Int} {q : CD} {e : va_E} (hok : fw_ok lay) (hk : lay[k]? = some q) (hv : ∃ j, j < 64 ∧ v = 64 * k + j) (he : fw_c adr cA (u2 σ v i x) k q = e) : (fw_w lay adr cA σ).set k (adr k, e) = fw_w lay adr cA (u2 σ v i x) := by
  apply List.ext_getElem?
  intro n
  obtain ⟨j0, hj0, rfl⟩ := hv
  have hl := (List.getElem?_eq_some_iff.mp hk).1
  by_cases hn : n = k
  · subst hn
    rw [List.getElem?_set_self (by simpa [fw_w] using hl), fw_w_at hk, he]
  · rw [List.getElem?_set_ne (Ne.symm hn)]
    unfold fw_w
    rw [List.getElem?_mapIdx, List.getElem?_mapIdx]
    cases hq : lay[n]? with
    | none => rfl
    | some z =>
      simp only [Option.map_some]
      rw [fw_c_n (fun j hj => by omega) (fun o ho => hok n o (by rw [hq, ho]))]
theorem fw_c_fld {adr : Nat → Nat} {cA : Nat → ClassId} {σ : Me} {k ci j : Nat} {x : Int} {fs : List (Nat × Nat)} {z : Nat × Nat} {v : Value} (hj : fs[j]? = some z) (hv : fw_f adr (u2 σ (64 * k + j) 0 x) k j z = v) : fw_c adr cA (u2 σ (64 * k + j) 0 x) k (.inl (ci, fs)) = .inr (ci, (fs.mapIdx (fw_f adr σ k)).set j v) := by
  simp only [fw_c]
  congr 2
  apply List.ext_getElem?
  intro n
  have hl := (List.getElem?_eq_some_iff.mp hj).1
  by_cases hn : n = j
  · subst hn
    rw [List.getElem?_set_self (by simpa using hl), List.getElem?_mapIdx, hj, Option.map_some, hv]
  · rw [List.getElem?_set_ne (Ne.symm hn), List.getElem?_mapIdx, List.getElem?_mapIdx]
    cases hq : fs[n]? with
    | none => rfl
    | some y =>
      simp only [Option.map_some]
      rw [fw_f_n (by omega)]
theorem fw_c_arr {adr : Nat → Nat} {cA : Nat → ClassId} {σ : Me} {k ty n i : Nat} {x : Int} (h1 : ty ≠ 1) : fw_c adr cA (u2 σ (64 * k) i x) k (.inr (ty, n)) = .inl (cA ty, n, .inl (upd (fun i => Int32.ofInt (σ (64 * k) i)) i (Int32.ofInt x))) := by
  have e : fw_a (u2 σ (64 * k) i x) k ty = .inl (fun j => Int32.ofInt (u2 σ (64 * k) i x (64 * k) j)) := by
    unfold fw_a
    split
    · exact absurd rfl h1
    · rfl
  simp only [fw_c, e]
  congr 4
  funext j
  by_cases hj : j = i
  · subst hj; simp [upd, u2]
  · simp [upd, u2, hj]
theorem fw_c_arL {adr : Nat → Nat} {cA : Nat → ClassId} {σ : Me} {k n i : Nat} {x : Int} : fw_c adr cA (u2 σ (64 * k) i x) k (.inr (1, n)) = .inl (cA 1, n, .inr (.inl (vp_updL (fun i => Int64.ofInt (σ (64 * k) i)) i (Int64.ofInt x)))) := by
  simp only [fw_c, fw_a]
  congr 5
  funext j
  by_cases hj : j = i
  · subst hj; simp [vp_updL, u2]
  · simp [vp_updL, u2, hj]
theorem fw_in {i : Int} {n k : Nat} (h : ixI i n = some k) : vp_in (Int32.ofInt i) n ∧ (Int32.ofInt i).toNatClampNeg = k := by
  unfold ixI at h
  split at h
  · rename_i hb
    cases h
    refine ⟨vp_in_iff.mpr hb, ?_⟩
    rfl
  · cases h
section FWE
variable {lay : List CD} {own : String} {cc : ByteArray} {nL d : Nat} {r : Option Nat} {T : FT} {b pc pc1 pc2 : Nat} {f g : EM}
/-! constants -/
theorem fe_iconst {n : Int} (h : decode cc pc = .ok (.iconst n, 1)) : fw_E (lay, own, cc, nL, d, r) T b pc (pc + 1) 0 (cE n) := by
  rintro ⟨p, l, e, R, s, m, args, below, meth, c, D, adr, cA, A, cells, slots, Q⟩ ⟨hx, hb, hml, hown, hts, hK, hA, hR⟩ ρ σ x σ' H locs ls st hL hM hst hf k
  cases hf
  exact lv_iconst hx hb h rfl (k H locs hM)
theorem fe_bipush {n : Int} (h : decode cc pc = .ok (.bipush n, 2)) (hv : (Int8.ofInt n).toInt32 = Int32.ofInt n := by decide +kernel) : fw_E (lay, own, cc, nL, d, r) T b pc (pc + 2) 0 (cE n) := by
  rintro ⟨p, l, e, R, s, m, args, below, meth, c, D, adr, cA, A, cells, slots, Q⟩ ⟨hx, hb, hml, hown, hts, hK, hA, hR⟩ ρ σ x σ' H locs ls st hL hM hst hf k
  cases hf
  exact lv_bipush hx hb h hv (k H locs hM)
theorem fe_sipush {n : Int} (h : decode cc pc = .ok (.sipush n, 3)) (hv : (Int16.ofInt n).toInt32 = Int32.ofInt n := by decide +kernel) : fw_E (lay, own, cc, nL, d, r) T b pc (pc + 3) 0 (cE n) := by
  rintro ⟨p, l, e, R, s, m, args, below, meth, c, D, adr, cA, A, cells, slots, Q⟩ ⟨hx, hb, hml, hown, hts, hK, hA, hR⟩ ρ σ x σ' H locs ls st hL hM hst hf k
  cases hf
  exact lv_sipush hx hb h hv (k H locs hM)
theorem fe_ldc {n : Int} {i : Nat} (h : decode cc pc = .ok (.ldc i, 2)) (hw : Cond.constant own i (Int32.ofInt n) ∈ lw_tb) : fw_E (lay, own, cc, nL, d, r) T b pc (pc + 2) 0 (cE n) := by
  rintro ⟨p, l, e, R, s, m, args, below, meth, c, D, adr, cA, A, cells, slots, Q⟩ ⟨hx, hb, hml, hown, hts, hK, hA, hR⟩ ρ σ x σ' H locs ls st hL hM hst hf k
  cases hf
  exact lv_ldc hx hb hown (hts _ hw) h (k H locs hM)
theorem fe_ldcw {n : Int} {i : Nat} (h : decode cc pc = .ok (.ldc_w i, 3)) (hw : Cond.constant own i (Int32.ofInt n) ∈ lw_tb) : fw_E (lay, own, cc, nL, d, r) T b pc (pc + 3) 0 (cE n) := by
  rintro ⟨p, l, e, R, s, m, args, below, meth, c, D, adr, cA, A, cells, slots, Q⟩ ⟨hx, hb, hml, hown, hts, hK, hA, hR⟩ ρ σ x σ' H locs ls st hL hM hst hf k
  cases hf
  exact lv_ldcw hx hb hown (hts _ hw) h (k H locs hM)
theorem fe_ldc2 {n : Int} {i : Nat} (h : decode cc pc = .ok (.ldc2_w i, 3)) (hw : Cond.constantLong own i (Int64.ofInt n) ∈ lw_tb) : fw_E (lay, own, cc, nL, d, r) T b pc (pc + 3) 1 (cE n) := by
  rintro ⟨p, l, e, R, s, m, args, below, meth, c, D, adr, cA, A, cells, slots, Q⟩ ⟨hx, hb, hml, hown, hts, hK, hA, hR⟩ ρ σ x σ' H locs ls st hL hM hst hf k
  cases hf
  exact lv_ldc2 hx hb hown (hts _ hw) h (k H locs hM)
theorem fe_lconst {n : Fin 2} (h : decode cc pc = .ok (.lconst n, 1)) : fw_E (lay, own, cc, nL, d, r) T b pc (pc + 1) 1 (cE (n : Nat)) := by
  rintro ⟨p, l, e, R, s, m, args, below, meth, c, D, adr, cA, A, cells, slots, Q⟩ ⟨hx, hb, hml, hown, hts, hK, hA, hR⟩ ρ σ x σ' H locs ls st hL hM hst hf k
  cases hf
  exact lv_lconst hx hb h rfl (k H locs hM)
/-! locals -/
theorem fw_at {adr : Nat → Nat} {ρ : Lo} {ls : Array Slot} {i t j : Nat} (hL : lv_has ls nL (T.map fun q => (q.1, fw_v adr q.2 (ρ q.1)))) (hj : T[j]? = some (i, t)) : ls[i]? = some (.val (fw_v adr t (ρ i))) := by
  refine lv_at hL j ?_
  rw [List.getElem?_map, hj]
  rfl
theorem fe_iload {i : Nat} (j : Nat) (hj : T[j]? = some (i, 0)) (h : decode cc pc = .ok (.iload i, 2)) : fw_E (lay, own, cc, nL, d, r) T b pc (pc + 2) 0 (vE i) := by
  rintro ⟨p, l, e, R, s, m, args, below, meth, c, D, adr, cA, A, cells, slots, Q⟩ ⟨hx, hb, hml, hown, hts, hK, hA, hR⟩ ρ σ x σ' H locs ls st hL hM hst hf k
  cases hf
  exact lv_iload hx hb h (fw_at hL hj) (k H locs hM)
theorem fe_iloadn {i : Nat} {n : Fin 4} (j : Nat) (hj : T[j]? = some (i, 0)) (h : decode cc pc = .ok (.iload_n n, 1)) (hi : (n : Nat) = i := by rfl) : fw_E (lay, own, cc, nL, d, r) T b pc (pc + 1) 0 (vE i) := by
  rintro ⟨p, l, e, R, s, m, args, below, meth, c, D, adr, cA, A, cells, slots, Q⟩ ⟨hx, hb, hml, hown, hts, hK, hA, hR⟩ ρ σ x σ' H locs ls st hL hM hst hf k
  cases hf
  exact lv_iload_n hx hb h hi (fw_at hL hj) (k H locs hM)
theorem fe_lload {i : Nat} (j : Nat) (hj : T[j]? = some (i, 1)) (h : decode cc pc = .ok (.lload i, 2)) : fw_E (lay, own, cc, nL, d, r) T b pc (pc + 2) 1 (vE i) := by
  rintro ⟨p, l, e, R, s, m, args, below, meth, c, D, adr, cA, A, cells, slots, Q⟩ ⟨hx, hb, hml, hown, hts, hK, hA, hR⟩ ρ σ x σ' H locs ls st hL hM hst hf k
  cases hf
  exact lv_lload hx hb h (fw_at hL hj) (k H locs hM)
theorem fe_lloadn {i : Nat} {n : Fin 4} (j : Nat) (hj : T[j]? = some (i, 1)) (h : decode cc pc = .ok (.lload_n n, 1)) (hi : (n : Nat) = i := by rfl) : fw_E (lay, own, cc, nL, d, r) T b pc (pc + 1) 1 (vE i) := by
  rintro ⟨p, l, e, R, s, m, args, below, meth, c, D, adr, cA, A, cells, slots, Q⟩ ⟨hx, hb, hml, hown, hts, hK, hA, hR⟩ ρ σ x σ' H locs ls st hL hM hst hf k
  cases hf
  exact lv_lload_n hx hb h hi (fw_at hL hj) (k H locs hM)
theorem fe_aload {i q : Nat} (j : Nat) (hj : T[j]? = some (i, q + 2)) (h : decode cc pc = .ok (.aload i, 2)) : fw_E (lay, own, cc, nL, d, r) T b pc (pc + 2) (q + 2) (cE 0) := by
  rintro ⟨p, l, e, R, s, m, args, below, meth, c, D, adr, cA, A, cells, slots, Q⟩ ⟨hx, hb, hml, hown, hts, hK, hA, hR⟩ ρ σ x σ' H locs ls st hL hM hst hf k
  cases hf
  exact lv_aload hx hb h (fw_at hL hj) (k H locs hM)
theorem fe_aloadn {i q : Nat} {n : Fin 4} (j : Nat) (hj : T[j]? = some (i, q + 2)) (h : decode cc pc = .ok (.aload_n n, 1)) (hi : (n : Nat) = i := by rfl) : fw_E (lay, own, cc, nL, d, r) T b pc (pc + 1) (q + 2) (cE 0) := by
  rintro ⟨p, l, e, R, s, m, args, below, meth, c, D, adr, cA, A, cells, slots, Q⟩ ⟨hx, hb, hml, hown, hts, hK, hA, hR⟩ ρ σ x σ' H locs ls st hL hM hst hf k
  cases hf
  exact lv_aload_n hx hb h hi (fw_at hL hj) (k H locs hM)
end FWE
