section FWL
variable {own : String} {cc : ByteArray} {nL d : Nat} {T : FT} {lay lay1 lay2 : List CD} {σ σ1 σ2 : Me} {st st1 st2 : List (Nat × Int)} {pc pc1 pc2 : Nat} {nc ns nc1 ns1 : Nat}
def fk_bv (bl : List (Nat × Nat)) : List Value := bl.map fun q => match q.1 with
  | 1 => .int 0
  | 2 => .long 0
  | _ => .null
theorem fk_app {adr : Nat → Nat} {cA : Nat → ClassId} {x : CD} : fw_w (lay ++ [x]) adr cA σ = fw_w lay adr cA σ ++ [(adr lay.length, fw_c adr cA σ lay.length x)] := by
  unfold fw_w
  rw [List.mapIdx_concat]
theorem fk_new_w {adr : Nat → Nat} {cA : Nat → ClassId} {x : CD} {q : Nat} (hi : fk_i lay) : fw_w (lay ++ [x]) (fun k => if k = lay.length then q else adr k) cA σ = fw_w lay adr cA σ ++ [(q, fw_c (fun k => if k = lay.length then q else adr k) cA σ lay.length x)] := by
  rw [fk_app, fk_same (adr := adr) hi (fun k hk => if_neg (by omega)), if_pos rfl]
theorem fk_z_app {x : CD} (hz : fk_z lay σ) : fk_z (lay ++ [x]) σ := fun v i h => hz v i (by simp at h; omega)
theorem fk_st_app {x : CD} (h : ∀ q ∈ st, q.1 < lay.length + 2) : ∀ q ∈ ((lay.length + 2, (0 : Int)) :: st), q.1 < (lay ++ [x]).length + 2 := by
  intro q hq
  simp only [List.length_append, List.length_cons, List.length_nil]
  rcases List.mem_cons.mp hq with rfl | hq
  · simp
  · have := h q hq
    omega
theorem fk_at_app {x z : CD} {k : Nat} (h : (lay ++ [x])[k]? = some z) : lay[k]? = some z ∨ (k = lay.length ∧ z = x) := by
  by_cases hk : k < lay.length
  · rw [List.getElem?_append_left hk] at h
    exact Or.inl h
  · rw [List.getElem?_append_right (by omega)] at h
    have h1 : k - lay.length < 1 := (List.getElem?_eq_some_iff.mp h).1
    have h2 : k = lay.length := by omega
    subst h2
    rw [Nat.sub_self] at h
    exact Or.inr ⟨rfl, (Option.some.inj h).symm⟩
theorem kb_new {ci N index n : Nat} {C : String} {Tt : u_T} {t0 : Nat → FieldType} {bl : List (Nat × Nat)} (hn : lay.length = n) (hcl : vwCl[ci]? = some (C, Tt, N)) (hinw : ∀ w ∈ u_ws C Tt N, w ∈ lw_tb) (hty : ∀ k, k < N → parseFieldDescriptor (Tt k).2.2.1 = some (t0 k)) (w1 : Cond.classLink own index C ∈ lw_tb) (w2 : Cond.instantiable C N ∈ lw_tb) (w3 : Cond.initialized C ∈ lw_tb) (hbl : ∀ j, j < N → defaultValue (t0 j) = vp_V (fk_bv bl) j) (hk : ∀ q ∈ bl, q.1 = 1 ∨ q.1 = 2 ∨ q.1 = 3) (hl : bl.length ≤ 64) (h : decode cc pc = .ok (.new index, 3)) : fk_B own cc nL d T lay σ st pc (lay ++ [.inl (ci, bl)]) σ ((n + 2, 0) :: st) (pc + 3) 1 N := by
  rintro p l e R s m args below meth c D adr cA A cells slots Q H locs ls ρ ⟨hx, hb, hml, hown, hts, hK, hA, hd, hlo, hce, hsl, hok, hnw⟩ hin hc hs hL hT hst hi hz ⟨hP, hD, hS⟩ k_
  subst hn
  refine va_new (fs := fk_bv bl) hx hb hts hinw t0 hty hown (hts _ w1) (hts _ w2) (hts _ w3) hK hP hD hS hA hcl hbl (by omega) (by omega) h (fun q H1 hP1 hD1 hS1 => ?_)
  have hag : ∀ k, k < lay.length → (fun k => if k = lay.length then q else adr k) k = adr k := fun k hk => if_neg (by omega)
  have e9 : fw_c (fun k => if k = lay.length then q else adr k) cA σ lay.length (.inl (ci, bl)) = .inr (ci, fk_bv bl) := by
    simp only [fw_c]
    congr 2
    apply List.ext_getElem?
    intro j
    rw [List.getElem?_mapIdx, fk_bv, List.getElem?_map]
    cases hj : bl[j]? with
    | none => rfl
    | some z =>
      simp only [Option.map_some, fw_f]
      rw [hz (64 * lay.length + j) 0 (by omega)]
      rcases hk z (List.mem_of_getElem? hj) with e1 | e1 | e1 <;> rw [e1] <;> rfl
  have kk := k_ (fun k => if k = lay.length then q else adr k) H1 locs hag (by simp) (fk_Ls hag hT hL) (fk_st_app hst) (fun k ci' fs j t h1 h2 => by
    rcases fk_at_app h1 with h1 | ⟨-, h1⟩
    · have := hi k ci' fs j t h1 h2
      simp
      omega
    · cases h1
      rcases hk _ (List.mem_of_getElem? h2) with e1 | e1 | e1 <;> simp at e1) (fk_z_app hz) (fun k o h1 => by
    rcases fk_at_app h1 with h1 | ⟨-, h1⟩
    · exact hok k o h1
    · cases h1
      exact hl) (by
    refine ⟨?_, ?_, hS1⟩
    · show va_P D vwCl (fw_w (lay ++ [.inl (ci, bl)]) (fun k => if k = lay.length then q else adr k) cA σ) H1
      rw [fk_new_w hi, e9]
      exact hP1
    · show va_D A (fw_w (lay ++ [.inl (ci, bl)]) (fun k => if k = lay.length then q else adr k) cA σ)
      rw [fk_new_w hi, e9]
      exact hD1)
  simp only [List.map_cons, fk_Ss hag hst] at kk
  have e8 : fw_v (fun k => if k = lay.length then q else adr k) (lay.length + 2) 0 = .ref q := by simp [fw_v]
  rw [e8] at kk
  exact kk
def fk_ty (ty : Nat) : FieldType := ([.int, .long, .byte, .boolean] : List FieldType).getD ty .int
theorem fk_cell {cA : ClassId} {ty N n : Nat} (hz : fk_z lay σ) (hn : lay.length ≤ n) (ht : ty < 4) : vp_cell cA (N, fw_a σ n ty) = arrV cA N (fun _ => defaultValue (fk_ty ty)) := by
  have e : ∀ i, σ (64 * n) i = 0 := fun i => hz _ i (by omega)
  match ty, ht with
  | 0, _ => simp only [fw_a, e]; rfl
  | 1, _ => simp only [fw_a, e]; rfl
  | 2, _ => simp only [fw_a, e]; rfl
  | 3, _ => simp only [fw_a, e]; rfl
theorem kb_arr {ty N n : Nat} {x : Int} {atype : ArrayType} (hn : lay.length = n) (ht : ty < 4) (hty : newarray.typeOf atype = fk_ty ty) (w : Cond.arrayClass (newarray.typeOf atype) ∈ lw_tb) (hx0 : 0 ≤ w32 x) (hN : (w32 x).toNat = N) (hbytes : N * componentBytes (fk_ty ty) ≤ 536870912) (h : decode cc pc = .ok (.newarray atype, 2)) : fk_B own cc nL d T lay σ ((0, x) :: st) pc (lay ++ [.inr (ty, N)]) σ ((n + 2, 0) :: st) (pc + 2) 1 N := by
  rintro p l e R s m args below meth c D adr cA A cells slots Q H locs ls ρ ⟨hx, hb, hml, hown, hts, hK, hA, hd, hlo, hce, hsl, hok, hnw⟩ hin hc hs hL hT hst hi hz ⟨hP, hD, hS⟩ k_
  subst hn
  refine va_newa (a0 := (N, fw_a σ lay.length ty)) hx hb (hts _ w) hty hK hP hD hS hA (fun cA => fk_cell hz (Nat.le_refl _) ht) (i32_nn hx0) hN hbytes (by omega) (by omega) h (fun q c1 H1 hK1 hP1 hD1 hS1 => ?_)
  have hc1 : c1 = cA ty := by
    have h4 := (hK1.2 4 (c1, fk_ty ty) rfl).2
    match ty, ht with
    | 0, _ =>
      have h5 := (hK.2 0 (cA 0, .int) rfl).2
      exact Option.some.inj (h4.symm.trans h5)
    | 1, _ =>
      have h5 := (hK.2 1 (cA 1, .long) rfl).2
      exact Option.some.inj (h4.symm.trans h5)
    | 2, _ =>
      have h5 := (hK.2 2 (cA 2, .byte) rfl).2
      exact Option.some.inj (h4.symm.trans h5)
    | 3, _ =>
      have h5 := (hK.2 3 (cA 3, .boolean) rfl).2
      exact Option.some.inj (h4.symm.trans h5)
  subst hc1
  have hag : ∀ k, k < lay.length → (fun k => if k = lay.length then q else adr k) k = adr k := fun k hk => if_neg (by omega)
  have kk := k_ (fun k => if k = lay.length then q else adr k) H1 locs hag (by simp) (fk_Ls hag hT hL) (fk_st_app (fun q hq => hst q (List.mem_cons_of_mem _ hq))) (fun k ci' fs j t h1 h2 => by
    rcases fk_at_app h1 with h1 | ⟨-, h1⟩
    · have := hi k ci' fs j t h1 h2
      simp
      omega
    · cases h1) (fk_z_app hz) (fun k o h1 => by
    rcases fk_at_app h1 with h1 | ⟨-, h1⟩
    · exact hok k o h1
    · cases h1) (by
    refine ⟨?_, ?_, hS1⟩
    · show va_P D vwCl (fw_w (lay ++ [.inr (ty, N)]) (fun k => if k = lay.length then q else adr k) cA σ) H1
      rw [fk_new_w hi]
      exact hP1
    · show va_D A (fw_w (lay ++ [.inr (ty, N)]) (fun k => if k = lay.length then q else adr k) cA σ)
      rw [fk_new_w hi]
      exact hD1)
  simp only [List.map_cons, fk_Ss hag (fun q hq => hst q (List.mem_cons_of_mem _ hq))] at kk
  have e8 : fw_v (fun k => if k = lay.length then q else adr k) (lay.length + 2) 0 = .ref q := by simp [fw_v]
  rw [e8] at kk
  exact kk
/-- a ref field that a constructor sets -/
def fk_fp (own : String) (index ci j : Nat) : Prop := ∃ (C : String) (Tt : u_T) (N : Nat) (t0 : Nat → FieldType), vwCl[ci]? = some (C, Tt, N) ∧ (∀ w ∈ u_ws C Tt N, w ∈ lw_tb) ∧ j < N ∧ Cond.fieldLink own index (Tt j).1 (Tt j).2.1 (Tt j).2.2.1 ∈ lw_tb ∧ (∀ k, k < N → parseFieldDescriptor (Tt k).2.2.1 = some (t0 k)) ∧ (∀ a, a < N → ∀ b, b < N → a ≠ b → (Tt a).2.1 ≠ (Tt b).2.1) ∧ (Tt j).2.2.2 = true ∧ (Tt j).1 = own ∧ ((∃ n, t0 j = .object n) ∨ ∃ a, t0 j = .array a)
theorem fk_setw {adr : Nat → Nat} {cA : Nat → ClassId} {k ci j t : Nat} {fs : List (Nat × Nat)} {z : Nat × Nat} (hk : lay[k]? = some (.inl (ci, fs))) (hj : fs[j]? = some z) : (fw_w lay adr cA σ).set k (adr k, .inr (ci, (fs.mapIdx (fw_f adr σ k)).set j (.ref (adr t)))) = fw_w (lay.set k (.inl (ci, fs.set j (0, t)))) adr cA σ := by
  have hl := (List.getElem?_eq_some_iff.mp hk).1
  have hlj := (List.getElem?_eq_some_iff.mp hj).1
  apply List.ext_getElem?
  intro n
  by_cases hn : n = k
  · subst hn
    rw [List.getElem?_set_self (by simpa [fw_w] using hl)]
    unfold fw_w
    rw [List.getElem?_mapIdx, List.getElem?_set_self hl]
    simp only [Option.map_some, fw_c]
    congr 4
    apply List.ext_getElem?
    intro i
    by_cases hij : i = j
    · subst hij
      rw [List.getElem?_set_self (by simpa using hlj), List.getElem?_mapIdx, List.getElem?_set_self hlj]
      rfl
    · rw [List.getElem?_set_ne (Ne.symm hij), List.getElem?_mapIdx, List.getElem?_mapIdx, List.getElem?_set_ne (Ne.symm hij)]
  · rw [List.getElem?_set_ne (Ne.symm hn)]
    unfold fw_w
    rw [List.getElem?_mapIdx, List.getElem?_mapIdx, List.getElem?_set_ne (Ne.symm hn)]
theorem kb_putR {k ci j t index : Nat} {x y : Int} {fs : List (Nat × Nat)} {z : Nat × Nat} (hw : fk_fp own index ci j) (hk : lay[k]? = some (.inl (ci, fs))) (hj : fs[j]? = some z) (h : decode cc pc = .ok (.putfield index, 3)) : fk_B own cc nL d T lay σ ((t + 2, x) :: (k + 2, y) :: st) pc (lay.set k (.inl (ci, fs.set j (0, t)))) σ st (pc + 3) 0 0 := by
  rintro p l e R s m args below meth c D adr cA A cells slots Q H locs ls ρ ⟨hx, hb, hml, hown, hts, hK, hA, hd, hlo, hce, hsl, hok, hnw⟩ hin hc hs hL hT hst hi hz ⟨hP, hD, hS⟩ k_
  obtain ⟨C, Tt, N, t0, hcl, hinw, hjN, hlk, hty, hnm, hfin, hdecl, hrt⟩ := hw
  have hl := (List.getElem?_eq_some_iff.mp hk).1
  have hlj := (List.getElem?_eq_some_iff.mp hj).1
  have ht : t < lay.length := by have := hst _ List.mem_cons_self; simp at this; omega
  refine va_putF hx hb hts hinw t0 hty hnm hown hK hP hD hS k (fw_w_at hk) hcl j hjN (hts _ hlk) (fun _ z => z) hfin hin hdecl (hty j hjN) (by rcases hrt with ⟨n, e⟩ | ⟨n, e⟩ <;> rw [e] <;> rfl) (by rcases hrt with ⟨n, e⟩ | ⟨n, e⟩ <;> rw [e] <;> rfl) (by simpa using hlj) h (fun H1 l1 hP1 hD1 hS1 => ?_)
  have hP1 : va_P D vwCl ((fw_w lay adr cA σ).set k (adr k, .inr (ci, (fs.mapIdx (fw_f adr σ k)).set j (.ref (adr t))))) H1 := hP1
  have hD1 : va_D A ((fw_w lay adr cA σ).set k (adr k, .inr (ci, (fs.mapIdx (fw_f adr σ k)).set j (.ref (adr t))))) := hD1
  rw [fk_setw hk hj] at hP1 hD1
  refine k_ adr H1 l1 (fun _ _ => rfl) (by simp) hL (fun q hq => by simpa using hst q (List.mem_cons_of_mem _ (List.mem_cons_of_mem _ hq))) (fun n ci' fs' j' t' h1 h2 => ?_) (fun v i hv => hz v i (by simpa using hv)) (fun n o h1 => ?_) ⟨hP1, hD1, hS1⟩
  · by_cases hn : n = k
    · subst hn
      rw [List.getElem?_set_self hl] at h1
      cases h1
      simp only [List.length_set]
      by_cases hjj : j' = j
      · subst hjj
        rw [List.getElem?_set_self hlj] at h2
        cases h2
        exact ht
      · rw [List.getElem?_set_ne (Ne.symm hjj)] at h2
        exact hi n _ fs j' t' hk h2
    · rw [List.getElem?_set_ne (Ne.symm hn)] at h1
      simp only [List.length_set]
      exact hi n ci' fs' j' t' h1 h2
  · by_cases hn : n = k
    · subst hn
      rw [List.getElem?_set_self hl] at h1
      cases h1
      simpa using hok n (ci, fs) hk
    · rw [List.getElem?_set_ne (Ne.symm hn)] at h1
      exact hok n o h1
theorem fk_z_put {v i k : Nat} {x : Int} (hz : fk_z lay σ) (hk : k < lay.length) (hv : ∃ j, j < 64 ∧ v = 64 * k + j) : fk_z lay (u2 σ v i x) := by
  intro w n hw
  obtain ⟨j, hj, rfl⟩ := hv
  rw [u2_n (fun q => by omega)]
  exact hz w n hw
theorem kb_putI {k ci j q index : Nat} {x y : Int} {fs : List (Nat × Nat)} (hw : fw_fp own index ci j .int) (hk : lay[k]? = some (.inl (ci, fs))) (hj : fs[j]? = some (1, q)) (h : decode cc pc = .ok (.putfield index, 3)) : fk_B own cc nL d T lay σ ((0, x) :: (k + 2, y) :: st) pc lay (u2 σ (64 * k + j) 0 x) st (pc + 3) 0 0 := by
  rintro p l e R s m args below meth c D adr cA A cells slots Q H locs ls ρ ⟨hx, hb, hml, hown, hts, hK, hA, hd, hlo, hce, hsl, hok, hnw⟩ hin hc hs hL hT hst hi hz ⟨hP, hD, hS⟩ k_
  obtain ⟨C, Tt, N, t0, hcl, hinw, hjN, hlk, hty, hnm, hfin, ht0⟩ := hw
  have hl := (List.getElem?_eq_some_iff.mp hk).1
  refine va_put hx hb hts hinw t0 hty hnm hown hK hP hD hS k (fw_w_at hk) hcl j hjN (hts _ hlk) (fun _ z => z) hfin (ht0 ▸ hty j hjN) rfl rfl (by simpa using (List.getElem?_eq_some_iff.mp hj).1) h (fun H1 l1 hP1 hD1 hS1 => ?_)
  have hM := fw_M_put (S := (lay, own, cc, nL, d, none)) (p := p) (l := l) (e := e) (R := R) (m := m) (args := args) (below := below) (meth := meth) (c := c) (cells := cells) (slots := slots) (Q := Q) hok hk ⟨j, fw_jlt hok hk hj, rfl⟩ (fw_c_fld hj (by simp only [fw_f, u2_s]; rfl)) hP1 hD1 hS1
  exact k_ adr H1 l1 (fun _ _ => rfl) (Nat.le_refl _) hL (fun q hq => hst q (List.mem_cons_of_mem _ (List.mem_cons_of_mem _ hq))) hi (fk_z_put hz hl ⟨j, fw_jlt hok hk hj, rfl⟩) hok hM
theorem kb_putZ {k ci j q index : Nat} {x y : Int} {fs : List (Nat × Nat)} (hw : fw_fp own index ci j .boolean) (hk : lay[k]? = some (.inl (ci, fs))) (hj : fs[j]? = some (1, q)) (hx01 : x = 0 ∨ x = 1) (h : decode cc pc = .ok (.putfield index, 3)) : fk_B own cc nL d T lay σ ((0, x) :: (k + 2, y) :: st) pc lay (u2 σ (64 * k + j) 0 x) st (pc + 3) 0 0 := by
  rintro p l e R s m args below meth c D adr cA A cells slots Q H locs ls ρ ⟨hx, hb, hml, hown, hts, hK, hA, hd, hlo, hce, hsl, hok, hnw⟩ hin hc hs hL hT hst hi hz ⟨hP, hD, hS⟩ k_
  obtain ⟨C, Tt, N, t0, hcl, hinw, hjN, hlk, hty, hnm, hfin, ht0⟩ := hw
  have hl := (List.getElem?_eq_some_iff.mp hk).1
  refine va_put hx hb hts hinw t0 hty hnm hown hK hP hD hS k (fw_w_at hk) hcl j hjN (hts _ hlk) (fun _ z => z) hfin (ht0 ▸ hty j hjN) (by rcases hx01 with z | z <;> rw [z] <;> rfl) (by rcases hx01 with z | z <;> rw [z] <;> rfl) (by simpa using (List.getElem?_eq_some_iff.mp hj).1) h (fun H1 l1 hP1 hD1 hS1 => ?_)
  have hM := fw_M_put (S := (lay, own, cc, nL, d, none)) (p := p) (l := l) (e := e) (R := R) (m := m) (args := args) (below := below) (meth := meth) (c := c) (cells := cells) (slots := slots) (Q := Q) hok hk ⟨j, fw_jlt hok hk hj, rfl⟩ (fw_c_fld hj (by simp only [fw_f, u2_s]; rfl)) hP1 hD1 hS1
  exact k_ adr H1 l1 (fun _ _ => rfl) (Nat.le_refl _) hL (fun q hq => hst q (List.mem_cons_of_mem _ (List.mem_cons_of_mem _ hq))) hi (fk_z_put hz hl ⟨j, fw_jlt hok hk hj, rfl⟩) hok hM
theorem kb_iast {k n w : Nat} {x i y : Int} (hk : lay[k]? = some (.inr (0, n))) (hw : ixI i n = some w) (h : decode cc pc = .ok (.iastore, 1)) : fk_B own cc nL d T lay σ ((0, x) :: (0, i) :: (k + 2, y) :: st) pc lay (u2 σ (64 * k) w x) st (pc + 1) 0 0 := by
  rintro p l e R s m args below meth c D adr cA A cells slots Q H locs ls ρ ⟨hx, hb, hml, hown, hts, hK, hA, hd, hlo, hce, hsl, hok, hnw⟩ hin hc hs hL hT hst hi hz ⟨hP, hD, hS⟩ k_
  have hl := (List.getElem?_eq_some_iff.mp hk).1
  obtain ⟨i1, i2⟩ := fw_in hw
  subst i2
  refine va_iast hx hb hK hP hD hS k 0 (fw_w_at hk) rfl i1 h (fun H1 l1 hP1 hD1 hS1 => ?_)
  have hM := fw_M_put (S := (lay, own, cc, nL, d, none)) (p := p) (l := l) (e := e) (R := R) (m := m) (args := args) (below := below) (meth := meth) (c := c) (cells := cells) (slots := slots) (Q := Q) (v := 64 * k) hok hk ⟨0, by decide, rfl⟩ (fw_c_arr (by decide)) hP1 hD1 hS1
  exact k_ adr H1 l1 (fun _ _ => rfl) (Nat.le_refl _) hL (fun q hq => hst q (List.mem_cons_of_mem _ (List.mem_cons_of_mem _ (List.mem_cons_of_mem _ hq)))) hi (fk_z_put hz hl ⟨0, by decide, rfl⟩) hok hM
/-- a constructor's contract, its object in place k -/
def fk_Q (D : va_G) (adr : Nat → Nat) (cA : Nat → ClassId) (lay lay1 : List CD) (σ σ1 : Me) (sz : Nat) : Array Value → State → Outcome → State → Prop := fun _ st oc t =>
  (oc = .returned none ∧ lay.length ≤ lay1.length ∧ fk_i lay1 ∧ fk_z lay1 σ1 ∧ fw_ok lay1 ∧ ∃ adr1 : Nat → Nat, (∀ k, k < lay.length → adr1 k = adr k) ∧ va_P D vwCl (fw_w lay1 adr1 cA σ1) t.heap ∧ va_D (va_A (fw_w lay adr cA σ) sz) (fw_w lay1 adr1 cA σ1)) ∧ va_F (va_A (fw_w lay adr cA σ) sz) st t
def fk_rm (d nc ns : Nat) : Room := { frames := d, cells := nc, slots := ns, locals := 40 * d }
def fk_C (y : MethodName) (cy : ByteArray) (maxL d k : Nat) (lay : List CD) (σ : Me) (lay1 : List CD) (σ1 : Me) (nc ns : Nat) : Prop :=
  fk_i lay → fk_z lay σ → fw_ok lay → k < lay.length → ∀ (l : Launch) (D : va_G) (adr : Nat → Nat) (cA : Nat → ClassId) (sz : Nat),
    Met l y (.code y cy maxL none :: lw_tb) (fk_rm d nc ns) (va_Pc [.ref (adr k)] (fun U => U.heap.size = sz ∧ va_P D vwCl (fw_w lay adr cA σ) U.heap ∧ va_K D vwCl (fw_t cA) U ∧ fw_nw U ∧ va_D (fun _ => True) (fw_w lay adr cA σ))) (fk_Q D adr cA lay lay1 σ σ1 sz) nc ns (va_A (fw_w lay adr cA σ) sz)
def fk_ln (own : String) (index : Nat) (y : MethodName) (host : String) (cy : ByteArray) (maxL : Nat) : Prop := Cond.methodLinkNest own index y host ∈ lw_tbl ∧ Cond.instanceMethod y ∈ lw_tb ∧ Cond.initialized y.cls ∈ lw_tb ∧ Cond.code y cy maxL none ∈ lw_tb ∧ y.name = "<init>" ∧ y.cls ≠ "java/lang/invoke/MethodHandle" ∧ y.cls ≠ "java/lang/invoke/VarHandle" ∧ (parseMethodDescriptor y.desc).map (fun d => d.parameters.length) = some 0
theorem kb_nil : fk_B own cc nL d T lay σ st pc lay σ st pc 0 0 := by
  rintro p l e R s m args below meth c D adr cA A cells slots Q H locs ls ρ ⟨hx, hb, hml, hown, hts, hK, hA, hd, hlo, hce, hsl, hok, hnw⟩ hin hc hs hL hT hst hi hz hM k_
  exact k_ adr H locs (fun _ _ => rfl) (Nat.le_refl _) hL hst hi hz hok hM
theorem kb_ctor {k d' maxL index : Nat} {x : Int} {y : MethodName} {host : String} {cy : ByteArray} (M : fk_C y cy maxL d' k lay σ lay1 σ1 nc ns) (hw : fk_ln own index y host cy maxL) (hd1 : d' + 1 ≤ d) (hm : maxL ≤ 21) (h8 : (st.map fun q => tcat q.1).sum ≤ 8) (h : decode cc pc = .ok (.invokespecial index, 3)) : fk_B own cc nL d T lay σ ((k + 2, x) :: st) pc lay1 σ1 st (pc + 3) nc ns := by
  rintro p l e R s m args below meth c D adr cA A cells slots Q H locs ls ρ ⟨hx, hb, hml, hown, hts, hK, hA, hd, hlo, hce, hsl, hok, hnw⟩ hin hc hs hL hT hst hi hz ⟨hP, hD, hS⟩ k_
  have hk : k < lay.length := by have := hst _ List.mem_cons_self; simp at this; omega
  have hg : GoodIn lw_tb (Cond.code y cy maxL none :: lw_tb) := by
    intro w hw'
    have hm : w ∈ lw_tb := by
      rcases List.mem_cons.mp hw' with rfl | z
      · exact hw.2.2.2.1
      · exact z
    exact ⟨hm, good_of_word (List.all_eq_true.mp lw_good w hm)⟩
  have h9 : ((st.map fun q => fw_v adr q.1 q.2).map fun v => v.category).sum ≤ 8 := by
    rw [List.map_map]
    have e9 : (st.map ((fun v : Value => v.category) ∘ fun q => fw_v adr q.1 q.2)) = st.map fun q => tcat q.1 := List.map_congr_left (fun q _ => fw_vcat)
    rw [e9]
    exact h8
  have run := va_runIN (e := e) (below := below) (meth := meth) (g := F0 m pc ls (.ref (adr k) :: st.map fun q => fw_v adr q.1 q.2)) (As := []) (rest := st.map fun q => fw_v adr q.1 q.2) ⟨hx, hb, hml, hown, hts⟩ (M hi hz hok hk l D adr cA H.size) ⟨va_cnB (R := R) 0 hts hg rfl rfl rfl (hnw _ _ _ _ hw.1) (hts _ hw.2.2.1) hw.2.2.2.2.2 ⟨by show d' + 1 ≤ R.frames; omega, by show 8 + (maxL + 11) + 40 * d' ≤ R.locals; omega⟩, hw.2.2.2.2.1, hts _ hw.2.1⟩ ⟨fw_blind, fun U hU hW => ⟨rfl, by rw [hU], by rw [hU]; exact hP, va_K.moved hW.alike hK, fw_nw_warm hW hnw, hD.weaken (fun _ _ _ _ => trivial)⟩⟩ rfl rfl hL.1 rfl (lv_room h9) h (cells := cells) (slots := slots) (locs := locs) ⟨by omega, by omega⟩
  have hF := fw_free hD hS hA
  intro T0 hT0 X0
  obtain ⟨v, st₀, t, T', L, h0, X', hL0, e1, e2, ⟨⟨hv, hle, hi1, hz1, hok1, adr1, hag, hp, hdd⟩, hz2, hk2⟩, stp⟩ := run T0 hT0 X0
  cases hv
  rw [h0] at hz2 hk2
  have kk := k_ adr1 T'.heap (locs ++ L) hag hle (fk_Ls hag hT hL) (fun q hq => by have := hst q (List.mem_cons_of_mem _ hq); omega) hi1 hz1 hok1 ⟨by rw [e1]; exact hp, hdd.weaken (fun _ _ _ z => hF _ z), Nat.le_trans hS.1 (by rw [e1]; exact hz2), fun q h1 h2 => by
      rw [e1, hk2 q (Nat.lt_of_lt_of_le h1 hS.1) (fun z => h2 (hF q z))]
      exact hS.2.1 q h1 h2, fun q hq => by
      rcases List.mem_append.mp hq with h | h
      · exact hS.2.2 q h
      · exact hF _ (hL0 q h)⟩
  rw [fk_Ss hag (fun q hq => hst q (List.mem_cons_of_mem _ hq))] at kk
  obtain ⟨t2, a1, b1⟩ := kk T' rfl X'
  exact ⟨t2, stp t2 a1, b1⟩
theorem fk_close {y : MethodName} {k pcr : Nat} (hy : plainName y.cls = true) (hyn : y.name = "<init>") (hnL : 1 ≤ nL) (body : fk_B y.cls cc nL d [(0, k + 2)] lay σ [] 0 lay1 σ1 [] pcr nc ns) (hr1 : decode cc pcr = .ok (.return_, 1)) : fk_C y cc nL d k lay σ lay1 σ1 nc ns := by
  intro hi hz hok hk l D adr cA sz
  refine Met.ofW (cc := cc) (maxL := nL) (ret := none) hy rfl ?_
  intro p e s m args below meth c s₁ Bd hml hv
  obtain ⟨rfl, hsz, hP, hK, hN, hD0⟩ := hv
  have hts0 := atoms_spec (ws := Cond.code y cc nL none :: lw_tb) Bd.pre
  have hts : ∀ w ∈ lw_tb, w.before ([.ref (adr k)] : List Value).toArray s = true := fun w h => hts0 w (List.mem_cons_of_mem _ h)
  have hown : s.vm.findClass y.cls = some m.cls := findClass_of_methodNamed Bd.named
  have hin : meth.name = "<init>" := ((name_of_methodNamed Bd.named Bd.method).1).trans hyn
  have hD := hD0.self (sz := sz)
  have hl := lv_entry ([.ref (adr k)] : List Value) (n := nL) (by simpa [lg_sl, Value.category] using hnL)
  rw [lg_entry_eq]
  generalize (lg_sl ([.ref (adr k)] : List Value) ++ List.replicate (nL - (lg_sl ([.ref (adr k)] : List Value)).length) Slot.unset).toArray = ls at hl ⊢
  refine body p l e (headSpec (Cond.code y cc nL none :: lw_tb) (fk_rm d nc ns)).room s m _ below meth c D adr cA (va_A (fw_w lay adr cA σ) sz) 0 0 _ s.heap [] ls (fun _ => 0) ⟨Bd.exec, Bd.bytes, hml, hown, hts, hK, fun q h => Or.inr (by omega), Nat.le_refl _, Nat.le_refl _, Nat.zero_le _, Nat.zero_le _, hok, hN⟩ hin (by show 0 + nc ≤ nc; omega) (by show 0 + ns ≤ ns; omega) hl (fun q hq => by
    rcases List.mem_cons.mp hq with rfl | hq
    · simpa using hk
    · cases hq) (fun q hq => by cases hq) hi hz ⟨hP, hD, va_S.rf⟩ (fun adr1 H1 l1 hag hle hL1 hst1 hi1 hz1 hok1 hM1 => ?_)
  rw [Nat.zero_add, Nat.zero_add]
  have hlk := Bd.notSynchronized
  refine W.vret Bd.exec Bd.bytes Bd.returns (fun t ht hW => ⟨⟨rfl, hle, hi1, hz1, hok1, adr1, hag, by rw [ht]; exact hM1.1, hM1.2.1⟩, ?_⟩) hM1.2.2.2.2 hr1 hlk
  subst hsz
  exact hM1.2.2.F ht
end FWL
