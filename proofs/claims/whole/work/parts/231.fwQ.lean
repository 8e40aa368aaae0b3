section FWQ
variable {lay : List CD} {own : String} {cc : ByteArray} {nL d : Nat} {N B C : Nat × FT}
def pT : Nat → List Nat → FT
  | _, [] => []
  | i, t :: ts => (i, t) :: pT (i + tcat t) ts
theorem pT_ge : ∀ (ts : List Nat) (i : Nat) (q : Nat × Nat), q ∈ pT i ts → i ≤ q.1
  | [], _, _, h => by cases h
  | t :: ts, i, q, h => by
    rcases List.mem_cons.mp h with rfl | h
    · exact Nat.le_refl _
    · exact Nat.le_trans (Nat.le_add_right _ _) (pT_ge ts _ q h)
theorem tcat_pos (t : Nat) : 0 < tcat t := by
  unfold tcat
  split <;> decide
theorem fw_vcat {adr : Nat → Nat} {t : Nat} {x : Int} : (fw_v adr t x).category = tcat t := by
  unfold fw_v tcat
  split
  · rfl
  · rfl
  · rw [if_neg (by omega)]
    rfl
theorem ini_args {adr : Nat → Nat} : ∀ (ts : List Nat) (i : Nat) (xs : List Int), xs.length = ts.length → lv_args i (List.zipWith (fw_v adr) ts xs) = (pT i ts).map fun q => (q.1, fw_v adr q.2 (ini ((pT i ts).map Prod.fst) xs q.1))
  | [], _, xs, h => by cases xs <;> rfl
  | t :: ts, i, [], h => by cases h
  | t :: ts, i, x :: xr, h => by
    have h' : xr.length = ts.length := by simpa using h
    have hi : (if (fw_v adr t x).category = 2 then i + 2 else i + 1) = i + tcat t := by
      rw [fw_vcat]
      unfold tcat
      by_cases h1 : t = 1
      · simp [h1]
      · simp [h1]
    simp only [List.zipWith_cons_cons, lv_args, pT, List.map_cons, ini]
    rw [hi, ini_args ts (i + tcat t) xr h']
    congr 1
    · simp [up]
    · apply List.map_congr_left
      intro q hq
      have h1 := pT_ge ts _ q hq
      have h2 := tcat_pos t
      have : q.1 ≠ i := by omega
      simp [up, this]
theorem lg_len {adr : Nat → Nat} : ∀ (ts : List Nat) (xs : List Int), xs.length = ts.length → (lg_sl (List.zipWith (fw_v adr) ts xs)).length = (ts.map tcat).sum
  | [], xs, h => by cases xs <;> rfl
  | t :: ts, [], h => by cases h
  | t :: ts, x :: xr, h => by
    have h' : xr.length = ts.length := by simpa using h
    have ih := lg_len (adr := adr) ts xr h'
    simp only [lg_sl, List.zipWith_cons_cons, List.flatMap_cons, List.length_append, List.map_cons, List.sum_cons] at ih ⊢
    rw [ih, fw_vcat]
    congr 1
    unfold tcat
    by_cases h1 : t = 1 <;> simp [h1]
/-- the body's walk, from the entry -/
theorem fw_start {l : Launch} {y : MethodName} {ret : Option FieldType} {rt : Option Nat} {ts : List Nat} {bd : SM} {D : va_G} {adr : Nat → Nat} {cA : Nat → ClassId} {xs : List Int} {σ σ1 : Me} {x1 : Int} {ρ1 : Lo} {sz : Nat} {Qc : Array Value → State → Outcome → State → Prop}
    (hok : fw_ok lay) (hy : plainName y.cls = true) (body : fw_S (lay, y.cls, cc, nL, d, rt) (pT 0 ts) 0 bd N B C) (hw : (ts.map tcat).sum ≤ nL) (hlen : xs.length = ts.length) (e1 : bd (ini ((pT 0 ts).map Prod.fst) xs) σ = some (3, x1, ρ1, σ1))
    (fin : ∀ (p : Program) (e : Env) (s : State) (m : MethodId) (args : Array Value) (below : List Frame) (meth : Method) (c : Code) (H : Heap) (locs : List Loc) (ls : Array Slot) (pc : Nat), p.tables.exec = Jvm.exec → c.code = cc → meth.sig.returnType = ret → meth.locks = false → s.heap.size = sz → fw_rd cc rt pc → va_P D vwCl (fw_w lay adr cA σ1) H → va_S (va_A (fw_w lay adr cA σ) sz) s.heap H locs → W p l e (headSpec (Cond.code y cc nL ret :: lw_tb) (fw_rm d)).room s m args below meth c H locs 0 0 (MQ below Qc args s 0 0 (va_A (fw_w lay adr cA σ) sz)) (F0 m pc ls ((rt.map fun t => fw_v adr t x1).toList))) :
    Met l y (.code y cc nL ret :: lw_tb) (fw_rm d) (va_Pc (List.zipWith (fw_v adr) ts xs) (fun U => U.heap.size = sz ∧ va_P D vwCl (fw_w lay adr cA σ) U.heap ∧ va_K D vwCl (fw_t cA) U ∧ fw_nw U ∧ va_D (fun _ => True) (fw_w lay adr cA σ))) Qc 0 0 (va_A (fw_w lay adr cA σ) sz) := by
  refine Met.ofW (cc := cc) (maxL := nL) (ret := ret) hy rfl ?_
  intro p e s m args below meth c s₁ Bd hml hv
  obtain ⟨rfl, hsz, hP, hK, hN, hD0⟩ := hv
  have hts0 := atoms_spec (ws := Cond.code y cc nL ret :: lw_tb) Bd.pre
  have hts : ∀ w ∈ lw_tb, w.before (List.zipWith (fw_v adr) ts xs).toArray s = true := fun w h => hts0 w (List.mem_cons_of_mem _ h)
  have hown : s.vm.findClass y.cls = some m.cls := findClass_of_methodNamed Bd.named
  have hD := hD0.self (sz := sz)
  have hl := lv_entry (List.zipWith (fw_v adr) ts xs) (n := nL) (by rw [lg_len ts xs hlen]; exact hw)
  rw [lg_entry_eq]
  generalize (lg_sl (List.zipWith (fw_v adr) ts xs) ++ List.replicate (nL - (lg_sl (List.zipWith (fw_v adr) ts xs)).length) Slot.unset).toArray = ls at hl ⊢
  rw [ini_args ts 0 xs hlen] at hl
  refine body (p, l, e, (headSpec (Cond.code y cc nL ret :: lw_tb) (fw_rm d)).room, s, m, (List.zipWith (fw_v adr) ts xs).toArray, below, meth, c, D, adr, cA, va_A (fw_w lay adr cA σ) sz, 0, 0, MQ below Qc (List.zipWith (fw_v adr) ts xs).toArray s 0 0 (va_A (fw_w lay adr cA σ) sz)) ⟨Bd.exec, Bd.bytes, hml, hown, hts, hK, fun q h => Or.inr (by omega), Nat.le_refl _, Nat.le_refl _, Nat.le_refl _, Nat.le_refl _, hok, hN⟩ (ini ((pT 0 ts).map Prod.fst) xs) σ 3 x1 ρ1 σ1 s.heap [] ls hl ⟨hP, hD, va_S.rf⟩ e1 ⟨fun z => absurd z (by decide), fun z => absurd z (by decide), fun z => absurd z (by decide), fun _ H' l' ls' pc' hrd hM' => ?_, fun z => absurd z (by decide)⟩
  have k := fin p e s m (List.zipWith (fw_v adr) ts xs).toArray below meth c H' l' ls' pc' Bd.exec Bd.bytes Bd.returns Bd.notSynchronized hsz hrd hM'.1 hM'.2.2
  cases rt with
  | none => exact k
  | some t => exact k
theorem fm_i {y : MethodName} {ts : List Nat} {bd : SM} (hok : fw_ok lay) (hy : plainName y.cls = true) (body : fw_S (lay, y.cls, cc, nL, d, some 0) (pT 0 ts) 0 bd N B C) (hw : (ts.map tcat).sum ≤ nL) : fw_C lay y cc nL (some .int) d ts (some 0) (mthF ((pT 0 ts).map Prod.fst) bd) := by
  intro l D adr cA xs σ σ' x sz hlen hf
  obtain ⟨⟨o, x1, ρ1, σ1⟩, e1, e2⟩ := bind_some hf
  split at e2
  case isFalse => cases e2
  rename_i h3
  cases e2
  obtain rfl : o = 3 := h3
  refine fw_start hok hy body hw hlen e1 (fun p e s m args below meth c H locs ls pc hx hb hr hlk hsz hrd hP hS => ?_)
  have hq : ∀ t : State, t.heap = H → s.WarmedH t.vm → fw_Q lay D adr cA σ σ1 sz (some 0) x1 args s (.returned ((some 0 : Option Nat).map fun t => fw_v adr t x1)) t := fun t ht hW => ⟨⟨rfl, by rw [ht]; exact hP⟩, by
    subst hsz
    exact hS.F ht⟩
  exact W.iret hx hb hr hq hS.2.2 hrd hlk
theorem fm_z {y : MethodName} {ts : List Nat} {bd : SM} (hok : fw_ok lay) (hy : plainName y.cls = true) (body : fw_S (lay, y.cls, cc, nL, d, some 0) (pT 0 ts) 0 bd N B C) (hw : (ts.map tcat).sum ≤ nL) : fw_C lay y cc nL (some .boolean) d ts (some 0) (mthZ ((pT 0 ts).map Prod.fst) bd) := by
  intro l D adr cA xs σ σ' x sz hlen hf
  obtain ⟨⟨o, x1, ρ1, σ1⟩, e1, e2⟩ := bind_some hf
  split at e2
  case isFalse => cases e2
  rename_i h3
  cases e2
  obtain rfl : o = 3 := h3.1
  refine fw_start hok hy body hw hlen e1 (fun p e s m args below meth c H locs ls pc hx hb hr hlk hsz hrd hP hS => ?_)
  have hq : ∀ t : State, t.heap = H → s.WarmedH t.vm → fw_Q lay D adr cA σ σ1 sz (some 0) x1 args s (.returned ((some 0 : Option Nat).map fun t => fw_v adr t x1)) t := fun t ht hW => ⟨⟨rfl, by rw [ht]; exact hP⟩, by
    subst hsz
    exact hS.F ht⟩
  exact W.zret (v := Int32.ofInt x1) (ty := .boolean) hx hb hr (by rcases h3.2 with z | z <;> (change x1 = _ at z; rw [z]; rfl)) hq hS.2.2 hrd hlk
theorem fm_l {y : MethodName} {ts : List Nat} {bd : SM} (hok : fw_ok lay) (hy : plainName y.cls = true) (body : fw_S (lay, y.cls, cc, nL, d, some 1) (pT 0 ts) 0 bd N B C) (hw : (ts.map tcat).sum ≤ nL) : fw_C lay y cc nL (some .long) d ts (some 1) (mthF ((pT 0 ts).map Prod.fst) bd) := by
  intro l D adr cA xs σ σ' x sz hlen hf
  obtain ⟨⟨o, x1, ρ1, σ1⟩, e1, e2⟩ := bind_some hf
  split at e2
  case isFalse => cases e2
  rename_i h3
  cases e2
  obtain rfl : o = 3 := h3
  refine fw_start hok hy body hw hlen e1 (fun p e s m args below meth c H locs ls pc hx hb hr hlk hsz hrd hP hS => ?_)
  have hq : ∀ t : State, t.heap = H → s.WarmedH t.vm → fw_Q lay D adr cA σ σ1 sz (some 1) x1 args s (.returned ((some 1 : Option Nat).map fun t => fw_v adr t x1)) t := fun t ht hW => ⟨⟨rfl, by rw [ht]; exact hP⟩, by
    subst hsz
    exact hS.F ht⟩
  exact W.lret hx hb hr hq hS.2.2 hrd hlk
theorem fm_v {y : MethodName} {ts : List Nat} {bd : SM} (hok : fw_ok lay) (hy : plainName y.cls = true) (body : fw_S (lay, y.cls, cc, nL, d, none) (pT 0 ts) 0 bd N B C) (hw : (ts.map tcat).sum ≤ nL) : fw_C lay y cc nL (none) d ts (none) (mthF ((pT 0 ts).map Prod.fst) bd) := by
  intro l D adr cA xs σ σ' x sz hlen hf
  obtain ⟨⟨o, x1, ρ1, σ1⟩, e1, e2⟩ := bind_some hf
  split at e2
  case isFalse => cases e2
  rename_i h3
  cases e2
  obtain rfl : o = 3 := h3
  refine fw_start hok hy body hw hlen e1 (fun p e s m args below meth c H locs ls pc hx hb hr hlk hsz hrd hP hS => ?_)
  have hq : ∀ t : State, t.heap = H → s.WarmedH t.vm → fw_Q lay D adr cA σ σ1 sz (none) x1 args s (.returned ((none : Option Nat).map fun t => fw_v adr t x1)) t := fun t ht hW => ⟨⟨rfl, by rw [ht]; exact hP⟩, by
    subst hsz
    exact hS.F ht⟩
  exact W.vret hx hb hr hq hS.2.2 hrd hlk
theorem fm_r {y : MethodName} {ts : List Nat} {bd : SM} {nm : String} {q : Nat} (hok : fw_ok lay) (hy : plainName y.cls = true) (body : fw_S (lay, y.cls, cc, nL, d, some (q + 2)) (pT 0 ts) 0 bd N B C) (hw : (ts.map tcat).sum ≤ nL) : fw_C lay y cc nL (some (.object nm)) d ts (some (q + 2)) (mthF ((pT 0 ts).map Prod.fst) bd) := by
  intro l D adr cA xs σ σ' x sz hlen hf
  obtain ⟨⟨o, x1, ρ1, σ1⟩, e1, e2⟩ := bind_some hf
  split at e2
  case isFalse => cases e2
  rename_i h3
  cases e2
  obtain rfl : o = 3 := h3
  refine fw_start hok hy body hw hlen e1 (fun p e s m args below meth c H locs ls pc hx hb hr hlk hsz hrd hP hS => ?_)
  have hq : ∀ t : State, t.heap = H → s.WarmedH t.vm → fw_Q lay D adr cA σ σ1 sz (some (q + 2)) x1 args s (.returned ((some (q + 2) : Option Nat).map fun t => fw_v adr t x1)) t := fun t ht hW => ⟨⟨rfl, by rw [ht]; exact hP⟩, by
    subst hsz
    exact hS.F ht⟩
  exact W.aret hx hb hr (Or.inl ⟨nm, rfl⟩) (Or.inr ⟨adr q, rfl⟩) hq hS.2.2 hrd hlk
end FWQ
