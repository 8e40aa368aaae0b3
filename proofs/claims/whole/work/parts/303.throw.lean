/-- the names over NoSuchElementException -/
abbrev tx_n : List String := ["java/lang/RuntimeException", "java/lang/Exception"]
abbrev tx_E : String := "java/util/NoSuchElementException"
theorem tx_good : ∀ w ∈ (vx_at0 RX11 107 tx_E tx_n).filter goodWord, w ∈ lw_tbl := by decide +kernel
theorem tx_bad : ∀ w ∈ (vx_at0 RX11 107 tx_E tx_n).filter (fun w => !goodWord w), w ∈ tx_ws := by decide +kernel
theorem tx_ot : ∀ w ∈ Cond.classLink RX11 105 tx_E :: Cond.initialized tx_E :: vx_at0 RX11 107 tx_E tx_n, vx_ot w = true := by decide +kernel
def tx_rm : Room := { frames := 12, cells := 1, slots := 6, locals := 480 }
def tx_P (D : va_G) (adr : Nat → Nat) (cA : Nat → ClassId) (σ : Me) (sz : Nat) (U : State) : Prop := U.heap.size = sz ∧ va_P D vwCl (fw_w LX adr cA σ) U.heap ∧ va_K D vwCl (fw_t cA) U ∧ fw_nw U ∧ va_D (fun _ => True) (fw_w LX adr cA σ) ∧ tx_Z (va_A (fw_w LX adr cA σ) sz) U U.heap
def tx_Q (D : va_G) (adr : Nat → Nat) (cA : Nat → ClassId) (σ σ1 : Me) (o : Nat) (x1 : Int) (sz : Nat) : Array Value → State → Outcome → State → Prop := fun a st oc t => o = 3 ∧ fw_Q LX D adr cA σ σ1 sz (some 0) x1 a st oc t
def tx_X (D : va_G) (adr : Nat → Nat) (cA : Nat → ClassId) (σ σ1 : Me) (o : Nat) (sz : Nat) : String → State → State → Prop := fun E st t => o = 4 ∧ E = tx_E ∧ va_P D vwCl (fw_w LX adr cA σ1) t.heap ∧ va_F (va_A (fw_w LX adr cA σ) sz) st t
/-- a method of the class that answers or throws -/
theorem tx_C {l : Launch} (hl : l.stackTraces = false) {y : MethodName} {cy : ByteArray} {nL d : Nat} {ts : List Nat} {bd : SM} {N B C : Nat × FT} (hy : plainName y.cls = true) (hyc : y.cls = RX11) (body : fw_S (LX, y.cls, cy, nL, d, some 0) (pT 0 ts) 0 bd N B C) (hw : (ts.map tcat).sum ≤ nL) (hd : d ≤ 12)
    (D : va_G) (adr : Nat → Nat) (cA : Nat → ClassId) (xs : List Int) (σ σ1 : Me) (o : Nat) (x1 : Int) (ρ1 : Lo) (sz : Nat) (hlen : xs.length = ts.length) (e1 : bd (ini ((pT 0 ts).map Prod.fst) xs) σ = some (o, x1, ρ1, σ1)) (ho : o = 3 ∨ o = 4) :
    vx_Met l y (.code y cy nL (some .int) :: lw_tb) tx_rm (va_Pc (List.zipWith (fw_v adr) ts xs) (tx_P D adr cA σ sz)) (tx_Q D adr cA σ σ1 o x1 sz) (tx_X D adr cA σ σ1 o sz) 1 6 (va_A (fw_w LX adr cA σ) sz) := by
  refine vx_ofW (cc := cy) (maxL := nL) (ret := some .int) hy rfl ?_
  intro p e s m args below meth c s₁ Bd hml hex hv
  obtain ⟨rfl, hsz, hP, hK, hN, hD0, hZ⟩ := hv
  have hts0 := atoms_spec (ws := Cond.code y cy nL (some .int) :: lw_tb) Bd.pre
  have hts : ∀ w ∈ lw_tb, w.before (List.zipWith (fw_v adr) ts xs).toArray s = true := fun w h => hts0 w (List.mem_cons_of_mem _ h)
  have hown : s.vm.findClass y.cls = some m.cls := findClass_of_methodNamed Bd.named
  have hD := hD0.self (sz := sz)
  have hl0 := lv_entry (List.zipWith (fw_v adr) ts xs) (n := nL) (by rw [lg_len ts xs hlen]; exact hw)
  rw [lg_entry_eq]
  generalize (lg_sl (List.zipWith (fw_v adr) ts xs) ++ List.replicate (nL - (lg_sl (List.zipWith (fw_v adr) ts xs)).length) Slot.unset).toArray = ls at hl0 ⊢
  rw [ini_args ts 0 xs hlen] at hl0
  refine body (p, l, e, (headSpec (Cond.code y cy nL (some .int) :: lw_tb) tx_rm).room, s, m, (List.zipWith (fw_v adr) ts xs).toArray, below, meth, c, D, adr, cA, va_A (fw_w LX adr cA σ) sz, 0, 0, vx_MQ below (tx_Q D adr cA σ σ1 o x1 sz) (tx_X D adr cA σ σ1 o sz) (List.zipWith (fw_v adr) ts xs).toArray s 1 6 (va_A (fw_w LX adr cA σ) sz)) ⟨Bd.exec, Bd.bytes, hml, hown, hts, hK, fun q h => Or.inr (by omega), by show d ≤ 12; exact hd, by show 40 * d ≤ 480; omega, Nat.zero_le _, Nat.zero_le _, LX_ok, hN⟩ (ini ((pT 0 ts).map Prod.fst) xs) σ o x1 ρ1 σ1 s.heap [] ls hl0 ⟨hP, hD, va_S.rf⟩ e1 ⟨fun z => by omega, fun z => by omega, fun z => by omega, fun h3 H' l' ls' pc' hrd hM' => ?_, fun h4 H' l' ls' pc' hsz' htd hM' => ?_⟩
  · obtain ⟨hP', -, hS'⟩ := hM'
    have hq : ∀ t : State, t.heap = H' → s.WarmedH t.vm → tx_Q D adr cA σ σ1 o x1 sz (List.zipWith (fw_v adr) ts xs).toArray s (.returned (some (.int (Int32.ofInt x1)))) t := fun t ht hW => ⟨h3, ⟨rfl, by rw [ht]; exact hP'⟩, by
      subst hsz
      exact hS'.F ht⟩
    exact vx_ret (W.widen (k := 1) (n := 6) (by omega) (by omega) (W.iret Bd.exec Bd.bytes Bd.returns hq hS'.2.2 hrd Bd.notSynchronized))
  · obtain ⟨hP', -, hS'⟩ := hM'
    obtain ⟨d0, d3, d4, d7⟩ := htd
    rw [hyc] at hown
    refine vx_throw0 (cc := cy) (own := RX11) (cls := tx_E) (names := tx_n) (ik := 105) (ic := 107) (A := va_A (fw_w LX adr cA σ) sz) Bd.exec Bd.bytes hl hown (by decide +kernel) (by decide +kernel) (hts _ wk_cl_RX11_105) (hts _ wn_NSE) (vx_hat (fun w h => hts w (lw_tb_of (tx_good w h) (List.mem_filter.mp h).2)) tx_bad (fun w hw => va_Nw.use (tx_on w hw) (hZ.2.2 w hw))) tx_ot hZ.1 hZ.2.1 hS' (hsz'.trans hml.symm) d0 d3 d4 d7 (fun x hx => (hex x hx).elim) (by show (2 : Nat) + 3 < 12; decide) (by show (0 : Nat) + (13 * (2 + 1) + 42) ≤ 480; decide) (by show (0 : Nat) + 1 ≤ 1; decide) (by show (0 : Nat) + 6 ≤ 6; decide) Bd.notSynchronized (fun t hal hle hsame => ⟨h4, rfl, hP'.kept (fun k q hq => hsame q.1 (vx_lt hP' hq)), ?_⟩) hS'.2.2 (by decide) (by decide)
    refine ⟨Nat.le_trans hS'.1 hle, fun q h1 h2 => ?_⟩
    rw [hsame q (Nat.lt_of_lt_of_le h1 hS'.1)]
    exact hS'.2.1 q h1 h2
theorem tx_blind {D : va_G} {adr : Nat → Nat} {cA : Nat → ClassId} {σ : Me} {vs : List Value} {sz : Nat} : FrameBlind (va_Pc vs (tx_P D adr cA σ sz)) := by
  rintro a U g mk ⟨q0, q1, qP, qK, qN, qD, qZ⟩
  exact ⟨q0, q1, qP, va_K.moved (u := U) (U := U.calling g mk a) (Vm.Alike.refl U.vm) qK, fun a' i x t hw => va_Nw.same rfl rfl (qN a' i x t hw), qD, qZ.same⟩
/-- out[0] is set -/
theorem lo_last {p : Program} {l : Launch} {e : Env} {R : Room} {s : State} {m : MethodId} {args : Array Value} {below : List Frame} {meth : Method} {c : Code} {cc : ByteArray} {D : va_G} {cA : Nat → ClassId} {o : Nat} {τ : Me} {H : Heap} {locs : List Loc} {cells slots pc : Nat} {Q : State → Prop} {ls : Array Slot} {rest : List Value} {x : Int64} {v : Int} (hexec : p.tables.exec = Jvm.exec) (hb : c.code = cc) (hK : va_K D vwCl (fw_t cA) s) (hP : va_P D vwCl (fw_w LO (fun _ => o) cA τ) H) (hv : Int64.ofInt v = x) (hdg : decode cc pc = .ok (.lastore, 1))
    (kk : ∀ H1 : Heap, va_P D vwCl (fw_w LO (fun _ => o) cA (u2 τ 0 0 v)) H1 → H1.size = H.size → (∀ q : Nat, q ≠ o → H1[q]? = H[q]?) → W p l e R s m args below meth c H1 (locs ++ [⟨o, 0⟩]) cells slots Q (F0 m (pc + 1) ls rest)) : W p l e R s m args below meth c H locs cells slots Q (F0 m pc ls (.long x :: .int 0 :: .ref o :: rest)) := by
  have h0 : H[o]? = some (vp_cell (cA 1) (1, .inr (.inl fun i => Int64.ofInt (τ 0 i)))) := hP 0 _ (fw_w_at (lay := LO) (k := 0) rfl)
  refine W.last hexec hb h0 ((hK.2 1 _ rfl).1 1 (fun j => .long (Int64.ofInt (τ 0 j)))) (fun q => by cases q) (by show ¬ ((0 : Int32) < 0 ∨ (arrV _ _ _).slots.size ≤ _); rw [arrV_size]; show ¬ ((0 : Int32) < 0 ∨ 1 ≤ (0 : Int32).toNatClampNeg); decide) rfl rfl hdg fun H1 e z oq => ?_
  refine kk H1 ?_ z oq
  intro k q hk
  obtain ⟨k1, -⟩ := fw_w_ad hk
  have k0 : k = 0 := by simp [LO] at k1; omega
  subst k0
  rw [fw_w_at (lay := LO) (k := 0) rfl] at hk
  cases hk
  show H1[o]? = some (vp_cell (cA 1) (1, .inr (.inl fun i => Int64.ofInt (u2 τ 0 0 v 0 i))))
  rw [e]
  rw [vp_cell_l, vp_cell_l, arrV_store]
  congr 2
  funext q
  have z0 : (0 : Int32).toNatClampNeg = 0 := by decide
  by_cases hq : q = 0
  · subst hq
    simp [updV, u2, hv, z0]
  · simp [updV, u2, hq, z0]
