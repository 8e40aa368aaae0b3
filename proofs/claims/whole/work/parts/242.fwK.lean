section FWK
variable {own : String} {cc : ByteArray} {nL d : Nat} {T : FT} {lay lay1 lay2 : List CD} {σ σ1 σ2 : Me} {st st1 st2 : List (Nat × Int)} {pc pc1 pc2 : Nat} {nc ns nc1 ns1 : Nat}
/-- nothing is known but 0 where no cell is -/
def fk_z (lay : List CD) (σ : Me) : Prop := ∀ v i, 64 * lay.length ≤ v → σ v i = 0
def fk_i (lay : List CD) : Prop := ∀ (k ci : Nat) (fs : List (Nat × Nat)) (j t : Nat), lay[k]? = some (.inl (ci, fs)) → fs[j]? = some (0, t) → t < lay.length
/-- a stretch of a constructor: from pc with these cells, this memory, this stack to pc1; nc cells of ns slots are made -/
def fk_B (own : String) (cc : ByteArray) (nL d : Nat) (T : FT) (lay : List CD) (σ : Me) (st : List (Nat × Int)) (pc : Nat) (lay1 : List CD) (σ1 : Me) (st1 : List (Nat × Int)) (pc1 : Nat) (nc ns : Nat) : Prop :=
  ∀ (p : Program) (l : Launch) (e : Env) (R : Room) (s : State) (m : MethodId) (args : Array Value) (below : List Frame) (meth : Method) (c : Code) (D : va_G) (adr : Nat → Nat) (cA : Nat → ClassId) (A : Nat → Prop) (cells slots : Nat) (Q : State → Prop) (H : Heap) (locs : List Loc) (ls : Array Slot) (ρ : Lo),
    fw_X (lay, own, cc, nL, d, none) (p, l, e, R, s, m, args, below, meth, c, D, adr, cA, A, cells, slots, Q) → meth.name = "<init>" → cells + nc ≤ R.cells → slots + ns ≤ R.slots → lv_has ls nL (T.map fun q => (q.1, fw_v adr q.2 (ρ q.1))) → (∀ q ∈ T, q.2 < lay.length + 2) → (∀ q ∈ st, q.1 < lay.length + 2) → fk_i lay → fk_z lay σ → fw_M (lay, own, cc, nL, d, none) (p, l, e, R, s, m, args, below, meth, c, D, adr, cA, A, cells, slots, Q) σ H locs →
    (∀ (adr1 : Nat → Nat) (H1 : Heap) (locs1 : List Loc), (∀ k, k < lay.length → adr1 k = adr k) → lay.length ≤ lay1.length → lv_has ls nL (T.map fun q => (q.1, fw_v adr1 q.2 (ρ q.1))) → (∀ q ∈ st1, q.1 < lay1.length + 2) → fk_i lay1 → fk_z lay1 σ1 → fw_ok lay1 → fw_M (lay1, own, cc, nL, d, none) (p, l, e, R, s, m, args, below, meth, c, D, adr1, cA, A, cells + nc, slots + ns, Q) σ1 H1 locs1 →
      W p l e R s m args below meth c H1 locs1 (cells + nc) (slots + ns) Q (F0 m pc1 ls (st1.map fun q => fw_v adr1 q.1 q.2))) →
    W p l e R s m args below meth c H locs cells slots Q (F0 m pc ls (st.map fun q => fw_v adr q.1 q.2))
theorem fk_vs {adr adr1 : Nat → Nat} {n t : Nat} {x : Int} (h : ∀ k, k < n → adr1 k = adr k) (ht : t < n + 2) : fw_v adr1 t x = fw_v adr t x := by
  unfold fw_v
  split
  · rfl
  · rfl
  · rw [h _ (by omega)]
theorem fk_seq (a : fk_B own cc nL d T lay σ st pc lay1 σ1 st1 pc1 nc ns) (b : fk_B own cc nL d T lay1 σ1 st1 pc1 lay2 σ2 st2 pc2 nc1 ns1) : fk_B own cc nL d T lay σ st pc lay2 σ2 st2 pc2 (nc + nc1) (ns + ns1) := by
  rintro p l e R s m args below meth c D adr cA A cells slots Q H locs ls ρ ⟨hx, hb, hml, hown, hts, hK, hA, hd, hlo, hce, hsl, hok, hnw⟩ hin hc hs hL hT hst hi hz hM k
  refine a p l e R s m args below meth c D adr cA A cells slots Q H locs ls ρ ⟨hx, hb, hml, hown, hts, hK, hA, hd, hlo, hce, hsl, hok, hnw⟩ hin (by omega) (by omega) hL hT hst hi hz hM (fun adr1 H1 l1 hag hle hL1 hst1 hi1 hz1 hok1 hM1 => ?_)
  refine b p l e R s m args below meth c D adr1 cA A (cells + nc) (slots + ns) Q H1 l1 ls ρ ⟨hx, hb, hml, hown, hts, hK, hA, hd, hlo, by omega, by omega, hok1, hnw⟩ hin (by omega) (by omega) hL1 (fun q hq => by have := hT q hq; omega) hst1 hi1 hz1 hM1 (fun adr2 H2 l2 hag2 hle2 hL2 hst2 hi2 hz2 hok2 hM2 => ?_)
  have kk := k adr2 H2 l2 (fun q hq => (hag2 q (by omega)).trans (hag q hq)) (by omega) hL2 hst2 hi2 hz2 hok2
  rw [← Nat.add_assoc, ← Nat.add_assoc] at kk
  exact kk hM2
theorem fk_same {adr adr1 : Nat → Nat} {cA : Nat → ClassId} (hi : fk_i lay) (h : ∀ k, k < lay.length → adr1 k = adr k) : fw_w lay adr1 cA σ = fw_w lay adr cA σ := by
  apply List.ext_getElem?
  intro n
  unfold fw_w
  rw [List.getElem?_mapIdx, List.getElem?_mapIdx]
  cases hq : lay[n]? with
  | none => rfl
  | some q =>
    have hn := (List.getElem?_eq_some_iff.mp hq).1
    simp only [Option.map_some, h n hn]
    congr 2
    cases q with
    | inr a => rfl
    | inl o =>
      obtain ⟨ci, fs⟩ := o
      simp only [fw_c]
      congr 2
      apply List.ext_getElem?
      intro j
      rw [List.getElem?_mapIdx, List.getElem?_mapIdx]
      cases hj : fs[j]? with
      | none => rfl
      | some z =>
        simp only [Option.map_some]
        obtain ⟨a, t⟩ := z
        unfold fw_f
        split
        · rename_i h0
          simp only at h0
          subst h0
          rw [h t (hi n ci fs j t hq hj)]
        · rfl
        · rfl
        · rfl
theorem fk_Ls {adr adr1 : Nat → Nat} {ρ : Lo} {ls : Array Slot} {n : Nat} (h : ∀ k, k < n → adr1 k = adr k) (hT : ∀ q ∈ T, q.2 < n + 2) (hL : lv_has ls nL (T.map fun q => (q.1, fw_v adr q.2 (ρ q.1)))) : lv_has ls nL (T.map fun q => (q.1, fw_v adr1 q.2 (ρ q.1))) := by
  have e : (T.map fun q => (q.1, fw_v adr1 q.2 (ρ q.1))) = T.map fun q => (q.1, fw_v adr q.2 (ρ q.1)) := List.map_congr_left (fun q hq => by rw [fk_vs h (hT q hq)])
  rw [e]
  exact hL
theorem fk_Ss {adr adr1 : Nat → Nat} {n : Nat} (h : ∀ k, k < n → adr1 k = adr k) (hT : ∀ q ∈ st, q.1 < n + 2) : (st.map fun q => fw_v adr1 q.1 q.2) = st.map fun q => fw_v adr q.1 q.2 := List.map_congr_left (fun q hq => by rw [fk_vs h (hT q hq)])
/-! single instructions that make nothing -/
theorem kb_aload {j q : Nat} (hj : T[j]? = some (0, q + 2)) (h : decode cc pc = .ok (.aload_n 0, 1)) : fk_B own cc nL d T lay σ st pc lay σ ((q + 2, 0) :: st) (pc + 1) 0 0 := by
  rintro p l e R s m args below meth c D adr cA A cells slots Q H locs ls ρ ⟨hx, hb, hml, hown, hts, hK, hA, hd, hlo, hce, hsl, hok, hnw⟩ hin hc hs hL hT hst hi hz ⟨hP, hD, hS⟩ k
  refine lv_aload_n hx hb h rfl (fw_at hL hj) ?_
  exact k adr H locs (fun _ _ => rfl) (Nat.le_refl _) hL (fun z hz' => by
    rcases List.mem_cons.mp hz' with rfl | hz'
    · exact hT _ (List.mem_of_getElem? hj)
    · exact hst z hz') hi hz hok ⟨hP, hD, hS⟩
theorem kb_iconst {n : Int} (h : decode cc pc = .ok (.iconst n, 1)) : fk_B own cc nL d T lay σ st pc lay σ ((0, n) :: st) (pc + 1) 0 0 := by
  rintro p l e R s m args below meth c D adr cA A cells slots Q H locs ls ρ ⟨hx, hb, hml, hown, hts, hK, hA, hd, hlo, hce, hsl, hok, hnw⟩ hin hc hs hL hT hst hi hz ⟨hP, hD, hS⟩ k
  refine lv_iconst hx hb h rfl ?_
  exact k adr H locs (fun _ _ => rfl) (Nat.le_refl _) hL (fun z hz' => by
    rcases List.mem_cons.mp hz' with rfl | hz'
    · exact Nat.zero_lt_succ _
    · exact hst z hz') hi hz hok ⟨hP, hD, hS⟩
theorem kb_bipush {n : Int} (h : decode cc pc = .ok (.bipush n, 2)) (hv : (Int8.ofInt n).toInt32 = Int32.ofInt n := by decide +kernel) : fk_B own cc nL d T lay σ st pc lay σ ((0, n) :: st) (pc + 2) 0 0 := by
  rintro p l e R s m args below meth c D adr cA A cells slots Q H locs ls ρ ⟨hx, hb, hml, hown, hts, hK, hA, hd, hlo, hce, hsl, hok, hnw⟩ hin hc hs hL hT hst hi hz ⟨hP, hD, hS⟩ k
  refine lv_bipush hx hb h hv ?_
  exact k adr H locs (fun _ _ => rfl) (Nat.le_refl _) hL (fun z hz' => by
    rcases List.mem_cons.mp hz' with rfl | hz'
    · exact Nat.zero_lt_succ _
    · exact hst z hz') hi hz hok ⟨hP, hD, hS⟩
theorem kb_sipush {n : Int} (h : decode cc pc = .ok (.sipush n, 3)) (hv : (Int16.ofInt n).toInt32 = Int32.ofInt n := by decide +kernel) : fk_B own cc nL d T lay σ st pc lay σ ((0, n) :: st) (pc + 3) 0 0 := by
  rintro p l e R s m args below meth c D adr cA A cells slots Q H locs ls ρ ⟨hx, hb, hml, hown, hts, hK, hA, hd, hlo, hce, hsl, hok, hnw⟩ hin hc hs hL hT hst hi hz ⟨hP, hD, hS⟩ k
  refine lv_sipush hx hb h hv ?_
  exact k adr H locs (fun _ _ => rfl) (Nat.le_refl _) hL (fun z hz' => by
    rcases List.mem_cons.mp hz' with rfl | hz'
    · exact Nat.zero_lt_succ _
    · exact hst z hz') hi hz hok ⟨hP, hD, hS⟩
theorem kb_dup {t : Nat} {x : Int} (ht : tcat t = 1) (h : decode cc pc = .ok (.dup, 1)) : fk_B own cc nL d T lay σ ((t, x) :: st) pc lay σ ((t, x) :: (t, x) :: st) (pc + 1) 0 0 := by
  rintro p l e R s m args below meth c D adr cA A cells slots Q H locs ls ρ ⟨hx, hb, hml, hown, hts, hK, hA, hd, hlo, hce, hsl, hok, hnw⟩ hin hc hs hL hT hst hi hz ⟨hP, hD, hS⟩ k
  refine lv_dup hx hb h (fw_vcat.trans ht) ?_
  exact k adr H locs (fun _ _ => rfl) (Nat.le_refl _) hL (fun z hz' => by
    rcases List.mem_cons.mp hz' with rfl | hz'
    · exact hst _ List.mem_cons_self
    · exact hst z hz') hi hz hok ⟨hP, hD, hS⟩
/-- the words of Object's own constructor -/
def fk_ob (own : String) (index : Nat) : Prop := Cond.methodLink own index Lib.objectInit ∈ lw_tb ∧ Cond.instanceMethod Lib.objectInit ∈ lw_tb ∧ Cond.code Lib.objectInit ⟨#[0xb1]⟩ 1 none ∈ lw_tb
theorem kb_obj {t index : Nat} {x : Int} (hw : fk_ob own index) (hd1 : 1 ≤ d) (h : decode cc pc = .ok (.invokespecial index, 3)) : fk_B own cc nL d T lay σ [(t + 2, x)] pc lay σ [] (pc + 3) 0 0 := by
  rintro p l e R s m args below meth c D adr cA A cells slots Q H locs ls ρ ⟨hx, hb, hml, hown, hts, hK, hA, hd, hlo, hce, hsl, hok, hnw⟩ hin hc hs hL hT hst hi hz ⟨hP, hD, hS⟩ k
  refine W.objInit hx hb hown (hts _ hw.1) (hts _ hw.2.1) (hts _ hw.2.2) rfl (by rw [hml]; exact hL.1) rfl h (by omega) (by simp only [List.map_nil, List.sum_nil]; show 2 * 0 + 0 + 12 ≤ R.locals; omega) ?_
  exact k adr H locs (fun _ _ => rfl) (Nat.le_refl _) hL (fun z hz' => by cases hz') hi hz hok ⟨hP, hD, hS⟩
end FWK
