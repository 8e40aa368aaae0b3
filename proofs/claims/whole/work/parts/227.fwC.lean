section FWC
variable {lay : List CD} {own : String} {cc : ByteArray} {nL d : Nat} {r : Option Nat} {T T' : FT} {b pc pc1 pc2 pc3 pt pf tgt : Nat} {f g h3 : EM} {off : Int} {N B C : Nat × FT}
/-- arguments, one behind the other -/
def fw_A (S : SI) (T : FT) (b pc pc' : Nat) (ts : List Nat) (l : List EM) : Prop := ∀ G, fw_X S G → ∀ (ρ : Lo) (σ : Me) (xs : List Int) (σ' : Me) (H : Heap) (locs : List Loc) (ls : Array Slot) (st : List Value),
  fw_L S G T ρ ls → fw_M S G σ H locs → (st.map fun v => v.category).sum ≤ b → aE l ρ σ = some (xs, σ') →
  (∀ H' locs', fw_M S G σ' H' locs' → fw_W G H' locs' pc' ls ((List.zipWith (fw_val G) ts xs).reverse ++ st)) → fw_W G H locs pc ls st
def tcat (t : Nat) : Nat := if t = 1 then 2 else 1
theorem fw_tcat {G : GX} {t : Nat} {x : Int} : (fw_val G t x).category = tcat t := by
  obtain ⟨p, l, e, R, s, m, args, below, meth, c, D, adr, cA, A, cells, slots, Q⟩ := G
  show (fw_v adr t x).category = tcat t
  unfold fw_v tcat
  split
  · rfl
  · rfl
  · rw [if_neg (by omega)]
    rfl
theorem fa_nil : fw_A (lay, own, cc, nL, d, r) T b pc pc [] [] := by
  intro G X ρ σ xs σ' H locs ls st hL hM hst hf k
  cases hf
  exact k H locs hM
theorem fa_cons {t : Nat} {ts : List Nat} {l : List EM} (a : fw_E (lay, own, cc, nL, d, r) T b pc pc1 t f) (a2 : fw_A (lay, own, cc, nL, d, r) T (b + tcat t) pc1 pc2 ts l) : fw_A (lay, own, cc, nL, d, r) T b pc pc2 (t :: ts) (f :: l) := by
  intro G X ρ σ xs σ' H locs ls st hL hM hst hf k
  obtain ⟨y, e1, e2⟩ := bind_some hf
  obtain ⟨z, e3, e4⟩ := bind_some e2
  cases e4
  refine a G X ρ σ y.1 y.2 H locs ls st hL hM hst e1 (fun H1 l1 hM1 => ?_)
  refine a2 G X ρ y.2 z.1 z.2 H1 l1 ls _ hL hM1 (by simp only [List.map_cons, List.sum_cons, fw_tcat]; omega) e3 (fun H2 l2 hM2 => ?_)
  have kk := k H2 l2 hM2
  simp only [List.zipWith_cons_cons, List.reverse_cons, List.append_assoc, List.cons_append, List.nil_append] at kk
  exact kk
theorem aE_len : ∀ (l : List EM) {ρ : Lo} {σ σ' : Me} {xs : List Int}, aE l ρ σ = some (xs, σ') → xs.length = l.length
  | [], _, _, _, _, h => by cases h; rfl
  | a :: l, ρ, σ, σ', xs, h => by
    obtain ⟨y, e1, e2⟩ := bind_some h
    obtain ⟨z, e3, e4⟩ := bind_some e2
    cases e4
    simp [aE_len l e3]
/-- where a method ends -/
def fw_Q (lay : List CD) (D : va_G) (adr : Nat → Nat) (cA : Nat → ClassId) (σ σ' : Me) (sz : Nat) (rt : Option Nat) (x : Int) : Array Value → State → Outcome → State → Prop := fun _ st oc t =>
  (oc = .returned (rt.map fun t => fw_v adr t x) ∧ va_P D vwCl (fw_w lay adr cA σ') t.heap) ∧ va_F (va_A (fw_w lay adr cA σ) sz) st t
def fw_rm (d : Nat) : Room := { frames := d, cells := 0, slots := 0, locals := 40 * d }
/-- A METHOD'S CONTRACT: it does what fm says -/
def fw_C (lay : List CD) (y : MethodName) (cy : ByteArray) (maxL : Nat) (ret : Option FieldType) (d : Nat) (ts : List Nat) (rt : Option Nat) (fm : FM) : Prop :=
  ∀ (l : Launch) (D : va_G) (adr : Nat → Nat) (cA : Nat → ClassId) (xs : List Int) (σ σ' : Me) (x : Int) (sz : Nat), xs.length = ts.length → fm xs σ = some (x, σ') →
    Met l y (.code y cy maxL ret :: lw_tb) (fw_rm d) (va_Pc (List.zipWith (fw_v adr) ts xs) (fun U => U.heap.size = sz ∧ va_P D vwCl (fw_w lay adr cA σ) U.heap ∧ va_K D vwCl (fw_t cA) U ∧ fw_nw U ∧ va_D (fun _ => True) (fw_w lay adr cA σ)))
      (fw_Q lay D adr cA σ σ' sz rt x) 0 0 (va_A (fw_w lay adr cA σ) sz)
theorem fw_free {adr : Nat → Nat} {cA : Nat → ClassId} {σ : Me} {A : Nat → Prop} {H0 H : Heap} {locs : List Loc} (hD : va_D A (fw_w lay adr cA σ)) (hS : va_S A H0 H locs) (hA : ∀ q, H0.size ≤ q → A q) : ∀ q, va_A (fw_w lay adr cA σ) H.size q → A q := by
  rintro q (⟨k, e, h⟩ | h)
  · exact hD.2 k (q, e) h
  · exact hA q (Nat.le_trans hS.1 h)
/-- behind a call -/
theorem fw_back {p : Program} {l : Launch} {e : Env} {R : Room} {s : State} {m : MethodId} {args : Array Value} {below : List Frame} {meth : Method} {c : Code} {D : va_G} {adr : Nat → Nat} {cA : Nat → ClassId} {A : Nat → Prop} {cells slots : Nat} {Q : State → Prop} {H : Heap} {locs : List Loc} {ls : Array Slot} {st0 rest : List Value} {σ σ' : Me} {rt : Option Nat} {x : Int} {a : Array Value}
    (hr : va_Run p l e R s m args below meth c H locs cells slots 0 0 (F0 m pc ls st0) rest (fw_Q lay D adr cA σ σ' H.size rt x a) (va_A (fw_w lay adr cA σ) H.size)) (hA : ∀ q, s.heap.size ≤ q → A q) (hM : fw_M (lay, own, cc, nL, d, r) (p, l, e, R, s, m, args, below, meth, c, D, adr, cA, A, cells, slots, Q) σ H locs)
    (kk : ∀ H' locs', fw_M (lay, own, cc, nL, d, r) (p, l, e, R, s, m, args, below, meth, c, D, adr, cA, A, cells, slots, Q) σ' H' locs' → W p l e R s m args below meth c H' locs' cells slots Q (F0 m (pc + 3) ls ((rt.map fun t => fw_v adr t x).toList ++ rest))) : W p l e R s m args below meth c H locs cells slots Q (F0 m pc ls st0) := by
  obtain ⟨hP, hD, hS⟩ := hM
  have hF := fw_free hD hS hA
  intro T hT X
  obtain ⟨v, st₀, t, T', L, h0, X', hL, e1, e2, ⟨⟨hv, hp⟩, hz, hk⟩, st⟩ := hr T hT X
  cases hv
  rw [h0] at hz hk
  obtain ⟨t2, a1, b1⟩ := kk T'.heap (locs ++ L) ⟨by rw [e1]; exact hp, fw_D hD, Nat.le_trans hS.1 (by rw [e1]; exact hz), fun q h1 h2 => by
      rw [e1, hk q (Nat.lt_of_lt_of_le h1 hS.1) (fun z => h2 (hF q z))]
      exact hS.2.1 q h1 h2, fun q hq => by
      rcases List.mem_append.mp hq with h | h
      · exact hS.2.2 q h
      · exact hF _ (hL q h)⟩ T' rfl X'
  exact ⟨t2, st t2 a1, b1⟩
theorem fw_blind {adr : Nat → Nat} {D : va_G} {cA : Nat → ClassId} {σ : Me} {vs : List Value} {sz : Nat} : FrameBlind (va_Pc vs (fun U => U.heap.size = sz ∧ va_P D vwCl (fw_w lay adr cA σ) U.heap ∧ va_K D vwCl (fw_t cA) U ∧ fw_nw U ∧ va_D (fun _ => True) (fw_w lay adr cA σ))) := by
  rintro a U g mk ⟨q0, q1, qP, qK, qN, qD⟩
  exact ⟨q0, q1, qP, va_K.moved (u := U) (U := U.calling g mk a) (Vm.Alike.refl U.vm) qK, fun a' i x t hw => va_Nw.same rfl rfl (qN a' i x t hw), qD⟩
end FWC
