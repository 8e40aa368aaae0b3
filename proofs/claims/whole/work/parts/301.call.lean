section LWA
variable {lay : List CD} {own : String} {cc : ByteArray} {nL d : Nat} {r : Option Nat} {T : FT} {pc pc1 : Nat}
/-- behind a call: what isn't the callee's own stays -/
theorem fw_backF {p : Program} {l : Launch} {e : Env} {R : Room} {s : State} {m : MethodId} {args : Array Value} {below : List Frame} {meth : Method} {c : Code} {D : va_G} {adr : Nat → Nat} {cA : Nat → ClassId} {A : Nat → Prop} {cells slots : Nat} {Q : State → Prop} {H : Heap} {locs : List Loc} {ls : Array Slot} {st0 rest : List Value} {σ σ' : Me} {rt : Option Nat} {x : Int} {a : Array Value}
    (hr : va_Run p l e R s m args below meth c H locs cells slots 0 0 (F0 m pc ls st0) rest (fw_Q lay D adr cA σ σ' H.size rt x a) (va_A (fw_w lay adr cA σ) H.size)) (hA : ∀ q, s.heap.size ≤ q → A q) (hM : fw_M (lay, own, cc, nL, d, r) (p, l, e, R, s, m, args, below, meth, c, D, adr, cA, A, cells, slots, Q) σ H locs)
    (kk : ∀ H' locs', fw_M (lay, own, cc, nL, d, r) (p, l, e, R, s, m, args, below, meth, c, D, adr, cA, A, cells, slots, Q) σ' H' locs' → (∀ q : Nat, q < H.size → ¬ va_A (fw_w lay adr cA σ) H.size q → H'[q]? = H[q]?) → W p l e R s m args below meth c H' locs' cells slots Q (F0 m (pc + 3) ls ((rt.map fun t => fw_v adr t x).toList ++ rest))) : W p l e R s m args below meth c H locs cells slots Q (F0 m pc ls st0) := by
  obtain ⟨hP, hD, hS⟩ := hM
  have hF := fw_free hD hS hA
  intro T hT X
  obtain ⟨v, st₀, t, T', L, h0, X', hL, e1, e2, ⟨⟨hv, hp⟩, hz, hk⟩, st⟩ := hr T hT X
  cases hv
  rw [h0] at hz hk
  obtain ⟨t2, a1, b1⟩ := kk T'.heap (locs ++ L) ⟨by rw [e1]; exact hp, fw_D hD, Nat.le_trans hS.1 (by rw [e1]; exact hz), fun q h1 h2 => by
      rw [e1, hk q (Nat.lt_of_lt_of_le h1 hS.1) (fun z => h2 (hF q z))]
      exact hS.2.1 q h1 h2, fun q hq => by
      rcases List.mem_append.mp hq with h | h
      · exact hS.2.2 q h
      · exact hF _ (hL q h)⟩ (fun q h1 h2 => by rw [e1]; exact hk q h1 h2) T' rfl X'
  exact ⟨t2, st t2 a1, b1⟩
theorem fw_invF {k ci index d' maxL Nc : Nat} {rt : Option Nat} {ts : List Nat} {y : MethodName} {cy : ByteArray} {ret : Option FieldType} {fm : FM} {fs : List (Nat × Nat)} {Tt : u_T} {p : Program} {l : Launch} {e : Env} {R : Room} {s : State} {m : MethodId} {args : Array Value} {below : List Frame} {meth : Method} {c : Code} {D : va_G} {adr : Nat → Nat} {cA : Nat → ClassId} {A : Nat → Prop} {cells slots : Nat} {Q : State → Prop} {σ1 σ' : Me} {x x0 : Int} {xr : List Int} {H1 : Heap} {l2 : List Loc} {ls : Array Slot} {st : List Value} (M : fw_C lay y cy maxL ret d' ((k + 2) :: ts) rt fm) (hw : fw_lv own index y cy maxL ret ts.length) (hk : lay[k]? = some (.inl (ci, fs))) (hc : vwCl[ci]? = some (y.cls, Tt, Nc)) (hd : d' + 1 ≤ d) (hm : maxL ≤ 21) (h : decode cc pc1 = .ok (.invokevirtual index, 3)) (X : fw_X (lay, own, cc, nL, d, r) (p, l, e, R, s, m, args, below, meth, c, D, adr, cA, A, cells, slots, Q)) (hL : ls.size = nL) (hM1 : fw_M (lay, own, cc, nL, d, r) (p, l, e, R, s, m, args, below, meth, c, D, adr, cA, A, cells, slots, Q) σ1 H1 l2) (hst : (st.map fun v => v.category).sum ≤ 8) (hl2 : xr.length = ts.length) (e2 : fm (x0 :: xr) σ1 = some (x, σ')) (kk : ∀ H' locs', fw_M (lay, own, cc, nL, d, r) (p, l, e, R, s, m, args, below, meth, c, D, adr, cA, A, cells, slots, Q) σ' H' locs' → (∀ q : Nat, q < H1.size → ¬ va_A (fw_w lay adr cA σ1) H1.size q → H'[q]? = H1[q]?) → W p l e R s m args below meth c H' locs' cells slots Q (F0 m (pc1 + 3) ls ((rt.map fun t => fw_v adr t x).toList ++ st))) : W p l e R s m args below meth c H1 l2 cells slots Q (F0 m pc1 ls ((List.zipWith (fw_v adr) ts xr).reverse ++ .ref (adr k) :: st)) := by
  obtain ⟨hx, hb, hml, hown, hts, hK, hA, hR⟩ := X
  have run := va_runV (e := e) (below := below) (meth := meth) (g := F0 m pc1 ls ((List.zipWith (fw_v adr) ts xr).reverse ++ .ref (adr k) :: st)) (As := List.zipWith (fw_v adr) ts xr) (rest := st) ⟨hx, hb, hml, hown, hts⟩ (M l D adr cA (x0 :: xr) σ1 σ' x H1.size (by simp [hl2]) e2) (cwV (R := R) ts.length hts (fw_goodV hw.1) rfl rfl rfl ⟨rfl, hw.2⟩ ⟨by show d' + 1 ≤ R.frames; omega, by show 8 + (maxL + 11) + 40 * d' ≤ R.locals; omega⟩) ⟨fw_blind, va_recv hK hM1.1 hc (fw_w_at hk), fun U hU hW => ⟨rfl, by rw [hU], by rw [hU]; exact hM1.1, va_K.moved hW.alike hK, fw_nw_warm hW hR.2.2.2.2.2, hM1.2.1.weaken (fun _ _ _ _ => trivial)⟩⟩ rfl (by simp [hl2]) hL rfl (lv_room hst) h (cells := cells) (slots := slots) (locs := l2) ⟨by omega, by omega⟩
  exact fw_backF (nL := nL) (own := own) (cc := cc) (d := d) (r := r) (Q := Q) run hA hM1 kk
end LWA
theorem fw_w_ad {lay : List CD} {adr : Nat → Nat} {cA : Nat → ClassId} {σ : Me} {k : Nat} {q : Nat × va_E} (h : (fw_w lay adr cA σ)[k]? = some q) : k < lay.length ∧ q.1 = adr k := by
  unfold fw_w at h
  rw [List.getElem?_mapIdx] at h
  cases hk : lay[k]? with
  | none => rw [hk] at h; cases h
  | some z =>
    rw [hk] at h
    refine ⟨(List.getElem?_eq_some_iff.mp hk).1, ?_⟩
    have := Option.some.inj h
    rw [← this]
/-- two worlds lie apart -/
def lg_sep (lay1 lay2 : List CD) (a1 a2 : Nat → Nat) : Prop := ∀ i j, i < lay1.length → j < lay2.length → a1 i ≠ a2 j
theorem lg_kept {lay1 lay2 : List CD} {a1 a2 : Nat → Nat} {D : va_G} {cA : Nat → ClassId} {σ μ : Me} {H H' : Heap} (hP : va_P D vwCl (fw_w lay2 a2 cA μ) H) (hs : lg_sep lay1 lay2 a1 a2) (hk : ∀ q : Nat, q < H.size → ¬ va_A (fw_w lay1 a1 cA σ) H.size q → H'[q]? = H[q]?) : va_P D vwCl (fw_w lay2 a2 cA μ) H' := by
  refine hP.kept (fun k q hq => hk q.1 (vx_lt hP hq) ?_)
  obtain ⟨j1, j2⟩ := fw_w_ad hq
  rintro (⟨i, e, hi⟩ | hge)
  · obtain ⟨i1, i2⟩ := fw_w_ad hi
    exact hs i k i1 j1 (by rw [← i2, ← j2])
  · have := vx_lt hP hq
    omega
/-- `out`: one long -/
def LO : List CD := [.inr (1, 1)]
theorem LO_ok : fw_ok LO := by
  intro k o h
  match k, h with
  | 0, h => cases h
/-- what the throws need: two statics of Throwable, a cast, three declarations -/
def tx_ws : List Cond := [.castable "java/util/NoSuchElementException" "java/util/NoSuchElementException", .declares ⟨"java/lang/RuntimeException", "<init>", "()V"⟩, .declares ⟨"java/lang/Exception", "<init>", "()V"⟩, .declares ⟨"java/lang/Throwable", "<init>", "()V"⟩]
theorem tx_on : ∀ w ∈ tx_ws, w.onTables = true := by decide +kernel
theorem tx_in : ∀ w ∈ tx_ws, w ∈ lw_tbl := by
  intro w hw
  simp only [tx_ws, List.mem_cons, List.not_mem_nil, or_false] at hw
  rcases hw with rfl | rfl | rfl | rfl
  · exact tbl_at 1078 (by decide +kernel)
  · exact tbl_at 1079 (by decide +kernel)
  · exact tbl_at 1081 (by decide +kernel)
  · exact tbl_at 1083 (by decide +kernel)
def tx_Z (A : Nat → Prop) (U : State) (H : Heap) : Prop := vx_Zq Bundle.tN "UNASSIGNED_STACK" Bundle.steD A U H ∧ vx_Zq Bundle.tN "SUPPRESSED_SENTINEL" Bundle.listD A U H ∧ ∀ w ∈ tx_ws, va_Nw w U
theorem tx_Z.kept {A : Nat → Prop} {U : State} {H H1 : Heap} (h : tx_Z A U H) (hq : ∀ a : Nat, a < H.size → ¬ A a → H1[a]? = H[a]?) : tx_Z A U H1 := ⟨h.1.kept hq, h.2.1.kept hq, h.2.2⟩
theorem tx_Z.narrow {A B : Nat → Prop} {U : State} {H : Heap} (h : tx_Z A U H) (hAB : ∀ q, B q → A q) : tx_Z B U H := ⟨h.1.narrow hAB, h.2.1.narrow hAB, h.2.2⟩
theorem tx_Z.moved {A : Nat → Prop} {u U : State} {H : Heap} (hW : u.WarmedH U.vm) (h : tx_Z A u H) : tx_Z A U H := ⟨h.1.moved hW.alike, h.2.1.moved hW.alike, fun w hw => by
  have h9 := h.2.2 w hw
  simp only [tx_ws, List.mem_cons, List.not_mem_nil, or_false] at hw
  rcases hw with rfl | rfl | rfl | rfl
  · exact va_Nw.warmC hW h9
  · exact va_Nw.warmD hW h9
  · exact va_Nw.warmD hW h9
  · exact va_Nw.warmD hW h9⟩
theorem tx_Z.same {A : Nat → Prop} {U : State} {H : Heap} {g : JFrame} {mk : MethodId} {a : Array Value} (h : tx_Z A U H) : tx_Z A (U.calling g mk a) H := ⟨h.1.moved (Vm.Alike.refl U.vm), h.2.1.moved (Vm.Alike.refl U.vm), fun w hw => va_Nw.same (u := U) (U := U.calling g mk a) (tx_on w hw) rfl (h.2.2 w hw)⟩
section LWB
variable {p : Program} {l : Launch} {e : Env} {s : State} {m : MethodId} {below : List Frame} {meth : Method} {c : Code} {b L : Nat} {xs : Nat → Int32} {D : va_G} {cA : Nat → ClassId} {adX adM : Nat → Nat} {o : Nat} {σ μ τ : Me} {H : Heap} {locs : List Loc} {cells slots pc : Nat} {Q : State → Prop} {ls : Array Slot} {st : List Value}
/-- what holds all along the law -/
def lg_F (p : Program) (l : Launch) (s : State) (m : MethodId) (c : Code) (b L : Nat) (xs : Nat → Int32) (D : va_G) (cA : Nat → ClassId) : Prop :=
  p.tables.exec = Jvm.exec ∧ c.code = code ∧ c.maxLocals = 7 ∧ s.vm.findClass RL = some m.cls ∧ (∀ w ∈ lw_tb, w.before #[Value.ref b] s = true) ∧ va_K D vwCl (fw_t cA) s ∧ fw_nw s ∧ va_X b L xs s s.heap ∧ b < s.heap.size ∧ L ≤ 3072 ∧ l.stackTraces = false ∧ tx_Z (fun q => s.heap.size ≤ q) s s.heap
/-- the three worlds lie apart, all of them new -/
def lg_S (s : State) (cA : Nat → ClassId) (adX adM : Nat → Nat) (o : Nat) : Prop := (∀ σ, va_D (fun q => s.heap.size ≤ q) (fw_w LX adX cA σ)) ∧ (∀ μ, va_D (fun q => s.heap.size ≤ q) (fw_w LM adM cA μ)) ∧ s.heap.size ≤ o ∧ lg_sep LX LM adX adM ∧ lg_sep LX LO adX (fun _ => o) ∧ lg_sep LM LO adM (fun _ => o)
def lg_M (s : State) (D : va_G) (cA : Nat → ClassId) (adX adM : Nat → Nat) (o : Nat) (σ μ τ : Me) (H : Heap) (locs : List Loc) : Prop := va_P D vwCl (fw_w LX adX cA σ) H ∧ va_P D vwCl (fw_w LM adM cA μ) H ∧ va_P D vwCl (fw_w LO (fun _ => o) cA τ) H ∧ va_S (fun q => s.heap.size ≤ q) s.heap H locs
theorem lg_sep.symm {lay1 lay2 : List CD} {a1 a2 : Nat → Nat} (h : lg_sep lay1 lay2 a1 a2) : lg_sep lay2 lay1 a2 a1 := fun i j h1 h2 e => h j i h2 h1 e.symm
theorem lg_zip {adr : Nat → Nat} : ∀ (ts : List Nat) (as : List Int32), ts = List.replicate as.length 0 → List.zipWith (fw_v adr) ts (as.map Int32.toInt) = as.map Value.int
  | _, [], h => by rw [h]; rfl
  | _, a :: as, h => by
    rw [h]
    show fw_v adr 0 a.toInt :: List.zipWith (fw_v adr) (List.replicate as.length 0) (as.map Int32.toInt) = Value.int a :: as.map Value.int
    rw [lg_zip _ as rfl]
    simp [fw_v]
theorem lg_callX {y : MethodName} {cy : ByteArray} {maxL d' index : Nat} {ret : Option FieldType} {ts : List Nat} {fm : FM} {as : List Int32} {x : Int} {σ' : Me} (F : lg_F p l s m c b L xs D cA) (S : lg_S s cA adX adM o) (hM : lg_M s D cA adX adM o σ μ τ H locs) (M : fw_C LX y cy maxL ret d' (2 :: ts) (some 0) fm) (hw : fw_lv RL index y cy maxL ret ts.length) (hc : vwCl[9]? = some (y.cls, TX11, 17)) (hts : ts = List.replicate as.length 0) (hd : d' ≤ 1000) (hm : maxL ≤ 21) (hce : cells ≤ 601024) (hsl : slots ≤ 7293034) (hls : ls.size = 7) (hst : (st.map fun v => v.category).sum ≤ 8) (e2 : fm (0 :: as.map Int32.toInt) σ = some (x, σ')) (h : decode code pc = .ok (.invokevirtual index, 3))
    (kk : ∀ H' locs', lg_M s D cA adX adM o σ' μ τ H' locs' → W p l e room_1 s m #[Value.ref b] below meth c H' locs' cells slots Q (F0 m (pc + 3) ls (.int (Int32.ofInt x) :: st))) : W p l e room_1 s m #[Value.ref b] below meth c H locs cells slots Q (F0 m pc ls ((as.map Value.int).reverse ++ .ref (adX 0) :: st)) := by
  obtain ⟨hx, hb, hml, hown, hts', hK, hnw, -⟩ := F
  obtain ⟨hPX, hPM, hPO, hS⟩ := hM
  rw [← lg_zip (adr := adX) ts as hts]
  refine fw_invF (lay := LX) (own := RL) (cc := code) (nL := 7) (d := 1001) (r := none) (k := 0) M hw lx_0 hc (by omega) hm h ⟨hx, hb, hml, hown, hts', hK, fun _ z => z, by decide, by decide, hce, hsl, LX_ok, hnw⟩ hls ⟨hPX, S.1 σ, hS⟩ hst (by rw [hts]; simp) e2 (fun H' l' hM' hk => ?_)
  exact kk H' l' ⟨hM'.1, lg_kept hPM S.2.2.2.1 hk, lg_kept hPO S.2.2.2.2.1 hk, hM'.2.2⟩
theorem lg_callM {y : MethodName} {cy : ByteArray} {maxL d' index : Nat} {ret : Option FieldType} {ts : List Nat} {fm : FM} {as : List Int32} {x : Int} {μ' : Me} (F : lg_F p l s m c b L xs D cA) (S : lg_S s cA adX adM o) (hM : lg_M s D cA adX adM o σ μ τ H locs) (M : fw_C LM y cy maxL ret d' (2 :: ts) (some 0) fm) (hw : fw_lv RL index y cy maxL ret ts.length) (hc : vwCl[10]? = some (y.cls, TX12, 54)) (hts : ts = List.replicate as.length 0) (hd : d' ≤ 1000) (hm : maxL ≤ 21) (hce : cells ≤ 601024) (hsl : slots ≤ 7293034) (hls : ls.size = 7) (hst : (st.map fun v => v.category).sum ≤ 8) (e2 : fm (0 :: as.map Int32.toInt) μ = some (x, μ')) (h : decode code pc = .ok (.invokevirtual index, 3))
    (kk : ∀ H' locs', lg_M s D cA adX adM o σ μ' τ H' locs' → W p l e room_1 s m #[Value.ref b] below meth c H' locs' cells slots Q (F0 m (pc + 3) ls (.int (Int32.ofInt x) :: st))) : W p l e room_1 s m #[Value.ref b] below meth c H locs cells slots Q (F0 m pc ls ((as.map Value.int).reverse ++ .ref (adM 0) :: st)) := by
  obtain ⟨hx, hb, hml, hown, hts', hK, hnw, -⟩ := F
  obtain ⟨hPX, hPM, hPO, hS⟩ := hM
  rw [← lg_zip (adr := adM) ts as hts]
  refine fw_invF (lay := LM) (own := RL) (cc := code) (nL := 7) (d := 1001) (r := none) (k := 0) M hw lm_0 hc (by omega) hm h ⟨hx, hb, hml, hown, hts', hK, fun _ z => z, by decide, by decide, hce, hsl, LM_ok, hnw⟩ hls ⟨hPM, S.2.1 μ, hS⟩ hst (by rw [hts]; simp) e2 (fun H' l' hM' hk => ?_)
  exact kk H' l' ⟨lg_kept hPX S.2.2.2.1.symm hk, hM'.1, lg_kept hPO S.2.2.2.2.2 hk, hM'.2.2⟩
theorem lg_i32 {n : Nat} (h : n ≤ 4000) : (Int32.ofNat n).toNatClampNeg = n ∧ ¬ Int32.ofNat n < 0 := by
  have h2 : (Int32.ofNat n).toInt = n := Int32.toInt_ofNat_of_lt (by omega)
  refine ⟨?_, ?_⟩
  · show (Int32.ofNat n).toInt.toNat = n
    rw [h2]; omega
  · intro hlt
    have := Int32.lt_iff_toInt_lt.mp hlt
    rw [h2] at this
    have h0 : (0 : Int32).toInt = 0 := by decide
    omega
/-- script[i + j] -/
theorem lg_arg {i : Nat} {n : Int} (F : lg_F p l s m c b L xs D cA) (hM : lg_M s D cA adX adM o σ μ τ H locs) (h0 : ls[0]? = some (.val (.ref b))) (h4 : ls[4]? = some (.val (.int (Int32.ofNat i)))) (hi : i + 6 ≤ L) (j : Nat) (hj : j < 6) (hn : n = (j : Int)) (d0 : decode code pc = .ok (.aload_n 0, 1)) (d1 : decode code (pc + 1) = .ok (.iload 4, 2)) (d3 : decode code (pc + 3) = .ok (.iconst n, 1)) (d4 : decode code (pc + 4) = .ok (.iadd, 1)) (d5 : decode code (pc + 5) = .ok (.iaload, 1))
    (kk : W p l e room_1 s m #[Value.ref b] below meth c H locs cells slots Q (F0 m (pc + 6) ls (.int (xs (i + j)) :: st))) : W p l e room_1 s m #[Value.ref b] below meth c H locs cells slots Q (F0 m pc ls st) := by
  obtain ⟨hx, hb, hml, hown, hts', hK, hnw, hX, hbl, hL, -⟩ := F
  have hS := hM.2.2.2
  have ej : Int32.ofNat i + Int32.ofInt n = Int32.ofNat (i + j) := by
    rw [hn, Int32.ofNat_add]
    rfl
  obtain ⟨e1, e2⟩ := lg_i32 (n := i + j) (by omega)
  refine lv_aload_n hx hb d0 rfl h0 ?_
  refine lv_iload hx hb d1 h4 ?_
  refine lv_iconst hx hb d3 rfl ?_
  refine lv_iadd hx hb d4 ?_
  rw [ej]
  refine va_sld hx hb hX hbl (Nat.not_le.mpr hbl) hS (i := Int32.ofNat (i + j)) ?_ d5 ?_
  · rintro (h | h)
    · exact e2 h
    · rw [e1] at h; omega
  · rw [e1]
    exact kk
theorem lg_eq {a b : Int} (h : w32 a = w32 b) : Int32.ofInt a = Int32.ofInt b := Int32.toInt_inj.mp h
theorem lg_rg (x : Int32) : rg x.toInt := ⟨by have := Int32.le_toInt x; omega, by have := Int32.toInt_lt x; omega⟩
end LWB
