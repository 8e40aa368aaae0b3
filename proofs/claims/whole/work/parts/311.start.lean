theorem kbl_X11 : ∀ j, j < 17 → defaultValue (tyX11 j) = vp_V (fk_bv [(3, 0), (1, 0), (3, 0), (3, 0), (3, 0), (3, 0), (1, 0), (1, 0), (3, 0), (3, 0), (1, 0), (3, 0), (3, 0), (3, 0), (1, 0), (1, 0), (3, 0)]) j := by decide +kernel
theorem kbl_X12 : ∀ j, j < 54 → defaultValue (tyX12 j) = vp_V (fk_bv [(1, 0), (3, 0), (1, 0), (1, 0), (1, 0), (1, 0), (1, 0), (1, 0), (1, 0), (1, 0), (1, 0), (1, 0), (2, 0), (1, 0), (3, 0), (3, 0), (3, 0), (3, 0), (3, 0), (3, 0), (3, 0), (3, 0), (1, 0), (1, 0), (1, 0), (1, 0), (3, 0), (3, 0), (3, 0), (3, 0), (3, 0), (3, 0), (3, 0), (3, 0), (1, 0), (1, 0), (1, 0), (3, 0), (3, 0), (3, 0), (3, 0), (3, 0), (1, 0), (1, 0), (1, 0), (1, 0), (3, 0), (3, 0), (1, 0), (3, 0), (1, 0), (1, 0), (1, 0), (1, 0)]) j := by decide +kernel
theorem fk_e9 {ci : Nat} {bl : List (Nat × Nat)} {adr : Nat → Nat} {cA : Nat → ClassId} (hk : ∀ q ∈ bl, q.1 = 1 ∨ q.1 = 2 ∨ q.1 = 3) : fw_c adr cA Z0 0 (.inl (ci, bl)) = .inr (ci, fk_bv bl) := by
  simp only [fw_c]
  congr 2
  apply List.ext_getElem?
  intro j
  rw [List.getElem?_mapIdx, fk_bv, List.getElem?_map]
  cases hj : bl[j]? with
  | none => rfl
  | some z =>
    simp only [Option.map_some, fw_f, Z0]
    rcases hk z (List.mem_of_getElem? hj) with e1 | e1 | e1 <;> rw [e1] <;> rfl
theorem fk_w1 {ci : Nat} {bl : List (Nat × Nat)} {adr : Nat → Nat} {cA : Nat → ClassId} (hk : ∀ q ∈ bl, q.1 = 1 ∨ q.1 = 2 ∨ q.1 = 3) : fw_w [.inl (ci, bl)] adr cA Z0 = [(adr 0, .inr (ci, fk_bv bl))] := by
  have h := fk_app (lay := []) (σ := Z0) (adr := adr) (cA := cA) (x := .inl (ci, bl))
  rw [List.nil_append] at h
  rw [h]
  show _ ++ [(adr 0, fw_c adr cA Z0 0 (.inl (ci, bl)))] = _
  rw [fk_e9 (adr := adr) (cA := cA) hk]
  rfl
/-- new, dup, invokespecial <init> in the law -/
theorem lg_new {p : Program} {l : Launch} {e : Env} {s : State} {m : MethodId} {args : Array Value} {below : List Frame} {meth : Method} {c : Code} {cc : ByteArray} {nL pc : Nat} {D : va_G} {cA : Nat → ClassId} {H : Heap} {cells slots : Nat} {Q : State → Prop} {ls : Array Slot} {ci N index idx2 nc ns maxL d' : Nat} {C : String} {Tt : u_T} {t0 : Nat → FieldType} {bl : List (Nat × Nat)} {y : MethodName} {cy : ByteArray} {lay1 : List CD} {σ1 : Me}
    (hx : p.tables.exec = Jvm.exec) (hb : c.code = cc) (hml : c.maxLocals = nL) (hown : s.vm.findClass RL = some m.cls) (hts : ∀ w ∈ lw_tb, w.before args s = true) (hK : va_K D vwCl (fw_t cA) s) (hnw : fw_nw s) (hH : s.heap.size ≤ H.size)
    (hcl : vwCl[ci]? = some (C, Tt, N)) (hinw : ∀ w ∈ u_ws C Tt N, w ∈ lw_tb) (hty : ∀ k, k < N → parseFieldDescriptor (Tt k).2.2.1 = some (t0 k)) (w1 : Cond.classLink RL index C ∈ lw_tb) (w2 : Cond.instantiable C N ∈ lw_tb) (w3 : Cond.initialized C ∈ lw_tb) (hbl : ∀ j, j < N → defaultValue (t0 j) = vp_V (fk_bv bl) j) (hk : ∀ q ∈ bl, q.1 = 1 ∨ q.1 = 2 ∨ q.1 = 3) (hl : bl.length ≤ 64)
    (M : fk_C y cy maxL d' 0 [.inl (ci, bl)] Z0 lay1 σ1 nc ns) (m1 : Cond.methodLink RL idx2 y ∈ lw_tb) (m2 : Cond.instanceMethod y ∈ lw_tb) (m3 : Cond.initialized y.cls ∈ lw_tb) (m4 : Cond.code y cy maxL none ∈ lw_tb) (m5 : y.name = "<init>") (m6 : y.cls ≠ "java/lang/invoke/MethodHandle" ∧ y.cls ≠ "java/lang/invoke/VarHandle" ∧ (parseMethodDescriptor y.desc).map (fun d => d.parameters.length) = some 0) (hd : d' ≤ 1000) (hm : maxL ≤ 21)
    (hce : cells + 1 + nc ≤ 601024) (hsl : slots + N + ns ≤ 7293034) (hls : ls.size = nL) (d0 : decode cc pc = .ok (.new index, 3)) (d3 : decode cc (pc + 3) = .ok (.dup, 1)) (d4 : decode cc (pc + 3 + 1) = .ok (.invokespecial idx2, 3))
    (kk : ∀ (adr1 : Nat → Nat) (H' : Heap), H.size ≤ H'.size → va_P D vwCl (fw_w lay1 adr1 cA σ1) H' → va_D (fun q => H.size ≤ q) (fw_w lay1 adr1 cA σ1) → (∀ q : Nat, q < H.size → H'[q]? = H[q]?) → W p l e room_1 s m args below meth c H' [] (cells + 1 + nc) (slots + N + ns) Q (F0 m (pc + 3 + 1 + 3) ls [.ref (adr1 0)])) : W p l e room_1 s m args below meth c H [] cells slots Q (F0 m pc ls []) := by
  refine va_new (A := fun q => H.size ≤ q) (H0 := H) (ws := []) (fs := fk_bv bl) hx hb hts hinw t0 hty hown (hts _ w1) (hts _ w2) (hts _ w3) hK (fun k q h => by simp at h) ⟨fun i j p q h => by simp at h, fun k q h => by simp at h⟩ va_S.rf (fun _ h => h) hcl hbl (by show cells + 1 ≤ 601024; omega) (by show slots + N ≤ 7293034; omega) d0 (fun q H1 hP1 hD1 hS1 => ?_)
  rw [List.nil_append] at hP1 hD1
  have hq : H.size ≤ q := hD1.2 0 _ rfl
  have ew := fk_w1 (ci := ci) (adr := fun _ => q) (cA := cA) hk
  rw [← ew] at hP1 hD1
  refine lv_dup hx hb d3 rfl ?_
  have hg : GoodIn lw_tb (Cond.code y cy maxL none :: lw_tb) := by
    intro w hw'
    have hm : w ∈ lw_tb := by
      rcases List.mem_cons.mp hw' with rfl | z
      · exact m4
      · exact z
    exact ⟨hm, good_of_word (List.all_eq_true.mp lw_good w hm)⟩
  have hi : fk_i [.inl (ci, bl)] := by
    intro k ci' fs j t h1 h2
    match k, h1 with
    | 0, h1 =>
      cases h1
      rcases hk _ (List.mem_of_getElem? h2) with e1 | e1 | e1 <;> simp at e1
    | k + 1, h1 => simp at h1
  have hok : fw_ok [.inl (ci, bl)] := by
    intro k o h1
    match k, h1 with
    | 0, h1 => cases h1; exact hl
    | k + 1, h1 => simp at h1
  have run := va_runI (e := e) (below := below) (meth := meth) (g := F0 m (pc + 3 + 1) ls [.ref q, .ref q]) (As := []) (rest := [.ref q]) ⟨hx, hb, hml, hown, hts⟩ (M hi (fun _ _ _ => rfl) hok (by simp) l D (fun _ => q) cA H1.size) (cwI (R := room_1) 0 hts hg rfl rfl rfl (hts _ m3) (hts _ m1) (hts _ m2) m5 m6 ⟨by show d' + 1 ≤ 2048; omega, by show 8 + (maxL + 11) + 40 * d' ≤ 84000; omega⟩) ⟨fw_blind, fun U hU hW => ⟨rfl, by rw [hU], by rw [hU]; exact hP1, va_K.moved hW.alike hK, fw_nw_warm hW hnw, hD1.weaken (fun _ _ _ _ => trivial)⟩⟩ rfl rfl hls rfl (lv_room (Nat.le_of_ble_eq_true rfl)) d4 (H := H1) (cells := cells + 1) (slots := slots + N) (locs := []) ⟨by show cells + 1 + nc ≤ 601024; omega, by show slots + N + ns ≤ 7293034; omega⟩
  have hA9 : ∀ z, va_A (fw_w [.inl (ci, bl)] (fun _ => q) cA Z0) H1.size z → H.size ≤ z := by
    rintro z (⟨k, e9, h9⟩ | h9)
    · have := (fw_w_ad h9).2
      simp only at this
      omega
    · exact Nat.le_trans hS1.1 h9
  intro T hT X
  obtain ⟨v, st₀, t, T', L, h0, X', hL0, e1, e2, ⟨⟨hv, hle, hi1, hz1, hok1, adr1, hag, hp, hdd⟩, hz2, hk2⟩, stp⟩ := run T hT X
  cases hv
  rw [h0] at hz2 hk2
  have kq := kk adr1 T'.heap (Nat.le_trans hS1.1 (by rw [e1]; exact hz2)) (by rw [e1]; exact hp) (hdd.weaken (fun _ _ _ z => hA9 _ z)) (fun z hz => by
    rw [e1, hk2 z (Nat.lt_of_lt_of_le hz hS1.1) (fun h9 => absurd (hA9 z h9) (by omega)), hS1.2.1 z hz (by show ¬ H.size ≤ z; omega)])
  rw [show adr1 0 = q from hag 0 (by simp)] at kq
  have k9 : W p l e room_1 s m args below meth c T'.heap ([] ++ L) (cells + 1 + nc) (slots + N + ns) Q (F0 m (pc + 3 + 1 + 3) ls [.ref q]) := va_forget (fun z hz => Nat.le_trans hH (hA9 _ (hL0 z (by simpa using hz)))) kq
  obtain ⟨t2, a1, b1⟩ := k9 T' rfl X'
  exact ⟨t2, stp t2 a1, b1⟩
theorem lg_arr {s : State} {args : Array Value} {ty : FieldType} (h : (Cond.arrayClass ty).before args s = true) (hp : ∀ C, ty ≠ .object C) : ∃ cA : ClassId, ArrOfT s cA ty ∧ va_RA s cA ty ∧ s.vm.findClass ("[" ++ ty.toString) = some cA := by
  obtain ⟨cA, kA, comp, h1, h2, h3⟩ := Cond.arrayClass_spec h
  refine ⟨cA, fun n z => ⟨fun k h => (by cases h), kA, h2, comp, h3⟩, ?_, h1⟩
  unfold va_RA
  split
  · rename_i C
    exact absurd rfl (hp C)
  · exact h1
set_option maxHeartbeats 4000000 in
theorem whole_start {p : Program} {e : Env} {s : State} {m : MethodId} {below : List Frame} {meth : Method} {c : Code} (l : Launch) (hst : l.stackTraces = false) {b L : Nat} {xs : Nat → Int32} (hL : L ≤ 3072) (C0 : lw_At p s m meth c b L xs) : W p l e room_1 s m #[Value.ref b] below meth c s.heap [] 0 0 (lw_Z below #[Value.ref b] s) (entryFrame m ([Value.ref b] : List Value).toArray 7) := by
  obtain ⟨hx, hb, hr, hml, hown, htbl, hX, hbl, hlocks, hgv⟩ := id C0
  have hts : ∀ w ∈ lw_tb, w.before #[Value.ref b] s = true := fun w h => htbl w (lw_tb_in h)
  have hgv' := flat_of_before _ hgv
  obtain ⟨c0, i0, k0⟩ := u_known (C := RX0) (T := TX0) (N := 4) (n := 4) hts in_X0 (hts _ wk_in_X0)
  obtain ⟨c1, i1, k1⟩ := u_known (C := RX1) (T := TX1) (N := 4) (n := 4) hts in_X1 (hts _ wk_in_X1)
  obtain ⟨c2, i2, k2⟩ := u_known (C := RX2) (T := TX2) (N := 6) (n := 6) hts in_X2 (hts _ wk_in_X2)
  obtain ⟨c3, i3, k3⟩ := u_known (C := RX3) (T := TX3) (N := 20) (n := 20) hts in_X3 (hts _ wk_in_X3)
  obtain ⟨c5, i5, k5⟩ := u_known (C := RX5) (T := TX5) (N := 4) (n := 4) hts in_X5 (hts _ wk_in_X5)
  obtain ⟨c6, i6, k6⟩ := u_known (C := RX6) (T := TX6) (N := 7) (n := 7) hts in_X6 (hts _ wk_in_X6)
  obtain ⟨c8, i8, k8⟩ := u_known (C := RX8) (T := TX8) (N := 4) (n := 4) hts in_X8 (hts _ wk_in_X8)
  obtain ⟨c9, i9, k9⟩ := u_known (C := RX9) (T := TX9) (N := 12) (n := 12) hts in_X9 (hts _ wk_in_X9)
  obtain ⟨c10, i10, k10⟩ := u_known (C := RX10) (T := TX10) (N := 6) (n := 6) hts in_X10 (hts _ wk_in_X10)
  obtain ⟨c11, i11, k11⟩ := u_known (C := RX11) (T := TX11) (N := 17) (n := 17) hts in_X11 (hts _ wk_in_X11)
  obtain ⟨c12, i12, k12⟩ := u_known (C := RX12) (T := TX12) (N := 54) (n := 54) hts in_X12 (hts _ wk_in_X12)
  obtain ⟨D, hKc⟩ : ∃ D : va_G, ∀ (k : Nat) (q : vw_C), vwCl[k]? = some q → u_Kn s q.1 q.2.1 q.2.2 (D.1 k) (D.2 k) := by
    refine ⟨(fun k => ([c0, c1, c2, c3, c5, c6, c8, c9, c10, c11, c12] : List ClassId).getD k c0, fun k => ([i0, i1, i2, i3, i5, i6, i8, i9, i10, i11, i12] : List (Nat → Nat)).getD k i0), ?_⟩
    intro k q hq
    match k, hq with
    | 0, hq => cases hq; exact k0
    | 1, hq => cases hq; exact k1
    | 2, hq => cases hq; exact k2
    | 3, hq => cases hq; exact k3
    | 4, hq => cases hq; exact k5
    | 5, hq => cases hq; exact k6
    | 6, hq => cases hq; exact k8
    | 7, hq => cases hq; exact k9
    | 8, hq => cases hq; exact k10
    | 9, hq => cases hq; exact k11
    | 10, hq => cases hq; exact k12
    | k + 11, hq => simp [vwCl] at hq
  obtain ⟨a0, r00, r01, r02⟩ := lg_arr (ty := .int) (hts _ wk_ar_int) (by intro C h; cases h)
  obtain ⟨a1, r10, r11, r12⟩ := lg_arr (ty := .long) (hts _ wk_ar_long) (by intro C h; cases h)
  obtain ⟨a2, r20, r21, r22⟩ := lg_arr (ty := .byte) (hts _ wk_ar_byte) (by intro C h; cases h)
  obtain ⟨a3, r30, r31, r32⟩ := lg_arr (ty := .boolean) (hts _ wk_ar_boolean) (by intro C h; cases h)
  obtain ⟨cA, hc1, hK⟩ : ∃ cA : Nat → ClassId, cA 1 = a1 ∧ va_K D vwCl (fw_t cA) s := by
    refine ⟨fun k => ([a0, a1, a2, a3] : List ClassId).getD k a0, rfl, hKc, ?_⟩
    intro k q hq
    match k, hq with
    | 0, hq => cases hq; exact ⟨r00, r01⟩
    | 1, hq => cases hq; exact ⟨r10, r11⟩
    | 2, hq => cases hq; exact ⟨r20, r21⟩
    | 3, hq => cases hq; exact ⟨r30, r31⟩
    | k + 4, hq => simp [fw_t] at hq
  have hnw : fw_nw s := fun a i x h hw => va_Nw.of rfl (htbl _ hw)
  have hZ : tx_Z (fun q => s.heap.size ≤ q) s s.heap := by
    refine ⟨?_, ?_, fun w hw => va_Nw.of (tx_on w hw) (htbl w (tx_in w hw))⟩
    · exact vx_Zqof (htbl (.laysStatic Bundle.tN "UNASSIGNED_STACK" Bundle.steD) (tbl_at 1103 (by decide +kernel))) (htbl (.initialized Bundle.tN) (tbl_at 15 (by decide +kernel))) (hgv' (.isRef (.static Bundle.tN "UNASSIGNED_STACK" Bundle.steD)) (by decide +kernel)) (fun a h => Nat.not_le.mpr h)
    · exact vx_Zqof (htbl (.laysStatic Bundle.tN "SUPPRESSED_SENTINEL" Bundle.listD) (tbl_at 1105 (by decide +kernel))) (htbl (.initialized Bundle.tN) (tbl_at 15 (by decide +kernel))) (hgv' (.isRef (.static Bundle.tN "SUPPRESSED_SENTINEL" Bundle.listD)) (by decide +kernel)) (fun a h => Nat.not_le.mpr h)
  have F : lg_F p l s m c b L xs D cA := ⟨hx, hb, hml, hown, hts, hK, hnw, hX, hbl, hL, hst, hZ⟩
  have hl := lv_entry ([.ref b]) (n := 7) (Nat.le_of_ble_eq_true rfl)
  rw [lg_entry_eq]
  generalize (lg_sl ([.ref b]) ++ List.replicate (7 - (lg_sl ([.ref b])).length) Slot.unset).toArray = ls at hl ⊢
  have hl : lv_has ls 7 [(0, .ref b)] := hl
  refine lg_new (ci := 9) (pc := 0) (idx2 := 28) hx hb hml hown hts hK hnw (Nat.le_refl _) rfl in_X11 tyX11_ok wk_cl_RL_8 wk_in_X11 wn_RX11 kbl_X11 (by decide) (by decide) KX_c28_DyerBells wl_RL_28 wi_X11_init wn_RX11 wc_X11_init rfl ⟨by decide +kernel, by decide +kernel, by decide +kernel⟩ (by decide) (by decide) (by decide) (by decide) hl.1 dL_law_0 dL_law_3 dL_law_4 (fun adX H1 hz1 hPX hDX hs1 => ?_)
  rw [LX_eq] at hPX hDX
  refine lv_astore_n (lv' := [(1, .ref (adX 0)), (0, .ref b)]) hx hb dL_law_7 rfl hl (by decide) rfl (fun ls1 hl1 => ?_)
  refine lg_new (ci := 10) (pc := 8) (idx2 := 31) hx hb hml hown hts hK hnw hz1 rfl in_X12 tyX12_ok wk_cl_RL_29 wk_in_X12 wn_RX12 kbl_X12 (by decide) (by decide) KM_c1_DyerBellsModel wl_RL_31 wi_X12_init wn_RX12 wc_X12_init rfl ⟨by decide +kernel, by decide +kernel, by decide +kernel⟩ (by decide) (by decide) (by decide) (by decide) hl1.1 dL_law_8 dL_law_11 dL_law_12 (fun adM H2 hz2 hPM hDM hs2 => ?_)
  rw [LM_eq] at hPM hDM
  have hPX2 : va_P D vwCl (fw_w LX adX cA KXz36) H2 := hPX.kept (fun k q hq => hs2 q.1 (vx_lt hPX hq))
  refine lv_astore_n (lv' := [(2, .ref (adM 0)), (1, .ref (adX 0)), (0, .ref b)]) hx hb dL_law_15 rfl hl1 (by decide) rfl (fun ls2 hl2 => ?_)
  refine lv_iconst hx hb dL_law_16 (v := 1) (by decide) ?_
  refine va_newaK (atype := .long) (n := 1) (N := 1) (h := H2.size) (rest := []) hx hb (hts _ wk_ar_long) rfl dL_law_17 rfl (by decide) (by decide) (by decide) (by decide) (by decide) rfl (fun H3 cO g1 g2 g3 g4 g5 => ?_)
  have hcO : cO = cA 1 := by
    rw [hc1]
    have h9 : s.vm.findClass ("[" ++ FieldType.long.toString) = some cO := g5
    rw [r12] at h9
    exact (Option.some.inj h9).symm
  subst hcO
  have hPX3 : va_P D vwCl (fw_w LX adX cA KXz36) H3 := hPX2.kept (fun k q hq => g3 q.1 (vx_lt hPX2 hq))
  have hPM3 : va_P D vwCl (fw_w LM adM cA KMz4) H3 := hPM.kept (fun k q hq => g3 q.1 (vx_lt hPM hq))
  have hPO3 : va_P D vwCl (fw_w LO (fun _ => H2.size) cA Z0) H3 := by
    intro k q hk
    obtain ⟨k1, -⟩ := fw_w_ad hk
    have k0 : k = 0 := by simp [LO] at k1; omega
    subst k0
    rw [fw_w_at (lay := LO) (k := 0) rfl] at hk
    cases hk
    show H3[H2.size]? = some (vp_cell (cA 1) (1, .inr (.inl fun i => Int64.ofInt (Z0 0 i))))
    rw [g1, vp_cell_l]
    rfl
  have hmem : ∀ {lay : List CD} {adr : Nat → Nat} {σ : Me} {k : Nat}, k < lay.length → ∃ e, (fw_w lay adr cA σ)[k]? = some (adr k, e) := fun {lay adr σ k} hk => ⟨_, fw_w_at (List.getElem?_eq_getElem hk)⟩
  have S : lg_S s cA adX adM H2.size := by
    refine ⟨fun σ => fw_D hDX, fun μ => (fw_D hDM).weaken (fun _ _ _ z => Nat.le_trans hz1 z), Nat.le_trans hz1 hz2, fun i j h1 h2 e9 => ?_, fun i j h1 _ e9 => ?_, fun i j h1 _ e9 => ?_⟩
    · obtain ⟨q1, e1⟩ := hmem (lay := LX) (adr := adX) (σ := KXz36) h1
      obtain ⟨q2, e2⟩ := hmem (lay := LM) (adr := adM) (σ := KMz4) h2
      have u1 : adX i < H1.size := vx_lt hPX e1
      have u2 : H1.size ≤ adM j := hDM.2 j _ e2
      omega
    · obtain ⟨q1, e1⟩ := hmem (lay := LX) (adr := adX) (σ := KXz36) h1
      have u1 : adX i < H2.size := vx_lt hPX2 e1
      simp only at e9
      omega
    · obtain ⟨q1, e1⟩ := hmem (lay := LM) (adr := adM) (σ := KMz4) h1
      have u1 : adM i < H2.size := vx_lt hPM e1
      simp only at e9
      omega
  show W p l e room_1 s m #[Value.ref b] below meth c H3 [] _ _ _ (F0 m 19 ls2 [.ref H2.size])
  refine lv_astore_n (lv' := [(3, .ref H2.size), (2, .ref (adM 0)), (1, .ref (adX 0)), (0, .ref b)]) hx hb dL_law_19 rfl hl2 (by decide) rfl (fun ls3 hl3 => ?_)
  refine lv_iconst hx hb dL_law_20 (v := 0) (by decide) ?_
  refine lv_istore (lv' := [(4, .int (Int32.ofNat 0)), (3, .ref H2.size), (2, .ref (adM 0)), (1, .ref (adX 0)), (0, .ref b)]) hx hb dL_law_21 hl3 (by decide) rfl (fun ls4 hl4 => ?_)
  refine lg_loop F S hr hlocks 512 0 _ _ KXz36 KMz4 Z0 H3 [] ls4 ⟨hPX3, hPM3, hPO3, ?_⟩ Rl_0 (lv_sub hl4 [4, 3, 2, 1, 0] rfl) (by omega) (by omega) (by decide) (by decide)
  refine ⟨by omega, fun q h1 h2 => ?_, fun _ h => nomatch h⟩
  rw [g3 q (by omega), hs2 q (by omega), hs1 q h1]
