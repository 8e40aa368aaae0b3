/-- what a wrapper may write: the object's cells, `out`, what is new -/
def wr_A (adr : Nat → Nat) (cA : Nat → ClassId) (o : Nat) (σ : Me) (sz : Nat) : Nat → Prop := fun q => va_A (fw_w LX adr cA σ) sz q ∨ q = o
def wr_P (D : va_G) (adr : Nat → Nat) (cA : Nat → ClassId) (o : Nat) (σ τ : Me) (sz : Nat) (U : State) : Prop := U.heap.size = sz ∧ va_P D vwCl (fw_w LX adr cA σ) U.heap ∧ va_P D vwCl (fw_w LO (fun _ => o) cA τ) U.heap ∧ va_K D vwCl (fw_t cA) U ∧ fw_nw U ∧ va_D (fun _ => True) (fw_w LX adr cA σ) ∧ lg_sep LX LO adr (fun _ => o) ∧ tx_Z (wr_A adr cA o σ sz) U U.heap
def wr_Q (D : va_G) (adr : Nat → Nat) (cA : Nat → ClassId) (o : Nat) (σ σ1 τ : Me) (how : Nat) (x1 : Int) (sz : Nat) : Array Value → State → Outcome → State → Prop := fun _ st oc t => (oc = .returned (some (.int (if how = 4 then 1 else 0))) ∧ va_P D vwCl (fw_w LX adr cA σ1) t.heap ∧ va_P D vwCl (fw_w LO (fun _ => o) cA (if how = 4 then τ else u2 τ 0 0 (w32 x1))) t.heap) ∧ va_F (wr_A adr cA o σ sz) st t
def wr_rm : Room := { frames := 14, cells := 1, slots := 6, locals := 560 }
theorem wr_blind {D : va_G} {adr : Nat → Nat} {cA : Nat → ClassId} {o : Nat} {σ τ : Me} {vs : List Value} {sz : Nat} : FrameBlind (va_Pc vs (wr_P D adr cA o σ τ sz)) := by
  rintro a U g mk ⟨q0, q1, qP, qO, qK, qN, qD, qS, qZ⟩
  exact ⟨q0, q1, qP, qO, va_K.moved (u := U) (U := U.calling g mk a) (Vm.Alike.refl U.vm) qK, fun a' i x t hw => va_Nw.same rfl rfl (qN a' i x t hw), qD, qS, qZ.same⟩
/-- the call within a wrapper: it answers, or it throws -/
theorem wr_call {p : Program} {l : Launch} {e : Env} {R : Room} {s : State} {m : MethodId} {args : Array Value} {below : List Frame} {meth : Method} {c : Code} {cc cy : ByteArray} {nL maxL index n pc : Nat} {y : MethodName} {Q : State → Prop} {ls : Array Slot} {D : va_G} {adr : Nat → Nat} {cA : Nat → ClassId} {o : Nat} {σ σ1 τ : Me} {how : Nat} {x1 : Int} {As : List Value} {sz : Nat} {ts : List Nat} {xs : List Int}
    (hM : vx_Met l y (.code y cy maxL (some .int) :: lw_tb) tx_rm (va_Pc (List.zipWith (fw_v adr) (2 :: ts) (0 :: xs)) (tx_P D adr cA σ sz)) (tx_Q D adr cA σ σ1 how x1 sz) (tx_X D adr cA σ σ1 how sz) 1 6 (va_A (fw_w LX adr cA σ) sz)) (hAs : List.zipWith (fw_v adr) ts xs = As) (hn : As.length = n)
    (hw : fw_lv RL index y cy maxL (some .int) n) (hc : vwCl[9]? = some (y.cls, TX11, 17)) (hm : maxL ≤ 21) (hx : p.tables.exec = Jvm.exec) (hb : c.code = cc) (hml : c.maxLocals = nL) (hown : s.vm.findClass RL = some m.cls) (hts : ∀ w ∈ lw_tb, w.before args s = true) (hv : wr_P D adr cA o σ τ sz s) (hR : R = wr_rm) (hls : ls.size = nL) (hdg : decode cc pc = .ok (.invokevirtual index, 3))
    (k3 : how = 3 → ∀ (H' : Heap) (locs' : List Loc), va_P D vwCl (fw_w LX adr cA σ1) H' → va_P D vwCl (fw_w LO (fun _ => o) cA τ) H' → va_S (wr_A adr cA o σ sz) s.heap H' locs' → W p l e R s m args below meth c H' locs' 1 6 Q (F0 m (pc + 3) ls [.int (Int32.ofInt x1), .int 0, .ref o]))
    (k4 : how = 4 → ∀ (H' : Heap) (locs' : List Loc) (q : Addr) (ce : Cell), va_P D vwCl (fw_w LX adr cA σ1) H' → va_P D vwCl (fw_w LO (fun _ => o) cA τ) H' → va_S (wr_A adr cA o σ sz) s.heap H' locs' → H'[q]? = some ce → ce.vm = .none → s.vm.findClass tx_E = some ce.cls → vx_W p l e R s m args below meth c H' locs' 1 6 Q (F0 m pc ls [.int 0, .ref o]) q) :
    W p l e R s m args below meth c s.heap [] 0 0 Q (F0 m pc ls (As.reverse ++ .ref (adr 0) :: [.int 0, .ref o])) := by
  obtain ⟨hsz, hPX, hPO, hK, hN, hD, hsep, hZ⟩ := hv
  subst hR
  subst hAs
  have run := vx_runV (e := e) (below := below) (meth := meth) (g := F0 m pc ls ((List.zipWith (fw_v adr) ts xs).reverse ++ .ref (adr 0) :: [.int 0, .ref o])) (As := List.zipWith (fw_v adr) ts xs) (rest := [.int 0, .ref o]) ⟨hx, hb, hml, hown, hts⟩ hM (cwV (R := wr_rm) n hts (fw_goodV hw.1) rfl rfl rfl ⟨rfl, hw.2⟩ ⟨by show 12 + 1 ≤ 14; decide, by show 8 + (maxL + 11) + 480 ≤ 560; omega⟩) ⟨tx_blind, va_recv hK hPX hc (fw_w_at lx_0), fun U hU hW => ⟨rfl, by rw [hU]; exact hsz, by rw [hU]; exact hPX, va_K.moved hW.alike hK, fw_nw_warm hW hN, hD, by rw [hU]; exact (hZ.narrow (fun q z => Or.inl z)).moved hW⟩⟩ rfl hn hls rfl (lv_room (Nat.le_of_ble_eq_true rfl)) hdg (H := s.heap) (cells := 0) (slots := 0) (locs := []) ⟨by decide, by decide⟩
  have fin : ∀ (t T' : State) (st₀ : State) (L : List Loc), st₀.heap = s.heap → T'.heap = t.heap → (∀ q ∈ L, va_A (fw_w LX adr cA σ) sz q.base) → va_F (va_A (fw_w LX adr cA σ) sz) st₀ t → va_P D vwCl (fw_w LX adr cA σ1) t.heap → va_P D vwCl (fw_w LX adr cA σ1) T'.heap ∧ va_P D vwCl (fw_w LO (fun _ => o) cA τ) T'.heap ∧ va_S (wr_A adr cA o σ sz) s.heap T'.heap ([] ++ L) := by
    rintro t T' st₀ L h0 e1 hL ⟨hz, hk⟩ hp
    rw [h0] at hz hk
    refine ⟨by rw [e1]; exact hp, by rw [e1]; exact lg_kept (lay1 := LX) (a1 := adr) (σ := σ) hPO hsep (fun q h1 h2 => hk q h1 (by rw [← hsz]; exact h2)), ⟨by rw [e1]; exact hz, fun q h1 h2 => by rw [e1]; exact hk q h1 (fun z => h2 (Or.inl z)), fun q hq => Or.inl (hL q (by simpa using hq))⟩⟩
  intro T hT X
  rcases run T hT X with ⟨v, st₀, t, T', L, h0, X', hL, e1, e2, ⟨ho3, ⟨hv, hp⟩, hF⟩, st⟩ | ⟨q, st₀, t, T', L, E, ce, h0, X', hL, e1, e2, ⟨ho4, hE, hp, hF⟩, hce, hcv, hcl, st⟩
  · cases hv
    obtain ⟨f1, f2, f3⟩ := fin t T' st₀ L h0 e1 hL hF hp
    obtain ⟨t2, a1, b1⟩ := k3 ho3 T'.heap ([] ++ L) f1 f2 f3 T' rfl X'
    exact ⟨t2, st t2 a1, b1⟩
  · subst hE
    obtain ⟨f1, f2, f3⟩ := fin t T' st₀ L h0 e1 hL hF hp
    obtain ⟨t2, a1, b1⟩ := k4 ho4 T'.heap ([] ++ L) q ce f1 f2 f3 (by rw [e1]; exact hce) hcv hcl T' rfl X'
    exact ⟨t2, st.trans a1, b1⟩
theorem w32_64 {x : Int} : Int64.ofInt (w32 x) = (Int32.ofInt x).toInt64 := by
  unfold w32
  apply Int64.toInt_inj.mp
  have h1 := Int32.le_toInt (Int32.ofInt x)
  have h2 := Int32.toInt_lt (Int32.ofInt x)
  rw [Int32.toInt_toInt64, Int64.toInt_ofInt_of_le (by omega) (by omega)]
