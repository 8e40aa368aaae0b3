theorem opT_x {b : SM} {g : FM} {is : List Nat} {a : List Int} {σ μ : Me} (h : opT b (mthF is b) g is a σ μ) : ∃ (how : Nat) (x1 : Int) (ρ1 : Lo) (σ1 : Me) (w : Int) (μ' : Me), b (ini is a) σ = some (how, x1, ρ1, σ1) ∧ g a μ = some (w, μ') ∧ Rl σ1 μ' ∧ ((how = 3 ∧ μ' 0 0 = 0 ∧ w32 x1 = w32 w) ∨ (how = 4 ∧ μ' 0 0 = 1)) := by
  rcases h with ⟨v, w, σ', μ', h1, h2, h3, h4, h5⟩ | ⟨μ', ⟨⟨r1, r2, r3, r4⟩, h1, h2, h3⟩, h4, h5, h6⟩
  · obtain ⟨⟨o, x1, ρ1, σ1⟩, e1, e2⟩ := bind_some h1
    split at e2
    case isFalse => cases e2
    rename_i h9
    cases e2
    exact ⟨o, x1, ρ1, σ1, w, μ', e1, h2, h5, Or.inl ⟨h9, h4, h3⟩⟩
  · simp only at h2 h3
    subst h3
    exact ⟨r1, r2, r3, r4, 0, μ', h1, h4, h6, Or.inr ⟨h2, h5⟩⟩
theorem thrown_eq {μ : Me} : m_M_thrown (0 :: ([] : List Int32).map Int32.toInt) μ = some (μ 0 0, μ) := rfl
section LWC
variable {p : Program} {l : Launch} {e : Env} {s : State} {m : MethodId} {below : List Frame} {meth : Method} {c : Code} {b L : Nat} {xs : Nat → Int32} {D : va_G} {cA : Nat → ClassId} {adX adM : Nat → Nat} {o : Nat} {σ μ τ : Me} {H : Heap} {locs : List Loc} {cells slots pc : Nat} {Q : State → Prop} {ls : Array Slot} {st : List Value}
theorem lg_wrap {yL : MethodName} {cL : ByteArray} {nl idx n how : Nat} {hh : List (Nat × Nat × Nat × Nat)} {x1 : Int} {σ1 τ' : Me} {k : Int32} {As : List Value} (F : lg_F p l s m c b L xs D cA) (S : lg_S s cA adX adM o) (hM : lg_M s D cA adX adM o σ μ τ H locs)
    (M : vx_Met l yL (.codeWith yL cL nl (some .int) hh :: lw_tb) wr_rm (va_Pc As (wr_P D adX cA o σ τ H.size)) (wr_Q D adX cA o σ σ1 τ how x1 H.size) (fun _ _ _ => False) 1 6 (wr_A adX cA o σ H.size))
    (w1 : Cond.methodLink RL idx yL ∈ lw_tb) (w2 : Cond.static yL ∈ lw_tb) (w3 : Cond.initialized yL.cls ∈ lw_tb) (w4 : Cond.codeWith yL cL nl (some .int) hh ∈ lw_tb) (hd : yL.cls ≠ "java/lang/invoke/MethodHandle" ∧ yL.cls ≠ "java/lang/invoke/VarHandle" ∧ (parseMethodDescriptor yL.desc).map (fun d => d.parameters.length) = some n) (hn : As.length = n) (hm : nl ≤ 21) (hce : cells + 1 ≤ 601024) (hsl : slots + 6 ≤ 7293034) (hls : ls.size = 7) (hk : (if how = 4 then (1 : Int32) else 0) = k) (hτ : (if how = 4 then τ else u2 τ 0 0 (w32 x1)) = τ') (h : decode code pc = .ok (.invokestatic idx, 3))
    (kk : ∀ H' locs', lg_M s D cA adX adM o σ1 μ τ' H' locs' → W p l e room_1 s m #[Value.ref b] below meth c H' locs' (cells + 1) (slots + 6) Q (F0 m (pc + 3) ls [.int k])) : W p l e room_1 s m #[Value.ref b] below meth c H locs cells slots Q (F0 m pc ls (As.reverse ++ [])) := by
  obtain ⟨hx, hb, hml, hown, hts, hK, hnw, hX, hbl, hL, hst, hZ⟩ := F
  obtain ⟨sX, sM, sO, s1, s2, s3⟩ := S
  obtain ⟨hPX, hPM, hPO, hS⟩ := hM
  subst hk hτ
  have hwA : ∀ q, wr_A adX cA o σ H.size q → s.heap.size ≤ q := by
    rintro q ((⟨k, e, hk⟩ | hge) | rfl)
    · exact (sX σ).2 k _ hk
    · exact Nat.le_trans hS.1 hge
    · exact sO
  have good : ∀ w ∈ va_wsS RL idx yL [Cond.codeWith yL cL nl (some .int) hh], w ∈ lw_tb := by
    intro w hw
    simp only [va_wsS, List.cons_append, List.nil_append, List.mem_cons, List.not_mem_nil, or_false] at hw
    rcases hw with rfl | rfl | rfl | rfl <;> assumption
  have run := vx_runSX (e := e) (below := below) (meth := meth) (g := F0 m pc ls (As.reverse ++ [])) (As := As) (rest := []) ⟨hx, hb, hml, hown, hts⟩ M (vx_cwSW (R := room_1) n hts (fw_goodS good) rfl rfl rfl hd ⟨by show 14 + 1 ≤ 2048; decide, by show 8 + (nl + 11) + 560 ≤ 84000; omega⟩) ⟨wr_blind, fun U hU hW => ⟨rfl, by rw [hU], by rw [hU]; exact hPX, by rw [hU]; exact hPO, va_K.moved hW.alike hK, fw_nw_warm hW hnw, (sX σ).weaken (fun _ _ _ _ => trivial), s2, by rw [hU]; exact ((hZ.kept (fun a h1 h2 => hS.2.1 a h1 h2)).narrow hwA).moved hW⟩⟩ rfl hn hls rfl (lv_room (Nat.le_of_ble_eq_true rfl)) h (H := H) (cells := cells) (slots := slots) (locs := locs) ⟨hce, hsl⟩
  intro T hT X
  rcases run T hT X with ⟨v, st₀, t, T', L', h0, X', hL', e1, e2, ⟨⟨hv, hp1, hp2⟩, hz, hk⟩, stp⟩ | ⟨q, st₀, t, T', L', E, ce, h0, X', hL', e1, e2, hF, _⟩
  · cases hv
    rw [h0] at hz hk
    obtain ⟨t2, a1, b1⟩ := kk T'.heap (locs ++ L') ⟨by rw [e1]; exact hp1, by
        rw [e1]
        refine hPM.kept (fun k q hq => hk q.1 (vx_lt hPM hq) ?_)
        obtain ⟨j1, j2⟩ := fw_w_ad hq
        rintro ((⟨i, e9, hi⟩ | hge) | ho)
        · obtain ⟨i1, i2⟩ := fw_w_ad hi
          exact s1 i k i1 j1 (by rw [← i2, ← j2])
        · have := vx_lt hPM hq
          omega
        · exact s3 k 0 j1 (by decide) (by rw [← j2, ho]), by rw [e1]; exact hp2, Nat.le_trans hS.1 (by rw [e1]; exact hz), fun q h1 h2 => by
        rw [e1, hk q (Nat.lt_of_lt_of_le h1 hS.1) (fun z => h2 (hwA q z))]
        exact hS.2.1 q h1 h2, fun q hq => by
        rcases List.mem_append.mp hq with h | h
        · exact hS.2.2 q h
        · exact hwA _ (hL' q h)⟩ T' rfl X'
    exact ⟨t2, stp t2 a1, b1⟩
  · exact hF.elim
/-- the law's locals -/
def lg_L (b : Nat) (adX adM : Nat → Nat) (o i : Nat) (ls : Array Slot) : Prop := lv_has ls 7 [(0, .ref b), (1, .ref (adX 0)), (2, .ref (adM 0)), (3, .ref o), (4, .int (Int32.ofNat i))]
/-- the law goes on, behind a call of both -/
def lg_K (p : Program) (l : Launch) (e : Env) (s : State) (m : MethodId) (below : List Frame) (meth : Method) (c : Code) (b : Nat) (D : va_G) (cA : Nat → ClassId) (adX adM : Nat → Nat) (o i cells slots : Nat) (Q : State → Prop) : Prop :=
  ∀ (σ' μ' τ' : Me) (H' : Heap) (locs' : List Loc) (ls' : Array Slot) (cells' slots' : Nat), lg_M s D cA adX adM o σ' μ' τ' H' locs' → Rl σ' μ' → cells' ≤ cells + 1 → slots' ≤ slots + 6 → lg_L b adX adM o i ls' → W p l e room_1 s m #[Value.ref b] below meth c H' locs' cells' slots' Q (F0 m 1447 ls' [])
end LWC
