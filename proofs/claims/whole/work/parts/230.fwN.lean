section FWN
variable {lay : List CD} {own : String} {cc : ByteArray} {nL d : Nat} {r : Option Nat} {T T' : FT} {b pc pc1 pc2 pc3 pt pf tgt : Nat} {f g h3 : EM} {off : Int} {N B C : Nat × FT}
theorem fw_c_g {adr : Nat → Nat} {cA : Nat → ClassId} {σ σ' : Me} {k : Nat} {q : CD} (h : ∀ j, j < 64 → σ' (64 * k + j) = σ (64 * k + j)) (ho : ∀ o, q = .inl o → o.2.length ≤ 64) : fw_c adr cA σ' k q = fw_c adr cA σ k q := by
  cases q with
  | inl o =>
    simp only [fw_c]
    congr 2
    apply List.ext_getElem?
    intro j
    rw [List.getElem?_mapIdx, List.getElem?_mapIdx]
    cases hj : o.2[j]? with
    | none => rfl
    | some z =>
      have hl := (List.getElem?_eq_some_iff.mp hj).1
      have := ho o rfl
      simp only [Option.map_some, fw_f, h j (by omega)]
  | inr a =>
    have h0 := h 0 (by omega)
    rw [Nat.add_zero] at h0
    simp only [fw_c, fw_a, h0]
theorem fw_w_g {adr : Nat → Nat} {cA : Nat → ClassId} {σ σ' : Me} {k : Nat} {q : CD} {e : va_E} (hok : fw_ok lay) (hk : lay[k]? = some q) (hv : ∀ n j, n ≠ k → j < 64 → σ' (64 * n + j) = σ (64 * n + j)) (he : fw_c adr cA σ' k q = e) : (fw_w lay adr cA σ).set k (adr k, e) = fw_w lay adr cA σ' := by
  apply List.ext_getElem?
  intro n
  have hl := (List.getElem?_eq_some_iff.mp hk).1
  by_cases hn : n = k
  · subst hn
    rw [List.getElem?_set_self (by simpa [fw_w] using hl), fw_w_at hk, he]
  · rw [List.getElem?_set_ne (Ne.symm hn)]
    unfold fw_w
    rw [List.getElem?_mapIdx, List.getElem?_mapIdx]
    cases hq : lay[n]? with
    | none => rfl
    | some z =>
      simp only [Option.map_some]
      rw [fw_c_g (fun j hj => hv n j hn hj) (fun o ho => hok n o (by rw [hq, ho]))]
def fw_ac (own : String) (index : Nat) : Prop := Cond.methodLink own index arraycopyName ∈ lw_tb ∧ Cond.native arraycopyName ∈ lw_tb ∧ Cond.static arraycopyName ∈ lw_tb ∧ Cond.initialized "java/lang/System" ∈ lw_tb
theorem ac_words : nativeFrameWords "java/lang/System" "arraycopy" 5 + 11 ≤ 40 := by decide +kernel
theorem cl_n {x : Int} : (Int32.ofInt x).toNatClampNeg = (w32 x).toNat := rfl
theorem i32_nn {x : Int} (h : 0 ≤ w32 x) : ¬ Int32.ofInt x < 0 := fun q => by
  have := Int32.lt_iff_toInt_lt.mp q
  have e : Int32.toInt 0 = 0 := rfl
  unfold w32 at h
  omega
theorem fs_cpy {k0 k1 n0 n1 index : Nat} {l1 : List EM} (as : fw_A (lay, own, cc, nL, d, r) T 0 pc pc1 [k0 + 2, 0, k1 + 2, 0, 0] l1) (hk0 : lay[k0]? = some (.inr (0, n0))) (hk1 : lay[k1]? = some (.inr (0, n1))) (hw : fw_ac own index) (hd : 1 ≤ d) (h : decode cc pc1 = .ok (.invokestatic index, 3)) (hT : fw_ts T' T = true) : fw_S (lay, own, cc, nL, d, r) T pc (cpS (64 * k0) n0 (64 * k1) n1 l1) (pc1 + 3, T') B C := by
  rintro ⟨p, l, e, R, s, m, args, below, meth, c, D, adr, cA, A, cells, slots, Q⟩ ⟨hx, hb, hml, hown, hts, hK, hA, hR⟩ ρ σ o x ρ' σ' H locs ls hL hM hf k_
  have X : fw_X (lay, own, cc, nL, d, r) (p, l, e, R, s, m, args, below, meth, c, D, adr, cA, A, cells, slots, Q) := ⟨hx, hb, hml, hown, hts, hK, hA, hR⟩
  obtain ⟨⟨xs, σ1⟩, e1, e2⟩ := bind_some hf
  refine as _ X ρ σ xs σ1 H locs ls [] hL hM (Nat.le_refl _) e1 (fun H1 l2 hM1 => ?_)
  dsimp only at e2
  split at e2
  case h_2 => cases e2
  rename_i a0 sp a1 dp n
  split at e2
  case isFalse => cases e2
  rename_i hc
  obtain ⟨c1, c2, c3, c4, c5⟩ := hc
  cases e2
  have hw40 := ac_words
  refine va_copyi (s := s) (rest := []) hx hb (hml.trans (show lv_has ls nL _ from hL).1.symm) hown (hts _ hw.1) (hts _ hw.2.1) (hts _ hw.2.2.1) (hts _ hw.2.2.2) hK hM1.1 hM1.2.1 hM1.2.2 k0 k1 0 0 (fw_w_at hk0) (fw_w_at hk1) rfl rfl rfl (i32_nn c1) (i32_nn c2) (i32_nn c3) (by rw [cl_n, cl_n]; omega) (by rw [cl_n, cl_n]; omega) (fun _ _ => rfl) (by omega) (by simp only [List.map_nil, List.sum_nil]; omega) h (fun H4 l4 hP hD hS => ?_)
  have hset := fw_w_g (lay := lay) (adr := adr) (cA := cA) (σ := σ1) (σ' := cpM σ1 (64 * k0) (64 * k1) (w32 sp).toNat (w32 dp).toNat (w32 n).toNat) hR.2.2.2.2.1 hk1 (fun n' j hn hj => by
    funext j'
    simp only [cpM]
    rw [if_neg (by omega)]) rfl
  refine k_.1 rfl H4 l4 ls (fw_L_sub hT hL) ⟨?_, fw_D hM1.2.1, hS⟩
  rw [← hset]
  have he : fw_c adr cA (cpM σ1 (64 * k0) (64 * k1) (w32 sp).toNat (w32 dp).toNat (w32 n).toNat) k1 (.inr (0, n1)) = .inl (cA 0, n1, .inl (va_cpy (fun i => Int32.ofInt (σ1 (64 * k0) i)) (fun i => Int32.ofInt (σ1 (64 * k1) i)) (w32 sp).toNat (w32 dp).toNat (w32 n).toNat)) := by
    simp only [fw_c, fw_a]
    congr 4
    funext j
    simp only [cpM, va_cpy, true_and]
    split <;> rfl
  rw [he]
  exact hP
theorem fs_cpyL {k0 k1 n0 n1 index : Nat} {l1 : List EM} (as : fw_A (lay, own, cc, nL, d, r) T 0 pc pc1 [k0 + 2, 0, k1 + 2, 0, 0] l1) (hk0 : lay[k0]? = some (.inr (1, n0))) (hk1 : lay[k1]? = some (.inr (1, n1))) (hw : fw_ac own index) (hd : 1 ≤ d) (h : decode cc pc1 = .ok (.invokestatic index, 3)) (hT : fw_ts T' T = true) : fw_S (lay, own, cc, nL, d, r) T pc (cpS (64 * k0) n0 (64 * k1) n1 l1) (pc1 + 3, T') B C := by
  rintro ⟨p, l, e, R, s, m, args, below, meth, c, D, adr, cA, A, cells, slots, Q⟩ ⟨hx, hb, hml, hown, hts, hK, hA, hR⟩ ρ σ o x ρ' σ' H locs ls hL hM hf k_
  have X : fw_X (lay, own, cc, nL, d, r) (p, l, e, R, s, m, args, below, meth, c, D, adr, cA, A, cells, slots, Q) := ⟨hx, hb, hml, hown, hts, hK, hA, hR⟩
  obtain ⟨⟨xs, σ1⟩, e1, e2⟩ := bind_some hf
  refine as _ X ρ σ xs σ1 H locs ls [] hL hM (Nat.le_refl _) e1 (fun H1 l2 hM1 => ?_)
  dsimp only at e2
  split at e2
  case h_2 => cases e2
  rename_i a0 sp a1 dp n
  split at e2
  case isFalse => cases e2
  rename_i hc
  obtain ⟨c1, c2, c3, c4, c5⟩ := hc
  cases e2
  have hw40 := ac_words
  refine va_copyl (s := s) (rest := []) hx hb (hml.trans (show lv_has ls nL _ from hL).1.symm) hown (hts _ hw.1) (hts _ hw.2.1) (hts _ hw.2.2.1) (hts _ hw.2.2.2) hK hM1.1 hM1.2.1 hM1.2.2 k0 k1 1 1 (fw_w_at hk0) (fw_w_at hk1) rfl rfl rfl (i32_nn c1) (i32_nn c2) (i32_nn c3) (by rw [cl_n, cl_n]; omega) (by rw [cl_n, cl_n]; omega) (fun _ _ => rfl) (by omega) (by simp only [List.map_nil, List.sum_nil]; omega) h (fun H4 l4 hP hD hS => ?_)
  have hset := fw_w_g (lay := lay) (adr := adr) (cA := cA) (σ := σ1) (σ' := cpM σ1 (64 * k0) (64 * k1) (w32 sp).toNat (w32 dp).toNat (w32 n).toNat) hR.2.2.2.2.1 hk1 (fun n' j hn hj => by
    funext j'
    simp only [cpM]
    rw [if_neg (by omega)]) rfl
  refine k_.1 rfl H4 l4 ls (fw_L_sub hT hL) ⟨?_, fw_D hM1.2.1, hS⟩
  rw [← hset]
  have he : fw_c adr cA (cpM σ1 (64 * k0) (64 * k1) (w32 sp).toNat (w32 dp).toNat (w32 n).toNat) k1 (.inr (1, n1)) = .inl (cA 1, n1, .inr (.inl (va_cpy (fun i => Int64.ofInt (σ1 (64 * k0) i)) (fun i => Int64.ofInt (σ1 (64 * k1) i)) (w32 sp).toNat (w32 dp).toNat (w32 n).toNat))) := by
    simp only [fw_c, fw_a]
    congr 5
    funext j
    simp only [cpM, va_cpy, true_and]
    split <;> rfl
  rw [he]
  exact hP
def fw_cs (S : SI) (T : FT) (pc : Nat) (offs : Array Int) (N B C : Nat × FT) : Nat → List (Nat × SM) → Prop
  | _, [] => True
  | i, q :: l => (∃ off, offs[i]? = some off ∧ (pc : Int) + off = (q.1 : Int)) ∧ fw_S S T q.1 q.2 N B C ∧ fw_cs S T pc offs N B C (i + 1) l
theorem fw_cs_at {S : SI} {offs : Array Int} : ∀ (l : List (Nat × SM)) (i j : Nat) (q : Nat × SM), fw_cs S T pc offs N B C i l → l[j]? = some q → (∃ off, offs[i + j]? = some off ∧ (pc : Int) + off = (q.1 : Int)) ∧ fw_S S T q.1 q.2 N B C
  | [], i, j, q, _, h => by simp at h
  | z :: l, i, 0, q, hc, h => by
    simp only [List.getElem?_cons_zero, Option.some.injEq] at h
    subst h
    exact ⟨hc.1, hc.2.1⟩
  | z :: l, i, j + 1, q, hc, h => by
    rw [List.getElem?_cons_succ] at h
    have := fw_cs_at l (i + 1) j q hc.2.2 h
    rwa [show i + 1 + j = i + (j + 1) by omega] at this
theorem fs_tsw {lo hi dflt : Int} {offs : Array Int} {len pd : Nat} {cs : List (Nat × SM)} {df : SM} (a : fw_E (lay, own, cc, nL, d, r) T 0 pc pc1 0 f) (h : decode cc pc1 = .ok (.tableswitch dflt lo hi offs, len)) (hcs : fw_cs (lay, own, cc, nL, d, r) T pc1 offs N B C 0 cs) (hl : lo + cs.length = hi + 1) (ht : (pc1 : Int) + dflt = (pd : Int)) (hd : fw_S (lay, own, cc, nL, d, r) T pd df N B C) : fw_S (lay, own, cc, nL, d, r) T pc (tsS f lo (cs.map Prod.snd) df) N B C := by
  rintro ⟨p, l, e, R, s, m, args, below, meth, c, D, adr, cA, A, cells, slots, Q⟩ ⟨hx, hb, hml, hown, hts, hK, hA, hR⟩ ρ σ o x ρ' σ' H locs ls hL hM hf k_
  have X : fw_X (lay, own, cc, nL, d, r) (p, l, e, R, s, m, args, below, meth, c, D, adr, cA, A, cells, slots, Q) := ⟨hx, hb, hml, hown, hts, hK, hA, hR⟩
  obtain ⟨y, e1, e2⟩ := bind_some hf
  refine a _ X ρ σ y.1 y.2 H locs ls [] hL hM (Nat.le_refl _) e1 (fun H1 l1 hM1 => ?_)
  rw [List.length_map] at e2
  by_cases hr : lo ≤ w32 y.1 ∧ w32 y.1 < lo + cs.length
  · rw [if_pos hr, List.getElem?_map] at e2
    cases hq : cs[(w32 y.1 - lo).toNat]? with
    | none => rw [hq] at e2; cases e2
    | some q =>
      rw [hq] at e2
      obtain ⟨⟨off, h1, h2⟩, h3⟩ := fw_cs_at cs 0 _ q hcs hq
      rw [Nat.zero_add] at h1
      exact lv_tableIn hx hb h (show ¬ w32 y.1 < lo by omega) (show ¬ hi < w32 y.1 by omega) h1 h2 (h3 _ X ρ y.2 o x ρ' σ' H1 l1 ls hL hM1 e2 k_)
  · rw [if_neg hr] at e2
    exact lv_tableOut hx hb h (show w32 y.1 < lo ∨ hi < w32 y.1 by omega) ht (hd _ X ρ y.2 o x ρ' σ' H1 l1 ls hL hM1 e2 k_)
theorem fs_sw {a : SM} {E : Nat × FT} (A1 : fw_S (lay, own, cc, nL, d, r) T pc a E E C) : fw_S (lay, own, cc, nL, d, r) T pc (swS a) E B C := by
  intro G X ρ σ o x ρ' σ' H locs ls hL hM hf k
  obtain ⟨⟨o1, x1, ρ1, σ1⟩, e1, e2⟩ := bind_some hf
  by_cases h1 : o1 = 1
  · subst h1
    cases e2
    exact A1 G X ρ σ 1 _ _ _ H locs ls hL hM e1 ⟨fun z => absurd z (by decide), fun _ => k.1 rfl, fun z => absurd z (by decide), fun z => absurd z (by decide), fun z => absurd z (by decide)⟩
  · rw [if_neg (show ¬ ((o1, x1, ρ1, σ1) : Nat × Int × Lo × Me).1 = 1 from h1)] at e2
    cases e2
    exact A1 G X ρ σ _ _ _ _ H locs ls hL hM e1 ⟨k.1, fun z => absurd z h1, k.2.2⟩
end FWN
