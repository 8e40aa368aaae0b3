section FWS
variable {lay : List CD} {own : String} {cc : ByteArray} {nL d : Nat} {r : Option Nat} {T T' : FT} {b pc pc1 pc2 pc3 pt pf tgt : Nat} {f g h3 : EM} {off : Int} {N B C : Nat × FT}
/-- what is known of the locals behind a store: T' -/
def fw_tc (T' T : FT) (i t : Nat) : Bool := T'.all fun q => decide (q = (i, t)) || (T.contains q && !(q.1 == i) && !(q.1 + 1 == i && q.2 == 1))
def fw_tl (T' T : FT) (i : Nat) : Bool := T'.all fun q => decide (q = (i, 1)) || (T.contains q && !(q.1 == i) && !(q.1 == i + 1) && !(q.1 + 1 == i && q.2 == 1))
def fw_ts (T' T : FT) : Bool := T'.all fun q => T.contains q
theorem fw_cat {adr : Nat → Nat} {t : Nat} {x : Int} : ((fw_v adr t x).category == 2) = (t == 1) := by
  unfold fw_v
  split <;> rfl
theorem fw_L_sub {G : GX} {S : SI} {ρ : Lo} {ls : Array Slot} (h : fw_ts T' T = true) (hL : fw_L S G T ρ ls) : fw_L S G T' ρ ls := by
  obtain ⟨h1, h2, h3⟩ := hL
  refine ⟨h1, h2, fun q hq => ?_⟩
  obtain ⟨z, hz, rfl⟩ := List.mem_map.mp hq
  have := List.all_eq_true.mp h z hz
  exact h3 _ (List.mem_map.mpr ⟨z, by simpa using this, rfl⟩)
theorem fw_L_st {adr : Nat → Nat} {ρ : Lo} {ls : Array Slot} {i t : Nat} {x : Int} (h : fw_tc T' T i t = true) (hL : lv_has ls nL ((i, fw_v adr t x) :: (T.map fun q => (q.1, fw_v adr q.2 (ρ q.1))).filter (fun q => !(q.1 == i) && !(q.1 + 1 == i && q.2.category == 2)))) : lv_has ls nL (T'.map fun q => (q.1, fw_v adr q.2 (up ρ i x q.1))) := by
  obtain ⟨h1, h2, h3⟩ := hL
  refine ⟨h1, h2, fun q hq => ?_⟩
  obtain ⟨z, hz, rfl⟩ := List.mem_map.mp hq
  have hc := List.all_eq_true.mp h z hz
  simp only [Bool.or_eq_true, Bool.and_eq_true, decide_eq_true_eq, Bool.not_eq_true', List.contains_iff_mem] at hc
  rcases hc with rfl | ⟨⟨c1, c2⟩, c3⟩
  · have : up ρ i x i = x := by simp [up]
    simp only [this]
    exact h3 _ List.mem_cons_self
  · have hne : z.1 ≠ i := by simpa using c2
    have : up ρ i x z.1 = ρ z.1 := by simp [up, hne]
    simp only [this]
    refine h3 _ (List.mem_cons_of_mem _ (List.mem_filter.mpr ⟨List.mem_map.mpr ⟨z, c1, rfl⟩, ?_⟩))
    simp only [fw_cat, c2, c3, Bool.not_false, Bool.and_self]
theorem fw_L_sl {adr : Nat → Nat} {ρ : Lo} {ls : Array Slot} {i : Nat} {x : Int} (h : fw_tl T' T i = true) (hL : lv_has ls nL ((i, fw_v adr 1 x) :: (T.map fun q => (q.1, fw_v adr q.2 (ρ q.1))).filter (fun q => !(q.1 == i) && (!(q.1 == i + 1) && !(q.1 + 1 == i && q.2.category == 2))))) : lv_has ls nL (T'.map fun q => (q.1, fw_v adr q.2 (up ρ i x q.1))) := by
  obtain ⟨h1, h2, h3⟩ := hL
  refine ⟨h1, h2, fun q hq => ?_⟩
  obtain ⟨z, hz, rfl⟩ := List.mem_map.mp hq
  have hc := List.all_eq_true.mp h z hz
  simp only [Bool.or_eq_true, Bool.and_eq_true, decide_eq_true_eq, Bool.not_eq_true', List.contains_iff_mem] at hc
  rcases hc with rfl | ⟨⟨⟨c1, c2⟩, c4⟩, c3⟩
  · have : up ρ i x i = x := by simp [up]
    simp only [this]
    exact h3 _ List.mem_cons_self
  · have hne : z.1 ≠ i := by simpa using c2
    have : up ρ i x z.1 = ρ z.1 := by simp [up, hne]
    simp only [this]
    refine h3 _ (List.mem_cons_of_mem _ (List.mem_filter.mpr ⟨List.mem_map.mpr ⟨z, c1, rfl⟩, ?_⟩))
    simp only [fw_cat, c2, c3, c4, Bool.not_false, Bool.and_self]
theorem fs_ist {i : Nat} (a : fw_E (lay, own, cc, nL, d, r) T 0 pc pc1 0 f) (h : decode cc pc1 = .ok (.istore i, 2)) (hn : i < nL) (hT : fw_tc T' T i 0 = true) : fw_S (lay, own, cc, nL, d, r) T pc (stS i f) (pc1 + 2, T') B C := by
  rintro ⟨p, l, e, R, s, m, args, below, meth, c, D, adr, cA, A, cells, slots, Q⟩ ⟨hx, hb, hml, hown, hts, hK, hA, hR⟩ ρ σ o x ρ' σ' H locs ls hL hM hf k
  have X : fw_X (lay, own, cc, nL, d, r) (p, l, e, R, s, m, args, below, meth, c, D, adr, cA, A, cells, slots, Q) := ⟨hx, hb, hml, hown, hts, hK, hA, hR⟩
  obtain ⟨y, e1, e2⟩ := bind_some hf
  cases e2
  refine a _ X ρ σ y.1 y.2 H locs ls [] hL hM (Nat.le_refl _) e1 (fun H1 l1 hM1 => ?_)
  exact lv_istore hx hb h hL hn rfl (fun ls' hl => k.1 rfl H1 l1 ls' (fw_L_st hT hl) hM1)
theorem fs_istn {i : Nat} {n : Fin 4} (a : fw_E (lay, own, cc, nL, d, r) T 0 pc pc1 0 f) (h : decode cc pc1 = .ok (.istore_n n, 1)) (hn : i < nL) (hT : fw_tc T' T i 0 = true) (hi : (n : Nat) = i := by rfl) : fw_S (lay, own, cc, nL, d, r) T pc (stS i f) (pc1 + 1, T') B C := by
  rintro ⟨p, l, e, R, s, m, args, below, meth, c, D, adr, cA, A, cells, slots, Q⟩ ⟨hx, hb, hml, hown, hts, hK, hA, hR⟩ ρ σ o x ρ' σ' H locs ls hL hM hf k
  have X : fw_X (lay, own, cc, nL, d, r) (p, l, e, R, s, m, args, below, meth, c, D, adr, cA, A, cells, slots, Q) := ⟨hx, hb, hml, hown, hts, hK, hA, hR⟩
  obtain ⟨y, e1, e2⟩ := bind_some hf
  cases e2
  refine a _ X ρ σ y.1 y.2 H locs ls [] hL hM (Nat.le_refl _) e1 (fun H1 l1 hM1 => ?_)
  exact lv_istore_n hx hb h hi hL hn rfl (fun ls' hl => k.1 rfl H1 l1 ls' (fw_L_st hT hl) hM1)
theorem fs_lst {i : Nat} (a : fw_E (lay, own, cc, nL, d, r) T 0 pc pc1 1 f) (h : decode cc pc1 = .ok (.lstore i, 2)) (hn : i + 1 < nL) (hT : fw_tl T' T i = true) : fw_S (lay, own, cc, nL, d, r) T pc (stS i f) (pc1 + 2, T') B C := by
  rintro ⟨p, l, e, R, s, m, args, below, meth, c, D, adr, cA, A, cells, slots, Q⟩ ⟨hx, hb, hml, hown, hts, hK, hA, hR⟩ ρ σ o x ρ' σ' H locs ls hL hM hf k
  have X : fw_X (lay, own, cc, nL, d, r) (p, l, e, R, s, m, args, below, meth, c, D, adr, cA, A, cells, slots, Q) := ⟨hx, hb, hml, hown, hts, hK, hA, hR⟩
  obtain ⟨y, e1, e2⟩ := bind_some hf
  cases e2
  refine a _ X ρ σ y.1 y.2 H locs ls [] hL hM (Nat.le_refl _) e1 (fun H1 l1 hM1 => ?_)
  exact lv_lstore hx hb h hL hn rfl (fun ls' hl => k.1 rfl H1 l1 ls' (fw_L_sl hT hl) hM1)
theorem fs_lstn {i : Nat} {n : Fin 4} (a : fw_E (lay, own, cc, nL, d, r) T 0 pc pc1 1 f) (h : decode cc pc1 = .ok (.lstore_n n, 1)) (hn : i + 1 < nL) (hT : fw_tl T' T i = true) (hi : (n : Nat) = i := by rfl) : fw_S (lay, own, cc, nL, d, r) T pc (stS i f) (pc1 + 1, T') B C := by
  rintro ⟨p, l, e, R, s, m, args, below, meth, c, D, adr, cA, A, cells, slots, Q⟩ ⟨hx, hb, hml, hown, hts, hK, hA, hR⟩ ρ σ o x ρ' σ' H locs ls hL hM hf k
  have X : fw_X (lay, own, cc, nL, d, r) (p, l, e, R, s, m, args, below, meth, c, D, adr, cA, A, cells, slots, Q) := ⟨hx, hb, hml, hown, hts, hK, hA, hR⟩
  obtain ⟨y, e1, e2⟩ := bind_some hf
  cases e2
  refine a _ X ρ σ y.1 y.2 H locs ls [] hL hM (Nat.le_refl _) e1 (fun H1 l1 hM1 => ?_)
  exact lv_lstore_n hx hb h hi hL hn rfl (fun ls' hl => k.1 rfl H1 l1 ls' (fw_L_sl hT hl) hM1)
theorem fs_ast {i q : Nat} (a : fw_E (lay, own, cc, nL, d, r) T 0 pc pc1 (q + 2) f) (h : decode cc pc1 = .ok (.astore i, 2)) (hn : i < nL) (hT : fw_tc T' T i (q + 2) = true) : fw_S (lay, own, cc, nL, d, r) T pc (stS i f) (pc1 + 2, T') B C := by
  rintro ⟨p, l, e, R, s, m, args, below, meth, c, D, adr, cA, A, cells, slots, Q⟩ ⟨hx, hb, hml, hown, hts, hK, hA, hR⟩ ρ σ o x ρ' σ' H locs ls hL hM hf k
  have X : fw_X (lay, own, cc, nL, d, r) (p, l, e, R, s, m, args, below, meth, c, D, adr, cA, A, cells, slots, Q) := ⟨hx, hb, hml, hown, hts, hK, hA, hR⟩
  obtain ⟨y, e1, e2⟩ := bind_some hf
  cases e2
  refine a _ X ρ σ y.1 y.2 H locs ls [] hL hM (Nat.le_refl _) e1 (fun H1 l1 hM1 => ?_)
  exact lv_astore hx hb h hL hn rfl (fun ls' hl => k.1 rfl H1 l1 ls' (fw_L_st hT hl) hM1)
theorem fs_astn {i q : Nat} {n : Fin 4} (a : fw_E (lay, own, cc, nL, d, r) T 0 pc pc1 (q + 2) f) (h : decode cc pc1 = .ok (.astore_n n, 1)) (hn : i < nL) (hT : fw_tc T' T i (q + 2) = true) (hi : (n : Nat) = i := by rfl) : fw_S (lay, own, cc, nL, d, r) T pc (stS i f) (pc1 + 1, T') B C := by
  rintro ⟨p, l, e, R, s, m, args, below, meth, c, D, adr, cA, A, cells, slots, Q⟩ ⟨hx, hb, hml, hown, hts, hK, hA, hR⟩ ρ σ o x ρ' σ' H locs ls hL hM hf k
  have X : fw_X (lay, own, cc, nL, d, r) (p, l, e, R, s, m, args, below, meth, c, D, adr, cA, A, cells, slots, Q) := ⟨hx, hb, hml, hown, hts, hK, hA, hR⟩
  obtain ⟨y, e1, e2⟩ := bind_some hf
  cases e2
  refine a _ X ρ σ y.1 y.2 H locs ls [] hL hM (Nat.le_refl _) e1 (fun H1 l1 hM1 => ?_)
  exact lv_astore_n hx hb h hi hL hn rfl (fun ls' hl => k.1 rfl H1 l1 ls' (fw_L_st hT hl) hM1)
theorem fs_inc {i j : Nat} {n : Int} (hj : T[j]? = some (i, 0)) (h : decode cc pc = .ok (.iinc i n, 3)) (hn : i < nL) (hT : fw_tc T' T i 0 = true) : fw_S (lay, own, cc, nL, d, r) T pc (inS i n) (pc + 3, T') B C := by
  rintro ⟨p, l, e, R, s, m, args, below, meth, c, D, adr, cA, A, cells, slots, Q⟩ ⟨hx, hb, hml, hown, hts, hK, hA, hR⟩ ρ σ o x ρ' σ' H locs ls hL hM hf k
  cases hf
  refine lv_iinc (k := j) (x := Int32.ofInt (ρ i)) (v := Int32.ofInt (ρ i + n)) hx hb h hL (by rw [List.getElem?_map, hj]; rfl) (Int32.ofInt_add _ _).symm hn rfl (fun ls' hl => k.1 rfl H locs ls' (fw_L_st (t := 0) hT hl) hM)
theorem fs_skip (hT : fw_ts T' T = true) : fw_S (lay, own, cc, nL, d, r) T pc skS (pc, T') B C := by
  intro G X ρ σ o x ρ' σ' H locs ls hL hM hf k
  cases hf
  exact k.1 rfl H locs ls (fw_L_sub hT hL) hM
theorem fs_goto {a : SM} (A1 : fw_S (lay, own, cc, nL, d, r) T pc a (pc1, T') B C) (h : decode cc pc1 = .ok (.goto off, 3)) (ht : (pc1 : Int) + off = (tgt : Int)) : fw_S (lay, own, cc, nL, d, r) T pc a (tgt, T') B C := by
  rintro ⟨p, l, e, R, s, m, args, below, meth, c, D, adr, cA, A, cells, slots, Q⟩ ⟨hx, hb, hml, hown, hts, hK, hA, hR⟩ ρ σ o x ρ' σ' H locs ls hL hM hf k
  have X : fw_X (lay, own, cc, nL, d, r) (p, l, e, R, s, m, args, below, meth, c, D, adr, cA, A, cells, slots, Q) := ⟨hx, hb, hml, hown, hts, hK, hA, hR⟩
  refine A1 _ X ρ σ o x ρ' σ' H locs ls hL hM hf ⟨fun e0 H1 l1 ls1 hL1 hM1 => ?_, k.2⟩
  exact lv_goto hx hb h ht (k.1 e0 H1 l1 ls1 hL1 hM1)
theorem fs_weak {a : SM} (A1 : fw_S (lay, own, cc, nL, d, r) T pc a (pc1, T) B C) (hT : fw_ts T' T = true) : fw_S (lay, own, cc, nL, d, r) T pc a (pc1, T') B C := by
  intro G X ρ σ o x ρ' σ' H locs ls hL hM hf k
  exact A1 G X ρ σ o x ρ' σ' H locs ls hL hM hf ⟨fun e0 H1 l1 ls1 hL1 hM1 => k.1 e0 H1 l1 ls1 (fw_L_sub hT hL1) hM1, k.2⟩
theorem fw_K0 {S : SI} {G : GX} {x : Int} {ρ' : Lo} {σ' : Me} (h : ∀ H' locs' ls', fw_L S G N.2 ρ' ls' → fw_M S G σ' H' locs' → fw_W G H' locs' N.1 ls' []) : fw_K S G N B C 0 x ρ' σ' := by
  unfold fw_K
  refine ⟨fun _ => h, ?_, ?_, ?_, ?_⟩ <;> intro z <;> exact absurd z (by decide)
theorem fs_seq {a a2 : SM} {T2 : FT} (A1 : fw_S (lay, own, cc, nL, d, r) T pc a (pc1, T2) B C) (A2 : fw_S (lay, own, cc, nL, d, r) T2 pc1 a2 N B C) : fw_S (lay, own, cc, nL, d, r) T pc (sq a a2) N B C := by
  intro G X ρ σ o x ρ' σ' H locs ls hL hM hf k
  obtain ⟨⟨o1, x1, ρ1, σ1⟩, e1, e2⟩ := bind_some hf
  refine A1 G X ρ σ o1 x1 ρ1 σ1 H locs ls hL hM e1 ?_
  by_cases h0 : o1 = 0
  · subst h0
    exact fw_K0 (fun H1 l1 ls1 hL1 hM1 => A2 G X ρ1 σ1 o x ρ' σ' H1 l1 ls1 hL1 hM1 e2 k)
  · rw [if_neg (show ¬ ((o1, x1, ρ1, σ1) : Nat × Int × Lo × Me).1 = 0 from h0)] at e2
    cases e2
    exact ⟨fun z => absurd z h0, k.2⟩
theorem fs_if {c : BM} {a a2 : SM} (h : fw_B (lay, own, cc, nL, d, r) T 0 pc pt pf c) (A1 : fw_S (lay, own, cc, nL, d, r) T pt a N B C) (A2 : fw_S (lay, own, cc, nL, d, r) T pf a2 N B C) : fw_S (lay, own, cc, nL, d, r) T pc (ifS c a a2) N B C := by
  intro G X ρ σ o x ρ' σ' H locs ls hL hM hf k
  obtain ⟨y, e1, e2⟩ := bind_some hf
  refine h G X ρ σ y.1 y.2 H locs ls [] hL hM (Nat.le_refl _) e1 (fun H1 l1 hM1 => ?_)
  by_cases hy : y.1 = true
  · rw [if_pos hy] at e2 ⊢
    exact A1 G X ρ y.2 o x ρ' σ' H1 l1 ls hL hM1 e2 k
  · rw [if_neg hy] at e2 ⊢
    exact A2 G X ρ y.2 o x ρ' σ' H1 l1 ls hL hM1 e2 k
theorem fs_brk (h : decode cc pc = .ok (.goto off, 3)) (ht : (pc : Int) + off = (tgt : Int)) (hT : fw_ts T' T = true) : fw_S (lay, own, cc, nL, d, r) T pc brS N (tgt, T') C := by
  rintro ⟨p, l, e, R, s, m, args, below, meth, c, D, adr, cA, A, cells, slots, Q⟩ ⟨hx, hb, hml, hown, hts, hK, hA, hR⟩ ρ σ o x ρ' σ' H locs ls hL hM hf k
  cases hf
  exact lv_goto hx hb h ht (k.2.1 rfl H locs ls (fw_L_sub hT hL) hM)
theorem fs_cnt (h : decode cc pc = .ok (.goto off, 3)) (ht : (pc : Int) + off = (tgt : Int)) (hT : fw_ts T' T = true) : fw_S (lay, own, cc, nL, d, r) T pc ctS N B (tgt, T') := by
  rintro ⟨p, l, e, R, s, m, args, below, meth, c, D, adr, cA, A, cells, slots, Q⟩ ⟨hx, hb, hml, hown, hts, hK, hA, hR⟩ ρ σ o x ρ' σ' H locs ls hL hM hf k
  cases hf
  exact lv_goto hx hb h ht (k.2.2.1 rfl H locs ls (fw_L_sub hT hL) hM)
/-- a break, a continue without a jump of its own: what comes next is where it goes -/
theorem fs_brk0 (hT : fw_ts T' T = true) : fw_S (lay, own, cc, nL, d, r) T pc brS N (pc, T') C := by
  intro G X ρ σ o x ρ' σ' H locs ls hL hM hf k
  cases hf
  exact k.2.1 rfl H locs ls (fw_L_sub hT hL) hM
theorem fs_cnt0 (hT : fw_ts T' T = true) : fw_S (lay, own, cc, nL, d, r) T pc ctS N B (pc, T') := by
  intro G X ρ σ o x ρ' σ' H locs ls hL hM hf k
  cases hf
  exact k.2.2.1 rfl H locs ls (fw_L_sub hT hL) hM
theorem fs_ret {t : Nat} (a : fw_E (lay, own, cc, nL, d, some t) T 0 pc pc1 t f) (h : fw_rd cc (some t) pc1) : fw_S (lay, own, cc, nL, d, some t) T pc (rtS f) N B C := by
  intro G X ρ σ o x ρ' σ' H locs ls hL hM hf k
  obtain ⟨y, e1, e2⟩ := bind_some hf
  cases e2
  refine a _ X ρ σ y.1 y.2 H locs ls [] hL hM (Nat.le_refl _) e1 (fun H1 l1 hM1 => ?_)
  exact k.2.2.2.1 rfl H1 l1 ls pc1 h hM1
theorem fs_rv (h : decode cc pc = .ok (.return_, 1)) : fw_S (lay, own, cc, nL, d, none) T pc rvS N B C := by
  intro G X ρ σ o x ρ' σ' H locs ls hL hM hf k
  cases hf
  exact k.2.2.2.1 rfl H locs ls pc h hM
theorem fs_thr (h : fw_td cc pc) : fw_S (lay, own, cc, nL, d, r) T pc thS N B C := by
  rintro ⟨p, l, e, R, s, m, args, below, meth, c, D, adr, cA, A, cells, slots, Q⟩ X ρ σ o x ρ' σ' H locs ls hL hM hf k
  cases hf
  exact k.2.2.2.2 rfl H locs ls pc (show lv_has ls nL _ from hL).1 h hM
theorem fs_while {c : BM} {a u : SM} {n pu : Nat} (h : fw_B (lay, own, cc, nL, d, r) T 0 pc pt pf c) (A1 : fw_S (lay, own, cc, nL, d, r) T pt a (pu, T) (pf, T) (pu, T)) (A2 : fw_S (lay, own, cc, nL, d, r) T pu u (pc, T) (pc, T) (pc, T)) : fw_S (lay, own, cc, nL, d, r) T pc (whS c a u n) (pf, T) B C := by
  intro G X
  induction n with
  | zero => intro ρ σ o x ρ' σ' H locs ls hL hM hf k; cases hf
  | succ n ih =>
    intro ρ σ o x ρ' σ' H locs ls hL hM hf k
    obtain ⟨y, e1, e2⟩ := bind_some hf
    refine h G X ρ σ y.1 y.2 H locs ls [] hL hM (Nat.le_refl _) e1 (fun H1 l1 hM1 => ?_)
    by_cases hy : y.1 = true
    · rw [if_pos hy] at e2 ⊢
      obtain ⟨⟨o1, x1, ρ1, σ1⟩, e3, e4⟩ := bind_some e2
      have next : o1 = 0 ∨ o1 = 2 → ∀ H' locs' ls', fw_L (lay, own, cc, nL, d, r) G T ρ1 ls' → fw_M (lay, own, cc, nL, d, r) G σ1 H' locs' → fw_W G H' locs' pu ls' [] := by
        intro h02 H2 l2 ls2 hL2 hM2
        rw [if_pos (show ((o1, x1, ρ1, σ1) : Nat × Int × Lo × Me).1 = 0 ∨ ((o1, x1, ρ1, σ1) : Nat × Int × Lo × Me).1 = 2 from h02)] at e4
        obtain ⟨⟨o2, x2, ρ2, σ2⟩, e5, e6⟩ := bind_some e4
        by_cases h0 : o2 = 0
        · subst h0
          exact A2 G X ρ1 σ1 0 x2 ρ2 σ2 H2 l2 ls2 hL2 hM2 e5 (fw_K0 (fun H3 l3 ls3 hL3 hM3 => ih ρ2 σ2 o x ρ' σ' H3 l3 ls3 hL3 hM3 e6 k))
        · rw [if_neg (show ¬ ((o2, x2, ρ2, σ2) : Nat × Int × Lo × Me).1 = 0 from h0)] at e6
          cases e6
      refine A1 G X ρ y.2 o1 x1 ρ1 σ1 H1 l1 ls hL hM1 e3 ⟨fun z => next (Or.inl z), fun z => ?_, fun z => next (Or.inr z), fun z => ?_, fun z => ?_⟩
      · subst z
        cases e4
        exact k.1 rfl
      · subst z
        cases e4
        exact k.2.2.2.1 rfl
      · subst z
        cases e4
        exact k.2.2.2.2 rfl
    · rw [if_neg hy] at e2 ⊢
      cases e2
      exact k.1 rfl H1 l1 ls hL hM1
end FWS
