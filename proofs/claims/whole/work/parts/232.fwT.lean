section FWT
variable {lay : List CD} {own : String} {cc : ByteArray} {nL d : Nat} {r : Option Nat} {T T' : FT} {b pc pc1 pc2 pc3 pt pf tgt pe : Nat} {f g h3 : EM} {off : Int} {N B C : Nat × FT}
theorem tbl_at {w : Cond} (i : Nat) (h : tables_1[i]? = some w) : w ∈ lw_tbl := List.mem_append_right _ (List.mem_of_getElem? h)
theorem tb_at {w : Cond} (i : Nat) (h : tables_1[i]? = some w) (hg : goodWord w = true) : w ∈ lw_tb := lw_tb_of (tbl_at i h) hg
theorem tb_sel {w : Cond} (i : Nat) (h : (k2_sels lw_privs)[i]? = some w) (hg : goodWord w = true) : w ∈ lw_tb := lw_tb_of (List.mem_append_left _ (List.mem_of_getElem? h)) hg
theorem fw_lv_mk {index maxL n : Nat} {y : MethodName} {cy : ByteArray} {ret : Option FieldType} (h1 : Cond.methodLink own index y ∈ lw_tb) (h2 : Cond.instanceMethod y ∈ lw_tb) (h3 : Cond.selects y.cls y y ∈ lw_tb) (h4 : Cond.initialized y.cls ∈ lw_tb) (h5 : Cond.code y cy maxL ret ∈ lw_tb) (h6 : y.cls ≠ "java/lang/invoke/MethodHandle" ∧ y.cls ≠ "java/lang/invoke/VarHandle" ∧ (parseMethodDescriptor y.desc).map (fun d => d.parameters.length) = some n) : fw_lv own index y cy maxL ret n := by
  refine ⟨fun w hw => ?_, h6⟩
  simp only [wsV, List.cons_append, List.nil_append, List.mem_cons, List.not_mem_nil, or_false] at hw
  rcases hw with rfl | rfl | rfl | rfl | rfl <;> assumption
theorem fw_ls_mk {index maxL n : Nat} {y : MethodName} {cy : ByteArray} {ret : Option FieldType} (h1 : Cond.methodLink own index y ∈ lw_tb) (h2 : Cond.static y ∈ lw_tb) (h4 : Cond.initialized y.cls ∈ lw_tb) (h5 : Cond.code y cy maxL ret ∈ lw_tb) (h6 : y.cls ≠ "java/lang/invoke/MethodHandle" ∧ y.cls ≠ "java/lang/invoke/VarHandle" ∧ (parseMethodDescriptor y.desc).map (fun d => d.parameters.length) = some n) : fw_ls own index y cy maxL ret n := by
  refine ⟨fun w hw => ?_, h6⟩
  simp only [va_wsS, List.cons_append, List.nil_append, List.mem_cons, List.not_mem_nil, or_false] at hw
  rcases hw with rfl | rfl | rfl | rfl <;> assumption
theorem fe_gt {t : Nat} (a : fw_E (lay, own, cc, nL, d, r) T b pc pc1 t f) (h : decode cc pc1 = .ok (.goto off, 3)) (ht : (pc1 : Int) + off = (tgt : Int)) : fw_E (lay, own, cc, nL, d, r) T b pc tgt t f := by
  rintro ⟨p, l, e, R, s, m, args, below, meth, c, D, adr, cA, A, cells, slots, Q⟩ ⟨hx, hb, hml, hown, hts, hK, hA, hR⟩ ρ σ x σ' H locs ls st hL hM hst hf k
  have X : fw_X (lay, own, cc, nL, d, r) (p, l, e, R, s, m, args, below, meth, c, D, adr, cA, A, cells, slots, Q) := ⟨hx, hb, hml, hown, hts, hK, hA, hR⟩
  exact a _ X ρ σ x σ' H locs ls st hL hM hst hf (fun H1 l1 hM1 => lv_goto hx hb h ht (k H1 l1 hM1))
theorem fe_ternG {c : BM} {t : Nat} (a : fw_B (lay, own, cc, nL, d, r) T b pc pt pf c) (v : fw_E (lay, own, cc, nL, d, r) T b pt pe t f) (v2 : fw_E (lay, own, cc, nL, d, r) T b pf pe t g) : fw_E (lay, own, cc, nL, d, r) T b pc pe t (kE c f g) := by
  intro G X ρ σ x σ' H locs ls st hL hM hst hf k
  obtain ⟨y, e1, e2⟩ := bind_some hf
  refine a G X ρ σ y.1 y.2 H locs ls st hL hM hst e1 (fun H1 l1 hM1 => ?_)
  by_cases hy : y.1 = true
  · rw [if_pos hy] at e2 ⊢
    exact v G X ρ y.2 x σ' H1 l1 ls st hL hM1 hst e2 k
  · rw [if_neg hy] at e2 ⊢
    exact v2 G X ρ y.2 x σ' H1 l1 ls st hL hM1 hst e2 k
theorem fb_gtT {c : BM} (a : fw_B (lay, own, cc, nL, d, r) T b pc pt pf c) (h : decode cc pt = .ok (.goto off, 3)) (ht : (pt : Int) + off = (tgt : Int)) : fw_B (lay, own, cc, nL, d, r) T b pc tgt pf c := by
  rintro ⟨p, l, e, R, s, m, args, below, meth, c, D, adr, cA, A, cells, slots, Q⟩ ⟨hx, hb, hml, hown, hts, hK, hA, hR⟩ ρ σ x σ' H locs ls st hL hM hst hf k
  have X : fw_X (lay, own, cc, nL, d, r) (p, l, e, R, s, m, args, below, meth, c, D, adr, cA, A, cells, slots, Q) := ⟨hx, hb, hml, hown, hts, hK, hA, hR⟩
  refine a _ X ρ σ x σ' H locs ls st hL hM hst hf (fun H1 l1 hM1 => ?_)
  have kk := k H1 l1 hM1
  by_cases hx1 : x = true
  · rw [if_pos hx1] at kk ⊢
    exact lv_goto hx hb h ht kk
  · rw [if_neg hx1] at kk ⊢
    exact kk
theorem fb_tern {c a a2 : BM} {p1 p2 pg : Nat} (hc : fw_B (lay, own, cc, nL, d, r) T b pc p1 p2 c) (ha : fw_B (lay, own, cc, nL, d, r) T b p1 pg pf a) (h : decode cc pg = .ok (.goto off, 3)) (ht : (pg : Int) + off = (pt : Int)) (ha2 : fw_B (lay, own, cc, nL, d, r) T b p2 pt pf a2) : fw_B (lay, own, cc, nL, d, r) T b pc pt pf (tkB c a a2) := by
  intro G X ρ σ x σ' H locs ls st hL hM hst hf k
  obtain ⟨y, e1, e2⟩ := bind_some hf
  refine hc G X ρ σ y.1 y.2 H locs ls st hL hM hst e1 (fun H1 l1 hM1 => ?_)
  by_cases hy : y.1 = true
  · rw [if_pos hy] at e2 ⊢
    exact fb_gtT ha h ht G X ρ y.2 x σ' H1 l1 ls st hL hM1 hst e2 k
  · rw [if_neg hy] at e2 ⊢
    exact ha2 G X ρ y.2 x σ' H1 l1 ls st hL hM1 hst e2 k
theorem fe_alen {k n ty : Nat} (a : fw_E (lay, own, cc, nL, d, r) T b pc pc1 (k + 2) f) (hk : lay[k]? = some (.inr (ty, n))) (ht : ty < 4) (h : decode cc pc1 = .ok (.arraylength, 1)) : fw_E (lay, own, cc, nL, d, r) T b pc (pc1 + 1) 0 (thE f (cE n)) := by
  rintro ⟨p, l, e, R, s, m, args, below, meth, c, D, adr, cA, A, cells, slots, Q⟩ ⟨hx, hb, hml, hown, hts, hK, hA, hR⟩ ρ σ x σ' H locs ls st hL hM hst hf k_
  have X : fw_X (lay, own, cc, nL, d, r) (p, l, e, R, s, m, args, below, meth, c, D, adr, cA, A, cells, slots, Q) := ⟨hx, hb, hml, hown, hts, hK, hA, hR⟩
  obtain ⟨y, e1, e2⟩ := bind_some hf
  cases e2
  refine a _ X ρ σ y.1 y.2 H locs ls st hL hM hst e1 (fun H1 l1 hM1 => ?_)
  have ht2 : (fw_t cA)[ty]? = some (cA ty, ([.int, .long, .byte, .boolean] : List FieldType).getD ty .int) := by
    match ty, ht with
    | 0, _ => rfl
    | 1, _ => rfl
    | 2, _ => rfl
    | 3, _ => rfl
  exact va_alen hx hb hK hM1.1 k ty (fw_w_at hk) ht2 rfl h (k_ H1 l1 hM1)
/-- the call itself, its arguments on the stack -/
theorem fw_inv {k ci index d' maxL Nc : Nat} {rt : Option Nat} {ts : List Nat} {y : MethodName} {cy : ByteArray} {ret : Option FieldType} {fm : FM} {fs : List (Nat × Nat)} {Tt : u_T} {p : Program} {l : Launch} {e : Env} {R : Room} {s : State} {m : MethodId} {args : Array Value} {below : List Frame} {meth : Method} {c : Code} {D : va_G} {adr : Nat → Nat} {cA : Nat → ClassId} {A : Nat → Prop} {cells slots : Nat} {Q : State → Prop} {ρ : Lo} {σ1 σ' : Me} {x x0 : Int} {xr : List Int} {H1 : Heap} {l2 : List Loc} {ls : Array Slot} {st : List Value} (M : fw_C lay y cy maxL ret d' ((k + 2) :: ts) rt fm) (hw : fw_lv own index y cy maxL ret ts.length) (hk : lay[k]? = some (.inl (ci, fs))) (hc : vwCl[ci]? = some (y.cls, Tt, Nc)) (hd : d' + 1 ≤ d) (hm : maxL ≤ 21) (h : decode cc pc1 = .ok (.invokevirtual index, 3)) (X : fw_X (lay, own, cc, nL, d, r) (p, l, e, R, s, m, args, below, meth, c, D, adr, cA, A, cells, slots, Q)) (hL : fw_L (lay, own, cc, nL, d, r) (p, l, e, R, s, m, args, below, meth, c, D, adr, cA, A, cells, slots, Q) T ρ ls) (hM1 : fw_M (lay, own, cc, nL, d, r) (p, l, e, R, s, m, args, below, meth, c, D, adr, cA, A, cells, slots, Q) σ1 H1 l2) (hst : (st.map fun v => v.category).sum ≤ 8) (hl2 : xr.length = ts.length) (e2 : fm (x0 :: xr) σ1 = some (x, σ')) (kk : ∀ H' locs', fw_M (lay, own, cc, nL, d, r) (p, l, e, R, s, m, args, below, meth, c, D, adr, cA, A, cells, slots, Q) σ' H' locs' → fw_W (p, l, e, R, s, m, args, below, meth, c, D, adr, cA, A, cells, slots, Q) H' locs' (pc1 + 3) ls ((rt.map fun t => fw_v adr t x).toList ++ st)) : fw_W (p, l, e, R, s, m, args, below, meth, c, D, adr, cA, A, cells, slots, Q) H1 l2 pc1 ls ((List.zipWith (fw_v adr) ts xr).reverse ++ .ref (adr k) :: st) := by
  obtain ⟨hx, hb, hml, hown, hts, hK, hA, hR⟩ := X
  have run := va_runV (e := e) (below := below) (meth := meth) (g := F0 m pc1 ls ((List.zipWith (fw_v adr) ts xr).reverse ++ .ref (adr k) :: st)) (As := List.zipWith (fw_v adr) ts xr) (rest := st) ⟨hx, hb, hml, hown, hts⟩ (M l D adr cA (x0 :: xr) σ1 σ' x H1.size (by simp [hl2]) e2) (cwV (R := R) ts.length hts (fw_goodV hw.1) rfl rfl rfl ⟨rfl, hw.2⟩ ⟨by show d' + 1 ≤ R.frames; omega, by show 8 + (maxL + 11) + 40 * d' ≤ R.locals; omega⟩) ⟨fw_blind, va_recv hK hM1.1 hc (fw_w_at hk), fun U hU hW => ⟨rfl, by rw [hU], by rw [hU]; exact hM1.1, va_K.moved hW.alike hK, fw_nw_warm hW hR.2.2.2.2.2, hM1.2.1.weaken (fun _ _ _ _ => trivial)⟩⟩ rfl (by simp [hl2]) (show lv_has ls nL _ from hL).1 rfl (lv_room hst) h (cells := cells) (slots := slots) (locs := l2) ⟨by omega, by omega⟩
  exact fw_back (nL := nL) (own := own) (cc := cc) (d := d) (r := r) (Q := Q) run hA hM1 kk
/-- x.m(c ? a : b) -/
theorem fs_callT {k k1 k2 ci index d1 d2 maxL Nc : Nat} {c : BM} {y : MethodName} {cy : ByteArray} {ret : Option FieldType} {f1 f2 : FM} {fs : List (Nat × Nat)} {Tt : u_T} (ob : fw_E (lay, own, cc, nL, d, r) T 0 pc pc1 (k + 2) f) (hc : fw_B (lay, own, cc, nL, d, r) T 1 pc1 pt pf c) (a1 : fw_E (lay, own, cc, nL, d, r) T 1 pt pe (k1 + 2) g) (a2 : fw_E (lay, own, cc, nL, d, r) T 1 pf pe (k2 + 2) h3)
    (M1 : fw_C lay y cy maxL ret d1 [k + 2, k1 + 2] none f1) (M2 : fw_C lay y cy maxL ret d2 [k + 2, k2 + 2] none f2) (hw : fw_lv own index y cy maxL ret 1) (hk : lay[k]? = some (.inl (ci, fs))) (hci : vwCl[ci]? = some (y.cls, Tt, Nc)) (hd1 : d1 + 1 ≤ d) (hd2 : d2 + 1 ≤ d) (hm : maxL ≤ 21) (h : decode cc pe = .ok (.invokevirtual index, 3)) (hT : fw_ts T' T = true) (hpure : ∀ ρ σ, f ρ σ = some (0, σ)) : fw_S (lay, own, cc, nL, d, r) T pc (ifS c (exS (clE f1 [f, g])) (exS (clE f2 [f, h3]))) (pe + 3, T') B C := by
  rintro ⟨p, l, e, R, s, m, args, below, meth, c, D, adr, cA, A, cells, slots, Q⟩ ⟨hx, hb, hml, hown, hts, hK, hA, hR⟩ ρ σ o x ρ' σ' H locs ls hL hM hf k_
  have X : fw_X (lay, own, cc, nL, d, r) (p, l, e, R, s, m, args, below, meth, c, D, adr, cA, A, cells, slots, Q) := ⟨hx, hb, hml, hown, hts, hK, hA, hR⟩
  obtain ⟨y1, e1, e2⟩ := bind_some hf
  have c1 : tcat (k + 2) = 1 := if_neg (by omega)
  refine ob _ X ρ σ 0 σ H locs ls [] hL hM (Nat.le_refl _) (hpure ρ σ) (fun H1 l1 hM1 => ?_)
  refine hc _ X ρ σ y1.1 y1.2 H1 l1 ls _ hL hM1 (by simp only [List.map_cons, List.sum_cons, List.map_nil, List.sum_nil, fw_tcat]; omega) e1 (fun H2 l2 hM2 => ?_)
  by_cases hy : y1.1 = true
  · rw [if_pos hy] at e2 ⊢
    obtain ⟨y0, e0, e00⟩ := bind_some e2
    cases e00
    obtain ⟨⟨xs, σ1⟩, e3, e4⟩ := bind_some e0
    obtain ⟨u0, u1, u2⟩ := bind_some e3
    rw [hpure] at u1
    cases u1
    obtain ⟨⟨xs2, σ2⟩, v1, v2⟩ := bind_some u2
    cases v2
    obtain ⟨w0, w1, w2⟩ := bind_some v1
    cases w2
    refine a1 _ X ρ y1.2 w0.1 w0.2 H2 l2 ls _ hL hM2 (by simp only [List.map_cons, List.sum_cons, List.map_nil, List.sum_nil, fw_tcat]; omega) w1 (fun H3 l3 hM3 => ?_)
    exact fw_inv (xr := [w0.1]) (st := []) M1 hw hk hci hd1 hm h X hL hM3 (by simp) rfl e4 (fun H' l' hM' => k_.1 rfl H' l' ls (fw_L_sub hT hL) hM')
  · rw [if_neg hy] at e2 ⊢
    obtain ⟨y0, e0, e00⟩ := bind_some e2
    cases e00
    obtain ⟨⟨xs, σ1⟩, e3, e4⟩ := bind_some e0
    obtain ⟨u0, u1, u2⟩ := bind_some e3
    rw [hpure] at u1
    cases u1
    obtain ⟨⟨xs2, σ2⟩, v1, v2⟩ := bind_some u2
    cases v2
    obtain ⟨w0, w1, w2⟩ := bind_some v1
    cases w2
    refine a2 _ X ρ y1.2 w0.1 w0.2 H2 l2 ls _ hL hM2 (by simp only [List.map_cons, List.sum_cons, List.map_nil, List.sum_nil, fw_tcat]; omega) w1 (fun H3 l3 hM3 => ?_)
    exact fw_inv (xr := [w0.1]) (st := []) M2 hw hk hci hd2 hm h X hL hM3 (by simp) rfl e4 (fun H' l' hM' => k_.1 rfl H' l' ls (fw_L_sub hT hL) hM')
end FWT
