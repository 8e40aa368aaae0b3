section FWD
variable {lay : List CD} {own : String} {cc : ByteArray} {nL d : Nat} {r : Option Nat} {T T' : FT} {b pc pc1 pc2 pc3 pt pf tgt : Nat} {f g h3 : EM} {off : Int} {N B C : Nat × FT}
theorem lw_good : lw_tb.all goodWord = true := List.all_eq_true.mpr fun _ h => (List.mem_filter.mp h).2
/-- a call's words, and how many it takes -/
def fw_lv (own : String) (index : Nat) (y : MethodName) (cy : ByteArray) (maxL : Nat) (ret : Option FieldType) (n : Nat) : Prop := (∀ w ∈ wsV own index y.cls y [.code y cy maxL ret], w ∈ lw_tb) ∧ y.cls ≠ "java/lang/invoke/MethodHandle" ∧ y.cls ≠ "java/lang/invoke/VarHandle" ∧ (parseMethodDescriptor y.desc).map (fun d => d.parameters.length) = some n
def fw_ls (own : String) (index : Nat) (y : MethodName) (cy : ByteArray) (maxL : Nat) (ret : Option FieldType) (n : Nat) : Prop := (∀ w ∈ va_wsS own index y [.code y cy maxL ret], w ∈ lw_tb) ∧ y.cls ≠ "java/lang/invoke/MethodHandle" ∧ y.cls ≠ "java/lang/invoke/VarHandle" ∧ (parseMethodDescriptor y.desc).map (fun d => d.parameters.length) = some n
theorem fw_goodV {own C : String} {index : Nat} {y : MethodName} {cd : Cond} (h : ∀ w ∈ wsV own index C y [cd], w ∈ lw_tb) : GoodIn lw_tb (wsV own index C y (cd :: lw_tb)) := by
  intro w hw
  have hm : w ∈ lw_tb := by
    unfold wsV at hw h
    rcases List.mem_append.mp hw with z | z
    · exact h w (List.mem_append_left _ z)
    · rcases List.mem_cons.mp z with rfl | z
      · exact h _ (List.mem_append_right _ List.mem_cons_self)
      · exact z
  exact ⟨hm, good_of_word (List.all_eq_true.mp lw_good w hm)⟩
theorem fw_goodS {own : String} {index : Nat} {y : MethodName} {cd : Cond} (h : ∀ w ∈ va_wsS own index y [cd], w ∈ lw_tb) : GoodIn lw_tb (va_wsS own index y (cd :: lw_tb)) := by
  intro w hw
  have hm : w ∈ lw_tb := by
    unfold va_wsS at hw h
    rcases List.mem_append.mp hw with z | z
    · exact h w (List.mem_append_left _ z)
    · rcases List.mem_cons.mp z with rfl | z
      · exact h _ (List.mem_append_right _ List.mem_cons_self)
      · exact z
  exact ⟨hm, good_of_word (List.all_eq_true.mp lw_good w hm)⟩
theorem fe_callV {k ci index d' maxL Nc : Nat} {t : Nat} {ts : List Nat} {l1 : List EM} {y : MethodName} {cy : ByteArray} {ret : Option FieldType} {fm : FM} {fs : List (Nat × Nat)} {Tt : u_T} (as : fw_A (lay, own, cc, nL, d, r) T b pc pc1 ((k + 2) :: ts) l1) (M : fw_C lay y cy maxL ret d' ((k + 2) :: ts) (some t) fm) (hw : fw_lv own index y cy maxL ret ts.length) (hk : lay[k]? = some (.inl (ci, fs))) (hc : vwCl[ci]? = some (y.cls, Tt, Nc)) (hn : l1.length = ts.length + 1) (hd : d' + 1 ≤ d) (hm : maxL ≤ 21) (hb8 : b ≤ 8) (h : decode cc pc1 = .ok (.invokevirtual index, 3)) : fw_E (lay, own, cc, nL, d, r) T b pc (pc1 + 3) t (clE fm l1) := by
  rintro ⟨p, l, e, R, s, m, args, below, meth, c, D, adr, cA, A, cells, slots, Q⟩ ⟨hx, hb, hml, hown, hts, hK, hA, hR⟩ ρ σ x σ' H locs ls st hL hM hst hf k_
  have X : fw_X (lay, own, cc, nL, d, r) (p, l, e, R, s, m, args, below, meth, c, D, adr, cA, A, cells, slots, Q) := ⟨hx, hb, hml, hown, hts, hK, hA, hR⟩
  obtain ⟨z, e1, e2⟩ := bind_some hf
  obtain ⟨xs, σ1⟩ := z
  have hlen : xs.length = ts.length + 1 := (aE_len l1 e1).trans hn
  cases xs with
  | nil => simp at hlen
  | cons x0 xr =>
    refine as _ X ρ σ (x0 :: xr) σ1 H locs ls st hL hM hst e1 (fun H1 l2 hM1 => ?_)
    have hl2 : xr.length = ts.length := by simpa using hlen
    have run := va_runV (e := e) (below := below) (meth := meth) (g := F0 m pc1 ls ((List.zipWith (fw_v adr) ts xr).reverse ++ .ref (adr k) :: st)) (As := List.zipWith (fw_v adr) ts xr) (rest := st) ⟨hx, hb, hml, hown, hts⟩ (M l D adr cA (x0 :: xr) σ1 σ' x H1.size (by simp [hl2]) e2) (cwV (R := R) ts.length hts (fw_goodV hw.1) rfl rfl rfl ⟨rfl, hw.2⟩ ⟨by show d' + 1 ≤ R.frames; omega, by show 8 + (maxL + 11) + 40 * d' ≤ R.locals; omega⟩) ⟨fw_blind, va_recv hK hM1.1 hc (fw_w_at hk), fun U hU hW => ⟨rfl, by rw [hU], by rw [hU]; exact hM1.1, va_K.moved hW.alike hK, fw_nw_warm hW hR.2.2.2.2.2, hM1.2.1.weaken (fun _ _ _ _ => trivial)⟩⟩ rfl (by simp [hl2]) (show lv_has ls nL _ from hL).1 rfl (lv_room (Nat.le_trans hst hb8)) h (cells := cells) (slots := slots) (locs := l2) ⟨by omega, by omega⟩
    have kk := fw_back (nL := nL) (own := own) (cc := cc) (d := d) (r := r) (Q := Q) run hA hM1 (fun H' l' hM' => k_ H' l' hM')
    simp only [fw_W, fw_val, List.zipWith_cons_cons, List.reverse_cons, List.append_assoc, List.cons_append, List.nil_append] at kk ⊢
    exact kk
theorem fs_callV {k ci index d' maxL Nc : Nat} {t : Nat} {ts : List Nat} {l1 : List EM} {y : MethodName} {cy : ByteArray} {ret : Option FieldType} {fm : FM} {fs : List (Nat × Nat)} {Tt : u_T} (as : fw_A (lay, own, cc, nL, d, r) T 0 pc pc1 ((k + 2) :: ts) l1) (M : fw_C lay y cy maxL ret d' ((k + 2) :: ts) none fm) (hw : fw_lv own index y cy maxL ret ts.length) (hk : lay[k]? = some (.inl (ci, fs))) (hc : vwCl[ci]? = some (y.cls, Tt, Nc)) (hn : l1.length = ts.length + 1) (hd : d' + 1 ≤ d) (hm : maxL ≤ 21) (h : decode cc pc1 = .ok (.invokevirtual index, 3)) (hT : fw_ts T' T = true) : fw_S (lay, own, cc, nL, d, r) T pc (exS (clE fm l1)) (pc1 + 3, T') B C := by
  rintro ⟨p, l, e, R, s, m, args, below, meth, c, D, adr, cA, A, cells, slots, Q⟩ ⟨hx, hb, hml, hown, hts, hK, hA, hR⟩ ρ σ o x ρ' σ' H locs ls hL hM hf k_
  have X : fw_X (lay, own, cc, nL, d, r) (p, l, e, R, s, m, args, below, meth, c, D, adr, cA, A, cells, slots, Q) := ⟨hx, hb, hml, hown, hts, hK, hA, hR⟩
  obtain ⟨y0, e0, e00⟩ := bind_some hf
  cases e00
  obtain ⟨z, e1, e2⟩ := bind_some e0
  obtain ⟨xs, σ1⟩ := z
  have hlen : xs.length = ts.length + 1 := (aE_len l1 e1).trans hn
  cases xs with
  | nil => simp at hlen
  | cons x0 xr =>
    refine as _ X ρ σ (x0 :: xr) σ1 H locs ls [] hL hM (Nat.le_refl _) e1 (fun H1 l2 hM1 => ?_)
    have hl2 : xr.length = ts.length := by simpa using hlen
    have run := va_runV (e := e) (below := below) (meth := meth) (g := F0 m pc1 ls ((List.zipWith (fw_v adr) ts xr).reverse ++ .ref (adr k) :: [])) (As := List.zipWith (fw_v adr) ts xr) (rest := []) ⟨hx, hb, hml, hown, hts⟩ (M l D adr cA (x0 :: xr) σ1 y0.2 y0.1 H1.size (by simp [hl2]) e2) (cwV (R := R) ts.length hts (fw_goodV hw.1) rfl rfl rfl ⟨rfl, hw.2⟩ ⟨by show d' + 1 ≤ R.frames; omega, by show 8 + (maxL + 11) + 40 * d' ≤ R.locals; omega⟩) ⟨fw_blind, va_recv hK hM1.1 hc (fw_w_at hk), fun U hU hW => ⟨rfl, by rw [hU], by rw [hU]; exact hM1.1, va_K.moved hW.alike hK, fw_nw_warm hW hR.2.2.2.2.2, hM1.2.1.weaken (fun _ _ _ _ => trivial)⟩⟩ rfl (by simp [hl2]) (show lv_has ls nL _ from hL).1 rfl (lv_room (by simp)) h (cells := cells) (slots := slots) (locs := l2) ⟨by omega, by omega⟩
    have kk := fw_back (nL := nL) (own := own) (cc := cc) (d := d) (r := r) (Q := Q) run hA hM1 (fun H' l' hM' => k_.1 rfl H' l' ls (fw_L_sub hT hL) hM')
    simp only [fw_W, fw_val, List.zipWith_cons_cons, List.reverse_cons, List.append_assoc, List.cons_append, List.nil_append] at kk ⊢
    exact kk
theorem fe_callS {index d' maxL : Nat} {t : Nat} {ts : List Nat} {l1 : List EM} {y : MethodName} {cy : ByteArray} {ret : Option FieldType} {fm : FM} (as : fw_A (lay, own, cc, nL, d, r) T b pc pc1 ts l1) (M : fw_C lay y cy maxL ret d' ts (some t) fm) (hw : fw_ls own index y cy maxL ret ts.length) (hn : l1.length = ts.length) (hd : d' + 1 ≤ d) (hm : maxL ≤ 21) (hb8 : b ≤ 8) (h : decode cc pc1 = .ok (.invokestatic index, 3)) : fw_E (lay, own, cc, nL, d, r) T b pc (pc1 + 3) t (clE fm l1) := by
  rintro ⟨p, l, e, R, s, m, args, below, meth, c, D, adr, cA, A, cells, slots, Q⟩ ⟨hx, hb, hml, hown, hts, hK, hA, hR⟩ ρ σ x σ' H locs ls st hL hM hst hf k_
  have X : fw_X (lay, own, cc, nL, d, r) (p, l, e, R, s, m, args, below, meth, c, D, adr, cA, A, cells, slots, Q) := ⟨hx, hb, hml, hown, hts, hK, hA, hR⟩
  obtain ⟨z, e1, e2⟩ := bind_some hf
  obtain ⟨xs, σ1⟩ := z
  have hlen : xs.length = ts.length := (aE_len l1 e1).trans hn
  refine as _ X ρ σ xs σ1 H locs ls st hL hM hst e1 (fun H1 l2 hM1 => ?_)
  have run := va_runS (e := e) (below := below) (meth := meth) (g := F0 m pc1 ls ((List.zipWith (fw_v adr) ts xs).reverse ++ st)) (As := List.zipWith (fw_v adr) ts xs) (rest := st) ⟨hx, hb, hml, hown, hts⟩ (M l D adr cA xs σ1 σ' x H1.size hlen e2) (va_cwS (R := R) ts.length hts (fw_goodS hw.1) rfl rfl rfl hw.2 ⟨by show d' + 1 ≤ R.frames; omega, by show 8 + (maxL + 11) + 40 * d' ≤ R.locals; omega⟩) ⟨fw_blind, fun U hU hW => ⟨rfl, by rw [hU], by rw [hU]; exact hM1.1, va_K.moved hW.alike hK, fw_nw_warm hW hR.2.2.2.2.2, hM1.2.1.weaken (fun _ _ _ _ => trivial)⟩⟩ rfl (by simp [hlen]) (show lv_has ls nL _ from hL).1 rfl (lv_room (Nat.le_trans hst hb8)) h (cells := cells) (slots := slots) (locs := l2) ⟨by omega, by omega⟩
  exact fw_back (nL := nL) (own := own) (cc := cc) (d := d) (r := r) (Q := Q) run hA hM1 (fun H' l' hM' => k_ H' l' hM')
theorem fs_callS {index d' maxL : Nat} {t : Nat} {ts : List Nat} {l1 : List EM} {y : MethodName} {cy : ByteArray} {ret : Option FieldType} {fm : FM} (as : fw_A (lay, own, cc, nL, d, r) T 0 pc pc1 ts l1) (M : fw_C lay y cy maxL ret d' ts none fm) (hw : fw_ls own index y cy maxL ret ts.length) (hn : l1.length = ts.length) (hd : d' + 1 ≤ d) (hm : maxL ≤ 21) (h : decode cc pc1 = .ok (.invokestatic index, 3)) (hT : fw_ts T' T = true) : fw_S (lay, own, cc, nL, d, r) T pc (exS (clE fm l1)) (pc1 + 3, T') B C := by
  rintro ⟨p, l, e, R, s, m, args, below, meth, c, D, adr, cA, A, cells, slots, Q⟩ ⟨hx, hb, hml, hown, hts, hK, hA, hR⟩ ρ σ o x ρ' σ' H locs ls hL hM hf k_
  have X : fw_X (lay, own, cc, nL, d, r) (p, l, e, R, s, m, args, below, meth, c, D, adr, cA, A, cells, slots, Q) := ⟨hx, hb, hml, hown, hts, hK, hA, hR⟩
  obtain ⟨y0, e0, e00⟩ := bind_some hf
  cases e00
  obtain ⟨z, e1, e2⟩ := bind_some e0
  obtain ⟨xs, σ1⟩ := z
  have hlen : xs.length = ts.length := (aE_len l1 e1).trans hn
  refine as _ X ρ σ xs σ1 H locs ls [] hL hM (Nat.le_refl _) e1 (fun H1 l2 hM1 => ?_)
  have run := va_runS (e := e) (below := below) (meth := meth) (g := F0 m pc1 ls ((List.zipWith (fw_v adr) ts xs).reverse ++ [])) (As := List.zipWith (fw_v adr) ts xs) (rest := []) ⟨hx, hb, hml, hown, hts⟩ (M l D adr cA xs σ1 y0.2 y0.1 H1.size hlen e2) (va_cwS (R := R) ts.length hts (fw_goodS hw.1) rfl rfl rfl hw.2 ⟨by show d' + 1 ≤ R.frames; omega, by show 8 + (maxL + 11) + 40 * d' ≤ R.locals; omega⟩) ⟨fw_blind, fun U hU hW => ⟨rfl, by rw [hU], by rw [hU]; exact hM1.1, va_K.moved hW.alike hK, fw_nw_warm hW hR.2.2.2.2.2, hM1.2.1.weaken (fun _ _ _ _ => trivial)⟩⟩ rfl (by simp [hlen]) (show lv_has ls nL _ from hL).1 rfl (lv_room (by simp)) h (cells := cells) (slots := slots) (locs := l2) ⟨by omega, by omega⟩
  exact fw_back (nL := nL) (own := own) (cc := cc) (d := d) (r := r) (Q := Q) run hA hM1 (fun H' l' hM' => k_.1 rfl H' l' ls (fw_L_sub hT hL) hM')
end FWD
