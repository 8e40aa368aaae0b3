section FWM
variable {lay : List CD} {own : String} {cc : ByteArray} {nL d : Nat} {r : Option Nat} {T T' : FT} {b pc pc1 pc2 pc3 pt pf tgt : Nat} {f g h3 : EM} {off : Int} {N B C : Nat × FT}
/-- a static method of the nest's host, private there -/
def fw_ln (own : String) (index : Nat) (y : MethodName) (host : String) (cy : ByteArray) (maxL : Nat) (ret : Option FieldType) (n : Nat) : Prop := Cond.methodLinkNest own index y host ∈ lw_tbl ∧ Cond.static y ∈ lw_tb ∧ Cond.initialized y.cls ∈ lw_tb ∧ Cond.code y cy maxL ret ∈ lw_tb ∧ y.cls ≠ "java/lang/invoke/MethodHandle" ∧ y.cls ≠ "java/lang/invoke/VarHandle" ∧ (parseMethodDescriptor y.desc).map (fun d => d.parameters.length) = some n
theorem fe_callSN {index d' maxL : Nat} {t : Nat} {ts : List Nat} {l1 : List EM} {y : MethodName} {host : String} {cy : ByteArray} {ret : Option FieldType} {fm : FM} (as : fw_A (lay, own, cc, nL, d, r) T b pc pc1 ts l1) (M : fw_C lay y cy maxL ret d' ts (some t) fm) (hw : fw_ln own index y host cy maxL ret ts.length) (hn : l1.length = ts.length) (hd : d' + 1 ≤ d) (hm : maxL ≤ 21) (hb8 : b ≤ 8) (h : decode cc pc1 = .ok (.invokestatic index, 3)) : fw_E (lay, own, cc, nL, d, r) T b pc (pc1 + 3) t (clE fm l1) := by
  rintro ⟨p, l, e, R, s, m, args, below, meth, c, D, adr, cA, A, cells, slots, Q⟩ ⟨hx, hb, hml, hown, hts, hK, hA, hR⟩ ρ σ x σ' H locs ls st hL hM hst hf k_
  have X : fw_X (lay, own, cc, nL, d, r) (p, l, e, R, s, m, args, below, meth, c, D, adr, cA, A, cells, slots, Q) := ⟨hx, hb, hml, hown, hts, hK, hA, hR⟩
  obtain ⟨z, e1, e2⟩ := bind_some hf
  obtain ⟨xs, σ1⟩ := z
  have hlen : xs.length = ts.length := (aE_len l1 e1).trans hn
  refine as _ X ρ σ xs σ1 H locs ls st hL hM hst e1 (fun H1 l2 hM1 => ?_)
  have hg : GoodIn lw_tb (Cond.code y cy maxL ret :: lw_tb) := by
    intro w hw'
    have hm : w ∈ lw_tb := by
      rcases List.mem_cons.mp hw' with rfl | z
      · exact hw.2.2.2.1
      · exact z
    exact ⟨hm, good_of_word (List.all_eq_true.mp lw_good w hm)⟩
  have run := va_runSN (e := e) (below := below) (meth := meth) (g := F0 m pc1 ls ((List.zipWith (fw_v adr) ts xs).reverse ++ st)) (As := List.zipWith (fw_v adr) ts xs) (rest := st) ⟨hx, hb, hml, hown, hts⟩ (M l D adr cA xs σ1 σ' x H1.size hlen e2) ⟨va_cnB (R := R) ts.length hts hg rfl rfl rfl (hR.2.2.2.2.2 _ _ _ _ hw.1) (hts _ hw.2.2.1) hw.2.2.2.2 ⟨by show d' + 1 ≤ R.frames; omega, by show 8 + (maxL + 11) + 40 * d' ≤ R.locals; omega⟩, hts _ hw.2.1, trivial⟩ ⟨fw_blind, fun U hU hW => ⟨rfl, by rw [hU], by rw [hU]; exact hM1.1, va_K.moved hW.alike hK, fw_nw_warm hW hR.2.2.2.2.2, hM1.2.1.weaken (fun _ _ _ _ => trivial)⟩⟩ rfl (by simp [hlen]) (show lv_has ls nL _ from hL).1 rfl (lv_room (Nat.le_trans hst hb8)) h (cells := cells) (slots := slots) (locs := l2) ⟨by omega, by omega⟩
  exact fw_back (nL := nL) (own := own) (cc := cc) (d := d) (r := r) (Q := Q) run hA hM1 (fun H' l' hM' => k_ H' l' hM')
/-- a value that nobody wants -/
theorem fs_pop {t : Nat} (a : fw_E (lay, own, cc, nL, d, r) T 0 pc pc1 t f) (ht : tcat t = 1) (h : decode cc pc1 = .ok (.pop, 1)) (hT : fw_ts T' T = true) : fw_S (lay, own, cc, nL, d, r) T pc (exS f) (pc1 + 1, T') B C := by
  rintro ⟨p, l, e, R, s, m, args, below, meth, c, D, adr, cA, A, cells, slots, Q⟩ ⟨hx, hb, hml, hown, hts, hK, hA, hR⟩ ρ σ o x ρ' σ' H locs ls hL hM hf k_
  have X : fw_X (lay, own, cc, nL, d, r) (p, l, e, R, s, m, args, below, meth, c, D, adr, cA, A, cells, slots, Q) := ⟨hx, hb, hml, hown, hts, hK, hA, hR⟩
  obtain ⟨y, e1, e2⟩ := bind_some hf
  cases e2
  refine a _ X ρ σ y.1 y.2 H locs ls [] hL hM (Nat.le_refl _) e1 (fun H1 l1 hM1 => ?_)
  refine lv_pop hx hb h ?_ (k_.1 rfl H1 l1 ls (fw_L_sub hT hL) hM1)
  exact (fw_tcat (G := (p, l, e, R, s, m, args, below, meth, c, D, adr, cA, A, cells, slots, Q)) (t := t) (x := y.1)).trans ht
/-- the words of Math.min, Math.max -/
def fw_mn (own : String) (index : Nat) : Prop := Cond.methodLink own index Lib.Math.min.name ∈ lw_tb ∧ Cond.static Lib.Math.min.name ∈ lw_tb ∧ Cond.initialized "java/lang/Math" ∈ lw_tb ∧ Cond.code Lib.Math.min.name Lib.Math.min.code 2 (some .int) ∈ lw_tb
def fw_mx (own : String) (index : Nat) : Prop := Cond.methodLink own index Lib.Math.max.name ∈ lw_tb ∧ Cond.static Lib.Math.max.name ∈ lw_tb ∧ Cond.initialized "java/lang/Math" ∈ lw_tb ∧ Cond.code Lib.Math.max.name Lib.Math.max.code 2 (some .int) ∈ lw_tb
theorem fe_min {index : Nat} (a : fw_E (lay, own, cc, nL, d, r) T b pc pc1 0 f) (a2 : fw_E (lay, own, cc, nL, d, r) T (b + 1) pc1 pc2 0 g) (hw : fw_mn own index) (hd : 1 ≤ d) (hb8 : b ≤ 8) (h : decode cc pc2 = .ok (.invokestatic index, 3)) : fw_E (lay, own, cc, nL, d, r) T b pc (pc2 + 3) 0 (o2 minI f g) := by
  rintro ⟨p, l, e, R, s, m, args, below, meth, c, D, adr, cA, A, cells, slots, Q⟩ ⟨hx, hb, hml, hown, hts, hK, hA, hR⟩ ρ σ x σ' H locs ls st hL hM hst hf k_
  have X : fw_X (lay, own, cc, nL, d, r) (p, l, e, R, s, m, args, below, meth, c, D, adr, cA, A, cells, slots, Q) := ⟨hx, hb, hml, hown, hts, hK, hA, hR⟩
  obtain ⟨y, e1, e2⟩ := bind_some hf
  obtain ⟨z, e3, e4⟩ := bind_some e2
  cases e4
  refine a _ X ρ σ y.1 y.2 H locs ls st hL hM hst e1 (fun H1 l1 hM1 => ?_)
  refine a2 _ X ρ y.2 z.1 z.2 H1 l1 ls _ hL hM1 (by simp only [List.map_cons, List.sum_cons, fw_tcat]; have : tcat 0 = 1 := rfl; omega) e3 (fun H2 l2 hM2 => ?_)
  have kk := k_ H2 l2 hM2
  refine va_mmin hx hb (hml.trans (show lv_has ls nL _ from hL).1.symm) hown (hts _ hw.1) (hts _ hw.2.1) (hts _ hw.2.2.1) (hts _ hw.2.2.2) (by omega) (by omega) hR.2.2.1 hR.2.2.2.1 h ?_
  by_cases hc : w32 z.1 < w32 y.1
  · rw [if_pos (Int32.lt_iff_toInt_lt.mpr hc)]
    simp only [minI, if_pos hc] at kk
    exact kk
  · rw [if_neg (fun q => hc (Int32.lt_iff_toInt_lt.mp q))]
    simp only [minI, if_neg hc] at kk
    exact kk
theorem fe_max {index : Nat} (a : fw_E (lay, own, cc, nL, d, r) T b pc pc1 0 f) (a2 : fw_E (lay, own, cc, nL, d, r) T (b + 1) pc1 pc2 0 g) (hw : fw_mx own index) (hd : 1 ≤ d) (hb8 : b ≤ 8) (h : decode cc pc2 = .ok (.invokestatic index, 3)) : fw_E (lay, own, cc, nL, d, r) T b pc (pc2 + 3) 0 (o2 maxI f g) := by
  rintro ⟨p, l, e, R, s, m, args, below, meth, c, D, adr, cA, A, cells, slots, Q⟩ ⟨hx, hb, hml, hown, hts, hK, hA, hR⟩ ρ σ x σ' H locs ls st hL hM hst hf k_
  have X : fw_X (lay, own, cc, nL, d, r) (p, l, e, R, s, m, args, below, meth, c, D, adr, cA, A, cells, slots, Q) := ⟨hx, hb, hml, hown, hts, hK, hA, hR⟩
  obtain ⟨y, e1, e2⟩ := bind_some hf
  obtain ⟨z, e3, e4⟩ := bind_some e2
  cases e4
  refine a _ X ρ σ y.1 y.2 H locs ls st hL hM hst e1 (fun H1 l1 hM1 => ?_)
  refine a2 _ X ρ y.2 z.1 z.2 H1 l1 ls _ hL hM1 (by simp only [List.map_cons, List.sum_cons, fw_tcat]; have : tcat 0 = 1 := rfl; omega) e3 (fun H2 l2 hM2 => ?_)
  have kk := k_ H2 l2 hM2
  refine va_mmax hx hb (hml.trans (show lv_has ls nL _ from hL).1.symm) hown (hts _ hw.1) (hts _ hw.2.1) (hts _ hw.2.2.1) (hts _ hw.2.2.2) (by omega) (by omega) hR.2.2.1 hR.2.2.2.1 h ?_
  by_cases hc : w32 y.1 < w32 z.1
  · rw [if_pos (Int32.lt_iff_toInt_lt.mpr hc)]
    simp only [maxI, if_pos hc] at kk
    exact kk
  · rw [if_neg (fun q => hc (Int32.lt_iff_toInt_lt.mp q))]
    simp only [maxI, if_neg hc] at kk
    exact kk
end FWM
