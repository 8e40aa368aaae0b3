section FWB
variable {lay : List CD} {own : String} {cc : ByteArray} {nL d : Nat} {r : Option Nat} {T : FT} {b pc pc1 pc2 pt pf tgt : Nat} {f g : EM} {off : Int}
theorem cm_0 {a b : Int} : cmpI 0 a b = true ↔ Int32.ofInt a = Int32.ofInt b := (show (decide (w32 a = w32 b) = true) ↔ _ from decide_eq_true_iff.trans Int32.toInt_inj)
theorem cm_1 {a b : Int} : cmpI 1 a b = true ↔ ¬ Int32.ofInt a = Int32.ofInt b := by
  rw [← cm_0]
  simp [cmpI]
theorem cm_2 {a b : Int} : cmpI 2 a b = true ↔ Int32.ofInt a < Int32.ofInt b := (show (decide (w32 a < w32 b) = true) ↔ _ from decide_eq_true_iff.trans Int32.lt_iff_toInt_lt.symm)
theorem cm_3 {a b : Int} : cmpI 3 a b = true ↔ Int32.ofInt b ≤ Int32.ofInt a := (show (decide (w32 b ≤ w32 a) = true) ↔ _ from decide_eq_true_iff.trans Int32.le_iff_toInt_le.symm)
theorem cm_4 {a b : Int} : cmpI 4 a b = true ↔ Int32.ofInt b < Int32.ofInt a := (show (decide (w32 b < w32 a) = true) ↔ _ from decide_eq_true_iff.trans Int32.lt_iff_toInt_lt.symm)
theorem cm_5 {a b : Int} : cmpI 5 a b = true ↔ Int32.ofInt a ≤ Int32.ofInt b := (show (decide (w32 a ≤ w32 b) = true) ↔ _ from decide_eq_true_iff.trans Int32.le_iff_toInt_le.symm)
theorem fb_icmp_eq (a : fw_E (lay, own, cc, nL, d, r) T b pc pc1 0 f) (a2 : fw_E (lay, own, cc, nL, d, r) T (b + 1) pc1 pc2 0 g) (h : decode cc pc2 = .ok (.if_icmp .eq off, 3)) (ht : (pc2 : Int) + off = (tgt : Int)) : fw_B (lay, own, cc, nL, d, r) T b pc tgt (pc2 + 3) (cB 0 f g) := by
  rintro ⟨p, l, e, R, s, m, args, below, meth, c, D, adr, cA, A, cells, slots, Q⟩ ⟨hx, hb, hml, hown, hts, hK, hA, hR⟩ ρ σ x σ' H locs ls st hL hM hst hf k
  have X : fw_X (lay, own, cc, nL, d, r) (p, l, e, R, s, m, args, below, meth, c, D, adr, cA, A, cells, slots, Q) := ⟨hx, hb, hml, hown, hts, hK, hA, hR⟩
  obtain ⟨y, e1, e2⟩ := bind_some hf
  obtain ⟨z, e3, e4⟩ := bind_some e2
  cases e4
  refine a _ X ρ σ y.1 y.2 H locs ls st hL hM hst e1 (fun H1 l1 hM1 => ?_)
  refine a2 _ X ρ y.2 z.1 z.2 H1 l1 ls _ hL hM1 (by simp only [List.map_cons, List.sum_cons]; have : (fw_val (p, l, e, R, s, m, args, below, meth, c, D, adr, cA, A, cells, slots, Q) 0 y.1).category = 1 := rfl; omega) e3 (fun H2 l2 hM2 => ?_)
  have kk := k H2 l2 hM2
  refine lv_icmp_eq hx hb h ht (fun q => ?_) (fun q => ?_)
  · rw [if_pos (cm_0.mpr q)] at kk
    exact kk
  · rw [if_neg (fun z => q (cm_0.mp z))] at kk
    exact kk
theorem fb_if_eq (a : fw_E (lay, own, cc, nL, d, r) T b pc pc1 0 f) (h : decode cc pc1 = .ok (.ifCond .eq off, 3)) (ht : (pc1 : Int) + off = (tgt : Int)) : fw_B (lay, own, cc, nL, d, r) T b pc tgt (pc1 + 3) (zB 0 f) := by
  rintro ⟨p, l, e, R, s, m, args, below, meth, c, D, adr, cA, A, cells, slots, Q⟩ ⟨hx, hb, hml, hown, hts, hK, hA, hR⟩ ρ σ x σ' H locs ls st hL hM hst hf k
  have X : fw_X (lay, own, cc, nL, d, r) (p, l, e, R, s, m, args, below, meth, c, D, adr, cA, A, cells, slots, Q) := ⟨hx, hb, hml, hown, hts, hK, hA, hR⟩
  obtain ⟨y, e1, e2⟩ := bind_some hf
  cases e2
  refine a _ X ρ σ y.1 y.2 H locs ls st hL hM hst e1 (fun H1 l1 hM1 => ?_)
  have kk := k H1 l1 hM1
  refine lv_if_eq hx hb h ht (fun q => ?_) (fun q => ?_)
  · rw [if_pos ((cm_0 (a := y.1) (b := 0)).mpr q)] at kk
    exact kk
  · rw [if_neg (fun z => q ((cm_0 (a := y.1) (b := 0)).mp z))] at kk
    exact kk
theorem fb_icmp_ne (a : fw_E (lay, own, cc, nL, d, r) T b pc pc1 0 f) (a2 : fw_E (lay, own, cc, nL, d, r) T (b + 1) pc1 pc2 0 g) (h : decode cc pc2 = .ok (.if_icmp .ne off, 3)) (ht : (pc2 : Int) + off = (tgt : Int)) : fw_B (lay, own, cc, nL, d, r) T b pc tgt (pc2 + 3) (cB 1 f g) := by
  rintro ⟨p, l, e, R, s, m, args, below, meth, c, D, adr, cA, A, cells, slots, Q⟩ ⟨hx, hb, hml, hown, hts, hK, hA, hR⟩ ρ σ x σ' H locs ls st hL hM hst hf k
  have X : fw_X (lay, own, cc, nL, d, r) (p, l, e, R, s, m, args, below, meth, c, D, adr, cA, A, cells, slots, Q) := ⟨hx, hb, hml, hown, hts, hK, hA, hR⟩
  obtain ⟨y, e1, e2⟩ := bind_some hf
  obtain ⟨z, e3, e4⟩ := bind_some e2
  cases e4
  refine a _ X ρ σ y.1 y.2 H locs ls st hL hM hst e1 (fun H1 l1 hM1 => ?_)
  refine a2 _ X ρ y.2 z.1 z.2 H1 l1 ls _ hL hM1 (by simp only [List.map_cons, List.sum_cons]; have : (fw_val (p, l, e, R, s, m, args, below, meth, c, D, adr, cA, A, cells, slots, Q) 0 y.1).category = 1 := rfl; omega) e3 (fun H2 l2 hM2 => ?_)
  have kk := k H2 l2 hM2
  refine lv_icmp_ne hx hb h ht (fun q => ?_) (fun q => ?_)
  · rw [if_pos (cm_1.mpr q)] at kk
    exact kk
  · rw [if_neg (fun z => (cm_1.mp z) q)] at kk
    exact kk
theorem fb_if_ne (a : fw_E (lay, own, cc, nL, d, r) T b pc pc1 0 f) (h : decode cc pc1 = .ok (.ifCond .ne off, 3)) (ht : (pc1 : Int) + off = (tgt : Int)) : fw_B (lay, own, cc, nL, d, r) T b pc tgt (pc1 + 3) (zB 1 f) := by
  rintro ⟨p, l, e, R, s, m, args, below, meth, c, D, adr, cA, A, cells, slots, Q⟩ ⟨hx, hb, hml, hown, hts, hK, hA, hR⟩ ρ σ x σ' H locs ls st hL hM hst hf k
  have X : fw_X (lay, own, cc, nL, d, r) (p, l, e, R, s, m, args, below, meth, c, D, adr, cA, A, cells, slots, Q) := ⟨hx, hb, hml, hown, hts, hK, hA, hR⟩
  obtain ⟨y, e1, e2⟩ := bind_some hf
  cases e2
  refine a _ X ρ σ y.1 y.2 H locs ls st hL hM hst e1 (fun H1 l1 hM1 => ?_)
  have kk := k H1 l1 hM1
  refine lv_if_ne hx hb h ht (fun q => ?_) (fun q => ?_)
  · rw [if_pos ((cm_1 (a := y.1) (b := 0)).mpr q)] at kk
    exact kk
  · rw [if_neg (fun z => ((cm_1 (a := y.1) (b := 0)).mp z) q)] at kk
    exact kk
theorem fb_icmp_lt (a : fw_E (lay, own, cc, nL, d, r) T b pc pc1 0 f) (a2 : fw_E (lay, own, cc, nL, d, r) T (b + 1) pc1 pc2 0 g) (h : decode cc pc2 = .ok (.if_icmp .lt off, 3)) (ht : (pc2 : Int) + off = (tgt : Int)) : fw_B (lay, own, cc, nL, d, r) T b pc tgt (pc2 + 3) (cB 2 f g) := by
  rintro ⟨p, l, e, R, s, m, args, below, meth, c, D, adr, cA, A, cells, slots, Q⟩ ⟨hx, hb, hml, hown, hts, hK, hA, hR⟩ ρ σ x σ' H locs ls st hL hM hst hf k
  have X : fw_X (lay, own, cc, nL, d, r) (p, l, e, R, s, m, args, below, meth, c, D, adr, cA, A, cells, slots, Q) := ⟨hx, hb, hml, hown, hts, hK, hA, hR⟩
  obtain ⟨y, e1, e2⟩ := bind_some hf
  obtain ⟨z, e3, e4⟩ := bind_some e2
  cases e4
  refine a _ X ρ σ y.1 y.2 H locs ls st hL hM hst e1 (fun H1 l1 hM1 => ?_)
  refine a2 _ X ρ y.2 z.1 z.2 H1 l1 ls _ hL hM1 (by simp only [List.map_cons, List.sum_cons]; have : (fw_val (p, l, e, R, s, m, args, below, meth, c, D, adr, cA, A, cells, slots, Q) 0 y.1).category = 1 := rfl; omega) e3 (fun H2 l2 hM2 => ?_)
  have kk := k H2 l2 hM2
  refine lv_icmp_lt hx hb h ht (fun q => ?_) (fun q => ?_)
  · rw [if_pos (cm_2.mpr q)] at kk
    exact kk
  · rw [if_neg (fun z => q (cm_2.mp z))] at kk
    exact kk
theorem fb_if_lt (a : fw_E (lay, own, cc, nL, d, r) T b pc pc1 0 f) (h : decode cc pc1 = .ok (.ifCond .lt off, 3)) (ht : (pc1 : Int) + off = (tgt : Int)) : fw_B (lay, own, cc, nL, d, r) T b pc tgt (pc1 + 3) (zB 2 f) := by
  rintro ⟨p, l, e, R, s, m, args, below, meth, c, D, adr, cA, A, cells, slots, Q⟩ ⟨hx, hb, hml, hown, hts, hK, hA, hR⟩ ρ σ x σ' H locs ls st hL hM hst hf k
  have X : fw_X (lay, own, cc, nL, d, r) (p, l, e, R, s, m, args, below, meth, c, D, adr, cA, A, cells, slots, Q) := ⟨hx, hb, hml, hown, hts, hK, hA, hR⟩
  obtain ⟨y, e1, e2⟩ := bind_some hf
  cases e2
  refine a _ X ρ σ y.1 y.2 H locs ls st hL hM hst e1 (fun H1 l1 hM1 => ?_)
  have kk := k H1 l1 hM1
  refine lv_if_lt hx hb h ht (fun q => ?_) (fun q => ?_)
  · rw [if_pos ((cm_2 (a := y.1) (b := 0)).mpr q)] at kk
    exact kk
  · rw [if_neg (fun z => q ((cm_2 (a := y.1) (b := 0)).mp z))] at kk
    exact kk
theorem fb_icmp_ge (a : fw_E (lay, own, cc, nL, d, r) T b pc pc1 0 f) (a2 : fw_E (lay, own, cc, nL, d, r) T (b + 1) pc1 pc2 0 g) (h : decode cc pc2 = .ok (.if_icmp .ge off, 3)) (ht : (pc2 : Int) + off = (tgt : Int)) : fw_B (lay, own, cc, nL, d, r) T b pc tgt (pc2 + 3) (cB 3 f g) := by
  rintro ⟨p, l, e, R, s, m, args, below, meth, c, D, adr, cA, A, cells, slots, Q⟩ ⟨hx, hb, hml, hown, hts, hK, hA, hR⟩ ρ σ x σ' H locs ls st hL hM hst hf k
  have X : fw_X (lay, own, cc, nL, d, r) (p, l, e, R, s, m, args, below, meth, c, D, adr, cA, A, cells, slots, Q) := ⟨hx, hb, hml, hown, hts, hK, hA, hR⟩
  obtain ⟨y, e1, e2⟩ := bind_some hf
  obtain ⟨z, e3, e4⟩ := bind_some e2
  cases e4
  refine a _ X ρ σ y.1 y.2 H locs ls st hL hM hst e1 (fun H1 l1 hM1 => ?_)
  refine a2 _ X ρ y.2 z.1 z.2 H1 l1 ls _ hL hM1 (by simp only [List.map_cons, List.sum_cons]; have : (fw_val (p, l, e, R, s, m, args, below, meth, c, D, adr, cA, A, cells, slots, Q) 0 y.1).category = 1 := rfl; omega) e3 (fun H2 l2 hM2 => ?_)
  have kk := k H2 l2 hM2
  refine lv_icmp_ge hx hb h ht (fun q => ?_) (fun q => ?_)
  · rw [if_pos (cm_3.mpr q)] at kk
    exact kk
  · rw [if_neg (fun z => q (cm_3.mp z))] at kk
    exact kk
theorem fb_if_ge (a : fw_E (lay, own, cc, nL, d, r) T b pc pc1 0 f) (h : decode cc pc1 = .ok (.ifCond .ge off, 3)) (ht : (pc1 : Int) + off = (tgt : Int)) : fw_B (lay, own, cc, nL, d, r) T b pc tgt (pc1 + 3) (zB 3 f) := by
  rintro ⟨p, l, e, R, s, m, args, below, meth, c, D, adr, cA, A, cells, slots, Q⟩ ⟨hx, hb, hml, hown, hts, hK, hA, hR⟩ ρ σ x σ' H locs ls st hL hM hst hf k
  have X : fw_X (lay, own, cc, nL, d, r) (p, l, e, R, s, m, args, below, meth, c, D, adr, cA, A, cells, slots, Q) := ⟨hx, hb, hml, hown, hts, hK, hA, hR⟩
  obtain ⟨y, e1, e2⟩ := bind_some hf
  cases e2
  refine a _ X ρ σ y.1 y.2 H locs ls st hL hM hst e1 (fun H1 l1 hM1 => ?_)
  have kk := k H1 l1 hM1
  refine lv_if_ge hx hb h ht (fun q => ?_) (fun q => ?_)
  · rw [if_pos ((cm_3 (a := y.1) (b := 0)).mpr q)] at kk
    exact kk
  · rw [if_neg (fun z => q ((cm_3 (a := y.1) (b := 0)).mp z))] at kk
    exact kk
theorem fb_icmp_gt (a : fw_E (lay, own, cc, nL, d, r) T b pc pc1 0 f) (a2 : fw_E (lay, own, cc, nL, d, r) T (b + 1) pc1 pc2 0 g) (h : decode cc pc2 = .ok (.if_icmp .gt off, 3)) (ht : (pc2 : Int) + off = (tgt : Int)) : fw_B (lay, own, cc, nL, d, r) T b pc tgt (pc2 + 3) (cB 4 f g) := by
  rintro ⟨p, l, e, R, s, m, args, below, meth, c, D, adr, cA, A, cells, slots, Q⟩ ⟨hx, hb, hml, hown, hts, hK, hA, hR⟩ ρ σ x σ' H locs ls st hL hM hst hf k
  have X : fw_X (lay, own, cc, nL, d, r) (p, l, e, R, s, m, args, below, meth, c, D, adr, cA, A, cells, slots, Q) := ⟨hx, hb, hml, hown, hts, hK, hA, hR⟩
  obtain ⟨y, e1, e2⟩ := bind_some hf
  obtain ⟨z, e3, e4⟩ := bind_some e2
  cases e4
  refine a _ X ρ σ y.1 y.2 H locs ls st hL hM hst e1 (fun H1 l1 hM1 => ?_)
  refine a2 _ X ρ y.2 z.1 z.2 H1 l1 ls _ hL hM1 (by simp only [List.map_cons, List.sum_cons]; have : (fw_val (p, l, e, R, s, m, args, below, meth, c, D, adr, cA, A, cells, slots, Q) 0 y.1).category = 1 := rfl; omega) e3 (fun H2 l2 hM2 => ?_)
  have kk := k H2 l2 hM2
  refine lv_icmp_gt hx hb h ht (fun q => ?_) (fun q => ?_)
  · rw [if_pos (cm_4.mpr q)] at kk
    exact kk
  · rw [if_neg (fun z => q (cm_4.mp z))] at kk
    exact kk
theorem fb_if_gt (a : fw_E (lay, own, cc, nL, d, r) T b pc pc1 0 f) (h : decode cc pc1 = .ok (.ifCond .gt off, 3)) (ht : (pc1 : Int) + off = (tgt : Int)) : fw_B (lay, own, cc, nL, d, r) T b pc tgt (pc1 + 3) (zB 4 f) := by
  rintro ⟨p, l, e, R, s, m, args, below, meth, c, D, adr, cA, A, cells, slots, Q⟩ ⟨hx, hb, hml, hown, hts, hK, hA, hR⟩ ρ σ x σ' H locs ls st hL hM hst hf k
  have X : fw_X (lay, own, cc, nL, d, r) (p, l, e, R, s, m, args, below, meth, c, D, adr, cA, A, cells, slots, Q) := ⟨hx, hb, hml, hown, hts, hK, hA, hR⟩
  obtain ⟨y, e1, e2⟩ := bind_some hf
  cases e2
  refine a _ X ρ σ y.1 y.2 H locs ls st hL hM hst e1 (fun H1 l1 hM1 => ?_)
  have kk := k H1 l1 hM1
  refine lv_if_gt hx hb h ht (fun q => ?_) (fun q => ?_)
  · rw [if_pos ((cm_4 (a := y.1) (b := 0)).mpr q)] at kk
    exact kk
  · rw [if_neg (fun z => q ((cm_4 (a := y.1) (b := 0)).mp z))] at kk
    exact kk
theorem fb_icmp_le (a : fw_E (lay, own, cc, nL, d, r) T b pc pc1 0 f) (a2 : fw_E (lay, own, cc, nL, d, r) T (b + 1) pc1 pc2 0 g) (h : decode cc pc2 = .ok (.if_icmp .le off, 3)) (ht : (pc2 : Int) + off = (tgt : Int)) : fw_B (lay, own, cc, nL, d, r) T b pc tgt (pc2 + 3) (cB 5 f g) := by
  rintro ⟨p, l, e, R, s, m, args, below, meth, c, D, adr, cA, A, cells, slots, Q⟩ ⟨hx, hb, hml, hown, hts, hK, hA, hR⟩ ρ σ x σ' H locs ls st hL hM hst hf k
  have X : fw_X (lay, own, cc, nL, d, r) (p, l, e, R, s, m, args, below, meth, c, D, adr, cA, A, cells, slots, Q) := ⟨hx, hb, hml, hown, hts, hK, hA, hR⟩
  obtain ⟨y, e1, e2⟩ := bind_some hf
  obtain ⟨z, e3, e4⟩ := bind_some e2
  cases e4
  refine a _ X ρ σ y.1 y.2 H locs ls st hL hM hst e1 (fun H1 l1 hM1 => ?_)
  refine a2 _ X ρ y.2 z.1 z.2 H1 l1 ls _ hL hM1 (by simp only [List.map_cons, List.sum_cons]; have : (fw_val (p, l, e, R, s, m, args, below, meth, c, D, adr, cA, A, cells, slots, Q) 0 y.1).category = 1 := rfl; omega) e3 (fun H2 l2 hM2 => ?_)
  have kk := k H2 l2 hM2
  refine lv_icmp_le hx hb h ht (fun q => ?_) (fun q => ?_)
  · rw [if_pos (cm_5.mpr q)] at kk
    exact kk
  · rw [if_neg (fun z => q (cm_5.mp z))] at kk
    exact kk
theorem fb_if_le (a : fw_E (lay, own, cc, nL, d, r) T b pc pc1 0 f) (h : decode cc pc1 = .ok (.ifCond .le off, 3)) (ht : (pc1 : Int) + off = (tgt : Int)) : fw_B (lay, own, cc, nL, d, r) T b pc tgt (pc1 + 3) (zB 5 f) := by
  rintro ⟨p, l, e, R, s, m, args, below, meth, c, D, adr, cA, A, cells, slots, Q⟩ ⟨hx, hb, hml, hown, hts, hK, hA, hR⟩ ρ σ x σ' H locs ls st hL hM hst hf k
  have X : fw_X (lay, own, cc, nL, d, r) (p, l, e, R, s, m, args, below, meth, c, D, adr, cA, A, cells, slots, Q) := ⟨hx, hb, hml, hown, hts, hK, hA, hR⟩
  obtain ⟨y, e1, e2⟩ := bind_some hf
  cases e2
  refine a _ X ρ σ y.1 y.2 H locs ls st hL hM hst e1 (fun H1 l1 hM1 => ?_)
  have kk := k H1 l1 hM1
  refine lv_if_le hx hb h ht (fun q => ?_) (fun q => ?_)
  · rw [if_pos ((cm_5 (a := y.1) (b := 0)).mpr q)] at kk
    exact kk
  · rw [if_neg (fun z => q ((cm_5 (a := y.1) (b := 0)).mp z))] at kk
    exact kk
theorem fb_not {c : BM} (a : fw_B (lay, own, cc, nL, d, r) T b pc pt pf c) : fw_B (lay, own, cc, nL, d, r) T b pc pf pt (nB c) := by
  intro G X ρ σ x σ' H locs ls st hL hM hst hf k
  obtain ⟨y, e1, e2⟩ := bind_some hf
  cases e2
  refine a G X ρ σ y.1 y.2 H locs ls st hL hM hst e1 (fun H1 l1 hM1 => ?_)
  have kk := k H1 l1 hM1
  cases hy : y.1 <;> rw [hy] at kk <;> exact kk
theorem fb_and {c c2 : BM} {pm : Nat} (a : fw_B (lay, own, cc, nL, d, r) T b pc pm pf c) (a2 : fw_B (lay, own, cc, nL, d, r) T b pm pt pf c2) : fw_B (lay, own, cc, nL, d, r) T b pc pt pf (andB c c2) := by
  intro G X ρ σ x σ' H locs ls st hL hM hst hf k
  obtain ⟨y, e1, e2⟩ := bind_some hf
  refine a G X ρ σ y.1 y.2 H locs ls st hL hM hst e1 (fun H1 l1 hM1 => ?_)
  by_cases hy : y.1 = true
  · rw [if_pos hy] at e2 ⊢
    exact a2 G X ρ y.2 x σ' H1 l1 ls st hL hM1 hst e2 k
  · rw [if_neg hy] at e2 ⊢
    cases e2
    exact k H1 l1 hM1
theorem fb_or {c c2 : BM} {pm : Nat} (a : fw_B (lay, own, cc, nL, d, r) T b pc pt pm c) (a2 : fw_B (lay, own, cc, nL, d, r) T b pm pt pf c2) : fw_B (lay, own, cc, nL, d, r) T b pc pt pf (orB c c2) := by
  intro G X ρ σ x σ' H locs ls st hL hM hst hf k
  obtain ⟨y, e1, e2⟩ := bind_some hf
  refine a G X ρ σ y.1 y.2 H locs ls st hL hM hst e1 (fun H1 l1 hM1 => ?_)
  by_cases hy : y.1 = true
  · rw [if_pos hy] at e2 ⊢
    cases e2
    exact k H1 l1 hM1
  · rw [if_neg hy] at e2 ⊢
    exact a2 G X ρ y.2 x σ' H1 l1 ls st hL hM1 hst e2 k
/-- one of two values: the first one's code ends with a goto -/
theorem fe_tern {c : BM} {pe t : Nat} (a : fw_B (lay, own, cc, nL, d, r) T b pc pt pf c) (v : fw_E (lay, own, cc, nL, d, r) T b pt pc1 t f) (h : decode cc pc1 = .ok (.goto off, 3)) (ht : (pc1 : Int) + off = (pe : Int)) (v2 : fw_E (lay, own, cc, nL, d, r) T b pf pe t g) : fw_E (lay, own, cc, nL, d, r) T b pc pe t (kE c f g) := by
  rintro ⟨p, l, e, R, s, m, args, below, meth, c, D, adr, cA, A, cells, slots, Q⟩ ⟨hx, hb, hml, hown, hts, hK, hA, hR⟩ ρ σ x σ' H locs ls st hL hM hst hf k
  have X : fw_X (lay, own, cc, nL, d, r) (p, l, e, R, s, m, args, below, meth, c, D, adr, cA, A, cells, slots, Q) := ⟨hx, hb, hml, hown, hts, hK, hA, hR⟩
  obtain ⟨y, e1, e2⟩ := bind_some hf
  refine a _ X ρ σ y.1 y.2 H locs ls st hL hM hst e1 (fun H1 l1 hM1 => ?_)
  by_cases hy : y.1 = true
  · rw [if_pos hy] at e2 ⊢
    refine v _ X ρ y.2 x σ' H1 l1 ls st hL hM1 hst e2 (fun H2 l2 hM2 => ?_)
    exact lv_goto hx hb h ht (k H2 l2 hM2)
  · rw [if_neg hy] at e2 ⊢
    exact v2 _ X ρ y.2 x σ' H1 l1 ls st hL hM1 hst e2 k
end FWB
