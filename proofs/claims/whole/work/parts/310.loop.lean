theorem i32_add6 {i j : Nat} {n : Int} (hn : n = (j : Int)) : Int32.ofNat i + Int32.ofInt n = Int32.ofNat (i + j) := by
  rw [hn, Int32.ofNat_add]
  rfl
theorem i32_cmp {i L : Nat} (hi : i ≤ 4000) (hL : L ≤ 3072) : (Int32.ofNat L - 6 < Int32.ofNat i) ↔ L < i + 6 := by
  have h1 : (Int32.ofNat L).toInt = L := Int32.toInt_ofNat_of_lt (by omega)
  have h2 : (Int32.ofNat i).toInt = i := Int32.toInt_ofNat_of_lt (by omega)
  have h6 : (6 : Int32).toInt = 6 := by decide
  rw [Int32.lt_iff_toInt_lt, h2, Int32.toInt_sub, h1, h6]
  have hb : ((L : Int) - 6).bmod (2 ^ 32) = (L : Int) - 6 := by
    rw [Int.bmod_def]
    split <;> omega
  rw [hb]
  omega
theorem lg_loop {p : Program} {l : Launch} {e : Env} {s : State} {m : MethodId} {below : List Frame} {meth : Method} {c : Code} {b L : Nat} {xs : Nat → Int32} {D : va_G} {cA : Nat → ClassId} {adX adM : Nat → Nat} {o : Nat} (F : lg_F p l s m c b L xs D cA) (S : lg_S s cA adX adM o) (hr : meth.sig.returnType = ret) (hlocks : meth.locks = false) : ∀ (r i cells slots : Nat) (σ μ τ : Me) (H : Heap) (locs : List Loc) (ls : Array Slot), lg_M s D cA adX adM o σ μ τ H locs → Rl σ μ → lg_L b adX adM o i ls → i ≤ L + 6 → L < i + 6 + 6 * r → cells + r ≤ 601024 → slots + 6 * r ≤ 7293034 → W p l e room_1 s m #[Value.ref b] below meth c H locs cells slots (lw_Z below #[Value.ref b] s) (F0 m 23 ls []) := by
  obtain ⟨hx, hb, hml, hown, hts, hK, hnw, hX, hbl, hL, -⟩ := id F
  intro r
  induction r with
  | zero =>
    intro i cells slots σ μ τ H locs ls hM hR hl hi hr0 hce hsl
    have hS := hM.2.2.2
    have hl0 := hl
    unfold lg_L at hl0
    refine lv_iload hx hb dL_law_23 (lv_at hl0 4 rfl) ?_
    refine lv_aload_n hx hb dL_law_25 rfl (lv_at hl0 0 rfl) ?_
    refine va_slen hx hb hX hbl (Nat.not_le.mpr hbl) hS dL_law_26 ?_
    refine lv_bipush hx hb dL_law_27 (v := 6) (by decide) ?_
    refine lv_isub hx hb dL_law_29 ?_
    refine lv_icmp_gt hx hb dL_law_30 (tgt := 1453) rfl (fun _ => ?_) (fun hn => absurd ((i32_cmp (by omega) hL).mpr (by omega)) hn)
    refine lv_iconst hx hb dL_law_1453 (v := 1) (by decide) ?_
    refine va_forget hS.2.2 ?_
    refine W.widen (k := 601024) (n := 7293034) (by omega) (by omega) ?_
    exact lw_ret hx hb hr hlocks dL_law_1454
  | succ r ih =>
    intro i cells slots σ μ τ H locs ls hM hR hl hi hr0 hce hsl
    have hS := hM.2.2.2
    have hl0 := hl
    unfold lg_L at hl0
    refine lv_iload hx hb dL_law_23 (lv_at hl0 4 rfl) ?_
    refine lv_aload_n hx hb dL_law_25 rfl (lv_at hl0 0 rfl) ?_
    refine va_slen hx hb hX hbl (Nat.not_le.mpr hbl) hS dL_law_26 ?_
    refine lv_bipush hx hb dL_law_27 (v := 6) (by decide) ?_
    refine lv_isub hx hb dL_law_29 ?_
    refine lv_icmp_gt hx hb dL_law_30 (tgt := 1453) rfl (fun _ => ?_) (fun hn => ?_)
    · refine lv_iconst hx hb dL_law_1453 (v := 1) (by decide) ?_
      refine va_forget hS.2.2 ?_
      refine W.widen (k := 601024) (n := 7293034) (by omega) (by omega) ?_
      exact lw_ret hx hb hr hlocks dL_law_1454
    · have hi6 : i + 6 ≤ L := by
        have := mt (i32_cmp (i := i) (L := L) (by omega) hL).mpr hn
        omega
      have step : lg_K p l e s m below meth c b D cA adX adM o i cells slots (lw_Z below #[Value.ref b] s) := by
        intro σ' μ' τ' H' locs' ls' cells' slots' hM' hR' hc hs hl'
        unfold lg_L at hl'
        refine lv_iinc hx hb dL_law_1447 hl' (k := 4) rfl (v := Int32.ofNat (i + 6)) (i32_add6 rfl) (by decide) rfl (fun ls2 hl2 => ?_)
        exact lv_goto hx hb dL_law_1450 (tgt := 23) rfl (ih (i + 6) cells' slots' σ' μ' τ' H' locs' ls2 hM' hR' (lv_sub hl2 [1, 2, 3, 4, 0] rfl) (by omega) (by omega) (by omega) (by omega))
      refine lv_aload_n hx hb dL_law_33 rfl (lv_at hl0 0 rfl) ?_
      refine lv_iload hx hb dL_law_34 (lv_at hl0 4 rfl) ?_
      obtain ⟨e1, e2⟩ := lg_i32 (n := i) (by omega)
      refine va_sld hx hb hX hbl (Nat.not_le.mpr hbl) hS (i := Int32.ofNat i) (by
        rintro (h | h)
        · exact e2 h
        · rw [e1] at h; omega) dL_law_36 ?_
      refine lv_bipush hx hb dL_law_37 (v := 63) (by decide) ?_
      refine lv_iand hx hb dL_law_39 ?_
      generalize (xs (Int32.ofNat i).toNatClampNeg &&& 63) = v
      by_cases hv : v.toInt < 0 ∨ 35 < v.toInt
      · exact lv_tableOut hx hb dL_law_40 hv (tgt := 1447) rfl (step σ μ τ H locs ls cells slots hM hR (by omega) (by omega) hl)
      · obtain ⟨k, hk⟩ : ∃ k : Nat, v.toInt = (k : Int) := ⟨v.toInt.toNat, by omega⟩
        have hk36 : k < 36 := by omega
        have go : ∀ (off : Int) (t : Nat), (#[160, 233, 258, 271, 284, 352, 420, 488, 544, 557, 606, 619, 687, 748, 785, 822, 859, 896, 909, 946, 971, 1032, 1057, 1082, 1095, 1108, 1133, 1182, 1195, 1220, 1257, 1294, 1307, 1332, 1357, 1382] : Array Int)[k]? = some off → (40 : Int) + off = (t : Int) → W p l e room_1 s m #[Value.ref b] below meth c H locs cells slots (lw_Z below #[Value.ref b] s) (F0 m t ls []) → W p l e room_1 s m #[Value.ref b] below meth c H locs cells slots (lw_Z below #[Value.ref b] s) (F0 m 40 ls [.int v]) := fun off t ho ht kk => lv_tableIn hx hb dL_law_40 (by omega) (by omega) (by rw [show (v.toInt - 0).toNat = k by omega]; exact ho) ht kk
        clear hv
        rcases (show k = 0 ∨ k = 1 ∨ k = 2 ∨ k = 3 ∨ k = 4 ∨ k = 5 ∨ k = 6 ∨ k = 7 ∨ k = 8 ∨ k = 9 ∨ k = 10 ∨ k = 11 ∨ k = 12 ∨ k = 13 ∨ k = 14 ∨ k = 15 ∨ k = 16 ∨ k = 17 ∨ k = 18 ∨ k = 19 ∨ k = 20 ∨ k = 21 ∨ k = 22 ∨ k = 23 ∨ k = 24 ∨ k = 25 ∨ k = 26 ∨ k = 27 ∨ k = 28 ∨ k = 29 ∨ k = 30 ∨ k = 31 ∨ k = 32 ∨ k = 33 ∨ k = 34 ∨ k = 35 by omega) with rfl | rfl | rfl | rfl | rfl | rfl | rfl | rfl | rfl | rfl | rfl | rfl | rfl | rfl | rfl | rfl | rfl | rfl | rfl | rfl | rfl | rfl | rfl | rfl | rfl | rfl | rfl | rfl | rfl | rfl | rfl | rfl | rfl | rfl | rfl | rfl
        · exact go 160 200 rfl rfl (cs_0 F S hM hR hl hi6 (by omega) (by omega) step)
        · exact go 233 273 rfl rfl (cs_1 F S hM hR hl hi6 (by omega) (by omega) step)
        · exact go 258 298 rfl rfl (cs_2 F S hM hR hl hi6 (by omega) (by omega) step)
        · exact go 271 311 rfl rfl (cs_3 F S hM hR hl hi6 (by omega) (by omega) step)
        · exact go 284 324 rfl rfl (cs_4 F S hM hR hl hi6 (by omega) (by omega) step)
        · exact go 352 392 rfl rfl (cs_5 F S hM hR hl hi6 (by omega) (by omega) step)
        · exact go 420 460 rfl rfl (cs_6 F S hM hR hl hi6 (by omega) (by omega) step)
        · exact go 488 528 rfl rfl (cs_7 F S hM hR hl hi6 (by omega) (by omega) step)
        · exact go 544 584 rfl rfl (cs_8 F S hM hR hl hi6 (by omega) (by omega) step)
        · exact go 557 597 rfl rfl (cs_9 F S hM hR hl hi6 (by omega) (by omega) step)
        · exact go 606 646 rfl rfl (cs_10 F S hM hR hl hi6 (by omega) (by omega) step)
        · exact go 619 659 rfl rfl (cs_11 F S hM hR hl hi6 (by omega) (by omega) step)
        · exact go 687 727 rfl rfl (cs_12 F S hM hR hl hi6 (by omega) (by omega) step)
        · exact go 748 788 rfl rfl (cs_13 F S hM hR hl hi6 (by omega) (by omega) step)
        · exact go 785 825 rfl rfl (cs_14 F S hM hR hl hi6 (by omega) (by omega) step)
        · exact go 822 862 rfl rfl (cs_15 F S hM hR hl hi6 (by omega) (by omega) step)
        · exact go 859 899 rfl rfl (cs_16 F S hM hR hl hi6 (by omega) (by omega) step)
        · exact go 896 936 rfl rfl (cs_17 F S hM hR hl hi6 (by omega) (by omega) step)
        · exact go 909 949 rfl rfl (cs_18 F S hM hR hl hi6 (by omega) (by omega) step)
        · exact go 946 986 rfl rfl (cs_19 F S hM hR hl hi6 (by omega) (by omega) step)
        · exact go 971 1011 rfl rfl (cs_20 F S hM hR hl hi6 (by omega) (by omega) step)
        · exact go 1032 1072 rfl rfl (cs_21 F S hM hR hl hi6 (by omega) (by omega) step)
        · exact go 1057 1097 rfl rfl (cs_22 F S hM hR hl hi6 (by omega) (by omega) step)
        · exact go 1082 1122 rfl rfl (cs_23 F S hM hR hl hi6 (by omega) (by omega) step)
        · exact go 1095 1135 rfl rfl (cs_24 F S hM hR hl hi6 (by omega) (by omega) step)
        · exact go 1108 1148 rfl rfl (cs_25 F S hM hR hl hi6 (by omega) (by omega) step)
        · exact go 1133 1173 rfl rfl (cs_26 F S hM hR hl hi6 (by omega) (by omega) step)
        · exact go 1182 1222 rfl rfl (cs_27 F S hM hR hl hi6 (by omega) (by omega) step)
        · exact go 1195 1235 rfl rfl (cs_28 F S hM hR hl hi6 (by omega) (by omega) step)
        · exact go 1220 1260 rfl rfl (cs_29 F S hM hR hl hi6 (by omega) (by omega) step)
        · exact go 1257 1297 rfl rfl (cs_30 F S hM hR hl hi6 (by omega) (by omega) step)
        · exact go 1294 1334 rfl rfl (cs_31 F S hM hR hl hi6 (by omega) (by omega) step)
        · exact go 1307 1347 rfl rfl (cs_32 F S hM hR hl hi6 (by omega) (by omega) step)
        · exact go 1332 1372 rfl rfl (cs_33 F S hM hR hl hi6 (by omega) (by omega) step)
        · exact go 1357 1397 rfl rfl (cs_34 F S hM hR hl hi6 (by omega) (by omega) step)
        · exact go 1382 1422 rfl rfl (cs_35 F S hM hR hl hi6 (by omega) (by omega) step)
