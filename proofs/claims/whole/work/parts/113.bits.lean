/-! bits -/
def bw (w : Int) : BitVec 32 := (Int32.ofInt w).toBitVec
theorem bw_x {x : Int32} : bw x.toInt = x.toBitVec := by simp [bw]
theorem bw_and {a b : Int} : bw (andI a b) = bw a &&& bw b := by rw [andI, bw_x, Int32.toBitVec_and]; rfl
theorem bw_or {a b : Int} : bw (iorI a b) = bw a ||| bw b := by rw [iorI, bw_x, Int32.toBitVec_or]; rfl
theorem bw_xor {a b : Int} : bw (xorI a b) = bw a ^^^ bw b := by rw [xorI, bw_x, Int32.toBitVec_xor]; rfl
theorem sh_k : ∀ k : Fin 32, ((Int32.ofInt (k.val : Int) &&& 31).toBitVec.smod 32) = BitVec.ofNat 32 k.val := by decide
theorem bw_shl {a : Int} {k : Nat} (hk : k < 32) : bw (shlI a k) = bw a <<< k := by
  rw [shlI, bw_x, Int32.toBitVec_shiftLeft]
  have := sh_k ⟨k, hk⟩
  simp only at this
  rw [this]
  simp [bw, Nat.mod_eq_of_lt (show k < 4294967296 by omega)]
theorem bw_shr {a : Int} {k : Nat} (hk : k < 32) : bw (shrI a k) = (bw a).sshiftRight k := by
  rw [shrI, bw_x, Int32.toBitVec_shiftRight]
  have := sh_k ⟨k, hk⟩
  simp only at this
  rw [this]
  simp [bw, BitVec.sshiftRight_eq', Nat.mod_eq_of_lt (show k < 4294967296 by omega)]
theorem bw_1 : bw 1 = 1#32 := by decide
theorem bw_m1 : bw (-1) = BitVec.allOnes 32 := by decide
theorem bw_0 : bw 0 = 0#32 := by decide
theorem w32_bw {a : Int} : w32 a = (bw a).toInt := rfl
theorem w32_bits {a b : Int} (h : ∀ g, g < 32 → (bw a).getLsbD g = (bw b).getLsbD g) : w32 a = w32 b := by
  rw [w32_bw, w32_bw, BitVec.eq_of_getLsbD_eq (fun i hi => h i hi)]
theorem and1_t {w : Int} {g : Nat} (hg : g < 32) : w32 (andI (shrI w g) 1) = if (bw w).getLsbD g = true then 1 else 0 := by
  rw [w32_bw, bw_and, bw_shr hg, bw_1, BitVec.and_one_eq_setWidth_ofBool_getLsbD]
  have e : ((bw w).sshiftRight g).getLsbD 0 = (bw w).getLsbD g := by
    rw [BitVec.getLsbD_sshiftRight]
    simp [hg]
  rw [e]
  cases (bw w).getLsbD g <;> decide
theorem bt_eq {w : Int} {g : Nat} (hg : g < 32) : bt w g = (bw w).getLsbD g := by
  rw [bt, and1_t hg]
  cases (bw w).getLsbD g <;> decide
theorem has_eq {w : Int} {g : Nat} (hg : g < 32) : decide (w32 (andI (shrI w g) 1) = 1) = bt w g := by
  rw [bt_eq hg, and1_t hg]
  cases (bw w).getLsbD g <;> decide
theorem bt_or {a b : Int} {g : Nat} (hg : g < 32) : bt (iorI a b) g = (bt a g || bt b g) := by
  rw [bt_eq hg, bt_eq hg, bt_eq hg, bw_or, BitVec.getLsbD_or]
theorem bt_and {a b : Int} {g : Nat} (hg : g < 32) : bt (andI a b) g = (bt a g && bt b g) := by
  rw [bt_eq hg, bt_eq hg, bt_eq hg, bw_and, BitVec.getLsbD_and]
theorem bt_not {a : Int} {g : Nat} (hg : g < 32) : bt (xorI a (-1)) g = !bt a g := by
  rw [bt_eq hg, bt_eq hg, bw_xor, bw_m1, BitVec.getLsbD_xor, BitVec.getLsbD_allOnes]
  simp only [hg, decide_true, Bool.xor_true]
theorem bt_shl1 {k g : Nat} (hk : k < 32) (hg : g < 32) : bt (shlI 1 k) g = decide (g = k) := by
  rw [bt_eq hg, bw_shl hk, bw_1, BitVec.getLsbD_shiftLeft]
  by_cases h : g = k
  · subst h; simp [hg]
  · have : ¬ (g - k = 0 ∧ k ≤ g) := by omega
    simp [hg, h]
    intro h1
    omega
theorem bt_0 {g : Nat} (hg : g < 32) : bt 0 g = false := by
  rw [bt_eq hg, bw_0]
  simp
theorem bt_ext {a b : Int} (h : ∀ g : Nat, g < 32 → bt a g = bt b g) : w32 a = w32 b := w32_bits (fun g hg => by rw [← bt_eq hg, ← bt_eq hg]; exact h g hg)
theorem ofw {a : Int} : Int32.ofInt (w32 a) = Int32.ofInt a := Int32.ofInt_toInt _
theorem shrI_w {a g : Int} : shrI (w32 a) g = shrI a g := by rw [shrI, ofw]; rfl
theorem bt_w {a : Int} {g : Int} : bt (w32 a) g = bt a g := by
  unfold bt
  rw [shrI_w]
