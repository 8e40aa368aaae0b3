/-! CORE (genK.py): the words as continuations; one round of a loop; frames -/
theorem cE_K {n : Int} {ρ : Lo} {σ : Me} : cE n ρ σ = some (n, σ) := rfl
theorem vE_K {i : Nat} {ρ : Lo} {σ : Me} : vE i ρ σ = some (ρ i, σ) := rfl
theorem gE_K {v : Nat} {ρ : Lo} {σ : Me} : gE v ρ σ = some (σ v 0, σ) := rfl
def o1K (op : Int → Int) (y : Option (Int × Me)) : Option (Int × Me) := y.bind fun x => some (op x.1, x.2)
theorem o1K_0 {op : Int → Int} {a0 : Int} {s : Me} : o1K op (some (a0, s)) = some (op a0, s) := Eq.trans rfl rfl
theorem o1K_i {op : Int → Int} {p : Prop} [Decidable p] {X Y : Option (Int × Me)} : o1K op (if p then X else Y) = if p then o1K op X else o1K op Y := by
  by_cases h : p <;> simp only [h, if_true, if_false]
theorem ok_o1K {op : Int → Int} {y : Option (Int × Me)} {P : _ → Prop} (h : ok y fun x => ok (o1K op (some x)) P) : ok (o1K op y) P := by
  obtain ⟨r, rfl, h⟩ := h
  exact h
theorem o1_K {op : Int → Int} {a : EM} {ρ : Lo} {σ : Me} : o1 op a ρ σ = o1K op (a ρ σ) := rfl
def o2L (op : Int → Int → Int) (z : Int) (y : Option (Int × Me)) : Option (Int × Me) := y.bind fun x => some (op z x.1, x.2)
theorem o2L_0 {op : Int → Int → Int} {z : Int} {a0 : Int} {s : Me} : o2L op z (some (a0, s)) = some (op z a0, s) := Eq.trans rfl rfl
theorem o2L_i {op : Int → Int → Int} {z : Int} {p : Prop} [Decidable p] {X Y : Option (Int × Me)} : o2L op z (if p then X else Y) = if p then o2L op z X else o2L op z Y := by
  by_cases h : p <;> simp only [h, if_true, if_false]
theorem ok_o2L {op : Int → Int → Int} {z : Int} {y : Option (Int × Me)} {P : _ → Prop} (h : ok y fun x => ok (o2L op z (some x)) P) : ok (o2L op z y) P := by
  obtain ⟨r, rfl, h⟩ := h
  exact h
def o2K (op : Int → Int → Int) (b : EM) (ρ : Lo) (y : Option (Int × Me)) : Option (Int × Me) := y.bind fun x => o2L op x.1 (b ρ x.2)
theorem o2K_0 {op : Int → Int → Int} {b : EM} {ρ : Lo} {a0 : Int} {s : Me} : o2K op b ρ (some (a0, s)) = o2L op a0 (b ρ s) := Eq.trans rfl rfl
theorem o2K_i {op : Int → Int → Int} {b : EM} {ρ : Lo} {p : Prop} [Decidable p] {X Y : Option (Int × Me)} : o2K op b ρ (if p then X else Y) = if p then o2K op b ρ X else o2K op b ρ Y := by
  by_cases h : p <;> simp only [h, if_true, if_false]
theorem ok_o2K {op : Int → Int → Int} {b : EM} {ρ : Lo} {y : Option (Int × Me)} {P : _ → Prop} (h : ok y fun x => ok (o2K op b ρ (some x)) P) : ok (o2K op b ρ y) P := by
  obtain ⟨r, rfl, h⟩ := h
  exact h
theorem o2_K {op : Int → Int → Int} {a b : EM} {ρ : Lo} {σ : Me} : o2 op a b ρ σ = o2K op b ρ (a ρ σ) := rfl
def thK (b : EM) (ρ : Lo) (y : Option (Int × Me)) : Option (Int × Me) := y.bind fun x => b ρ x.2
theorem thK_0 {b : EM} {ρ : Lo} {a0 : Int} {s : Me} : thK b ρ (some (a0, s)) = b ρ s := Eq.trans rfl rfl
theorem thK_i {b : EM} {ρ : Lo} {p : Prop} [Decidable p] {X Y : Option (Int × Me)} : thK b ρ (if p then X else Y) = if p then thK b ρ X else thK b ρ Y := by
  by_cases h : p <;> simp only [h, if_true, if_false]
theorem ok_thK {b : EM} {ρ : Lo} {y : Option (Int × Me)} {P : _ → Prop} (h : ok y fun x => ok (thK b ρ (some x)) P) : ok (thK b ρ y) P := by
  obtain ⟨r, rfl, h⟩ := h
  exact h
theorem th_K {a b : EM} {ρ : Lo} {σ : Me} : thE a b ρ σ = thK b ρ (a ρ σ) := rfl
def dvL (z : Int) (y : Option (Int × Me)) : Option (Int × Me) := y.bind fun x => if w32 x.1 = 0 then none else some ((w32 z).tdiv (w32 x.1), x.2)
theorem dvL_0 {z : Int} {a0 : Int} {s : Me} : dvL z (some (a0, s)) = if w32 a0 = 0 then none else some ((w32 z).tdiv (w32 a0), s) := Eq.trans rfl rfl
theorem dvL_i {z : Int} {p : Prop} [Decidable p] {X Y : Option (Int × Me)} : dvL z (if p then X else Y) = if p then dvL z X else dvL z Y := by
  by_cases h : p <;> simp only [h, if_true, if_false]
theorem ok_dvL {z : Int} {y : Option (Int × Me)} {P : _ → Prop} (h : ok y fun x => ok (dvL z (some x)) P) : ok (dvL z y) P := by
  obtain ⟨r, rfl, h⟩ := h
  exact h
def dvK (b : EM) (ρ : Lo) (y : Option (Int × Me)) : Option (Int × Me) := y.bind fun x => dvL x.1 (b ρ x.2)
theorem dvK_0 {b : EM} {ρ : Lo} {a0 : Int} {s : Me} : dvK b ρ (some (a0, s)) = dvL a0 (b ρ s) := Eq.trans rfl rfl
theorem dvK_i {b : EM} {ρ : Lo} {p : Prop} [Decidable p] {X Y : Option (Int × Me)} : dvK b ρ (if p then X else Y) = if p then dvK b ρ X else dvK b ρ Y := by
  by_cases h : p <;> simp only [h, if_true, if_false]
theorem ok_dvK {b : EM} {ρ : Lo} {y : Option (Int × Me)} {P : _ → Prop} (h : ok y fun x => ok (dvK b ρ (some x)) P) : ok (dvK b ρ y) P := by
  obtain ⟨r, rfl, h⟩ := h
  exact h
theorem dv_K {a b : EM} {ρ : Lo} {σ : Me} : dvE a b ρ σ = dvK b ρ (a ρ σ) := rfl
def rmL (z : Int) (y : Option (Int × Me)) : Option (Int × Me) := y.bind fun x => if w32 x.1 = 0 then none else some (w32 z - (w32 z).tdiv (w32 x.1) * w32 x.1, x.2)
theorem rmL_0 {z : Int} {a0 : Int} {s : Me} : rmL z (some (a0, s)) = if w32 a0 = 0 then none else some (w32 z - (w32 z).tdiv (w32 a0) * w32 a0, s) := Eq.trans rfl rfl
theorem rmL_i {z : Int} {p : Prop} [Decidable p] {X Y : Option (Int × Me)} : rmL z (if p then X else Y) = if p then rmL z X else rmL z Y := by
  by_cases h : p <;> simp only [h, if_true, if_false]
theorem ok_rmL {z : Int} {y : Option (Int × Me)} {P : _ → Prop} (h : ok y fun x => ok (rmL z (some x)) P) : ok (rmL z y) P := by
  obtain ⟨r, rfl, h⟩ := h
  exact h
def rmK (b : EM) (ρ : Lo) (y : Option (Int × Me)) : Option (Int × Me) := y.bind fun x => rmL x.1 (b ρ x.2)
theorem rmK_0 {b : EM} {ρ : Lo} {a0 : Int} {s : Me} : rmK b ρ (some (a0, s)) = rmL a0 (b ρ s) := Eq.trans rfl rfl
theorem rmK_i {b : EM} {ρ : Lo} {p : Prop} [Decidable p] {X Y : Option (Int × Me)} : rmK b ρ (if p then X else Y) = if p then rmK b ρ X else rmK b ρ Y := by
  by_cases h : p <;> simp only [h, if_true, if_false]
theorem ok_rmK {b : EM} {ρ : Lo} {y : Option (Int × Me)} {P : _ → Prop} (h : ok y fun x => ok (rmK b ρ (some x)) P) : ok (rmK b ρ y) P := by
  obtain ⟨r, rfl, h⟩ := h
  exact h
theorem rm_K {a b : EM} {ρ : Lo} {σ : Me} : rmE a b ρ σ = rmK b ρ (a ρ σ) := rfl
def dlL (z : Int) (y : Option (Int × Me)) : Option (Int × Me) := y.bind fun x => if w64 x.1 = 0 then none else some ((w64 z).tdiv (w64 x.1), x.2)
theorem dlL_0 {z : Int} {a0 : Int} {s : Me} : dlL z (some (a0, s)) = if w64 a0 = 0 then none else some ((w64 z).tdiv (w64 a0), s) := Eq.trans rfl rfl
theorem dlL_i {z : Int} {p : Prop} [Decidable p] {X Y : Option (Int × Me)} : dlL z (if p then X else Y) = if p then dlL z X else dlL z Y := by
  by_cases h : p <;> simp only [h, if_true, if_false]
theorem ok_dlL {z : Int} {y : Option (Int × Me)} {P : _ → Prop} (h : ok y fun x => ok (dlL z (some x)) P) : ok (dlL z y) P := by
  obtain ⟨r, rfl, h⟩ := h
  exact h
def dlK (b : EM) (ρ : Lo) (y : Option (Int × Me)) : Option (Int × Me) := y.bind fun x => dlL x.1 (b ρ x.2)
theorem dlK_0 {b : EM} {ρ : Lo} {a0 : Int} {s : Me} : dlK b ρ (some (a0, s)) = dlL a0 (b ρ s) := Eq.trans rfl rfl
theorem dlK_i {b : EM} {ρ : Lo} {p : Prop} [Decidable p] {X Y : Option (Int × Me)} : dlK b ρ (if p then X else Y) = if p then dlK b ρ X else dlK b ρ Y := by
  by_cases h : p <;> simp only [h, if_true, if_false]
theorem ok_dlK {b : EM} {ρ : Lo} {y : Option (Int × Me)} {P : _ → Prop} (h : ok y fun x => ok (dlK b ρ (some x)) P) : ok (dlK b ρ y) P := by
  obtain ⟨r, rfl, h⟩ := h
  exact h
theorem dl_K {a b : EM} {ρ : Lo} {σ : Me} : dlE a b ρ σ = dlK b ρ (a ρ σ) := rfl
def ldQ (v : Nat) (s : Me) (y : Option Nat) : Option (Int × Me) := y.bind fun x => some (s v x, s)
theorem ldQ_0 {v : Nat} {s : Me} {k0 : Nat} : ldQ v s (some k0) = some (s v k0, s) := Eq.trans rfl rfl
theorem ldQ_i {v : Nat} {s : Me} {p : Prop} [Decidable p] {X Y : Option Nat} : ldQ v s (if p then X else Y) = if p then ldQ v s X else ldQ v s Y := by
  by_cases h : p <;> simp only [h, if_true, if_false]
theorem ok_ldQ {v : Nat} {s : Me} {y : Option Nat} {P : _ → Prop} (h : ok y fun x => ok (ldQ v s (some x)) P) : ok (ldQ v s y) P := by
  obtain ⟨r, rfl, h⟩ := h
  exact h
def ldL (v : Nat) (n : Nat) (y : Option (Int × Me)) : Option (Int × Me) := y.bind fun x => ldQ v x.2 (ixI x.1 n)
theorem ldL_0 {v : Nat} {n : Nat} {a0 : Int} {s : Me} : ldL v n (some (a0, s)) = ldQ v s (ixI a0 n) := Eq.trans rfl rfl
theorem ldL_i {v : Nat} {n : Nat} {p : Prop} [Decidable p] {X Y : Option (Int × Me)} : ldL v n (if p then X else Y) = if p then ldL v n X else ldL v n Y := by
  by_cases h : p <;> simp only [h, if_true, if_false]
theorem ok_ldL {v : Nat} {n : Nat} {y : Option (Int × Me)} {P : _ → Prop} (h : ok y fun x => ok (ldL v n (some x)) P) : ok (ldL v n y) P := by
  obtain ⟨r, rfl, h⟩ := h
  exact h
def ldK (v : Nat) (n : Nat) (i : EM) (ρ : Lo) (y : Option (Int × Me)) : Option (Int × Me) := y.bind fun x => ldL v n (i ρ x.2)
theorem ldK_0 {v : Nat} {n : Nat} {i : EM} {ρ : Lo} {a0 : Int} {s : Me} : ldK v n i ρ (some (a0, s)) = ldL v n (i ρ s) := Eq.trans rfl rfl
theorem ldK_i {v : Nat} {n : Nat} {i : EM} {ρ : Lo} {p : Prop} [Decidable p] {X Y : Option (Int × Me)} : ldK v n i ρ (if p then X else Y) = if p then ldK v n i ρ X else ldK v n i ρ Y := by
  by_cases h : p <;> simp only [h, if_true, if_false]
theorem ok_ldK {v : Nat} {n : Nat} {i : EM} {ρ : Lo} {y : Option (Int × Me)} {P : _ → Prop} (h : ok y fun x => ok (ldK v n i ρ (some x)) P) : ok (ldK v n i ρ y) P := by
  obtain ⟨r, rfl, h⟩ := h
  exact h
theorem ld_K {v n : Nat} {a i : EM} {ρ : Lo} {σ : Me} : ldE v n a i ρ σ = ldK v n i ρ (a ρ σ) := rfl
def kK (a : EM) (b : EM) (ρ : Lo) (y : Option (Bool × Me)) : Option (Int × Me) := y.bind fun x => if x.1 = true then a ρ x.2 else b ρ x.2
theorem kK_0 {a : EM} {b : EM} {ρ : Lo} {t : Bool} {s : Me} : kK a b ρ (some (t, s)) = if t = true then a ρ s else b ρ s := Eq.trans rfl rfl
theorem kK_i {a : EM} {b : EM} {ρ : Lo} {p : Prop} [Decidable p] {X Y : Option (Bool × Me)} : kK a b ρ (if p then X else Y) = if p then kK a b ρ X else kK a b ρ Y := by
  by_cases h : p <;> simp only [h, if_true, if_false]
theorem ok_kK {a : EM} {b : EM} {ρ : Lo} {y : Option (Bool × Me)} {P : _ → Prop} (h : ok y fun x => ok (kK a b ρ (some x)) P) : ok (kK a b ρ y) P := by
  obtain ⟨r, rfl, h⟩ := h
  exact h
theorem k_K {c : BM} {a b : EM} {ρ : Lo} {σ : Me} : kE c a b ρ σ = kK a b ρ (c ρ σ) := rfl
def aL (z : Int) (y : Option (List Int × Me)) : Option (List Int × Me) := y.bind fun x => some (z :: x.1, x.2)
theorem aL_0 {z : Int} {l0 : List Int} {s : Me} : aL z (some (l0, s)) = some (z :: l0, s) := Eq.trans rfl rfl
theorem aL_i {z : Int} {p : Prop} [Decidable p] {X Y : Option (List Int × Me)} : aL z (if p then X else Y) = if p then aL z X else aL z Y := by
  by_cases h : p <;> simp only [h, if_true, if_false]
theorem ok_aL {z : Int} {y : Option (List Int × Me)} {P : _ → Prop} (h : ok y fun x => ok (aL z (some x)) P) : ok (aL z y) P := by
  obtain ⟨r, rfl, h⟩ := h
  exact h
def aK (l : List EM) (ρ : Lo) (y : Option (Int × Me)) : Option (List Int × Me) := y.bind fun x => aL x.1 (aE l ρ x.2)
theorem aK_0 {l : List EM} {ρ : Lo} {a0 : Int} {s : Me} : aK l ρ (some (a0, s)) = aL a0 (aE l ρ s) := Eq.trans rfl rfl
theorem aK_i {l : List EM} {ρ : Lo} {p : Prop} [Decidable p] {X Y : Option (Int × Me)} : aK l ρ (if p then X else Y) = if p then aK l ρ X else aK l ρ Y := by
  by_cases h : p <;> simp only [h, if_true, if_false]
theorem ok_aK {l : List EM} {ρ : Lo} {y : Option (Int × Me)} {P : _ → Prop} (h : ok y fun x => ok (aK l ρ (some x)) P) : ok (aK l ρ y) P := by
  obtain ⟨r, rfl, h⟩ := h
  exact h
theorem aE_0  {ρ : Lo} {σ : Me} : aE [] ρ σ = some ([], σ) := rfl
theorem aE_1 {a : EM} {l : List EM} {ρ : Lo} {σ : Me} : aE (a :: l) ρ σ = aK l ρ (a ρ σ) := rfl
def clK (f : FM) (y : Option (List Int × Me)) : Option (Int × Me) := y.bind fun x => f x.1 x.2
theorem clK_0 {f : FM} {l0 : List Int} {s : Me} : clK f (some (l0, s)) = f l0 s := Eq.trans rfl rfl
theorem clK_i {f : FM} {p : Prop} [Decidable p] {X Y : Option (List Int × Me)} : clK f (if p then X else Y) = if p then clK f X else clK f Y := by
  by_cases h : p <;> simp only [h, if_true, if_false]
theorem ok_clK {f : FM} {y : Option (List Int × Me)} {P : _ → Prop} (h : ok y fun x => ok (clK f (some x)) P) : ok (clK f y) P := by
  obtain ⟨r, rfl, h⟩ := h
  exact h
theorem cl_K {f : FM} {l : List EM} {ρ : Lo} {σ : Me} : clE f l ρ σ = clK f (aE l ρ σ) := rfl
def cBL (o : Nat) (z : Int) (y : Option (Int × Me)) : Option (Bool × Me) := y.bind fun x => some (cmpI o z x.1, x.2)
theorem cBL_0 {o : Nat} {z : Int} {a0 : Int} {s : Me} : cBL o z (some (a0, s)) = some (cmpI o z a0, s) := Eq.trans rfl rfl
theorem cBL_i {o : Nat} {z : Int} {p : Prop} [Decidable p] {X Y : Option (Int × Me)} : cBL o z (if p then X else Y) = if p then cBL o z X else cBL o z Y := by
  by_cases h : p <;> simp only [h, if_true, if_false]
theorem ok_cBL {o : Nat} {z : Int} {y : Option (Int × Me)} {P : _ → Prop} (h : ok y fun x => ok (cBL o z (some x)) P) : ok (cBL o z y) P := by
  obtain ⟨r, rfl, h⟩ := h
  exact h
def cBK (o : Nat) (b : EM) (ρ : Lo) (y : Option (Int × Me)) : Option (Bool × Me) := y.bind fun x => cBL o x.1 (b ρ x.2)
theorem cBK_0 {o : Nat} {b : EM} {ρ : Lo} {a0 : Int} {s : Me} : cBK o b ρ (some (a0, s)) = cBL o a0 (b ρ s) := Eq.trans rfl rfl
theorem cBK_i {o : Nat} {b : EM} {ρ : Lo} {p : Prop} [Decidable p] {X Y : Option (Int × Me)} : cBK o b ρ (if p then X else Y) = if p then cBK o b ρ X else cBK o b ρ Y := by
  by_cases h : p <;> simp only [h, if_true, if_false]
theorem ok_cBK {o : Nat} {b : EM} {ρ : Lo} {y : Option (Int × Me)} {P : _ → Prop} (h : ok y fun x => ok (cBK o b ρ (some x)) P) : ok (cBK o b ρ y) P := by
  obtain ⟨r, rfl, h⟩ := h
  exact h
theorem cB_K {o : Nat} {a b : EM} {ρ : Lo} {σ : Me} : cB o a b ρ σ = cBK o b ρ (a ρ σ) := rfl
def zBK (o : Nat) (y : Option (Int × Me)) : Option (Bool × Me) := y.bind fun x => some (cmpI o x.1 0, x.2)
theorem zBK_0 {o : Nat} {a0 : Int} {s : Me} : zBK o (some (a0, s)) = some (cmpI o a0 0, s) := Eq.trans rfl rfl
theorem zBK_i {o : Nat} {p : Prop} [Decidable p] {X Y : Option (Int × Me)} : zBK o (if p then X else Y) = if p then zBK o X else zBK o Y := by
  by_cases h : p <;> simp only [h, if_true, if_false]
theorem ok_zBK {o : Nat} {y : Option (Int × Me)} {P : _ → Prop} (h : ok y fun x => ok (zBK o (some x)) P) : ok (zBK o y) P := by
  obtain ⟨r, rfl, h⟩ := h
  exact h
theorem zB_K {o : Nat} {a : EM} {ρ : Lo} {σ : Me} : zB o a ρ σ = zBK o (a ρ σ) := rfl
def nBK  (y : Option (Bool × Me)) : Option (Bool × Me) := y.bind fun x => some (!x.1, x.2)
theorem nBK_0  {t : Bool} {s : Me} : nBK  (some (t, s)) = some (!t, s) := Eq.trans rfl rfl
theorem nBK_i  {p : Prop} [Decidable p] {X Y : Option (Bool × Me)} : nBK  (if p then X else Y) = if p then nBK  X else nBK  Y := by
  by_cases h : p <;> simp only [h, if_true, if_false]
theorem ok_nBK  {y : Option (Bool × Me)} {P : _ → Prop} (h : ok y fun x => ok (nBK  (some x)) P) : ok (nBK  y) P := by
  obtain ⟨r, rfl, h⟩ := h
  exact h
theorem nB_K {c : BM} {ρ : Lo} {σ : Me} : nB c ρ σ = nBK (c ρ σ) := rfl
def andK (d : BM) (ρ : Lo) (y : Option (Bool × Me)) : Option (Bool × Me) := y.bind fun x => if x.1 = true then d ρ x.2 else some (false, x.2)
theorem andK_0 {d : BM} {ρ : Lo} {t : Bool} {s : Me} : andK d ρ (some (t, s)) = if t = true then d ρ s else some (false, s) := Eq.trans rfl rfl
theorem andK_i {d : BM} {ρ : Lo} {p : Prop} [Decidable p] {X Y : Option (Bool × Me)} : andK d ρ (if p then X else Y) = if p then andK d ρ X else andK d ρ Y := by
  by_cases h : p <;> simp only [h, if_true, if_false]
theorem ok_andK {d : BM} {ρ : Lo} {y : Option (Bool × Me)} {P : _ → Prop} (h : ok y fun x => ok (andK d ρ (some x)) P) : ok (andK d ρ y) P := by
  obtain ⟨r, rfl, h⟩ := h
  exact h
theorem and_K {c d : BM} {ρ : Lo} {σ : Me} : andB c d ρ σ = andK d ρ (c ρ σ) := rfl
def orK (d : BM) (ρ : Lo) (y : Option (Bool × Me)) : Option (Bool × Me) := y.bind fun x => if x.1 = true then some (true, x.2) else d ρ x.2
theorem orK_0 {d : BM} {ρ : Lo} {t : Bool} {s : Me} : orK d ρ (some (t, s)) = if t = true then some (true, s) else d ρ s := Eq.trans rfl rfl
theorem orK_i {d : BM} {ρ : Lo} {p : Prop} [Decidable p] {X Y : Option (Bool × Me)} : orK d ρ (if p then X else Y) = if p then orK d ρ X else orK d ρ Y := by
  by_cases h : p <;> simp only [h, if_true, if_false]
theorem ok_orK {d : BM} {ρ : Lo} {y : Option (Bool × Me)} {P : _ → Prop} (h : ok y fun x => ok (orK d ρ (some x)) P) : ok (orK d ρ y) P := by
  obtain ⟨r, rfl, h⟩ := h
  exact h
theorem or_K {c d : BM} {ρ : Lo} {σ : Me} : orB c d ρ σ = orK d ρ (c ρ σ) := rfl
def tkK (a : BM) (b : BM) (ρ : Lo) (y : Option (Bool × Me)) : Option (Bool × Me) := y.bind fun x => if x.1 = true then a ρ x.2 else b ρ x.2
theorem tkK_0 {a : BM} {b : BM} {ρ : Lo} {t : Bool} {s : Me} : tkK a b ρ (some (t, s)) = if t = true then a ρ s else b ρ s := Eq.trans rfl rfl
theorem tkK_i {a : BM} {b : BM} {ρ : Lo} {p : Prop} [Decidable p] {X Y : Option (Bool × Me)} : tkK a b ρ (if p then X else Y) = if p then tkK a b ρ X else tkK a b ρ Y := by
  by_cases h : p <;> simp only [h, if_true, if_false]
theorem ok_tkK {a : BM} {b : BM} {ρ : Lo} {y : Option (Bool × Me)} {P : _ → Prop} (h : ok y fun x => ok (tkK a b ρ (some x)) P) : ok (tkK a b ρ y) P := by
  obtain ⟨r, rfl, h⟩ := h
  exact h
theorem tk_K {c a b : BM} {ρ : Lo} {σ : Me} : tkB c a b ρ σ = tkK a b ρ (c ρ σ) := rfl
theorem sk_K  {ρ : Lo} {σ : Me} : skS ρ σ = some (0, 0, ρ, σ) := rfl
def stK (i : Nat) (ρ : Lo) (y : Option (Int × Me)) : Option (Nat × Int × Lo × Me) := y.bind fun x => some (0, 0, up ρ i x.1, x.2)
theorem stK_0 {i : Nat} {ρ : Lo} {a0 : Int} {s : Me} : stK i ρ (some (a0, s)) = some (0, 0, up ρ i a0, s) := Eq.trans rfl rfl
theorem stK_i {i : Nat} {ρ : Lo} {p : Prop} [Decidable p] {X Y : Option (Int × Me)} : stK i ρ (if p then X else Y) = if p then stK i ρ X else stK i ρ Y := by
  by_cases h : p <;> simp only [h, if_true, if_false]
theorem ok_stK {i : Nat} {ρ : Lo} {y : Option (Int × Me)} {P : _ → Prop} (h : ok y fun x => ok (stK i ρ (some x)) P) : ok (stK i ρ y) P := by
  obtain ⟨r, rfl, h⟩ := h
  exact h
theorem st_K {i : Nat} {a : EM} {ρ : Lo} {σ : Me} : stS i a ρ σ = stK i ρ (a ρ σ) := rfl
def exK (ρ : Lo) (y : Option (Int × Me)) : Option (Nat × Int × Lo × Me) := y.bind fun x => some (0, 0, ρ, x.2)
theorem exK_0 {ρ : Lo} {a0 : Int} {s : Me} : exK ρ (some (a0, s)) = some (0, 0, ρ, s) := Eq.trans rfl rfl
theorem exK_i {ρ : Lo} {p : Prop} [Decidable p] {X Y : Option (Int × Me)} : exK ρ (if p then X else Y) = if p then exK ρ X else exK ρ Y := by
  by_cases h : p <;> simp only [h, if_true, if_false]
theorem ok_exK {ρ : Lo} {y : Option (Int × Me)} {P : _ → Prop} (h : ok y fun x => ok (exK ρ (some x)) P) : ok (exK ρ y) P := by
  obtain ⟨r, rfl, h⟩ := h
  exact h
theorem ex_K {a : EM} {ρ : Lo} {σ : Me} : exS a ρ σ = exK ρ (a ρ σ) := rfl
theorem in_K {i : Nat} {n : Int} {ρ : Lo} {σ : Me} : inS i n ρ σ = some (0, 0, up ρ i (ρ i + n), σ) := rfl
def pfL (v : Nat) (ρ : Lo) (y : Option (Int × Me)) : Option (Nat × Int × Lo × Me) := y.bind fun x => some (0, 0, ρ, u2 x.2 v 0 x.1)
theorem pfL_0 {v : Nat} {ρ : Lo} {a0 : Int} {s : Me} : pfL v ρ (some (a0, s)) = some (0, 0, ρ, u2 s v 0 a0) := Eq.trans rfl rfl
theorem pfL_i {v : Nat} {ρ : Lo} {p : Prop} [Decidable p] {X Y : Option (Int × Me)} : pfL v ρ (if p then X else Y) = if p then pfL v ρ X else pfL v ρ Y := by
  by_cases h : p <;> simp only [h, if_true, if_false]
theorem ok_pfL {v : Nat} {ρ : Lo} {y : Option (Int × Me)} {P : _ → Prop} (h : ok y fun x => ok (pfL v ρ (some x)) P) : ok (pfL v ρ y) P := by
  obtain ⟨r, rfl, h⟩ := h
  exact h
def pfK (v : Nat) (a : EM) (ρ : Lo) (y : Option (Int × Me)) : Option (Nat × Int × Lo × Me) := y.bind fun x => pfL v ρ (a ρ x.2)
theorem pfK_0 {v : Nat} {a : EM} {ρ : Lo} {a0 : Int} {s : Me} : pfK v a ρ (some (a0, s)) = pfL v ρ (a ρ s) := Eq.trans rfl rfl
theorem pfK_i {v : Nat} {a : EM} {ρ : Lo} {p : Prop} [Decidable p] {X Y : Option (Int × Me)} : pfK v a ρ (if p then X else Y) = if p then pfK v a ρ X else pfK v a ρ Y := by
  by_cases h : p <;> simp only [h, if_true, if_false]
theorem ok_pfK {v : Nat} {a : EM} {ρ : Lo} {y : Option (Int × Me)} {P : _ → Prop} (h : ok y fun x => ok (pfK v a ρ (some x)) P) : ok (pfK v a ρ y) P := by
  obtain ⟨r, rfl, h⟩ := h
  exact h
theorem pf_K {v : Nat} {o a : EM} {ρ : Lo} {σ : Me} : pfS v o a ρ σ = pfK v a ρ (o ρ σ) := rfl
def pzL (v : Nat) (ρ : Lo) (y : Option (Int × Me)) : Option (Nat × Int × Lo × Me) := y.bind fun x => if x.1 = 0 ∨ x.1 = 1 then some (0, 0, ρ, u2 x.2 v 0 x.1) else none
theorem pzL_0 {v : Nat} {ρ : Lo} {a0 : Int} {s : Me} : pzL v ρ (some (a0, s)) = if a0 = 0 ∨ a0 = 1 then some (0, 0, ρ, u2 s v 0 a0) else none := Eq.trans rfl rfl
theorem pzL_i {v : Nat} {ρ : Lo} {p : Prop} [Decidable p] {X Y : Option (Int × Me)} : pzL v ρ (if p then X else Y) = if p then pzL v ρ X else pzL v ρ Y := by
  by_cases h : p <;> simp only [h, if_true, if_false]
theorem ok_pzL {v : Nat} {ρ : Lo} {y : Option (Int × Me)} {P : _ → Prop} (h : ok y fun x => ok (pzL v ρ (some x)) P) : ok (pzL v ρ y) P := by
  obtain ⟨r, rfl, h⟩ := h
  exact h
def pzK (v : Nat) (a : EM) (ρ : Lo) (y : Option (Int × Me)) : Option (Nat × Int × Lo × Me) := y.bind fun x => pzL v ρ (a ρ x.2)
theorem pzK_0 {v : Nat} {a : EM} {ρ : Lo} {a0 : Int} {s : Me} : pzK v a ρ (some (a0, s)) = pzL v ρ (a ρ s) := Eq.trans rfl rfl
theorem pzK_i {v : Nat} {a : EM} {ρ : Lo} {p : Prop} [Decidable p] {X Y : Option (Int × Me)} : pzK v a ρ (if p then X else Y) = if p then pzK v a ρ X else pzK v a ρ Y := by
  by_cases h : p <;> simp only [h, if_true, if_false]
theorem ok_pzK {v : Nat} {a : EM} {ρ : Lo} {y : Option (Int × Me)} {P : _ → Prop} (h : ok y fun x => ok (pzK v a ρ (some x)) P) : ok (pzK v a ρ y) P := by
  obtain ⟨r, rfl, h⟩ := h
  exact h
theorem pz_K {v : Nat} {o a : EM} {ρ : Lo} {σ : Me} : pzS v o a ρ σ = pzK v a ρ (o ρ σ) := rfl
def poL (v : Nat) (op : Int → Int → Int) (z : Int) (ρ : Lo) (y : Option (Int × Me)) : Option (Nat × Int × Lo × Me) := y.bind fun x => some (0, 0, ρ, u2 x.2 v 0 (op z x.1))
theorem poL_0 {v : Nat} {op : Int → Int → Int} {z : Int} {ρ : Lo} {a0 : Int} {s : Me} : poL v op z ρ (some (a0, s)) = some (0, 0, ρ, u2 s v 0 (op z a0)) := Eq.trans rfl rfl
theorem poL_i {v : Nat} {op : Int → Int → Int} {z : Int} {ρ : Lo} {p : Prop} [Decidable p] {X Y : Option (Int × Me)} : poL v op z ρ (if p then X else Y) = if p then poL v op z ρ X else poL v op z ρ Y := by
  by_cases h : p <;> simp only [h, if_true, if_false]
theorem ok_poL {v : Nat} {op : Int → Int → Int} {z : Int} {ρ : Lo} {y : Option (Int × Me)} {P : _ → Prop} (h : ok y fun x => ok (poL v op z ρ (some x)) P) : ok (poL v op z ρ y) P := by
  obtain ⟨r, rfl, h⟩ := h
  exact h
def poK (v : Nat) (op : Int → Int → Int) (a : EM) (ρ : Lo) (y : Option (Int × Me)) : Option (Nat × Int × Lo × Me) := y.bind fun x => poL v op (x.2 v 0) ρ (a ρ x.2)
theorem poK_0 {v : Nat} {op : Int → Int → Int} {a : EM} {ρ : Lo} {a0 : Int} {s : Me} : poK v op a ρ (some (a0, s)) = poL v op (s v 0) ρ (a ρ s) := Eq.trans rfl rfl
theorem poK_i {v : Nat} {op : Int → Int → Int} {a : EM} {ρ : Lo} {p : Prop} [Decidable p] {X Y : Option (Int × Me)} : poK v op a ρ (if p then X else Y) = if p then poK v op a ρ X else poK v op a ρ Y := by
  by_cases h : p <;> simp only [h, if_true, if_false]
theorem ok_poK {v : Nat} {op : Int → Int → Int} {a : EM} {ρ : Lo} {y : Option (Int × Me)} {P : _ → Prop} (h : ok y fun x => ok (poK v op a ρ (some x)) P) : ok (poK v op a ρ y) P := by
  obtain ⟨r, rfl, h⟩ := h
  exact h
theorem po_K {v : Nat} {op : Int → Int → Int} {o a : EM} {ρ : Lo} {σ : Me} : poS v op o a ρ σ = poK v op a ρ (o ρ σ) := rfl
def asQ (v : Nat) (w : Int) (s : Me) (ρ : Lo) (y : Option Nat) : Option (Nat × Int × Lo × Me) := y.bind fun x => some (0, 0, ρ, u2 s v x w)
theorem asQ_0 {v : Nat} {w : Int} {s : Me} {ρ : Lo} {k0 : Nat} : asQ v w s ρ (some k0) = some (0, 0, ρ, u2 s v k0 w) := Eq.trans rfl rfl
theorem asQ_i {v : Nat} {w : Int} {s : Me} {ρ : Lo} {p : Prop} [Decidable p] {X Y : Option Nat} : asQ v w s ρ (if p then X else Y) = if p then asQ v w s ρ X else asQ v w s ρ Y := by
  by_cases h : p <;> simp only [h, if_true, if_false]
theorem ok_asQ {v : Nat} {w : Int} {s : Me} {ρ : Lo} {y : Option Nat} {P : _ → Prop} (h : ok y fun x => ok (asQ v w s ρ (some x)) P) : ok (asQ v w s ρ y) P := by
  obtain ⟨r, rfl, h⟩ := h
  exact h
def asM (v : Nat) (n : Nat) (g : Int → Int) (z : Int) (ρ : Lo) (y : Option (Int × Me)) : Option (Nat × Int × Lo × Me) := y.bind fun x => asQ v (g x.1) x.2 ρ (ixI z n)
theorem asM_0 {v : Nat} {n : Nat} {g : Int → Int} {z : Int} {ρ : Lo} {a0 : Int} {s : Me} : asM v n g z ρ (some (a0, s)) = asQ v (g a0) s ρ (ixI z n) := Eq.trans rfl rfl
theorem asM_i {v : Nat} {n : Nat} {g : Int → Int} {z : Int} {ρ : Lo} {p : Prop} [Decidable p] {X Y : Option (Int × Me)} : asM v n g z ρ (if p then X else Y) = if p then asM v n g z ρ X else asM v n g z ρ Y := by
  by_cases h : p <;> simp only [h, if_true, if_false]
theorem ok_asM {v : Nat} {n : Nat} {g : Int → Int} {z : Int} {ρ : Lo} {y : Option (Int × Me)} {P : _ → Prop} (h : ok y fun x => ok (asM v n g z ρ (some x)) P) : ok (asM v n g z ρ y) P := by
  obtain ⟨r, rfl, h⟩ := h
  exact h
def asL (v : Nat) (n : Nat) (g : Int → Int) (a : EM) (ρ : Lo) (y : Option (Int × Me)) : Option (Nat × Int × Lo × Me) := y.bind fun x => asM v n g x.1 ρ (a ρ x.2)
theorem asL_0 {v : Nat} {n : Nat} {g : Int → Int} {a : EM} {ρ : Lo} {a0 : Int} {s : Me} : asL v n g a ρ (some (a0, s)) = asM v n g a0 ρ (a ρ s) := Eq.trans rfl rfl
theorem asL_i {v : Nat} {n : Nat} {g : Int → Int} {a : EM} {ρ : Lo} {p : Prop} [Decidable p] {X Y : Option (Int × Me)} : asL v n g a ρ (if p then X else Y) = if p then asL v n g a ρ X else asL v n g a ρ Y := by
  by_cases h : p <;> simp only [h, if_true, if_false]
theorem ok_asL {v : Nat} {n : Nat} {g : Int → Int} {a : EM} {ρ : Lo} {y : Option (Int × Me)} {P : _ → Prop} (h : ok y fun x => ok (asL v n g a ρ (some x)) P) : ok (asL v n g a ρ y) P := by
  obtain ⟨r, rfl, h⟩ := h
  exact h
def asK (v : Nat) (n : Nat) (g : Int → Int) (i : EM) (a : EM) (ρ : Lo) (y : Option (Int × Me)) : Option (Nat × Int × Lo × Me) := y.bind fun x => asL v n g a ρ (i ρ x.2)
theorem asK_0 {v : Nat} {n : Nat} {g : Int → Int} {i : EM} {a : EM} {ρ : Lo} {a0 : Int} {s : Me} : asK v n g i a ρ (some (a0, s)) = asL v n g a ρ (i ρ s) := Eq.trans rfl rfl
theorem asK_i {v : Nat} {n : Nat} {g : Int → Int} {i : EM} {a : EM} {ρ : Lo} {p : Prop} [Decidable p] {X Y : Option (Int × Me)} : asK v n g i a ρ (if p then X else Y) = if p then asK v n g i a ρ X else asK v n g i a ρ Y := by
  by_cases h : p <;> simp only [h, if_true, if_false]
theorem ok_asK {v : Nat} {n : Nat} {g : Int → Int} {i : EM} {a : EM} {ρ : Lo} {y : Option (Int × Me)} {P : _ → Prop} (h : ok y fun x => ok (asK v n g i a ρ (some x)) P) : ok (asK v n g i a ρ y) P := by
  obtain ⟨r, rfl, h⟩ := h
  exact h
theorem as_K {v n : Nat} {g : Int → Int} {q i a : EM} {ρ : Lo} {σ : Me} : asS v n g q i a ρ σ = asK v n g i a ρ (q ρ σ) := rfl
def aoM (v : Nat) (op : Int → Int → Int) (k : Nat) (z : Int) (ρ : Lo) (y : Option (Int × Me)) : Option (Nat × Int × Lo × Me) := y.bind fun x => some (0, 0, ρ, u2 x.2 v k (op z x.1))
theorem aoM_0 {v : Nat} {op : Int → Int → Int} {k : Nat} {z : Int} {ρ : Lo} {a0 : Int} {s : Me} : aoM v op k z ρ (some (a0, s)) = some (0, 0, ρ, u2 s v k (op z a0)) := Eq.trans rfl rfl
theorem aoM_i {v : Nat} {op : Int → Int → Int} {k : Nat} {z : Int} {ρ : Lo} {p : Prop} [Decidable p] {X Y : Option (Int × Me)} : aoM v op k z ρ (if p then X else Y) = if p then aoM v op k z ρ X else aoM v op k z ρ Y := by
  by_cases h : p <;> simp only [h, if_true, if_false]
theorem ok_aoM {v : Nat} {op : Int → Int → Int} {k : Nat} {z : Int} {ρ : Lo} {y : Option (Int × Me)} {P : _ → Prop} (h : ok y fun x => ok (aoM v op k z ρ (some x)) P) : ok (aoM v op k z ρ y) P := by
  obtain ⟨r, rfl, h⟩ := h
  exact h
def aoQ (v : Nat) (op : Int → Int → Int) (a : EM) (s : Me) (ρ : Lo) (y : Option Nat) : Option (Nat × Int × Lo × Me) := y.bind fun x => aoM v op x (s v x) ρ (a ρ s)
theorem aoQ_0 {v : Nat} {op : Int → Int → Int} {a : EM} {s : Me} {ρ : Lo} {k0 : Nat} : aoQ v op a s ρ (some k0) = aoM v op k0 (s v k0) ρ (a ρ s) := Eq.trans rfl rfl
theorem aoQ_i {v : Nat} {op : Int → Int → Int} {a : EM} {s : Me} {ρ : Lo} {p : Prop} [Decidable p] {X Y : Option Nat} : aoQ v op a s ρ (if p then X else Y) = if p then aoQ v op a s ρ X else aoQ v op a s ρ Y := by
  by_cases h : p <;> simp only [h, if_true, if_false]
theorem ok_aoQ {v : Nat} {op : Int → Int → Int} {a : EM} {s : Me} {ρ : Lo} {y : Option Nat} {P : _ → Prop} (h : ok y fun x => ok (aoQ v op a s ρ (some x)) P) : ok (aoQ v op a s ρ y) P := by
  obtain ⟨r, rfl, h⟩ := h
  exact h
def aoL (v : Nat) (n : Nat) (op : Int → Int → Int) (a : EM) (ρ : Lo) (y : Option (Int × Me)) : Option (Nat × Int × Lo × Me) := y.bind fun x => aoQ v op a x.2 ρ (ixI x.1 n)
theorem aoL_0 {v : Nat} {n : Nat} {op : Int → Int → Int} {a : EM} {ρ : Lo} {a0 : Int} {s : Me} : aoL v n op a ρ (some (a0, s)) = aoQ v op a s ρ (ixI a0 n) := Eq.trans rfl rfl
theorem aoL_i {v : Nat} {n : Nat} {op : Int → Int → Int} {a : EM} {ρ : Lo} {p : Prop} [Decidable p] {X Y : Option (Int × Me)} : aoL v n op a ρ (if p then X else Y) = if p then aoL v n op a ρ X else aoL v n op a ρ Y := by
  by_cases h : p <;> simp only [h, if_true, if_false]
theorem ok_aoL {v : Nat} {n : Nat} {op : Int → Int → Int} {a : EM} {ρ : Lo} {y : Option (Int × Me)} {P : _ → Prop} (h : ok y fun x => ok (aoL v n op a ρ (some x)) P) : ok (aoL v n op a ρ y) P := by
  obtain ⟨r, rfl, h⟩ := h
  exact h
def aoK (v : Nat) (n : Nat) (op : Int → Int → Int) (i : EM) (a : EM) (ρ : Lo) (y : Option (Int × Me)) : Option (Nat × Int × Lo × Me) := y.bind fun x => aoL v n op a ρ (i ρ x.2)
theorem aoK_0 {v : Nat} {n : Nat} {op : Int → Int → Int} {i : EM} {a : EM} {ρ : Lo} {a0 : Int} {s : Me} : aoK v n op i a ρ (some (a0, s)) = aoL v n op a ρ (i ρ s) := Eq.trans rfl rfl
theorem aoK_i {v : Nat} {n : Nat} {op : Int → Int → Int} {i : EM} {a : EM} {ρ : Lo} {p : Prop} [Decidable p] {X Y : Option (Int × Me)} : aoK v n op i a ρ (if p then X else Y) = if p then aoK v n op i a ρ X else aoK v n op i a ρ Y := by
  by_cases h : p <;> simp only [h, if_true, if_false]
theorem ok_aoK {v : Nat} {n : Nat} {op : Int → Int → Int} {i : EM} {a : EM} {ρ : Lo} {y : Option (Int × Me)} {P : _ → Prop} (h : ok y fun x => ok (aoK v n op i a ρ (some x)) P) : ok (aoK v n op i a ρ y) P := by
  obtain ⟨r, rfl, h⟩ := h
  exact h
theorem ao_K {v n : Nat} {op : Int → Int → Int} {q i a : EM} {ρ : Lo} {σ : Me} : aoS v n op q i a ρ σ = aoK v n op i a ρ (q ρ σ) := rfl
def sqK (b : SM) (y : Option (Nat × Int × Lo × Me)) : Option (Nat × Int × Lo × Me) := y.bind fun x => if x.1 = 0 then b x.2.2.1 x.2.2.2 else some x
theorem sqK_0 {b : SM} {v : Int} {r : Lo} {s : Me} : sqK b (some (0, v, r, s)) = b r s := Eq.trans rfl rfl
theorem sqK_1 {b : SM} {v : Int} {r : Lo} {s : Me} : sqK b (some (1, v, r, s)) = some (1, v, r, s) := Eq.trans rfl rfl
theorem sqK_2 {b : SM} {v : Int} {r : Lo} {s : Me} : sqK b (some (2, v, r, s)) = some (2, v, r, s) := Eq.trans rfl rfl
theorem sqK_3 {b : SM} {v : Int} {r : Lo} {s : Me} : sqK b (some (3, v, r, s)) = some (3, v, r, s) := Eq.trans rfl rfl
theorem sqK_4 {b : SM} {v : Int} {r : Lo} {s : Me} : sqK b (some (4, v, r, s)) = some (4, v, r, s) := Eq.trans rfl rfl
theorem sqK_i {b : SM} {p : Prop} [Decidable p] {X Y : Option (Nat × Int × Lo × Me)} : sqK b (if p then X else Y) = if p then sqK b X else sqK b Y := by
  by_cases h : p <;> simp only [h, if_true, if_false]
theorem ok_sqK {b : SM} {y : Option (Nat × Int × Lo × Me)} {P : _ → Prop} (h : ok y fun x => ok (sqK b (some x)) P) : ok (sqK b y) P := by
  obtain ⟨r, rfl, h⟩ := h
  exact h
theorem sq_K {a b : SM} {ρ : Lo} {σ : Me} : sq a b ρ σ = sqK b (a ρ σ) := rfl
def swK  (y : Option (Nat × Int × Lo × Me)) : Option (Nat × Int × Lo × Me) := y.bind fun x => if x.1 = 1 then some (0, x.2) else some x
theorem swK_0  {v : Int} {r : Lo} {s : Me} : swK  (some (0, v, r, s)) = some (0, v, r, s) := Eq.trans rfl rfl
theorem swK_1  {v : Int} {r : Lo} {s : Me} : swK  (some (1, v, r, s)) = some (0, v, r, s) := Eq.trans rfl rfl
theorem swK_2  {v : Int} {r : Lo} {s : Me} : swK  (some (2, v, r, s)) = some (2, v, r, s) := Eq.trans rfl rfl
theorem swK_3  {v : Int} {r : Lo} {s : Me} : swK  (some (3, v, r, s)) = some (3, v, r, s) := Eq.trans rfl rfl
theorem swK_4  {v : Int} {r : Lo} {s : Me} : swK  (some (4, v, r, s)) = some (4, v, r, s) := Eq.trans rfl rfl
theorem swK_i  {p : Prop} [Decidable p] {X Y : Option (Nat × Int × Lo × Me)} : swK  (if p then X else Y) = if p then swK  X else swK  Y := by
  by_cases h : p <;> simp only [h, if_true, if_false]
theorem ok_swK  {y : Option (Nat × Int × Lo × Me)} {P : _ → Prop} (h : ok y fun x => ok (swK  (some x)) P) : ok (swK  y) P := by
  obtain ⟨r, rfl, h⟩ := h
  exact h
theorem sw_K {a : SM} {ρ : Lo} {σ : Me} : swS a ρ σ = swK (a ρ σ) := rfl
def ifK (a : SM) (b : SM) (ρ : Lo) (y : Option (Bool × Me)) : Option (Nat × Int × Lo × Me) := y.bind fun x => if x.1 = true then a ρ x.2 else b ρ x.2
theorem ifK_0 {a : SM} {b : SM} {ρ : Lo} {t : Bool} {s : Me} : ifK a b ρ (some (t, s)) = if t = true then a ρ s else b ρ s := Eq.trans rfl rfl
theorem ifK_i {a : SM} {b : SM} {ρ : Lo} {p : Prop} [Decidable p] {X Y : Option (Bool × Me)} : ifK a b ρ (if p then X else Y) = if p then ifK a b ρ X else ifK a b ρ Y := by
  by_cases h : p <;> simp only [h, if_true, if_false]
theorem ok_ifK {a : SM} {b : SM} {ρ : Lo} {y : Option (Bool × Me)} {P : _ → Prop} (h : ok y fun x => ok (ifK a b ρ (some x)) P) : ok (ifK a b ρ y) P := by
  obtain ⟨r, rfl, h⟩ := h
  exact h
theorem if_K {c : BM} {a b : SM} {ρ : Lo} {σ : Me} : ifS c a b ρ σ = ifK a b ρ (c ρ σ) := rfl
theorem br_K  {ρ : Lo} {σ : Me} : brS ρ σ = some (1, 0, ρ, σ) := rfl
theorem ct_K  {ρ : Lo} {σ : Me} : ctS ρ σ = some (2, 0, ρ, σ) := rfl
theorem rv_K  {ρ : Lo} {σ : Me} : rvS ρ σ = some (3, 0, ρ, σ) := rfl
theorem thr_K  {ρ : Lo} {σ : Me} : thS ρ σ = some (4, 0, ρ, σ) := rfl
def rtK (ρ : Lo) (y : Option (Int × Me)) : Option (Nat × Int × Lo × Me) := y.bind fun x => some (3, x.1, ρ, x.2)
theorem rtK_0 {ρ : Lo} {a0 : Int} {s : Me} : rtK ρ (some (a0, s)) = some (3, a0, ρ, s) := Eq.trans rfl rfl
theorem rtK_i {ρ : Lo} {p : Prop} [Decidable p] {X Y : Option (Int × Me)} : rtK ρ (if p then X else Y) = if p then rtK ρ X else rtK ρ Y := by
  by_cases h : p <;> simp only [h, if_true, if_false]
theorem ok_rtK {ρ : Lo} {y : Option (Int × Me)} {P : _ → Prop} (h : ok y fun x => ok (rtK ρ (some x)) P) : ok (rtK ρ y) P := by
  obtain ⟨r, rfl, h⟩ := h
  exact h
theorem rt_K {a : EM} {ρ : Lo} {σ : Me} : rtS a ρ σ = rtK ρ (a ρ σ) := rfl
def mfK  (y : Option (Nat × Int × Lo × Me)) : Option (Int × Me) := y.bind fun x => if x.1 = 3 then some (x.2.1, x.2.2.2) else none
theorem mfK_0  {v : Int} {r : Lo} {s : Me} : mfK  (some (3, v, r, s)) = some (v, s) := Eq.trans rfl rfl
theorem mfK_i  {p : Prop} [Decidable p] {X Y : Option (Nat × Int × Lo × Me)} : mfK  (if p then X else Y) = if p then mfK  X else mfK  Y := by
  by_cases h : p <;> simp only [h, if_true, if_false]
theorem ok_mfK  {y : Option (Nat × Int × Lo × Me)} {P : _ → Prop} (h : ok y fun x => ok (mfK  (some x)) P) : ok (mfK  y) P := by
  obtain ⟨r, rfl, h⟩ := h
  exact h
theorem mf_K {is : List Nat} {b : SM} {vs : List Int} {σ : Me} : mthF is b vs σ = mfK (b (ini is vs) σ) := rfl
def mzK  (y : Option (Nat × Int × Lo × Me)) : Option (Int × Me) := y.bind fun x => if x.1 = 3 ∧ (x.2.1 = 0 ∨ x.2.1 = 1) then some (x.2.1, x.2.2.2) else none
theorem mzK_i  {p : Prop} [Decidable p] {X Y : Option (Nat × Int × Lo × Me)} : mzK  (if p then X else Y) = if p then mzK  X else mzK  Y := by
  by_cases h : p <;> simp only [h, if_true, if_false]
theorem ok_mzK  {y : Option (Nat × Int × Lo × Me)} {P : _ → Prop} (h : ok y fun x => ok (mzK  (some x)) P) : ok (mzK  y) P := by
  obtain ⟨r, rfl, h⟩ := h
  exact h
theorem mzK_0 {v : Int} {r : Lo} {s : Me} : mzK (some (3, v, r, s)) = if v = 0 ∨ v = 1 then some (v, s) else none := by
  unfold mzK
  simp only [ob_some, true_and]
theorem mz_K {is : List Nat} {b : SM} {vs : List Int} {σ : Me} : mthZ is b vs σ = mzK (b (ini is vs) σ) := rfl
def cpT (v0 n0 v1 n1 : Nat) (ρ : Lo) (s : Me) (sp dp n : Int) : Option (Nat × Int × Lo × Me) := if 0 ≤ w32 sp ∧ 0 ≤ w32 dp ∧ 0 ≤ w32 n ∧ w32 sp + w32 n ≤ n0 ∧ w32 dp + w32 n ≤ n1 then some (0, 0, ρ, cpM s v0 v1 (w32 sp).toNat (w32 dp).toNat (w32 n).toNat) else none
def cpK (v0 n0 v1 n1 : Nat) (ρ : Lo) (y : Option (List Int × Me)) : Option (Nat × Int × Lo × Me) := y.bind fun x => match x.1 with
  | [_, sp, _, dp, n] => cpT v0 n0 v1 n1 ρ x.2 sp dp n
  | _ => none
theorem cpK_0 {v0 n0 v1 n1 : Nat} {ρ : Lo} {a b c d e : Int} {s : Me} : cpK v0 n0 v1 n1 ρ (some ([a, b, c, d, e], s)) = cpT v0 n0 v1 n1 ρ s b d e := Eq.trans rfl rfl
theorem cpT_0 {v0 n0 v1 n1 : Nat} {ρ : Lo} {s : Me} {sp dp n : Int} (h1 : 0 ≤ sp) (h2 : 0 ≤ dp) (h3 : 0 ≤ n) (h4 : sp + n ≤ n0) (h5 : dp + n ≤ n1) (h6 : n0 < 10000) (h7 : n1 < 10000) : cpT v0 n0 v1 n1 ρ s sp dp n = some (0, 0, ρ, cpM s v0 v1 sp.toNat dp.toNat n.toNat) := by
  have e1 : w32 sp = sp := w32_id (by omega) (by omega)
  have e2 : w32 dp = dp := w32_id (by omega) (by omega)
  have e3 : w32 n = n := w32_id (by omega) (by omega)
  unfold cpT
  rw [e1, e2, e3, if_pos ⟨h1, h2, h3, h4, h5⟩]
theorem cp_K {v0 n0 v1 n1 : Nat} {l : List EM} {ρ : Lo} {σ : Me} : cpS v0 n0 v1 n1 l ρ σ = cpK v0 n0 v1 n1 ρ (aE l ρ σ) := rfl
def tsP (lo : Int) (cs : List SM) (df : SM) (ρ : Lo) (s : Me) (z : Int) : Option (Nat × Int × Lo × Me) := if lo ≤ w32 z ∧ w32 z < lo + cs.length then (match cs[(w32 z - lo).toNat]? with
  | some q => q ρ s
  | none => none) else df ρ s
def tsK (lo : Int) (cs : List SM) (df : SM) (ρ : Lo) (y : Option (Int × Me)) : Option (Nat × Int × Lo × Me) := y.bind fun x => tsP lo cs df ρ x.2 x.1
theorem tsK_0 {lo : Int} {cs : List SM} {df : SM} {ρ : Lo} {a0 : Int} {s : Me} : tsK lo cs df ρ (some (a0, s)) = tsP lo cs df ρ s a0 := Eq.trans rfl rfl
theorem tsK_i {lo : Int} {cs : List SM} {df : SM} {ρ : Lo} {p : Prop} [Decidable p] {X Y : Option (Int × Me)} : tsK lo cs df ρ (if p then X else Y) = if p then tsK lo cs df ρ X else tsK lo cs df ρ Y := by
  by_cases h : p <;> simp only [h, if_true, if_false]
theorem ok_tsK {lo : Int} {cs : List SM} {df : SM} {ρ : Lo} {y : Option (Int × Me)} {P : _ → Prop} (h : ok y fun x => ok (tsK lo cs df ρ (some x)) P) : ok (tsK lo cs df ρ y) P := by
  obtain ⟨r, rfl, h⟩ := h
  exact h
theorem ts_K {a : EM} {lo : Int} {cs : List SM} {df : SM} {ρ : Lo} {σ : Me} : tsS a lo cs df ρ σ = tsK lo cs df ρ (a ρ σ) := rfl
theorem tsP_hit {lo z : Int} {a df : SM} {l : List SM} {ρ : Lo} {s : Me} (h : w32 z = lo) : tsP lo (a :: l) df ρ s z = a ρ s := by
  unfold tsP
  rw [if_pos (by simp only [List.length_cons, Int.natCast_add]; omega), h, Int.sub_self]
  rfl
theorem tsP_next {lo z : Int} {a df : SM} {l : List SM} {ρ : Lo} {s : Me} (h : lo < w32 z) : tsP lo (a :: l) df ρ s z = tsP (lo + 1) l df ρ s z := by
  unfold tsP
  by_cases h1 : w32 z < lo + 1 + l.length
  · rw [if_pos (by simp only [List.length_cons, Int.natCast_add]; omega), if_pos (by omega), show (w32 z - lo).toNat = (w32 z - (lo + 1)).toNat + 1 by omega, List.getElem?_cons_succ]
  · rw [if_neg (by simp only [List.length_cons, Int.natCast_add]; omega), if_neg (by omega)]
theorem tsP_low {lo z : Int} {df : SM} {l : List SM} {ρ : Lo} {s : Me} (h : w32 z < lo) : tsP lo l df ρ s z = df ρ s := by
  unfold tsP
  rw [if_neg (by omega)]
theorem tsP_nil {lo z : Int} {df : SM} {ρ : Lo} {s : Me} : tsP lo [] df ρ s z = df ρ s := by
  unfold tsP
  rw [if_neg (by simp only [List.length_nil]; omega)]
theorem ini_0 {is : List Nat} : ini is [] = fun _ => 0 := by cases is <;> rfl
theorem ini_1 {i : Nat} {l : List Nat} {v : Int} {w : List Int} : ini (i :: l) (v :: w) = up (ini l w) i v := rfl
/-- one round of a loop: 0 it goes on, 9 it is left, 3 and 4 as they are -/
def rdU  (y : Option (Nat × Int × Lo × Me)) : Option (Nat × Int × Lo × Me) := y.bind fun x => if x.1 = 0 then some x else none
theorem rdU_0  {v : Int} {r : Lo} {s : Me} : rdU  (some (0, v, r, s)) = some (0, v, r, s) := Eq.trans rfl rfl
theorem rdU_i  {p : Prop} [Decidable p] {X Y : Option (Nat × Int × Lo × Me)} : rdU  (if p then X else Y) = if p then rdU  X else rdU  Y := by
  by_cases h : p <;> simp only [h, if_true, if_false]
theorem ok_rdU  {y : Option (Nat × Int × Lo × Me)} {P : _ → Prop} (h : ok y fun x => ok (rdU  (some x)) P) : ok (rdU  y) P := by
  obtain ⟨r, rfl, h⟩ := h
  exact h
def rdB (u : SM) (y : Option (Nat × Int × Lo × Me)) : Option (Nat × Int × Lo × Me) := y.bind fun x => if x.1 = 0 ∨ x.1 = 2 then rdU (u x.2.2.1 x.2.2.2) else if x.1 = 1 then some (9, x.2) else if x.1 = 9 then none else some x
theorem rdB_0 {u : SM} {v : Int} {r : Lo} {s : Me} : rdB u (some (0, v, r, s)) = rdU (u r s) := Eq.trans rfl rfl
theorem rdB_1 {u : SM} {v : Int} {r : Lo} {s : Me} : rdB u (some (2, v, r, s)) = rdU (u r s) := Eq.trans rfl rfl
theorem rdB_2 {u : SM} {v : Int} {r : Lo} {s : Me} : rdB u (some (1, v, r, s)) = some (9, v, r, s) := Eq.trans rfl rfl
theorem rdB_3 {u : SM} {v : Int} {r : Lo} {s : Me} : rdB u (some (3, v, r, s)) = some (3, v, r, s) := Eq.trans rfl rfl
theorem rdB_4 {u : SM} {v : Int} {r : Lo} {s : Me} : rdB u (some (4, v, r, s)) = some (4, v, r, s) := Eq.trans rfl rfl
theorem rdB_i {u : SM} {p : Prop} [Decidable p] {X Y : Option (Nat × Int × Lo × Me)} : rdB u (if p then X else Y) = if p then rdB u X else rdB u Y := by
  by_cases h : p <;> simp only [h, if_true, if_false]
theorem ok_rdB {u : SM} {y : Option (Nat × Int × Lo × Me)} {P : _ → Prop} (h : ok y fun x => ok (rdB u (some x)) P) : ok (rdB u y) P := by
  obtain ⟨r, rfl, h⟩ := h
  exact h
def rdC (b : SM) (u : SM) (ρ : Lo) (y : Option (Bool × Me)) : Option (Nat × Int × Lo × Me) := y.bind fun x => if x.1 = true then rdB u (b ρ x.2) else some (9, 0, ρ, x.2)
theorem rdC_0 {b : SM} {u : SM} {ρ : Lo} {t : Bool} {s : Me} : rdC b u ρ (some (t, s)) = if t = true then rdB u (b ρ s) else some (9, 0, ρ, s) := Eq.trans rfl rfl
theorem rdC_i {b : SM} {u : SM} {ρ : Lo} {p : Prop} [Decidable p] {X Y : Option (Bool × Me)} : rdC b u ρ (if p then X else Y) = if p then rdC b u ρ X else rdC b u ρ Y := by
  by_cases h : p <;> simp only [h, if_true, if_false]
theorem ok_rdC {b : SM} {u : SM} {ρ : Lo} {y : Option (Bool × Me)} {P : _ → Prop} (h : ok y fun x => ok (rdC b u ρ (some x)) P) : ok (rdC b u ρ y) P := by
  obtain ⟨r, rfl, h⟩ := h
  exact h
def rnd (c : BM) (b u : SM) : SM := fun ρ σ => rdC b u ρ (c ρ σ)
theorem rnd_K {c : BM} {b u : SM} {ρ : Lo} {σ : Me} : rnd c b u ρ σ = rdC b u ρ (c ρ σ) := rfl
theorem wh_gen {c : BM} {b u : SM} (I : Nat → Lo → Me → Prop) (N : Nat) (hN : N < 100000) {P : Nat × Int × Lo × Me → Prop} {ρ : Lo} {σ : Me} (h0 : I 0 ρ σ)
    (hs : ∀ n ρ σ, n ≤ N → I n ρ σ → ok (rnd c b u ρ σ) fun z => if z.1 = 0 then n < N ∧ I (n + 1) z.2.2.1 z.2.2.2 else if z.1 = 9 then P (0, z.2) else P z) : ok (whS c b u FU ρ σ) P := by
  have step : ∀ F ρ σ, (∃ z, rnd c b u ρ σ = some z ∧ ((z.1 = 0 ∧ ok (whS c b u F z.2.2.1 z.2.2.2) P) ∨ (z.1 ≠ 0 ∧ if z.1 = 9 then P (0, z.2) else P z))) → ok (whS c b u (F + 1) ρ σ) P := by
    rintro F ρ σ ⟨z, hz, h⟩
    simp only [rnd, rdC] at hz
    simp only [whS]
    cases hc : c ρ σ with
    | none => rw [hc] at hz; cases hz
    | some x =>
      obtain ⟨t, s⟩ := x
      rw [hc] at hz
      simp only [ob_some] at hz ⊢
      cases t with
      | false =>
        simp only [Bool.false_eq_true, if_false] at hz ⊢
        cases hz
        rcases h with ⟨h1, _⟩ | ⟨_, h2⟩
        · cases h1
        · simpa [ok_some] using h2
      | true =>
        simp only [if_true, rdB] at hz ⊢
        cases hb : b ρ s with
        | none => rw [hb] at hz; cases hz
        | some y =>
          obtain ⟨k, v, r, s2⟩ := y
          rw [hb] at hz
          simp only [ob_some] at hz ⊢
          by_cases hk : k = 0 ∨ k = 2
          · simp only [if_pos hk, rdU] at hz ⊢
            cases hu : u r s2 with
            | none => rw [hu] at hz; cases hz
            | some w =>
              obtain ⟨k2, v2, r2, s3⟩ := w
              rw [hu] at hz
              simp only [ob_some] at hz ⊢
              by_cases hk2 : k2 = 0
              · simp only [if_pos hk2] at hz ⊢
                cases hz
                rcases h with ⟨_, h2⟩ | ⟨h1, _⟩
                · exact h2
                · exact absurd hk2 h1
              · simp only [if_neg hk2] at hz
                cases hz
          · simp only [if_neg hk] at hz ⊢
            by_cases hk1 : k = 1
            · simp only [if_pos hk1] at hz ⊢
              cases hz
              rcases h with ⟨h1, _⟩ | ⟨_, h2⟩
              · cases h1
              · simpa [ok_some] using h2
            · simp only [if_neg hk1] at hz ⊢
              by_cases h9 : k = 9
              · rw [if_pos h9] at hz
                cases hz
              · rw [if_neg h9] at hz
                cases hz
                rcases h with ⟨h1, _⟩ | ⟨_, h2⟩
                · exact absurd (Or.inl h1) hk
                · rw [ok_some]
                  simpa [h9] using h2
  have key : ∀ (k n F : Nat) (ρ : Lo) (σ : Me), n + k = N → k < F → I n ρ σ → ok (whS c b u F ρ σ) P := by
    intro k
    induction k with
    | zero =>
      intro n F ρ σ hn hF hI
      obtain ⟨F, rfl⟩ : ∃ f, F = f + 1 := ⟨F - 1, by omega⟩
      obtain ⟨z, h1, h2⟩ := hs n ρ σ (by omega) hI
      refine step F ρ σ ⟨z, h1, ?_⟩
      by_cases hz : z.1 = 0
      · rw [if_pos hz] at h2
        omega
      · rw [if_neg hz] at h2
        exact Or.inr ⟨hz, h2⟩
    | succ k ih =>
      intro n F ρ σ hn hF hI
      obtain ⟨F, rfl⟩ : ∃ f, F = f + 1 := ⟨F - 1, by omega⟩
      obtain ⟨z, h1, h2⟩ := hs n ρ σ (by omega) hI
      refine step F ρ σ ⟨z, h1, ?_⟩
      by_cases hz : z.1 = 0
      · rw [if_pos hz] at h2
        exact Or.inl ⟨hz, ih (n + 1) F _ _ (by omega) (by omega) h2.2⟩
      · rw [if_neg hz] at h2
        exact Or.inr ⟨hz, h2⟩
  exact key N 0 FU ρ σ (by omega) (by rw [FU_eq]; exact hN) h0
/-- nothing but these variables has changed -/
def fr (V : List Nat) (σ τ : Me) : Prop := ∀ v, v ∉ V → τ v = σ v
theorem fr_rfl {V : List Nat} {σ : Me} : fr V σ σ := fun _ _ => rfl
theorem fr_trans {V : List Nat} {σ τ υ : Me} (h1 : fr V σ τ) (h2 : fr V τ υ) : fr V σ υ := fun v hv => (h2 v hv).trans (h1 v hv)
theorem fr_sub {V U : List Nat} {σ τ : Me} (h : fr V σ τ) (hs : V.all (fun v => U.contains v) = true) : fr U σ τ := fun v hv => h v (fun hm => hv (by
  have := List.all_eq_true.mp hs v hm
  simpa using this))
theorem fr_get {V : List Nat} {σ τ : Me} (h : fr V σ τ) (v : Nat) (hv : V.contains v = false) : τ v = σ v := h v (by
  intro hm
  rw [List.contains_iff_mem.mpr hm] at hv
  cases hv)
theorem u2_s {σ : Me} {a i : Nat} {x : Int} : u2 σ a i x a i = x := by simp [u2]
theorem u2_v {σ : Me} {a i b j : Nat} {x : Int} (h : b ≠ a) : u2 σ a i x b j = σ b j := by simp [u2, h]
theorem u2_i {σ : Me} {a i j : Nat} {x : Int} (h : j ≠ i) : u2 σ a i x a j = σ a j := by simp [u2, h]
theorem up_1 {ρ : Lo} {i : Nat} {v : Int} : up ρ i v i = v := by simp [up]
theorem w3_m2 : w32 (-2) = -2 := by decide
theorem w3_m1 : w32 (-1) = -1 := by decide
theorem w3_0 : w32 0 = 0 := by decide
theorem w3_1 : w32 1 = 1 := by decide
theorem w3_2 : w32 2 = 2 := by decide
theorem w3_3 : w32 3 = 3 := by decide
theorem w3_4 : w32 4 = 4 := by decide
theorem w3_5 : w32 5 = 5 := by decide
theorem w3_6 : w32 6 = 6 := by decide
theorem w3_7 : w32 7 = 7 := by decide
theorem w3_8 : w32 8 = 8 := by decide
theorem w3_9 : w32 9 = 9 := by decide
theorem w3_10 : w32 10 = 10 := by decide
theorem w3_12 : w32 12 = 12 := by decide
theorem w3_20 : w32 20 = 20 := by decide
theorem w3_23 : w32 23 = 23 := by decide
theorem w3_24 : w32 24 = 24 := by decide
theorem w3_25 : w32 25 = 25 := by decide
theorem w3_32 : w32 32 = 32 := by decide
theorem w3_40 : w32 40 = 40 := by decide
theorem w3_50 : w32 50 = 50 := by decide
theorem w3_100 : w32 100 = 100 := by decide
theorem w3_120 : w32 120 = 120 := by decide
theorem w3_168 : w32 168 = 168 := by decide
theorem w3_200 : w32 200 = 200 := by decide
theorem w3_240 : w32 240 = 240 := by decide
theorem w3_255 : w32 255 = 255 := by decide
theorem w3_500 : w32 500 = 500 := by decide
theorem w3_592 : w32 592 = 592 := by decide
theorem w3_600 : w32 600 = 600 := by decide
theorem w3_900 : w32 900 = 900 := by decide
theorem w3_940 : w32 940 = 940 := by decide
theorem w3_999 : w32 999 = 999 := by decide
theorem w3_1000 : w32 1000 = 1000 := by decide
theorem w3_1009 : w32 1009 = 1009 := by decide
theorem w3_1184 : w32 1184 = 1184 := by decide
theorem w3_3333 : w32 3333 = 3333 := by decide
theorem w3_9999 : w32 9999 = 9999 := by decide
/-- kept from omega's eyes -/
def hid (p : Prop) : Prop := p
theorem hid_of {p : Prop} (h : p) : hid p := h
theorem un {p : Prop} (h : hid p) : p := h
theorem ltI_t {a b : Int} (h : a < b) : (a < b) = True := eq_true h
theorem ltI_f {a b : Int} (h : ¬ a < b) : (a < b) = False := eq_false h
theorem leI_t {a b : Int} (h : a ≤ b) : (a ≤ b) = True := eq_true h
theorem leI_f {a b : Int} (h : ¬ a ≤ b) : (a ≤ b) = False := eq_false h
theorem eqI_t {a b : Int} (h : a = b) : (a = b) = True := eq_true h
theorem eqI_f {a b : Int} (h : ¬ a = b) : (a = b) = False := eq_false h
theorem ltN_t {a b : Nat} (h : a < b) : (a < b) = True := eq_true h
theorem ltN_f {a b : Nat} (h : ¬ a < b) : (a < b) = False := eq_false h
theorem leN_t {a b : Nat} (h : a ≤ b) : (a ≤ b) = True := eq_true h
theorem leN_f {a b : Nat} (h : ¬ a ≤ b) : (a ≤ b) = False := eq_false h
theorem eqN_t {a b : Nat} (h : a = b) : (a = b) = True := eq_true h
theorem eqN_f {a b : Nat} (h : ¬ a = b) : (a = b) = False := eq_false h
