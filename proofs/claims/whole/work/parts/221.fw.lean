/-- the words that hold wherever a method stands -/
def lw_tb : List Cond := lw_tbl.filter goodWord
theorem lw_tb_of {w : Cond} (h : w ∈ lw_tbl) (hg : goodWord w = true) : w ∈ lw_tb := List.mem_filter.mpr ⟨h, hg⟩
theorem lw_tb_in {w : Cond} (h : w ∈ lw_tb) : w ∈ lw_tbl := (List.mem_filter.mp h).1
-- the machine's side
def fw_f (adr : Nat → Nat) (σ : Me) (k j : Nat) (q : Nat × Nat) : Value := match q.1 with
  | 0 => .ref (adr q.2)
  | 1 => .int (Int32.ofInt (σ (64 * k + j) 0))
  | 2 => .long (Int64.ofInt (σ (64 * k + j) 0))
  | _ => .null
def fw_a (σ : Me) (k ty : Nat) : (Nat → Int32) ⊕ (Nat → Int64) ⊕ (Nat → UInt32) ⊕ (Nat → UInt64) ⊕ (Nat → Option Nat) := match ty with
  | 1 => .inr (.inl (fun i => Int64.ofInt (σ (64 * k) i)))
  | _ => .inl (fun i => Int32.ofInt (σ (64 * k) i))
def fw_c (adr : Nat → Nat) (cA : Nat → ClassId) (σ : Me) (k : Nat) (q : CD) : va_E := match q with
  | .inl o => .inr (o.1, o.2.mapIdx (fw_f adr σ k))
  | .inr a => .inl (cA a.1, a.2, fw_a σ k a.1)
def fw_w (lay : List CD) (adr : Nat → Nat) (cA : Nat → ClassId) (σ : Me) : va_W := lay.mapIdx (fun k q => (adr k, fw_c adr cA σ k q))
def fw_t (cA : Nat → ClassId) : List (ClassId × FieldType) := [(cA 0, .int), (cA 1, .long), (cA 2, .byte), (cA 3, .boolean)]
def fw_v (adr : Nat → Nat) (t : Nat) (x : Int) : Value := match t with
  | 0 => .int (Int32.ofInt x)
  | 1 => .long (Int64.ofInt x)
  | k + 2 => .ref (adr k)
abbrev FT : Type := List (Nat × Nat)
/-- what a method's code stands on: the cells, its class, code, number of locals, depth, what it returns -/
abbrev SI : Type := List CD × String × ByteArray × Nat × Nat × Option Nat
/-- a run of it -/
abbrev GX : Type := Program × Launch × Env × Room × State × MethodId × Array Value × List Frame × Method × Code × va_G × (Nat → Nat) × (Nat → ClassId) × (Nat → Prop) × Nat × Nat × (State → Prop)
def fw_ok (lay : List CD) : Prop := ∀ (k : Nat) (o : Nat × List (Nat × Nat)), lay[k]? = some (.inl o) → o.2.length ≤ 64
/-- the links within the nest -/
def fw_nw (U : State) : Prop := ∀ (a : String) (i : Nat) (x : MethodName) (h : String), Cond.methodLinkNest a i x h ∈ lw_tbl → va_Nw (.methodLinkNest a i x h) U
theorem fw_nw_warm {s U : State} (hW : s.WarmedH U.vm) (h : fw_nw s) : fw_nw U := fun a i x t hw => va_Nw.warmM hW (h a i x t hw)
def fw_X (S : SI) (G : GX) : Prop := match S, G with
  | (lay, own, cc, nL, d, _), (p, _, _, R, s, m, args, _, _, c, D, _, cA, A, cells, slots, _) =>
    p.tables.exec = Jvm.exec ∧ c.code = cc ∧ c.maxLocals = nL ∧ s.vm.findClass own = some m.cls ∧ (∀ w ∈ lw_tb, w.before args s = true) ∧ va_K D vwCl (fw_t cA) s ∧ (∀ q, s.heap.size ≤ q → A q) ∧ d ≤ R.frames ∧ 40 * d ≤ R.locals ∧ cells ≤ R.cells ∧ slots ≤ R.slots ∧ fw_ok lay ∧ fw_nw s
def fw_M (S : SI) (G : GX) (σ : Me) (H : Heap) (locs : List Loc) : Prop := match S, G with
  | (lay, _), (_, _, _, _, s, _, _, _, _, _, D, adr, cA, A, _) => va_P D vwCl (fw_w lay adr cA σ) H ∧ va_D A (fw_w lay adr cA σ) ∧ va_S A s.heap H locs
def fw_L (S : SI) (G : GX) (T : FT) (ρ : Lo) (ls : Array Slot) : Prop := match S, G with
  | (_, _, _, nL, _), (_, _, _, _, _, _, _, _, _, _, _, adr, _) => lv_has ls nL (T.map fun q => (q.1, fw_v adr q.2 (ρ q.1)))
def fw_W (G : GX) (H : Heap) (locs : List Loc) (pc : Nat) (ls : Array Slot) (st : List Value) : Prop := match G with
  | (p, l, e, R, s, m, args, below, meth, c, _, _, _, _, cells, slots, Q) => W p l e R s m args below meth c H locs cells slots Q (F0 m pc ls st)
def fw_val (G : GX) (t : Nat) (x : Int) : Value := match G with
  | (_, _, _, _, _, _, _, _, _, _, _, adr, _) => fw_v adr t x
/-- an expression at pc, b words below it on the stack: its value, of kind t, is on the stack at pc' -/
def fw_E (S : SI) (T : FT) (b pc pc' t : Nat) (f : EM) : Prop := ∀ G, fw_X S G → ∀ (ρ : Lo) (σ : Me) (x : Int) (σ' : Me) (H : Heap) (locs : List Loc) (ls : Array Slot) (st : List Value),
  fw_L S G T ρ ls → fw_M S G σ H locs → (st.map fun v => v.category).sum ≤ b → f ρ σ = some (x, σ') →
  (∀ H' locs', fw_M S G σ' H' locs' → fw_W G H' locs' pc' ls (fw_val G t x :: st)) → fw_W G H locs pc ls st
/-- a condition: true goes to pt, false to pf -/
def fw_B (S : SI) (T : FT) (b pc pt pf : Nat) (f : BM) : Prop := ∀ G, fw_X S G → ∀ (ρ : Lo) (σ : Me) (x : Bool) (σ' : Me) (H : Heap) (locs : List Loc) (ls : Array Slot) (st : List Value),
  fw_L S G T ρ ls → fw_M S G σ H locs → (st.map fun v => v.category).sum ≤ b → f ρ σ = some (x, σ') →
  (∀ H' locs', fw_M S G σ' H' locs' → fw_W G H' locs' (if x = true then pt else pf) ls st) → fw_W G H locs pc ls st
def fw_rd (cc : ByteArray) (r : Option Nat) (pc : Nat) : Prop := decode cc pc = .ok (match r with
  | none => (.return_, 1)
  | some 0 => (.ireturn, 1)
  | some 1 => (.lreturn, 1)
  | some _ => (.areturn, 1))
def fw_rs (G : GX) (r : Option Nat) (x : Int) : List Value := match r with
  | none => []
  | some t => [fw_val G t x]
def fw_td (cc : ByteArray) (pc : Nat) : Prop := decode cc pc = .ok (.new 105, 3) ∧ decode cc (pc + 3) = .ok (.dup, 1) ∧ decode cc (pc + 4) = .ok (.invokespecial 107, 3) ∧ decode cc (pc + 7) = .ok (.athrow, 1)
/-- where a statement goes on, by how it went -/
def fw_K (S : SI) (G : GX) (N B C : Nat × FT) (o : Nat) (x : Int) (ρ' : Lo) (σ' : Me) : Prop :=
  (o = 0 → ∀ H' locs' ls', fw_L S G N.2 ρ' ls' → fw_M S G σ' H' locs' → fw_W G H' locs' N.1 ls' []) ∧
  (o = 1 → ∀ H' locs' ls', fw_L S G B.2 ρ' ls' → fw_M S G σ' H' locs' → fw_W G H' locs' B.1 ls' []) ∧
  (o = 2 → ∀ H' locs' ls', fw_L S G C.2 ρ' ls' → fw_M S G σ' H' locs' → fw_W G H' locs' C.1 ls' []) ∧
  (o = 3 → ∀ H' locs' ls' pc', fw_rd S.2.2.1 S.2.2.2.2.2 pc' → fw_M S G σ' H' locs' → fw_W G H' locs' pc' ls' (fw_rs G S.2.2.2.2.2 x)) ∧
  (o = 4 → ∀ H' locs' ls' pc', ls'.size = S.2.2.2.1 → fw_td S.2.2.1 pc' → fw_M S G σ' H' locs' → fw_W G H' locs' pc' ls' [])
def fw_S (S : SI) (T : FT) (pc : Nat) (f : SM) (N B C : Nat × FT) : Prop := ∀ G, fw_X S G → ∀ (ρ : Lo) (σ : Me) (o : Nat) (x : Int) (ρ' : Lo) (σ' : Me) (H : Heap) (locs : List Loc) (ls : Array Slot),
  fw_L S G T ρ ls → fw_M S G σ H locs → f ρ σ = some (o, x, ρ', σ') → fw_K S G N B C o x ρ' σ' → fw_W G H locs pc ls []
