/-! THE FRAMEWORK: a method's meaning is a function on numbers: locals Lo, memory Me (a number of a variable, a place in it); its bytecode does what the meaning says. -/
/-- the words that hold wherever a method stands -/
def lw_tb : List Cond := lw_tbl.filter goodWord
theorem lw_tb_of {w : Cond} (h : w ∈ lw_tbl) (hg : goodWord w = true) : w ∈ lw_tb := List.mem_filter.mpr ⟨h, hg⟩
theorem lw_tb_in {w : Cond} (h : w ∈ lw_tb) : w ∈ lw_tbl := (List.mem_filter.mp h).1
abbrev Lo : Type := Nat → Int
abbrev Me : Type := Nat → Nat → Int
abbrev EM : Type := Lo → Me → Option (Int × Me)
abbrev BM : Type := Lo → Me → Option (Bool × Me)
abbrev SM : Type := Lo → Me → Option (Nat × Int × Lo × Me)
abbrev FM : Type := List Int → Me → Option (Int × Me)
abbrev CD : Type := (Nat × List (Nat × Nat)) ⊕ (Nat × Nat)
def w32 (x : Int) : Int := (Int32.ofInt x).toInt
def w64 (x : Int) : Int := (Int64.ofInt x).toInt
def up (ρ : Lo) (i : Nat) (v : Int) : Lo := fun j => if j = i then v else ρ j
def u2 (σ : Me) (a i : Nat) (v : Int) : Me := fun b j => if b = a ∧ j = i then v else σ b j
-- meanings of expressions
def cE (n : Int) : EM := fun _ σ => some (n, σ)
def vE (i : Nat) : EM := fun ρ σ => some (ρ i, σ)
/-- a field -/
def gE (v : Nat) : EM := fun _ σ => some (σ v 0, σ)
/-- a ref that is got by way of a -/
def o1 (op : Int → Int) (a : EM) : EM := fun ρ σ => (a ρ σ).bind fun x => some (op x.1, x.2)
def o2 (op : Int → Int → Int) (a b : EM) : EM := fun ρ σ => (a ρ σ).bind fun x => (b ρ x.2).bind fun y => some (op x.1 y.1, y.2)
/-- behind a's effects, b -/
def thE (a b : EM) : EM := fun ρ σ => (a ρ σ).bind fun x => b ρ x.2
def dvE (a b : EM) : EM := fun ρ σ => (a ρ σ).bind fun x => (b ρ x.2).bind fun y => if w32 y.1 = 0 then none else some ((w32 x.1).tdiv (w32 y.1), y.2)
def rmE (a b : EM) : EM := fun ρ σ => (a ρ σ).bind fun x => (b ρ x.2).bind fun y => if w32 y.1 = 0 then none else some (w32 x.1 - (w32 x.1).tdiv (w32 y.1) * w32 y.1, y.2)
def dlE (a b : EM) : EM := fun ρ σ => (a ρ σ).bind fun x => (b ρ x.2).bind fun y => if w64 y.1 = 0 then none else some ((w64 x.1).tdiv (w64 y.1), y.2)
def ixI (i : Int) (n : Nat) : Option Nat := if 0 ≤ w32 i ∧ w32 i < n then some (w32 i).toNat else none
/-- an element of the array v of length n -/
def ldE (v n : Nat) (a i : EM) : EM := fun ρ σ => (a ρ σ).bind fun z => (i ρ z.2).bind fun x => (ixI x.1 n).bind fun k => some (x.2 v k, x.2)
def kE (c : BM) (a b : EM) : EM := fun ρ σ => (c ρ σ).bind fun x => if x.1 = true then a ρ x.2 else b ρ x.2
def aE : List EM → Lo → Me → Option (List Int × Me)
  | [], _, σ => some ([], σ)
  | a :: l, ρ, σ => (a ρ σ).bind fun x => (aE l ρ x.2).bind fun y => some (x.1 :: y.1, y.2)
def clE (f : FM) (l : List EM) : EM := fun ρ σ => (aE l ρ σ).bind fun x => f x.1 x.2
-- meanings of conditions
def cmpI (o : Nat) (a b : Int) : Bool := match o with
  | 0 => decide (w32 a = w32 b)
  | 1 => !decide (w32 a = w32 b)
  | 2 => decide (w32 a < w32 b)
  | 3 => decide (w32 b ≤ w32 a)
  | 4 => decide (w32 b < w32 a)
  | _ => decide (w32 a ≤ w32 b)
def cB (o : Nat) (a b : EM) : BM := fun ρ σ => (a ρ σ).bind fun x => (b ρ x.2).bind fun y => some (cmpI o x.1 y.1, y.2)
def zB (o : Nat) (a : EM) : BM := fun ρ σ => (a ρ σ).bind fun x => some (cmpI o x.1 0, x.2)
def cmpL (a b : Int) : Int := if w64 b < w64 a then 1 else if w64 a = w64 b then 0 else -1
def nB (c : BM) : BM := fun ρ σ => (c ρ σ).bind fun x => some (!x.1, x.2)
def andB (c d : BM) : BM := fun ρ σ => (c ρ σ).bind fun x => if x.1 = true then d ρ x.2 else some (false, x.2)
def orB (c d : BM) : BM := fun ρ σ => (c ρ σ).bind fun x => if x.1 = true then some (true, x.2) else d ρ x.2
-- meanings of statements: how it went on (0 on, 1 break, 2 continue, 3 return, 4 throw)
def skS : SM := fun ρ σ => some (0, 0, ρ, σ)
def stS (i : Nat) (a : EM) : SM := fun ρ σ => (a ρ σ).bind fun x => some (0, 0, up ρ i x.1, x.2)
def exS (a : EM) : SM := fun ρ σ => (a ρ σ).bind fun x => some (0, 0, ρ, x.2)
def inS (i : Nat) (n : Int) : SM := fun ρ σ => some (0, 0, up ρ i (ρ i + n), σ)
/-- a field is set: o the object's own effects -/
def pfS (v : Nat) (o a : EM) : SM := fun ρ σ => (o ρ σ).bind fun z => (a ρ z.2).bind fun x => some (0, 0, ρ, u2 x.2 v 0 x.1)
/-- a field is changed by op -/
def poS (v : Nat) (op : Int → Int → Int) (o a : EM) : SM := fun ρ σ => (o ρ σ).bind fun z => (a ρ z.2).bind fun x => some (0, 0, ρ, u2 x.2 v 0 (op (z.2 v 0) x.1))
/-- an element is set -/
def asS (v n : Nat) (g : Int → Int) (r i a : EM) : SM := fun ρ σ => (r ρ σ).bind fun z => (i ρ z.2).bind fun x => (a ρ x.2).bind fun y => (ixI x.1 n).bind fun k => some (0, 0, ρ, u2 y.2 v k (g y.1))
/-- an element is changed by op -/
def aoS (v n : Nat) (op : Int → Int → Int) (r i a : EM) : SM := fun ρ σ => (r ρ σ).bind fun z => (i ρ z.2).bind fun x => (ixI x.1 n).bind fun k => (a ρ x.2).bind fun y => some (0, 0, ρ, u2 y.2 v k (op (x.2 v k) y.1))
def sq (a b : SM) : SM := fun ρ σ => (a ρ σ).bind fun x => if x.1 = 0 then b x.2.2.1 x.2.2.2 else some x
def ifS (c : BM) (a b : SM) : SM := fun ρ σ => (c ρ σ).bind fun x => if x.1 = true then a ρ x.2 else b ρ x.2
def brS : SM := fun ρ σ => some (1, 0, ρ, σ)
def ctS : SM := fun ρ σ => some (2, 0, ρ, σ)
def rtS (a : EM) : SM := fun ρ σ => (a ρ σ).bind fun x => some (3, x.1, ρ, x.2)
def rvS : SM := fun ρ σ => some (3, 0, ρ, σ)
def thS : SM := fun ρ σ => some (4, 0, ρ, σ)
/-- a loop: its update behind the body and behind a continue -/
def whS (c : BM) (b u : SM) : Nat → SM
  | 0 => fun _ _ => none
  | n + 1 => fun ρ σ => (c ρ σ).bind fun x => if x.1 = true then (b ρ x.2).bind fun y => if y.1 = 0 ∨ y.1 = 2 then (u y.2.2.1 y.2.2.2).bind fun z => if z.1 = 0 then whS c b u n z.2.2.1 z.2.2.2 else none else if y.1 = 1 then some (0, y.2) else some y else some (0, 0, ρ, x.2)
/-- a switch's case: a break in it goes on behind it -/
def swS (a : SM) : SM := fun ρ σ => (a ρ σ).bind fun x => if x.1 = 1 then some (0, x.2) else some x
def ini : List Nat → List Int → Lo
  | i :: l, v :: w => up (ini l w) i v
  | _, _ => fun _ => 0
def mthF (is : List Nat) (b : SM) : FM := fun vs σ => (b (ini is vs) σ).bind fun x => if x.1 = 3 then some (x.2.1, x.2.2.2) else none
/-- a method that answers a truth -/
def mthZ (is : List Nat) (b : SM) : FM := fun vs σ => (b (ini is vs) σ).bind fun x => if x.1 = 3 ∧ (x.2.1 = 0 ∨ x.2.1 = 1) then some (x.2.1, x.2.2.2) else none
/-- a truth's field is set -/
def pzS (v : Nat) (o a : EM) : SM := fun ρ σ => (o ρ σ).bind fun z => (a ρ z.2).bind fun x => if x.1 = 0 ∨ x.1 = 1 then some (0, 0, ρ, u2 x.2 v 0 x.1) else none
-- the machine's side
def fw_f (adr : Nat → Nat) (σ : Me) (k j : Nat) (q : Nat × Nat) : Value := match q.1 with
  | 0 => .ref (adr q.2)
  | 1 => .int (Int32.ofInt (σ (64 * k + j) 0))
  | 2 => .long (Int64.ofInt (σ (64 * k + j) 0))
  | _ => .null
def fw_a (σ : Me) (k ty : Nat) : (Nat → Int32) ⊕ (Nat → Int64) ⊕ (Nat → UInt32) ⊕ (Nat → UInt64) ⊕ (Nat → Option Nat) := match ty with
  | 1 => .inr (.inl (fun i => Int64.ofInt (σ (64 * k) i)))
  | _ => .inl (fun i => Int32.ofInt (σ (64 * k) i))
def fw_c (adr : Nat → Nat) (cA : Nat → ClassId) (σ : Me) (k : Nat) (q : CD) : va_E := match q with
  | .inl o => .inr (o.1, o.2.mapIdx (fw_f adr σ k))
  | .inr a => .inl (cA a.1, a.2, fw_a σ k a.1)
def fw_w (lay : List CD) (adr : Nat → Nat) (cA : Nat → ClassId) (σ : Me) : va_W := lay.mapIdx (fun k q => (adr k, fw_c adr cA σ k q))
def fw_t (cA : Nat → ClassId) : List (ClassId × FieldType) := [(cA 0, .int), (cA 1, .long), (cA 2, .byte), (cA 3, .boolean)]
def fw_v (adr : Nat → Nat) (t : Nat) (x : Int) : Value := match t with
  | 0 => .int (Int32.ofInt x)
  | 1 => .long (Int64.ofInt x)
  | k + 2 => .ref (adr k)
abbrev FT : Type := List (Nat × Nat)
/-- what a method's code stands on: the cells, its class, code, number of locals, depth, what it returns -/
abbrev SI : Type := List CD × String × ByteArray × Nat × Nat × Option Nat
/-- a run of it -/
abbrev GX : Type := Program × Launch × Env × Room × State × MethodId × Array Value × List Frame × Method × Code × va_G × (Nat → Nat) × (Nat → ClassId) × (Nat → Prop) × Nat × Nat × (State → Prop)
def fw_ok (lay : List CD) : Prop := ∀ (k : Nat) (o : Nat × List (Nat × Nat)), lay[k]? = some (.inl o) → o.2.length ≤ 64
/-- the links within the nest -/
def fw_nw (U : State) : Prop := ∀ (a : String) (i : Nat) (x : MethodName) (h : String), Cond.methodLinkNest a i x h ∈ lw_tbl → va_Nw (.methodLinkNest a i x h) U
theorem fw_nw_warm {s U : State} (hW : s.WarmedH U.vm) (h : fw_nw s) : fw_nw U := fun a i x t hw => va_Nw.warmM hW (h a i x t hw)
def fw_X (S : SI) (G : GX) : Prop := match S, G with
  | (lay, own, cc, nL, d, _), (p, _, _, R, s, m, args, _, _, c, D, _, cA, A, cells, slots, _) =>
    p.tables.exec = Jvm.exec ∧ c.code = cc ∧ c.maxLocals = nL ∧ s.vm.findClass own = some m.cls ∧ (∀ w ∈ lw_tb, w.before args s = true) ∧ va_K D vwCl (fw_t cA) s ∧ (∀ q, s.heap.size ≤ q → A q) ∧ d ≤ R.frames ∧ 40 * d ≤ R.locals ∧ cells ≤ R.cells ∧ slots ≤ R.slots ∧ fw_ok lay ∧ fw_nw s
def fw_M (S : SI) (G : GX) (σ : Me) (H : Heap) (locs : List Loc) : Prop := match S, G with
  | (lay, _), (_, _, _, _, s, _, _, _, _, _, D, adr, cA, A, _) => va_P D vwCl (fw_w lay adr cA σ) H ∧ va_D A (fw_w lay adr cA σ) ∧ va_S A s.heap H locs
def fw_L (S : SI) (G : GX) (T : FT) (ρ : Lo) (ls : Array Slot) : Prop := match S, G with
  | (_, _, _, nL, _), (_, _, _, _, _, _, _, _, _, _, _, adr, _) => lv_has ls nL (T.map fun q => (q.1, fw_v adr q.2 (ρ q.1)))
def fw_W (G : GX) (H : Heap) (locs : List Loc) (pc : Nat) (ls : Array Slot) (st : List Value) : Prop := match G with
  | (p, l, e, R, s, m, args, below, meth, c, _, _, _, _, cells, slots, Q) => W p l e R s m args below meth c H locs cells slots Q (F0 m pc ls st)
def fw_val (G : GX) (t : Nat) (x : Int) : Value := match G with
  | (_, _, _, _, _, _, _, _, _, _, _, adr, _) => fw_v adr t x
/-- an expression at pc, b words below it on the stack: its value, of kind t, is on the stack at pc' -/
def fw_E (S : SI) (T : FT) (b pc pc' t : Nat) (f : EM) : Prop := ∀ G, fw_X S G → ∀ (ρ : Lo) (σ : Me) (x : Int) (σ' : Me) (H : Heap) (locs : List Loc) (ls : Array Slot) (st : List Value),
  fw_L S G T ρ ls → fw_M S G σ H locs → (st.map fun v => v.category).sum ≤ b → f ρ σ = some (x, σ') →
  (∀ H' locs', fw_M S G σ' H' locs' → fw_W G H' locs' pc' ls (fw_val G t x :: st)) → fw_W G H locs pc ls st
/-- a condition: true goes to pt, false to pf -/
def fw_B (S : SI) (T : FT) (b pc pt pf : Nat) (f : BM) : Prop := ∀ G, fw_X S G → ∀ (ρ : Lo) (σ : Me) (x : Bool) (σ' : Me) (H : Heap) (locs : List Loc) (ls : Array Slot) (st : List Value),
  fw_L S G T ρ ls → fw_M S G σ H locs → (st.map fun v => v.category).sum ≤ b → f ρ σ = some (x, σ') →
  (∀ H' locs', fw_M S G σ' H' locs' → fw_W G H' locs' (if x = true then pt else pf) ls st) → fw_W G H locs pc ls st
def fw_rd (cc : ByteArray) (r : Option Nat) (pc : Nat) : Prop := decode cc pc = .ok (match r with
  | none => (.return_, 1)
  | some 0 => (.ireturn, 1)
  | some 1 => (.lreturn, 1)
  | some _ => (.areturn, 1))
def fw_rs (G : GX) (r : Option Nat) (x : Int) : List Value := match r with
  | none => []
  | some t => [fw_val G t x]
def fw_td (cc : ByteArray) (pc : Nat) : Prop := ∃ i j, decode cc pc = .ok (.new i, 3) ∧ decode cc (pc + 3) = .ok (.dup, 1) ∧ decode cc (pc + 4) = .ok (.invokespecial j, 3) ∧ decode cc (pc + 7) = .ok (.athrow, 1)
/-- where a statement goes on, by how it went -/
def fw_K (S : SI) (G : GX) (N B C : Nat × FT) (o : Nat) (x : Int) (ρ' : Lo) (σ' : Me) : Prop :=
  (o = 0 → ∀ H' locs' ls', fw_L S G N.2 ρ' ls' → fw_M S G σ' H' locs' → fw_W G H' locs' N.1 ls' []) ∧
  (o = 1 → ∀ H' locs' ls', fw_L S G B.2 ρ' ls' → fw_M S G σ' H' locs' → fw_W G H' locs' B.1 ls' []) ∧
  (o = 2 → ∀ H' locs' ls', fw_L S G C.2 ρ' ls' → fw_M S G σ' H' locs' → fw_W G H' locs' C.1 ls' []) ∧
  (o = 3 → ∀ H' locs' ls' pc', fw_rd S.2.2.1 S.2.2.2.2.2 pc' → fw_M S G σ' H' locs' → fw_W G H' locs' pc' ls' (fw_rs G S.2.2.2.2.2 x)) ∧
  (o = 4 → ∀ H' locs' ls' pc', fw_td S.2.2.1 pc' → fw_M S G σ' H' locs' → fw_W G H' locs' pc' ls' [])
def fw_S (S : SI) (T : FT) (pc : Nat) (f : SM) (N B C : Nat × FT) : Prop := ∀ G, fw_X S G → ∀ (ρ : Lo) (σ : Me) (o : Nat) (x : Int) (ρ' : Lo) (σ' : Me) (H : Heap) (locs : List Loc) (ls : Array Slot),
  fw_L S G T ρ ls → fw_M S G σ H locs → f ρ σ = some (o, x, ρ', σ') → fw_K S G N B C o x ρ' σ' → fw_W G H locs pc ls []
