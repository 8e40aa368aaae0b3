/-! THE FRAMEWORK: a method's meaning is a function on numbers: locals Lo, memory Me (a number of a variable, a place in it); its bytecode does what the meaning says. -/
abbrev Lo : Type := Nat → Int
abbrev Me : Type := Nat → Nat → Int
abbrev EM : Type := Lo → Me → Option (Int × Me)
abbrev BM : Type := Lo → Me → Option (Bool × Me)
abbrev SM : Type := Lo → Me → Option (Nat × Int × Lo × Me)
abbrev FM : Type := List Int → Me → Option (Int × Me)
abbrev CD : Type := (Nat × List (Nat × Nat)) ⊕ (Nat × Nat)
def w32 (x : Int) : Int := (Int32.ofInt x).toInt
def w64 (x : Int) : Int := (Int64.ofInt x).toInt
def up (ρ : Lo) (i : Nat) (v : Int) : Lo := fun j => if j = i then v else ρ j
def u2 (σ : Me) (a i : Nat) (v : Int) : Me := fun b j => if b = a ∧ j = i then v else σ b j
-- meanings of expressions
def cE (n : Int) : EM := fun _ σ => some (n, σ)
def vE (i : Nat) : EM := fun ρ σ => some (ρ i, σ)
/-- a field -/
def gE (v : Nat) : EM := fun _ σ => some (σ v 0, σ)
/-- a ref that is got by way of a -/
def o1 (op : Int → Int) (a : EM) : EM := fun ρ σ => (a ρ σ).bind fun x => some (op x.1, x.2)
def o2 (op : Int → Int → Int) (a b : EM) : EM := fun ρ σ => (a ρ σ).bind fun x => (b ρ x.2).bind fun y => some (op x.1 y.1, y.2)
/-- behind a's effects, b -/
def thE (a b : EM) : EM := fun ρ σ => (a ρ σ).bind fun x => b ρ x.2
def dvE (a b : EM) : EM := fun ρ σ => (a ρ σ).bind fun x => (b ρ x.2).bind fun y => if w32 y.1 = 0 then none else some ((w32 x.1).tdiv (w32 y.1), y.2)
def rmE (a b : EM) : EM := fun ρ σ => (a ρ σ).bind fun x => (b ρ x.2).bind fun y => if w32 y.1 = 0 then none else some (w32 x.1 - (w32 x.1).tdiv (w32 y.1) * w32 y.1, y.2)
def dlE (a b : EM) : EM := fun ρ σ => (a ρ σ).bind fun x => (b ρ x.2).bind fun y => if w64 y.1 = 0 then none else some ((w64 x.1).tdiv (w64 y.1), y.2)
def ixI (i : Int) (n : Nat) : Option Nat := if 0 ≤ w32 i ∧ w32 i < n then some (w32 i).toNat else none
/-- an element of the array v of length n -/
def ldE (v n : Nat) (a i : EM) : EM := fun ρ σ => (a ρ σ).bind fun z => (i ρ z.2).bind fun x => (ixI x.1 n).bind fun k => some (x.2 v k, x.2)
def kE (c : BM) (a b : EM) : EM := fun ρ σ => (c ρ σ).bind fun x => if x.1 = true then a ρ x.2 else b ρ x.2
def aE : List EM → Lo → Me → Option (List Int × Me)
  | [], _, σ => some ([], σ)
  | a :: l, ρ, σ => (a ρ σ).bind fun x => (aE l ρ x.2).bind fun y => some (x.1 :: y.1, y.2)
def clE (f : FM) (l : List EM) : EM := fun ρ σ => (aE l ρ σ).bind fun x => f x.1 x.2
-- meanings of conditions
def cmpI (o : Nat) (a b : Int) : Bool := match o with
  | 0 => decide (w32 a = w32 b)
  | 1 => !decide (w32 a = w32 b)
  | 2 => decide (w32 a < w32 b)
  | 3 => decide (w32 b ≤ w32 a)
  | 4 => decide (w32 b < w32 a)
  | _ => decide (w32 a ≤ w32 b)
def cB (o : Nat) (a b : EM) : BM := fun ρ σ => (a ρ σ).bind fun x => (b ρ x.2).bind fun y => some (cmpI o x.1 y.1, y.2)
def zB (o : Nat) (a : EM) : BM := fun ρ σ => (a ρ σ).bind fun x => some (cmpI o x.1 0, x.2)
def cmpL (a b : Int) : Int := if w64 b < w64 a then 1 else if w64 a = w64 b then 0 else -1
def nB (c : BM) : BM := fun ρ σ => (c ρ σ).bind fun x => some (!x.1, x.2)
def andB (c d : BM) : BM := fun ρ σ => (c ρ σ).bind fun x => if x.1 = true then d ρ x.2 else some (false, x.2)
def orB (c d : BM) : BM := fun ρ σ => (c ρ σ).bind fun x => if x.1 = true then some (true, x.2) else d ρ x.2
-- meanings of statements: how it went on (0 on, 1 break, 2 continue, 3 return, 4 throw)
def skS : SM := fun ρ σ => some (0, 0, ρ, σ)
def stS (i : Nat) (a : EM) : SM := fun ρ σ => (a ρ σ).bind fun x => some (0, 0, up ρ i x.1, x.2)
def exS (a : EM) : SM := fun ρ σ => (a ρ σ).bind fun x => some (0, 0, ρ, x.2)
def inS (i : Nat) (n : Int) : SM := fun ρ σ => some (0, 0, up ρ i (ρ i + n), σ)
/-- a field is set: o the object's own effects -/
def pfS (v : Nat) (o a : EM) : SM := fun ρ σ => (o ρ σ).bind fun z => (a ρ z.2).bind fun x => some (0, 0, ρ, u2 x.2 v 0 x.1)
/-- a field is changed by op -/
def poS (v : Nat) (op : Int → Int → Int) (o a : EM) : SM := fun ρ σ => (o ρ σ).bind fun z => (a ρ z.2).bind fun x => some (0, 0, ρ, u2 x.2 v 0 (op (z.2 v 0) x.1))
/-- an element is set -/
def asS (v n : Nat) (g : Int → Int) (r i a : EM) : SM := fun ρ σ => (r ρ σ).bind fun z => (i ρ z.2).bind fun x => (a ρ x.2).bind fun y => (ixI x.1 n).bind fun k => some (0, 0, ρ, u2 y.2 v k (g y.1))
/-- an element is changed by op -/
def aoS (v n : Nat) (op : Int → Int → Int) (r i a : EM) : SM := fun ρ σ => (r ρ σ).bind fun z => (i ρ z.2).bind fun x => (ixI x.1 n).bind fun k => (a ρ x.2).bind fun y => some (0, 0, ρ, u2 y.2 v k (op (x.2 v k) y.1))
def sq (a b : SM) : SM := fun ρ σ => (a ρ σ).bind fun x => if x.1 = 0 then b x.2.2.1 x.2.2.2 else some x
def ifS (c : BM) (a b : SM) : SM := fun ρ σ => (c ρ σ).bind fun x => if x.1 = true then a ρ x.2 else b ρ x.2
def brS : SM := fun ρ σ => some (1, 0, ρ, σ)
def ctS : SM := fun ρ σ => some (2, 0, ρ, σ)
def rtS (a : EM) : SM := fun ρ σ => (a ρ σ).bind fun x => some (3, x.1, ρ, x.2)
def rvS : SM := fun ρ σ => some (3, 0, ρ, σ)
def thS : SM := fun ρ σ => some (4, 0, ρ, σ)
/-- a loop: its update behind the body and behind a continue -/
def whS (c : BM) (b u : SM) : Nat → SM
  | 0 => fun _ _ => none
  | n + 1 => fun ρ σ => (c ρ σ).bind fun x => if x.1 = true then (b ρ x.2).bind fun y => if y.1 = 0 ∨ y.1 = 2 then (u y.2.2.1 y.2.2.2).bind fun z => if z.1 = 0 then whS c b u n z.2.2.1 z.2.2.2 else none else if y.1 = 1 then some (0, y.2) else some y else some (0, 0, ρ, x.2)
/-- a switch's case: a break in it goes on behind it -/
def swS (a : SM) : SM := fun ρ σ => (a ρ σ).bind fun x => if x.1 = 1 then some (0, x.2) else some x
def ini : List Nat → List Int → Lo
  | i :: l, v :: w => up (ini l w) i v
  | _, _ => fun _ => 0
def mthF (is : List Nat) (b : SM) : FM := fun vs σ => (b (ini is vs) σ).bind fun x => if x.1 = 3 then some (x.2.1, x.2.2.2) else none
/-- a method that answers a truth -/
def mthZ (is : List Nat) (b : SM) : FM := fun vs σ => (b (ini is vs) σ).bind fun x => if x.1 = 3 ∧ (x.2.1 = 0 ∨ x.2.1 = 1) then some (x.2.1, x.2.2.2) else none
/-- a truth's field is set -/
def pzS (v : Nat) (o a : EM) : SM := fun ρ σ => (o ρ σ).bind fun z => (a ρ z.2).bind fun x => if x.1 = 0 ∨ x.1 = 1 then some (0, 0, ρ, u2 x.2 v 0 x.1) else none
def addI (a b : Int) : Int := a + b
def subI (a b : Int) : Int := a - b
def mulI (a b : Int) : Int := a * b
def andI (a b : Int) : Int := (Int32.ofInt a &&& Int32.ofInt b).toInt
def iorI (a b : Int) : Int := (Int32.ofInt a ||| Int32.ofInt b).toInt
def xorI (a b : Int) : Int := (Int32.ofInt a ^^^ Int32.ofInt b).toInt
def shlI (a b : Int) : Int := (Int32.ofInt a <<< (Int32.ofInt b &&& 31)).toInt
def shrI (a b : Int) : Int := (Int32.ofInt a >>> (Int32.ofInt b &&& 31)).toInt
def usrI (a b : Int) : Int := ((Int32.ofInt a).toUInt32 >>> ((Int32.ofInt b).toUInt32 &&& Int32.toUInt32 31)).toInt32.toInt
def shlL (a b : Int) : Int := (Int64.ofInt a <<< ((Int32.ofInt b).toInt64 &&& 63)).toInt
def iorL (a b : Int) : Int := (Int64.ofInt a ||| Int64.ofInt b).toInt
def minI (a b : Int) : Int := if w32 b < w32 a then b else a
def maxI (a b : Int) : Int := if w32 a < w32 b then b else a
def i2lI (a : Int) : Int := w32 a
def l2iI (a : Int) : Int := a
def i2bI (a : Int) : Int := (Int32.ofInt a).toInt8.toInt32.toInt
def nzI (x : Int) : Int := (vp_nar .boolean (Int32.ofInt x)).toInt
def idI (x : Int) : Int := x
def cpM (σ : Me) (v0 v1 sp dp n : Nat) : Me := fun b j => if b = v1 ∧ dp ≤ j ∧ j < dp + n then σ v0 (sp + (j - dp)) else σ b j
def cpS (v0 n0 v1 n1 : Nat) (l : List EM) : SM := fun ρ σ => (aE l ρ σ).bind fun x => match x.1 with
  | [_, sp, _, dp, n] => if 0 ≤ w32 sp ∧ 0 ≤ w32 dp ∧ 0 ≤ w32 n ∧ w32 sp + w32 n ≤ n0 ∧ w32 dp + w32 n ≤ n1 then some (0, 0, ρ, cpM x.2 v0 v1 (w32 sp).toNat (w32 dp).toNat (w32 n).toNat) else none
  | _ => none
/-- a switch over lo, lo + 1 .. -/
def tsS (a : EM) (lo : Int) (cs : List SM) (df : SM) : SM := fun ρ σ => (a ρ σ).bind fun x => if lo ≤ w32 x.1 ∧ w32 x.1 < lo + cs.length then (match cs[(w32 x.1 - lo).toNat]? with
  | some s => s ρ x.2
  | none => none) else df ρ x.2
/-- how often a loop may go round, at most: more than any does -/
def FUr (n : Nat) : Nat := if n = 0 then 100000 else FUr (n - 1)
termination_by n
decreasing_by omega
def FU : Nat := FUr 0
theorem FU_eq : FU = 100000 := by
  rw [FU, FUr]
  rfl
def tkB (c a b : BM) : BM := fun ρ σ => (c ρ σ).bind fun x => if x.1 = true then a ρ x.2 else b ρ x.2
