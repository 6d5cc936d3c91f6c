/-! THE SMALL MACHINE: values, the world of fixed cells, one step of an instruction as a condition -/
abbrev MV : Type := Int ⊕ (Int ⊕ Nat)
abbrev Wd : Type := Nat → Int → Int
abbrev Lc : Type := List (Option MV)
abbrev vi (x : Int) : MV := Sum.inl x
abbrev vl (x : Int) : MV := Sum.inr (Sum.inl x)
abbrev vr (c : Nat) : MV := Sum.inr (Sum.inr c)
/-- launch, addresses of the cells, classes and slots, class of int arrays, of boolean arrays, the heap's size at the start, the script's length and ints -/
abbrev En : Type := Launch × (Nat → Nat) × va_G × ClassId × ClassId × Nat × Nat × (Nat → Int32)
abbrev xl (X : En) : Launch := X.1
abbrev xa (X : En) : Nat → Nat := X.2.1
abbrev xD (X : En) : va_G := X.2.2.1
abbrev xI (X : En) : ClassId := X.2.2.2.1
abbrev xZ (X : En) : ClassId := X.2.2.2.2.1
abbrev xN (X : En) : Nat := X.2.2.2.2.2.1
abbrev xL (X : En) : Nat := X.2.2.2.2.2.2.1
abbrev xx (X : En) : Nat → Int32 := X.2.2.2.2.2.2.2
def xA (X : En) : Nat → Prop := fun q => xN X ≤ q
def wu (σ : Wd) (c : Nat) (i v : Int) : Wd := fun b j => if b = c ∧ j = i then v else σ b j
def wcp (σ : Wd) (a b : Nat) (sp dp n : Int) : Wd := fun c j => if c = b ∧ dp ≤ j ∧ j < dp + n then σ a (sp + (j - dp)) else σ c j
def iR (x : Int) : Prop := -2147483648 ≤ x ∧ x ≤ 2147483647
def lR (x : Int) : Prop := -9223372036854775808 ≤ x ∧ x ≤ 9223372036854775807
def bAnd (x y : Int) : Int := (Int32.ofInt x &&& Int32.ofInt y).toInt
def bOr (x y : Int) : Int := (Int32.ofInt x ||| Int32.ofInt y).toInt
def bShl (x y : Int) : Int := (Int32.ofInt x <<< (Int32.ofInt y &&& 31)).toInt
def bShr (x y : Int) : Int := (Int32.ofInt x >>> (Int32.ofInt y &&& 31)).toInt
def lAnd (x y : Int) : Int := (Int64.ofInt x &&& Int64.ofInt y).toInt
def lOr (x y : Int) : Int := (Int64.ofInt x ||| Int64.ofInt y).toInt
def lShl (x y : Int) : Int := (Int64.ofInt x <<< ((Int32.ofInt y).toInt64 &&& 63)).toInt
def lShr (x y : Int) : Int := (Int64.ofInt x >>> ((Int32.ofInt y).toInt64 &&& 63)).toInt
def lUshr (x y : Int) : Int := ((Int64.ofInt x).toUInt64 >>> ((Int32.ofInt y).toInt64.toUInt64 &&& Int64.toUInt64 63)).toInt64.toInt
def tv (X : En) : MV → Value
  | .inl x => .int (Int32.ofInt x)
  | .inr (.inl x) => .long (Int64.ofInt x)
  | .inr (.inr c) => .ref (xa X c)
def slotV (X : En) (σ : Wd) (loc : Nat) : Nat ⊕ Nat → Value
  | .inl t => .ref (xa X t)
  | .inr 2 => .long (Int64.ofInt (σ loc 0))
  | .inr _ => .int (Int32.ofInt (σ loc 0))
def slotsV (X : En) (σ : Wd) (loc : Nat) : List (Nat ⊕ Nat) → List Value
  | [] => []
  | d :: r => slotV X σ loc d :: slotsV X σ (loc + 1) r
def cont (X : En) (σ : Wd) (c : Nat) : CDs → va_E
  | .inl (ci, sl) => .inr (ci, slotsV X σ (64 * c) sl)
  | .inr (z, n) => .inl (if z = true then xZ X else xI X, n, .inl (fun j => Int32.ofInt (σ (64 * c) (j : Int))))
def wdF (X : En) (σ : Wd) : Nat → List CDs → va_W
  | _, [] => []
  | c, d :: r => (xa X c, cont X σ c d) :: wdF X σ (c + 1) r
/-- the world -/
def wd (X : En) (σ : Wd) : va_W := wdF X σ 0 ct
abbrev xT (X : En) : List (ClassId × FieldType) := [(xI X, .int), (xZ X, .boolean)]
/-- words of the tables that a call hands on; links between nest mates, which go with the world -/
def gw : List Cond := lw_tbl.filter goodWord
def isNest : Cond → Bool
  | .fieldLinkNest _ _ _ _ _ _ => true
  | .methodLinkNest _ _ _ _ => true
  | _ => false
def nw : List Cond := lw_tbl.filter isNest
/-- arrays that nobody writes -/
def roA : List Int := [12, 1, 2, 2, 20, 10, 15, 8, 1]
def roB : List Int := [6, 0, 1, 1, 0, 0, 0, 0, 0]
def roC : List Int := [30, 3, 5, 5, 99, 99, 99, 99, 99]
def ro (X : En) : Nat → Option (Nat × (Nat → Int))
  | 200 => some (9, fun j => roA.getD j 0)
  | 201 => some (9, fun j => roB.getD j 0)
  | 202 => some (9, fun j => roC.getD j 0)
  | 203 => some (xL X, fun j => (xx X j).toInt)
  | _ => none
def roN : Nat → String
  | 200 => "AT_FIRST"
  | 201 => "LOWEST"
  | _ => "HIGHEST"
def wordsTx : String := "height gap    first  rest   widow  orphan split  late   move   "
def wordsB : List Int32 := [104, 101, 105, 103, 104, 116, 32, 103, 97, 112, 32, 32, 32, 32, 102, 105, 114, 115, 116, 32, 32, 114, 101, 115, 116, 32, 32, 32, 119, 105, 100, 111, 119, 32, 32, 111, 114, 112, 104, 97, 110, 32, 115, 112, 108, 105, 116, 32, 32, 108, 97, 116, 101, 32, 32, 32, 109, 111, 118, 101, 32, 32, 32]
/-- what holds of the machine's tables and of what was there before, at a state -/
def Ev (X : En) (U : State) : Prop :=
  va_K (xD X) vwCl (xT X) U ∧ (∀ w ∈ nw, va_Nw w U) ∧ (∀ (c N : Nat) (f : Nat → Int), ro X c = some (N, f) → va_T .int (xa X c) N (fun j => .int (Int32.ofInt (f j))) (xA X) U U.heap) ∧ (∀ c : Nat, 200 ≤ c → c ≤ 202 → va_Z "NotesBelow" (roN c) "[I" (.ref (xa X c)) (xA X) U U.heap) ∧
  vk_R "NotesBelow$RuleText" 76 wordsTx (xa X 210) U ∧ vk_S 1 [63] [wordsB] (fun _ => xa X 210) (fun _ => xa X 211) (xA X) U U.heap ∧ va_Z "java/lang/String" "COMPACT_STRINGS" "Z" (.int 1) (xA X) U U.heap ∧ va_Zq "jdk/internal/util/Preconditions" "SIOOBE_FORMATTER" "Ljava/util/function/BiFunction;" (xA X) U U.heap
/-- the addresses are apart, and were made since the start -/
def XV (X : En) : Prop := (∀ c c' : Nat, c < 76 → c' < 76 → xa X c = xa X c' → c = c') ∧ (∀ c : Nat, c < 76 → xN X ≤ xa X c) ∧ xL X ≤ 2048
/-- the room of a method of depth d -/
def rmk (d : Nat) : Room := { frames := d, cells := 0, slots := 0, locals := 38 * d }
def wsk (k : Nat) : List Cond := .code (mY k) (mC k) (mL k) (mR k) :: gw
def QcT (X : En) (Q : Option MV → Wd → Prop) : Array Value → State → Outcome → State → Prop := fun _ st oc t =>
  (∃ (r : Option MV) (σ : Wd), oc = .returned (r.map (tv X)) ∧ Q r σ ∧ va_P (xD X) vwCl (wd X σ) t.heap) ∧ va_F (xA X) st t
def PcT (X : En) (as : List MV) (σ : Wd) : Array Value → State → Prop := va_Pc (as.map (tv X)) (fun U => xN X ≤ U.heap.size ∧ Ev X U ∧ va_P (xD X) vwCl (wd X σ) U.heap)
/-- method k, called with these arguments in this world, returns, and what it answers and leaves has Q -/
def Tr (X : En) (k : Nat) (as : List MV) (σ : Wd) (Q : Option MV → Wd → Prop) : Prop :=
  Met (xl X) (mY k) (wsk k) (rmk (mD k)) (PcT X as σ) (QcT X Q) 0 0 (xA X)
def ld : Lc → Nat → Option MV
  | [], _ => none
  | v :: _, 0 => v
  | _ :: r, n + 1 => ld r n
def sto : Lc → Nat → Option MV → Lc
  | [], _, _ => []
  | _ :: r, 0, v => v :: r
  | u :: r, n + 1, v => u :: sto r n v
def isL : Option MV → Bool
  | some (.inr (.inl _)) => true
  | _ => false
def lp (ls : Lc) : Nat → Bool
  | 0 => false
  | j + 1 => isL (ld ls j)
def mask (live : List Nat) : Nat → Lc → Lc
  | _, [] => []
  | i, v :: r => (if live.contains i = true then v else none) :: mask live (i + 1) r
def entA : List MV → Lc
  | [] => []
  | .inr (.inl x) :: r => some (vl x) :: none :: entA r
  | v :: r => some v :: entA r
def ent (n : Nat) (as : List MV) : Lc := entA as ++ List.replicate (n - (entA as).length) none
def catV : MV → Nat
  | .inr (.inl _) => 2
  | _ => 1
def csum : List MV → Nat
  | [] => 0
  | v :: r => catV v + csum r
def popn : Nat → List MV → List MV → Option (List MV × List MV)
  | 0, acc, st => some (acc, st)
  | n + 1, acc, v :: st => popn n (v :: acc) st
  | _ + 1, _, [] => none
def tgt (pc : Nat) (off : Int) : Nat := ((pc : Int) + off).toNat
/-- the array cell: its kind and length -/
def arr? (c : Nat) : Option (Bool × Nat) := match ct[c]? with
  | some (.inr q) => some q
  | _ => none
def obj? (c : Nat) : Option (Nat × List (Nat ⊕ Nat)) := match ct[c]? with
  | some (.inl q) => some q
  | _ => none
def chW (i : Int) : Int := (wordsB.getD i.toNat 0).toInt
def iLen (pc : Nat) : Instr → Nat
  | .bipush _ => 2
  | .sipush _ => 3
  | .ldc _ => 2
  | .ldc2_w _ => 3
  | .iload _ => 2
  | .lload _ => 2
  | .aload _ => 2
  | .istore _ => 2
  | .lstore _ => 2
  | .astore _ => 2
  | .iinc _ _ => 3
  | .ifCond _ _ => 3
  | .if_icmp _ _ => 3
  | .goto _ => 3
  | .tableswitch _ _ _ offs => 1 + (3 - pc % 4) + 12 + 4 * offs.size
  | .getfield _ => 3
  | .putfield _ => 3
  | .getstatic _ => 3
  | .invokevirtual _ => 3
  | .invokestatic _ => 3
  | .invokespecial _ => 3
  | .new _ => 3
  | _ => 1
def cmpP : Jvm.ClassFile.Cond → Int → Int → Prop
  | .eq, x, y => x = y
  | .ne, x, y => ¬ x = y
  | .lt, x, y => x < y
  | .ge, x, y => y ≤ x
  | .gt, x, y => y < x
  | .le, x, y => x ≤ y
def cmp3 (x y : Int) : Int := if y < x then 1 else if x = y then 0 else -1
def swc (x : Int) (F : Int → Prop) : List Int → Int → Prop
  | [], _ => True
  | o :: r, v => (x = v → F o) ∧ swc x F r (v + 1)
def cldI (C : Nat → Lc → List MV → Wd → Prop) (n : Nat) (ls : Lc) (st : List MV) (σ : Wd) : Option MV → Prop
  | some (.inl x) => C n ls (vi x :: st) σ
  | _ => False
def cldL (C : Nat → Lc → List MV → Wd → Prop) (n : Nat) (ls : Lc) (st : List MV) (σ : Wd) : Option MV → Prop
  | some (.inr (.inl x)) => C n ls (vl x :: st) σ
  | _ => False
def cldR (C : Nat → Lc → List MV → Wd → Prop) (n : Nat) (ls : Lc) (st : List MV) (σ : Wd) : Option MV → Prop
  | some (.inr (.inr c)) => C n ls (vr c :: st) σ
  | _ => False
def cstI (k : Nat) (C : Nat → Lc → List MV → Wd → Prop) (n i : Nat) (ls : Lc) (σ : Wd) : List MV → Prop
  | .inl x :: st => match lp ls i, Nat.blt i (mL k) with
    | false, true => C n (sto ls i (some (vi x))) st σ
    | _, _ => False
  | _ => False
def cstL (k : Nat) (C : Nat → Lc → List MV → Wd → Prop) (n i : Nat) (ls : Lc) (σ : Wd) : List MV → Prop
  | .inr (.inl x) :: st => match lp ls i, Nat.blt (i + 1) (mL k) with
    | false, true => C n (sto (sto ls i (some (vl x))) (i + 1) none) st σ
    | _, _ => False
  | _ => False
def cII (F : Int → Int → List MV → Prop) : List MV → Prop
  | .inl y :: .inl x :: st => F x y st
  | _ => False
def cLL (F : Int → Int → List MV → Prop) : List MV → Prop
  | .inr (.inl y) :: .inr (.inl x) :: st => F x y st
  | _ => False
def cLI (F : Int → Int → List MV → Prop) : List MV → Prop
  | .inl y :: .inr (.inl x) :: st => F x y st
  | _ => False
def cI1 (F : Int → List MV → Prop) : List MV → Prop
  | .inl x :: st => F x st
  | _ => False
def cL1 (F : Int → List MV → Prop) : List MV → Prop
  | .inr (.inl x) :: st => F x st
  | _ => False
def cR1 (F : Nat → List MV → Prop) : List MV → Prop
  | .inr (.inr c) :: st => F c st
  | _ => False
def cOp {α : Type} (F : α → Prop) : Option α → Prop
  | some v => F v
  | none => False
def cBo (F : Prop) : Bool → Prop
  | true => F
  | false => False
/-- load out of an array, of the world or one that nobody writes -/
def cald (X : En) (C : Nat → Lc → List MV → Wd → Prop) (z : Bool) (pc : Nat) (ls : Lc) (σ : Wd) : List MV → Prop
  | .inl i :: .inr (.inr c) :: st => match arr? c with
    | some (b, n) => cBo ((0 ≤ i ∧ i < (n : Int)) ∧ C (pc + 1) ls (vi (σ (64 * c) i) :: st) σ) (b == z)
    | none => match z with
      | true => False
      | false => cOp (fun q : Nat × (Nat → Int) => (0 ≤ i ∧ i < (q.1 : Int)) ∧ C (pc + 1) ls (vi (q.2 i.toNat) :: st) σ) (ro X c)
  | _ => False
def zOK (z : Bool) (x : Int) (P : Prop) : Prop := match z with
  | true => (x = 0 ∨ x = 1) ∧ P
  | false => P
def cast_ (C : Nat → Lc → List MV → Wd → Prop) (z : Bool) (pc : Nat) (ls : Lc) (σ : Wd) : List MV → Prop
  | .inl x :: .inl i :: .inr (.inr c) :: st => cOp (fun q : Bool × Nat => cBo ((0 ≤ i ∧ i < (q.2 : Int)) ∧ zOK z x (∀ τ, τ = wu σ (64 * c) i x → C (pc + 1) ls st τ)) (q.1 == z)) (arr? c)
  | _ => False
/-- a slot's value -/
def cfld (C : Nat → Lc → List MV → Wd → Prop) (pc loc : Nat) (ls : Lc) (st : List MV) (σ : Wd) : Nat ⊕ Nat → Prop
  | .inl t => C (pc + 3) ls (vr t :: st) σ
  | .inr 2 => C (pc + 3) ls (vl (σ loc 0) :: st) σ
  | .inr _ => C (pc + 3) ls (vi (σ loc 0) :: st) σ
def cget (k : Nat) (C : Nat → Lc → List MV → Wd → Prop) (pc idx : Nat) (ls : Lc) (σ : Wd) : List MV → Prop :=
  cR1 (fun c st => cOp (fun q : Nat × Nat × Nat => cOp (fun o : Nat × List (Nat ⊕ Nat) => cBo (cOp (cfld C pc (64 * c + q.2.1) ls st σ) o.2[q.2.1]?) (o.1 == q.1)) (obj? c)) (flT.lookup (mO k, idx)))
def cpfl (C : Nat → Lc → List MV → Wd → Prop) (pc loc : Nat) (ls : Lc) (st : List MV) (σ : Wd) : MV → Nat ⊕ Nat → Prop
  | .inl x, .inr 0 => ∀ τ, τ = wu σ loc 0 x → C (pc + 3) ls st τ
  | .inl x, .inr 1 => (x = 0 ∨ x = 1) ∧ ∀ τ, τ = wu σ loc 0 x → C (pc + 3) ls st τ
  | .inr (.inl x), .inr 2 => ∀ τ, τ = wu σ loc 0 x → C (pc + 3) ls st τ
  | _, _ => False
def cput (k : Nat) (C : Nat → Lc → List MV → Wd → Prop) (pc idx : Nat) (ls : Lc) (σ : Wd) : List MV → Prop
  | v :: .inr (.inr c) :: st => cOp (fun q : Nat × Nat × Nat => cOp (fun o : Nat × List (Nat ⊕ Nat) => cBo (cOp (cpfl C pc (64 * c + q.2.1) ls st σ v) o.2[q.2.1]?) (o.1 == q.1)) (obj? c)) (flT.lookup (mO k, idx))
  | _ => False
def QI (F : Int → Wd → Prop) : Option MV → Wd → Prop
  | some (.inl x), σ => F x σ
  | _, _ => False
def QL (F : Int → Wd → Prop) : Option MV → Wd → Prop
  | some (.inr (.inl x)), σ => F x σ
  | _, _ => False
def QV (F : Wd → Prop) : Option MV → Wd → Prop
  | none, σ => F σ
  | _, _ => False
def cRet (C : Nat → Lc → List MV → Wd → Prop) (pc : Nat) (ls : Lc) (st : List MV) : Option FieldType → Option MV → Wd → Prop
  | some .int => QI (fun x σ => C (pc + 3) ls (vi x :: st) σ)
  | some .boolean => QI (fun x σ => C (pc + 3) ls (vi x :: st) σ)
  | some .long => QL (fun x σ => C (pc + 3) ls (vl x :: st) σ)
  | none => QV (fun σ => C (pc + 3) ls st σ)
  | _ => fun _ _ => False
def callC (X : En) (k' : Nat) (C : Nat → Lc → List MV → Wd → Prop) (pc : Nat) (ls : Lc) (σ : Wd) (as st : List MV) : Prop :=
  cBo (Tr X k' as σ (cRet C pc ls st (mR k'))) (Nat.ble (csum st) 8)
def cinv (X : En) (k : Nat) (C : Nat → Lc → List MV → Wd → Prop) (pc idx : Nat) (ls : Lc) (σ : Wd) (st : List MV) : Prop :=
  cOp (fun q : Nat × Nat × Nat => match q.1 with
    | 910 => cR1 (fun c st => cBo (C (pc + 3) ls (vi 63 :: st) σ) (c == 210 && Nat.ble (csum st) 8 && Nat.ble 6 (mD k))) st
    | 911 => cI1 (fun i st => cR1 (fun c st => cBo ((0 ≤ i ∧ i < 63) ∧ C (pc + 3) ls (vi (chW i) :: st) σ) (c == 210 && Nat.ble (csum st) 8 && Nat.ble 6 (mD k))) st) st
    | k' => cOp (fun a : List MV × List MV => cR1 (fun c st => cOp (fun o : Nat × List (Nat ⊕ Nat) => cBo (callC X k' C pc ls σ (vr c :: a.1) st) (o.1 == mO k' && Nat.blt k' 141 && !mS k' && Nat.blt (mD k') (mD k))) (obj? c)) a.2) (popn q.2.1 [] st)) (ivT.lookup (mO k, idx))
def cins (X : En) (k : Nat) (C : Nat → Lc → List MV → Wd → Prop) (pc idx : Nat) (ls : Lc) (σ : Wd) (st : List MV) : Prop :=
  cOp (fun q : Nat × Nat × Nat => match q.1 with
    | 900 => cII (fun x y st => iR x ∧ iR y ∧ cBo (C (pc + 3) ls (vi (max x y) :: st) σ) (Nat.ble (csum st) 8 && Nat.ble 3 (mD k))) st
    | 901 => cII (fun x y st => iR x ∧ iR y ∧ cBo (C (pc + 3) ls (vi (min x y) :: st) σ) (Nat.ble (csum st) 8 && Nat.ble 3 (mD k))) st
    | 902 => match st with
      | .inl n :: .inl dp :: .inr (.inr b) :: .inl sp :: .inr (.inr a) :: st => cOp (fun qa : Bool × Nat => cOp (fun qb : Bool × Nat => cBo ((0 ≤ n ∧ 0 ≤ sp ∧ 0 ≤ dp ∧ sp + n ≤ (qa.2 : Int) ∧ dp + n ≤ (qb.2 : Int)) ∧ ∀ τ, τ = wcp σ (64 * a) (64 * b) sp dp n → C (pc + 3) ls st τ) (!qa.1 && !qb.1 && Nat.ble (csum st) 8 && Nat.ble 3 (mD k))) (arr? b)) (arr? a)
      | _ => False
    | k' => cOp (fun a : List MV × List MV => cBo (callC X k' C pc ls σ a.1 a.2) (Nat.blt k' 141 && mS k' && Nat.blt (mD k') (mD k))) (popn q.2.1 [] st)) (ivT.lookup (mO k, idx))
/-- one instruction: what must hold so that the next state has C, or the answer Q -/
def stp (X : En) (k : Nat) (ins : Instr) (pc : Nat) (ls : Lc) (st : List MV) (σ : Wd) (C : Nat → Lc → List MV → Wd → Prop) (Q : Option MV → Wd → Prop) : Prop :=
  match ins with
  | .iconst n => C (pc + 1) ls (vi n :: st) σ
  | .bipush n => C (pc + 2) ls (vi n :: st) σ
  | .sipush n => C (pc + 3) ls (vi n :: st) σ
  | .lconst n => C (pc + 1) ls (vl ((n : Nat) : Int) :: st) σ
  | .ldc idx => match kIT.lookup (mO k, idx) with
    | some v => C (pc + 2) ls (vi v :: st) σ
    | none => cBo (C (pc + 2) ls (vr 210 :: st) σ) (mO k == 4 && idx == 76)
  | .ldc2_w idx => cOp (fun v => C (pc + 3) ls (vl v :: st) σ) (kLT.lookup (mO k, idx))
  | .iload i => cldI C (pc + 2) ls st σ (ld ls i)
  | .iload_n i => cldI C (pc + 1) ls st σ (ld ls i.val)
  | .lload i => cldL C (pc + 2) ls st σ (ld ls i)
  | .lload_n i => cldL C (pc + 1) ls st σ (ld ls i.val)
  | .aload i => cldR C (pc + 2) ls st σ (ld ls i)
  | .aload_n i => cldR C (pc + 1) ls st σ (ld ls i.val)
  | .istore i => cstI k C (pc + 2) i ls σ st
  | .istore_n i => cstI k C (pc + 1) i.val ls σ st
  | .lstore i => cstL k C (pc + 2) i ls σ st
  | .lstore_n i => cstL k C (pc + 1) i.val ls σ st
  | .iinc i n => match ld ls i, lp ls i, Nat.blt i (mL k) with
    | some (.inl x), false, true => C (pc + 3) (sto ls i (some (vi (x + n)))) st σ
    | _, _, _ => False
  | .iadd => cII (fun x y st => C (pc + 1) ls (vi (x + y) :: st) σ) st
  | .isub => cII (fun x y st => C (pc + 1) ls (vi (x - y) :: st) σ) st
  | .imul => cII (fun x y st => C (pc + 1) ls (vi (x * y) :: st) σ) st
  | .idiv => cII (fun x y st => (0 ≤ x ∧ iR x ∧ 0 < y ∧ iR y) ∧ C (pc + 1) ls (vi (x / y) :: st) σ) st
  | .irem => cII (fun x y st => (0 ≤ x ∧ iR x ∧ 0 < y ∧ iR y) ∧ C (pc + 1) ls (vi (x % y) :: st) σ) st
  | .iand => cII (fun x y st => C (pc + 1) ls (vi (bAnd x y) :: st) σ) st
  | .ior => cII (fun x y st => C (pc + 1) ls (vi (bOr x y) :: st) σ) st
  | .ishl => cII (fun x y st => C (pc + 1) ls (vi (bShl x y) :: st) σ) st
  | .ishr => cII (fun x y st => C (pc + 1) ls (vi (bShr x y) :: st) σ) st
  | .ladd => cLL (fun x y st => C (pc + 1) ls (vl (x + y) :: st) σ) st
  | .lsub => cLL (fun x y st => C (pc + 1) ls (vl (x - y) :: st) σ) st
  | .lmul => cLL (fun x y st => C (pc + 1) ls (vl (x * y) :: st) σ) st
  | .land => cLL (fun x y st => C (pc + 1) ls (vl (lAnd x y) :: st) σ) st
  | .lor => cLL (fun x y st => C (pc + 1) ls (vl (lOr x y) :: st) σ) st
  | .lshl => cLI (fun x y st => C (pc + 1) ls (vl (lShl x y) :: st) σ) st
  | .lshr => cLI (fun x y st => C (pc + 1) ls (vl (lShr x y) :: st) σ) st
  | .lushr => cLI (fun x y st => C (pc + 1) ls (vl (lUshr x y) :: st) σ) st
  | .lcmp => cLL (fun x y st => lR x ∧ lR y ∧ C (pc + 1) ls (vi (cmp3 x y) :: st) σ) st
  | .i2l => cI1 (fun x st => iR x ∧ C (pc + 1) ls (vl x :: st) σ) st
  | .l2i => cL1 (fun x st => C (pc + 1) ls (vi x :: st) σ) st
  | .dup => match st with
    | .inl x :: st => C (pc + 1) ls (vi x :: vi x :: st) σ
    | .inr (.inr x) :: st => C (pc + 1) ls (vr x :: vr x :: st) σ
    | _ => False
  | .dup2 => match st with
    | .inl x :: .inr (.inr y) :: st => C (pc + 1) ls (vi x :: vr y :: vi x :: vr y :: st) σ
    | _ => False
  | .ifCond c off => cI1 (fun x st => iR x ∧ (cmpP c x 0 → C (tgt pc off) ls st σ) ∧ (¬ cmpP c x 0 → C (pc + 3) ls st σ)) st
  | .if_icmp c off => cII (fun x y st => iR x ∧ iR y ∧ (cmpP c x y → C (tgt pc off) ls st σ) ∧ (¬ cmpP c x y → C (pc + 3) ls st σ)) st
  | .goto off => C (tgt pc off) ls st σ
  | .tableswitch d lo hi offs => cI1 (fun x st => iR x ∧ swc x (fun o => C (tgt pc o) ls st σ) offs.toList lo ∧ (x < lo ∨ lo + (offs.size : Int) ≤ x → C (tgt pc d) ls st σ)) st
  | .iaload => cald X C false pc ls σ st
  | .baload => cald X C true pc ls σ st
  | .iastore => cast_ C false pc ls σ st
  | .bastore => cast_ C true pc ls σ st
  | .arraylength => cR1 (fun c st => match arr? c with
    | some q => C (pc + 1) ls (vi (q.2 : Int) :: st) σ
    | none => cOp (fun q : Nat × (Nat → Int) => C (pc + 1) ls (vi (q.1 : Int) :: st) σ) (ro X c)) st
  | .getfield idx => cget k C pc idx ls σ st
  | .putfield idx => cput k C pc idx ls σ st
  | .getstatic idx => cOp (fun q : Nat × Nat => C (pc + 3) ls (vr q.1 :: st) σ) (gsT.lookup (mO k, idx))
  | .invokevirtual idx => cinv X k C pc idx ls σ st
  | .invokestatic idx => cins X k C pc idx ls σ st
  | .ireturn => match st, mR k with
    | [.inl x], some .int => Q (some (vi x)) σ
    | [.inl x], some .boolean => (x = 0 ∨ x = 1) ∧ Q (some (vi x)) σ
    | _, _ => False
  | .lreturn => match st, mR k with
    | [.inr (.inl x)], some .long => Q (some (vl x)) σ
    | _, _ => False
  | .return_ => match st, mR k with
    | [], none => Q none σ
    | _, _ => False
  | _ => False
