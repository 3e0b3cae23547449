abbrev ps : Type := Nat × Nat × List Nat × (Nat → Nat) × (Nat → Nat → Value)
abbrev PI : Type := Nat × Nat × Int × Int × List Nat
abbrev LV : Type := List (Nat × Value)
abbrev sL (σ : ps) : List Nat := σ.2.2.1
abbrev sK (σ : ps) : Nat → Nat := σ.2.2.2.1
abbrev sV (σ : ps) : Nat → Nat → Value := σ.2.2.2.2
def toI (v : Value) : Int32 := match v with
  | .int x => x
  | _ => 0
def toL (v : Value) : Int64 := match v with
  | .long x => x
  | _ => 0
def toQ (v : Value) : Option Nat := match v with
  | .ref a => some a
  | _ => none
def RS (k : Nat) : String := ([RX0, RX1, RX2, RX3, RX4, RX5, RX6, RX7, RX8, RX9, RX10, RX11, RX12, RX13] : List String).getD k ""
def TS (k : Nat) : u_T := ([TX0, TX1, TX2, TX3, TX4, TX5, TX6, TX7, TX8, TX9, TX10, TX11, TX12, TX13] : List u_T).getD k TX0
def nF (k : Nat) : Nat := ([5, 2, 10, 16, 6, 6, 5, 9, 2, 2, 6, 2, 10, 68] : List Nat).getD k 0
def tyS (k : Nat) : Nat → FieldType := ([tyX0, tyX1, tyX2, tyX3, tyX4, tyX5, tyX6, tyX7, tyX8, tyX9, tyX10, tyX11, tyX12, tyX13] : List (Nat → FieldType)).getD k tyX0
def rk1 : List (Nat × Nat) := [(0, 15), (0, 200), (1, 17), (1, 10), (4, 24), (5, 8), (6, 1025), (7, 4), (8, 4), (9, 4), (10, 8), (9, 0), (9, 0), (9, 0), (9, 0), (9, 0), (9, 0), (9, 0), (2, 1), (9, 0), (9, 0), (1, 200), (9, 0), (9, 0), (3, 8), (1, 8), (1, 8), (1, 8), (1, 8), (1, 8), (1, 8), (1, 8), (1, 8), (3, 8), (2, 8), (2, 8), (1, 8), (1, 8), (2, 8), (1, 8), (1, 128), (1, 128), (1, 512), (1, 32)]
def rk2 : List (Nat × Nat) := [(1, 8), (1, 512), (1, 32), (2, 32), (1, 32), (1, 512), (2, 32), (1, 8), (1, 8), (1, 192), (1, 192), (1, 192), (2, 192), (2, 192), (3, 192), (1, 192), (1, 3072), (1, 3072), (1, 160000), (1, 800), (1, 800), (1, 800), (9, 0), (9, 0), (1, 11), (1, 200), (9, 0), (1, 16), (1, 260), (9, 0), (1, 24), (9, 0), (1, 384), (1, 200), (9, 0), (9, 0), (9, 0), (3, 200), (1, 512), (1, 512), (1, 16), (1, 16), (1, 16), (1, 16)]
/-- a row by its kind: which class of arrays, how long -/
def rk (k : Nat) : Nat × Nat := if k < 64 then rk1.getD (k - 20) (9, 0) else rk2.getD (k - 64) (9, 0)
def rowF (c : Nat) (f : Nat → Value) : (Nat → Int32) ⊕ (Nat → Int64) ⊕ (Nat → UInt32) ⊕ (Nat → UInt64) ⊕ (Nat → Option Nat) :=
  if c = 2 then .inr (.inl fun i => toL (f i)) else if c < 4 then .inl (fun i => toI (f i)) else .inr (.inr (.inr (.inr fun i => toQ (f i))))
def pF (cy : Nat → ClassId) (σ : ps) (a : Nat) : va_E :=
  if sK σ a < 14 then .inr (sK σ a, (List.range (nF (sK σ a))).map (sV σ a)) else .inl (cy (rk (sK σ a)).1, (rk (sK σ a)).2, rowF (rk (sK σ a)).1 (sV σ a))
def pW (cy : Nat → ClassId) (σ : ps) : va_W := va_pl (sL σ) (pF cy σ)
def pV (V : Nat → Nat → Value) (a j : Nat) (v : Value) : Nat → Nat → Value := fun b i => if b = a ∧ i = j then v else V b i
def sPut (σ : ps) (a j : Nat) (v : Value) : ps := (σ.1, σ.2.1, σ.2.2.1, σ.2.2.2.1, pV σ.2.2.2.2 a j v)
def sNew (σ : ps) (k n : Nat) (f : Nat → Value) : ps := (σ.1 + 1, σ.2.1 + n, σ.2.2.1 ++ [σ.1], va_up σ.2.2.2.1 σ.1 k, va_up σ.2.2.2.2 σ.1 f)
def pis (σ : ps) (a k : Nat) : Bool := decide (a ∈ sL σ) && (sK σ a == k)
def plk : LV → Nat → Option Value
  | [], _ => none
  | (j, v) :: r, i => if j = i then some v else plk r i
def pst1 (lv : LV) (i : Nat) (v : Value) : LV := (i, v) :: lv.filter (fun q => !(q.1 == i) && !(q.1 + 1 == i && q.2.category == 2))
def pst2 (lv : LV) (i : Nat) (v : Value) : LV := (i, v) :: lv.filter (fun q => !(q.1 == i) && (!(q.1 == i + 1) && !(q.1 + 1 == i && q.2.category == 2)))
def iop (o : Int) (x y : Int32) : Option Int32 :=
  if o = 0 then some (x + y) else if o = 1 then some (x - y) else if o = 2 then some (x * y) else if o = 3 then (if y = 0 then none else some (x / y)) else if o = 4 then (if y = 0 then none else some (x - x / y * y))
  else if o = 5 then some (x &&& y) else if o = 6 then some (x ||| y) else if o = 7 then some (x ^^^ y) else if o = 8 then some (x <<< (y &&& 31)) else if o = 9 then some (x >>> (y &&& 31)) else none
def lop (o : Int) (x y : Int64) : Option Int64 :=
  if o = 0 then some (x + y) else if o = 1 then some (x - y) else if o = 2 then some (x * y) else if o = 3 then (if y = 0 then none else some (x / y)) else if o = 4 then (if y = 0 then none else some (x - x / y * y)) else none
def icd (c : Int) (x y : Int32) : Bool :=
  if c = 0 then decide (x = y) else if c = 1 then decide (¬ x = y) else if c = 2 then decide (x < y) else if c = 3 then decide (y ≤ x) else if c = 4 then decide (y < x) else decide (x ≤ y)
/-- an index in a row -/
def pin (i : Int32) (n : Nat) : Bool := !decide (i < 0) && decide (i.toNatClampNeg < n)
def isRow (σ : ps) (a c : Nat) : Bool := decide (a ∈ sL σ) && (decide (14 ≤ sK σ a) && ((rk (sK σ a)).1 == c))
def catS (st : List Value) : Nat := (st.map fun v => v.category).sum
abbrev PR : Type := Option (Nat × LV × List Value × ps)
def f_iload (q : PI) (lv : LV) (st : List Value) (σ : ps) : PR := match plk lv q.2.2.1.toNat with
  | some (.int x) => some (q.2.1, lv, .int x :: st, σ)
  | _ => none
def f_lload (q : PI) (lv : LV) (st : List Value) (σ : ps) : PR := match plk lv q.2.2.1.toNat with
  | some (.long x) => some (q.2.1, lv, .long x :: st, σ)
  | _ => none
def f_aload (q : PI) (lv : LV) (st : List Value) (σ : ps) : PR := match plk lv q.2.2.1.toNat with
  | some (.ref x) => some (q.2.1, lv, .ref x :: st, σ)
  | some .null => some (q.2.1, lv, .null :: st, σ)
  | _ => none
def f_istore (q : PI) (lv : LV) (st : List Value) (σ : ps) : PR := match st with
  | .int x :: r => some (q.2.1, pst1 lv q.2.2.1.toNat (.int x), r, σ)
  | _ => none
def f_lstore (q : PI) (lv : LV) (st : List Value) (σ : ps) : PR := match st with
  | .long x :: r => some (q.2.1, pst2 lv q.2.2.1.toNat (.long x), r, σ)
  | _ => none
def f_astore (q : PI) (lv : LV) (st : List Value) (σ : ps) : PR := match st with
  | .ref x :: r => some (q.2.1, pst1 lv q.2.2.1.toNat (.ref x), r, σ)
  | .null :: r => some (q.2.1, pst1 lv q.2.2.1.toNat .null, r, σ)
  | _ => none
def f_iinc (q : PI) (lv : LV) (st : List Value) (σ : ps) : PR := match plk lv q.2.2.1.toNat with
  | some (.int x) => some (q.2.1, pst1 lv q.2.2.1.toNat (.int (x + Int32.ofInt q.2.2.2.1)), st, σ)
  | _ => none
def f_iop (q : PI) (lv : LV) (st : List Value) (σ : ps) : PR := match st with
  | .int y :: .int x :: r => (match iop q.2.2.1 x y with
    | some z => some (q.2.1, lv, .int z :: r, σ)
    | none => none)
  | _ => none
def f_lop (q : PI) (lv : LV) (st : List Value) (σ : ps) : PR := match st with
  | .long y :: .long x :: r => (match lop q.2.2.1 x y with
    | some z => some (q.2.1, lv, .long z :: r, σ)
    | none => none)
  | _ => none
def f_lcmp (q : PI) (lv : LV) (st : List Value) (σ : ps) : PR := match st with
  | .long y :: .long x :: r => some (q.2.1, lv, .int (lg_cmp x y) :: r, σ)
  | _ => none
def f_i2l (q : PI) (lv : LV) (st : List Value) (σ : ps) : PR := match st with
  | .int x :: r => some (q.2.1, lv, .long x.toInt64 :: r, σ)
  | _ => none
def f_l2i (q : PI) (lv : LV) (st : List Value) (σ : ps) : PR := match st with
  | .long x :: r => some (q.2.1, lv, .int x.toInt32 :: r, σ)
  | _ => none
def f_i2b (q : PI) (lv : LV) (st : List Value) (σ : ps) : PR := match st with
  | .int x :: r => some (q.2.1, lv, .int x.toInt8.toInt32 :: r, σ)
  | _ => none
def f_if (q : PI) (lv : LV) (st : List Value) (σ : ps) : PR := match st with
  | .int x :: r => some (if icd q.2.2.1 x 0 then q.2.2.2.1.toNat else q.2.1, lv, r, σ)
  | _ => none
def f_icmp (q : PI) (lv : LV) (st : List Value) (σ : ps) : PR := match st with
  | .int y :: .int x :: r => some (if icd q.2.2.1 x y then q.2.2.2.1.toNat else q.2.1, lv, r, σ)
  | _ => none
def f_ifnull (q : PI) (lv : LV) (st : List Value) (σ : ps) : PR := match st with
  | .ref _ :: r => some (q.2.1, lv, r, σ)
  | .null :: r => some (q.2.2.2.1.toNat, lv, r, σ)
  | _ => none
def f_ifnonnull (q : PI) (lv : LV) (st : List Value) (σ : ps) : PR := match st with
  | .ref _ :: r => some (q.2.2.2.1.toNat, lv, r, σ)
  | .null :: r => some (q.2.1, lv, r, σ)
  | _ => none
def swt (q : PI) (x : Int32) : Nat := if x.toInt < q.2.2.1 then q.2.2.2.1.toNat else q.2.2.2.2.getD (x.toInt - q.2.2.1).toNat q.2.2.2.1.toNat
def f_switch (q : PI) (lv : LV) (st : List Value) (σ : ps) : PR := match st with
  | .int x :: r => some (swt q x, lv, r, σ)
  | _ => none
def f_get (q : PI) (lv : LV) (st : List Value) (σ : ps) : PR := match st with
  | .ref a :: r => if pis σ a q.2.2.1.toNat then some (q.2.1, lv, sV σ a q.2.2.2.1.toNat :: r, σ) else none
  | _ => none
def pfit (ty : FieldType) (v : Value) : Bool := match ty with
  | .boolean => fits .boolean v
  | .int => fits .int v
  | .long => fits .long v
  | .object n => fits (.object n) v
  | .array t => fits (.array t) v
  | _ => false
def f_put (q : PI) (lv : LV) (st : List Value) (σ : ps) : PR := match st with
  | v :: .ref a :: r => if pis σ a q.2.2.1.toNat && pfit (tyS q.2.2.1.toNat q.2.2.2.1.toNat) v then some (q.2.1, lv, r, sPut σ a q.2.2.2.1.toNat v) else none
  | _ => none
def f_iald (q : PI) (lv : LV) (st : List Value) (σ : ps) : PR := match st with
  | .int i :: .ref a :: r => if isRow σ a 1 && pin i (rk (sK σ a)).2 then (match sV σ a i.toNatClampNeg with
    | .int x => some (q.2.1, lv, .int x :: r, σ)
    | _ => none) else none
  | _ => none
def f_bald (q : PI) (lv : LV) (st : List Value) (σ : ps) : PR := match st with
  | .int i :: .ref a :: r => if (isRow σ a 0 || isRow σ a 3) && pin i (rk (sK σ a)).2 then (match sV σ a i.toNatClampNeg with
    | .int x => some (q.2.1, lv, .int x :: r, σ)
    | _ => none) else none
  | _ => none
def f_lald (q : PI) (lv : LV) (st : List Value) (σ : ps) : PR := match st with
  | .int i :: .ref a :: r => if isRow σ a 2 && pin i (rk (sK σ a)).2 then (match sV σ a i.toNatClampNeg with
    | .long x => some (q.2.1, lv, .long x :: r, σ)
    | _ => none) else none
  | _ => none
def isRowQ (σ : ps) (a : Nat) : Bool := decide (a ∈ sL σ) && (decide (14 ≤ sK σ a) && (decide (4 ≤ (rk (sK σ a)).1) && decide ((rk (sK σ a)).1 < 11)))
def f_aald (q : PI) (lv : LV) (st : List Value) (σ : ps) : PR := match st with
  | .int i :: .ref a :: r => if isRowQ σ a && pin i (rk (sK σ a)).2 then (match sV σ a i.toNatClampNeg with
    | .ref x => some (q.2.1, lv, .ref x :: r, σ)
    | .null => some (q.2.1, lv, .null :: r, σ)
    | _ => none) else none
  | _ => none
def f_iast (q : PI) (lv : LV) (st : List Value) (σ : ps) : PR := match st with
  | .int x :: .int i :: .ref a :: r => if isRow σ a 1 && pin i (rk (sK σ a)).2 then some (q.2.1, lv, r, sPut σ a i.toNatClampNeg (.int x)) else none
  | _ => none
def f_bast (q : PI) (lv : LV) (st : List Value) (σ : ps) : PR := match st with
  | .int x :: .int i :: .ref a :: r => if isRow σ a 0 && pin i (rk (sK σ a)).2 then some (q.2.1, lv, r, sPut σ a i.toNatClampNeg (.int (vp_nar .byte x)))
    else if isRow σ a 3 && pin i (rk (sK σ a)).2 then some (q.2.1, lv, r, sPut σ a i.toNatClampNeg (.int (vp_nar .boolean x))) else none
  | _ => none
def f_last (q : PI) (lv : LV) (st : List Value) (σ : ps) : PR := match st with
  | .long x :: .int i :: .ref a :: r => if isRow σ a 2 && pin i (rk (sK σ a)).2 then some (q.2.1, lv, r, sPut σ a i.toNatClampNeg (.long x)) else none
  | _ => none
/-- the class of the things in a row of references -/
def rowC (c : Nat) : Nat := ([0, 0, 0, 0, 2, 3, 5, 6, 8, 9, 10] : List Nat).getD c 0
def f_aast (q : PI) (lv : LV) (st : List Value) (σ : ps) : PR := match st with
  | .ref x :: .int i :: .ref a :: r => if isRowQ σ a && (pin i (rk (sK σ a)).2 && pis σ x (rowC (rk (sK σ a)).1)) then some (q.2.1, lv, r, sPut σ a i.toNatClampNeg (.ref x)) else none
  | _ => none
def f_pop (q : PI) (lv : LV) (st : List Value) (σ : ps) : PR := match st with
  | v :: r => if v.category = 1 then some (q.2.1, lv, r, σ) else none
  | _ => none
def f_dup (q : PI) (lv : LV) (st : List Value) (σ : ps) : PR := match st with
  | v :: r => if v.category = 1 then some (q.2.1, lv, v :: v :: r, σ) else none
  | _ => none
def f_dup2 (q : PI) (lv : LV) (st : List Value) (σ : ps) : PR := match st with
  | v :: w :: r => if v.category = 1 ∧ w.category = 1 then some (q.2.1, lv, v :: w :: v :: w :: r, σ) else none
  | _ => none
def dfv (k : Nat) (j : Nat) : Value := if j < nF k then defaultValue (tyS k j) else .null
def f_new (q : PI) (lv : LV) (st : List Value) (σ : ps) : PR :=
  some (q.2.1, lv, .ref σ.1 :: st, sNew σ q.2.2.1.toNat (nF q.2.2.1.toNat) (dfv q.2.2.1.toNat))
def rowV (c : Nat) : Value := if c = 2 then .long 0 else if c < 4 then .int 0 else .null
def f_newa (q : PI) (lv : LV) (st : List Value) (σ : ps) : PR := match st with
  | .int n :: r => if n = Int32.ofNat (rk q.2.2.1.toNat).2 then some (q.2.1, lv, .ref σ.1 :: r, sNew σ q.2.2.1.toNat (rk q.2.2.1.toNat).2 (fun _ => rowV (rk q.2.2.1.toNat).1)) else none
  | _ => none
def f_imin (q : PI) (lv : LV) (st : List Value) (σ : ps) : PR := match st with
  | .int y :: .int x :: r => if catS r ≤ 8 then some (q.2.1, lv, .int (if y < x then y else x) :: r, σ) else none
  | _ => none
def f_lmin (q : PI) (lv : LV) (st : List Value) (σ : ps) : PR := match st with
  | .long y :: .long x :: r => if catS r ≤ 8 then some (q.2.1, lv, .long (if y < x then y else x) :: r, σ) else none
  | _ => none
def f_oinit (q : PI) (lv : LV) (st : List Value) (σ : ps) : PR := match st with
  | .ref _ :: r => if catS r ≤ 8 then some (q.2.1, lv, r, σ) else none
  | _ => none
def pst (q : PI) (lv : LV) (st : List Value) (σ : ps) : PR :=
  match q.1 with
  | 0 => some (q.2.1, lv, .int (Int32.ofInt q.2.2.1) :: st, σ)
  | 1 => some (q.2.1, lv, .long (Int64.ofInt q.2.2.1) :: st, σ)
  | 2 => some (q.2.1, lv, .null :: st, σ)
  | 3 => f_iload q lv st σ
  | 4 => f_lload q lv st σ
  | 5 => f_aload q lv st σ
  | 6 => f_istore q lv st σ
  | 7 => f_lstore q lv st σ
  | 8 => f_astore q lv st σ
  | 9 => f_iinc q lv st σ
  | 10 => f_iop q lv st σ
  | 11 => f_lop q lv st σ
  | 12 => f_lcmp q lv st σ
  | 13 => f_i2l q lv st σ
  | 14 => f_l2i q lv st σ
  | 15 => f_i2b q lv st σ
  | 16 => f_if q lv st σ
  | 17 => f_icmp q lv st σ
  | 18 => f_ifnull q lv st σ
  | 19 => f_ifnonnull q lv st σ
  | 20 => some (q.2.2.2.1.toNat, lv, st, σ)
  | 21 => f_switch q lv st σ
  | 22 => f_get q lv st σ
  | 23 => f_put q lv st σ
  | 24 => f_iald q lv st σ
  | 25 => f_bald q lv st σ
  | 26 => f_lald q lv st σ
  | 27 => f_aald q lv st σ
  | 28 => f_iast q lv st σ
  | 29 => f_bast q lv st σ
  | 30 => f_last q lv st σ
  | 31 => f_aast q lv st σ
  | 33 => f_pop q lv st σ
  | 34 => f_dup q lv st σ
  | 35 => f_dup2 q lv st σ
  | 41 => f_new q lv st σ
  | 42 => f_newa q lv st σ
  | 43 => f_imin q lv st σ
  | 44 => f_lmin q lv st σ
  | 45 => f_oinit q lv st σ
  | _ => none
def pnarO (t : Option FieldType) (v : Int32) : Bool := match t with
  | some ty => (match narrow ty (.int v) with
    | .int w => w == v
    | _ => false)
  | none => false
def isLong (t : Option FieldType) : Bool := match t with
  | some .long => true
  | _ => false
def isObj (t : Option FieldType) : Bool := match t with
  | some (.object _) => true
  | _ => false
/-- what a method gives back, or nothing where this instruction is no return -/
def pret (t : Option FieldType) (q : PI) (st : List Value) : Option (Option Value) :=
  match q.1 with
  | 37 => (match st with
    | [] => if t.isNone then some none else none
    | _ => none)
  | 38 => (match st with
    | [.int v] => if pnarO t v then some (some (.int v)) else none
    | _ => none)
  | 39 => (match st with
    | [.long v] => if isLong t then some (some (.long v)) else none
    | _ => none)
  | 40 => (match st with
    | [.ref v] => if isObj t then some (some (.ref v)) else none
    | [.null] => if isObj t then some (some .null) else none
    | _ => none)
  | _ => none
def plkI : List (Nat × PI) → Nat → Option PI
  | [], _ => none
  | (j, v) :: r, i => if j = i then some v else plkI r i
