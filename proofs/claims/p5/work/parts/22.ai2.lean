abbrev ALT : Type := List AV × List AV × List (Nat × Int × Nat × Int × Int)
/-- a contract: method; what is known of its arguments and of further symbols; what fields hold; ways to end; what is written; kinds made; cells; slots; flag -/
abbrev CT : Type := Nat × List AV × List CH × List ALT × List (Nat × Nat) × List Nat × Nat × Nat × Nat × Nat
abbrev cEnv (X : CT) : List AV := X.2.1
abbrev cCh (X : CT) : List CH := X.2.2.1
abbrev cAlt (X : CT) : List ALT := X.2.2.2.1
abbrev cMod (X : CT) : List (Nat × Nat) := X.2.2.2.2.1
abbrev cNk (X : CT) : List Nat := X.2.2.2.2.2.1
abbrev cCe (X : CT) : Nat := X.2.2.2.2.2.2.1
abbrev cSl (X : CT) : Nat := X.2.2.2.2.2.2.2.1
abbrev cFl (X : CT) : Nat := X.2.2.2.2.2.2.2.2.1
abbrev cUi (X : CT) : Nat := X.2.2.2.2.2.2.2.2.2
def inM (mods : List (Nat × Nat)) (k j : Nat) : Bool := mods.any (fun q => q.1 == k && (decide (14 ≤ k) || q.2 == j))
def oTag (t : Nat) : Bool := t == 2 || t == 4
def apart (α : AS) (o o' : Nat) : Bool := (oTag (eg α o).1.1 && oTag (eg α o').1.1) && (decide (¬ (eg α o).1.2.1.toNat = (eg α o').1.2.1.toNat) || (((eg α o).1.1 == 4 || (eg α o').1.1 == 4) && decide (¬ o = o')))
def rngI (α : AS) (t : Nat) (x : Int) : Int × Int := if t = 0 then (x, x) else if (eg α x.toNat).1.1 = 0 then ((eg α x.toNat).1.2.1, (eg α x.toNat).1.2.2.1) else (-1, -1)
def iapart (α : AS) (t : Nat) (x : Int) (t' : Nat) (x' : Int) : Bool := (decide (0 ≤ (rngI α t x).1) && decide (0 ≤ (rngI α t' x').1)) && (decide ((rngI α t x).2 < (rngI α t' x').1) || decide ((rngI α t' x').2 < (rngI α t x).1))
def ckeep (α : AS) (o t : Nat) (x : Int) (c : CH) : Bool := decide (c.2.1 = 2) || (apart α o c.1 || iapart α t x c.2.1 c.2.2.1)
def cput (α : AS) (o t : Nat) (x : Int) (v : Nat) : List CH := (o, t, x, v) :: α.2.2.2.1.filter (ckeep α o t x)
def ikey (α : AS) (i : Nat) : Nat × Int := if aCst (eg α i).1 then (0, (eg α i).1.2.1) else (1, (i : Int))
def akind (α : AS) (o : Nat) : Nat := (eg α o).1.2.1.toNat
def anewc (α : AS) (e : AE) (st : List Nat) (o t : Nat) (x : Int) : AS := (α.1 ++ [e], α.2.1, α.1.length :: st, (o, t, x, α.1.length) :: α.2.2.2.1, α.2.2.2.2)
def agetf (α : AS) (k j o : Nat) (st : List Nat) (cont : AS → Bool) : Bool :=
  (oTag (eg α o).1.1 && decide (akind α o = k)) && (match clk α.2.2.2.1 o 0 j with
    | some s => cont (asst α (s :: st))
    | none => ((eg α o).1.1 == 2 && (decide (j < nF k) && decide (k < 14))) && cont (anewc α (fty k j, 0, 0) st o 0 j))
/-- what a value must be for a field of a declared type -/
def cmpT (ty : FieldType) (t : AV) : Bool := match ty with
  | .boolean => (t.1 == 0) && (decide (0 ≤ t.2.1) && decide (t.2.2.1 ≤ 1))
  | .int => t.1 == 0
  | .long => t.1 == 1
  | .object _ => isRefT t.1
  | .array _ => isRefT t.1
  | _ => false
def aputf (X : CT) (α : AS) (k j v o : Nat) (st : List Nat) (cont : AS → Bool) : Bool :=
  ((oTag (eg α o).1.1 && decide (akind α o = k)) && (cmpT (tyS k j) (eg α v).1 && (inM (cMod X) k j && (decide (j < nF k) && decide (k < 14))))) && (((eg α o).1.1 == 4 || aLe (eg α v).1 (fty k j)) && cont (asch α (cput α o 0 j v) st))
def aelt (k : Nat) (i : AV) : AV := if wrow k then (if i.2.2.2.1 = 0 ∧ i.2.2.2.2 = 0 then aI 0 15 else ety k) else if k = 92 then (if i.2.1 = 0 ∧ i.2.2.1 = 0 then aI 0 5 else ety k) else ety k
def aidx (α : AS) (o i : Nat) : Bool := (oTag (eg α o).1.1 && decide (14 ≤ akind α o)) && (((eg α i).1.1 == 0) && (decide (0 ≤ (eg α i).1.2.1) && decide ((eg α i).1.2.2.1 < (rk (akind α o)).2)))
def aaldx (α : AS) (okc : Nat → Bool) (okt : Nat → Bool) (o i : Nat) (st : List Nat) (cont : AS → Bool) : Bool :=
  (aidx α o i && okc (rk (akind α o)).1) && (match clk α.2.2.2.1 o (ikey α i).1 (ikey α i).2 with
    | some s => okt (eg α s).1.1 && cont (asst α (s :: st))
    | none => ((eg α o).1.1 == 2 && okt (aelt (akind α o) (eg α i).1).1) && cont (anewc α (aelt (akind α o) (eg α i).1, 0, 0) st o (ikey α i).1 (ikey α i).2))
def asto (k : Nat) (i v : AV) : Bool := aLe v (ety k) && ((!(wrow k && decide (i.2.2.2.1 = 0)) || aLe v (aI 0 15)) && (!((k == 92) && decide (i.2.1 ≤ 0)) || aLe v (aI 0 5)))
def aastx (X : CT) (α : AS) (okc : Nat → Bool) (v i o : Nat) (st : List Nat) (cont : AS → Bool) : Bool :=
  (aidx α o i && (okc (rk (akind α o)).1 && (inM (cMod X) (akind α o) 0 && (decide (cUi X = 0) || (!(akind α o == 97) && !(akind α o == 101)))))) && (decide (cFl X = 0) || !(akind α o == 26)) && (((eg α o).1.1 == 4 || asto (akind α o) (eg α i).1 (eg α v).1) && cont (asch α (cput α o (ikey α i).1 (ikey α i).2 v) st))
/-- a product with a number, once made, is found again -/
def amul (α : AS) (o : Int) (x y : Nat) (st : List Nat) (cont : AS → Bool) : Bool :=
  if o = 2 ∧ aCst (eg α x).1 = true then (match clk α.2.2.2.1 y 2 (eg α x).1.2.1 with
    | some r => (eg α r).1.1 == 0 && cont (asst α (r :: st))
    | none => cont (α.1 ++ [aop α o x y], α.2.1, α.1.length :: st, (y, 2, (eg α x).1.2.1, α.1.length) :: α.2.2.2.1, α.2.2.2.2))
  else cont (anew α (aop α o x y) st)
def bytes1 (c : Nat) : Bool := c == 0 || c == 3
/-- bytes are stored cut: only values that fit -/
def abfit (c : Nat) (t : AV) : Bool := (t.1 == 0) && (if c = 0 then decide (-128 ≤ t.2.1) && decide (t.2.2.1 ≤ 127) else decide (0 ≤ t.2.1) && decide (t.2.2.1 ≤ 1))
def rowRef (c : Nat) : Bool := decide (4 ≤ c) && decide (c < 11)
def catA (α : AS) (s : Nat) : Nat := if (eg α s).1.1 = 1 then 2 else 1
def catL (α : AS) (l : List Nat) : Nat := (l.map (catA α)).sum
def dfS (n : Nat) (ty : FieldType) : Nat := match ty with
  | .long => n + 2
  | .object _ => n + 3
  | .array _ => n + 3
  | _ => n + 1
def anewO (α : AS) (k : Nat) : AS := (α.1 ++ [(aRaw k, 0, 0), (aI 0 0, 0, 0), ((1, 0, 0, 0, 0), 0, 0), (aNull, 0, 0)], α.2.1, α.1.length :: α.2.2.1, (List.range (nF k)).map (fun j : Nat => (α.1.length, 0, (j : Int), dfS α.1.length (tyS k j))) ++ α.2.2.2.1, α.2.2.2.2.1 + 1, α.2.2.2.2.2 + nF k)
def prim (ty : FieldType) : Bool := match ty with
  | .boolean => true
  | .int => true
  | .long => true
  | .object _ => true
  | .array _ => true
  | _ => false
def seal0 (k : Nat) : Bool := if (rk k).1 = 2 then aLe (1, 0, 0, 0, 0) (ety k) else if (rk k).1 < 4 then aLe (aI 0 0) (ety k) else aLe aNull (ety k)
def anewA (α : AS) (k : Nat) (st : List Nat) : AS := (α.1 ++ [(aRef k, 0, 0)], α.2.1, α.1.length :: st, α.2.2.2.1, α.2.2.2.2.1 + 1, α.2.2.2.2.2 + (rk k).2)
def anewQ (α : AS) (k : Nat) (st : List Nat) : AS := (α.1 ++ [(aRaw k, 0, 0), (aNull, 0, 0)], α.2.1, α.1.length :: st, (List.range (rk k).2).map (fun j : Nat => (α.1.length, 0, (j : Int), α.1.length + 1)) ++ α.2.2.2.1, α.2.2.2.2.1 + 1, α.2.2.2.2.2 + (rk k).2)
def ainc (α : AS) (s : Nat) (y : Int) : AE := if (inR ((eg α s).1.2.1 + y) && inR ((eg α s).1.2.2.1 + y)) = true then (aI ((eg α s).1.2.1 + y) ((eg α s).1.2.2.1 + y), adep α s y) else (aAny, 0, 0)
/-- one instruction; k: what must hold behind it -/
def ast (X : CT) (q : PI) (α : AS) (k : Nat → AS → Bool) : Bool :=
  match q.1 with
  | 0 => inR q.2.2.1 && k q.2.1 (anew α (aI q.2.2.1 q.2.2.1, 0, 0) α.2.2.1)
  | 1 => (decide (-9223372036854775808 ≤ q.2.2.1) && decide (q.2.2.1 ≤ 9223372036854775807)) && k q.2.1 (anew α ((1, q.2.2.1, q.2.2.1, 0, 0), 0, 0) α.2.2.1)
  | 2 => k q.2.1 (anew α (aNull, 0, 0) α.2.2.1)
  | 3 => (match alk α.2.1 q.2.2.1.toNat with
    | some s => (eg α s).1.1 == 0 && k q.2.1 (asst α (s :: α.2.2.1))
    | none => false)
  | 4 => (match alk α.2.1 q.2.2.1.toNat with
    | some s => (eg α s).1.1 == 1 && k q.2.1 (asst α (s :: α.2.2.1))
    | none => false)
  | 5 => (match alk α.2.1 q.2.2.1.toNat with
    | some s => isRefT (eg α s).1.1 && k q.2.1 (asst α (s :: α.2.2.1))
    | none => false)
  | 6 => (match α.2.2.1 with
    | s :: r => (eg α s).1.1 == 0 && k q.2.1 (aslv α (ast1 α q.2.2.1.toNat s) r)
    | _ => false)
  | 7 => (match α.2.2.1 with
    | s :: r => (eg α s).1.1 == 1 && k q.2.1 (aslv α (ast2 α q.2.2.1.toNat s) r)
    | _ => false)
  | 8 => (match α.2.2.1 with
    | s :: r => isRefT (eg α s).1.1 && k q.2.1 (aslv α (ast1 α q.2.2.1.toNat s) r)
    | _ => false)
  | 9 => (match alk α.2.1 q.2.2.1.toNat with
    | some s => ((eg α s).1.1 == 0 && inR q.2.2.2.1) && k q.2.1 (α.1 ++ [ainc α s q.2.2.2.1], ast1 α q.2.2.1.toNat α.1.length, α.2.2)
    | none => false)
  | 10 => (match α.2.2.1 with
    | y :: x :: r => ((eg α x).1.1 == 0 && ((eg α y).1.1 == 0 && (!(decide (q.2.2.1 = 3) || decide (q.2.2.1 = 4)) || decide (1 ≤ (eg α y).1.2.1)))) && (decide (0 ≤ q.2.2.1) && decide (q.2.2.1 ≤ 9)) && amul α q.2.2.1 x y r (k q.2.1)
    | _ => false)
  | 11 => (match α.2.2.1 with
    | y :: x :: r => ((eg α x).1.1 == 1 && ((eg α y).1.1 == 1 && (!(decide (q.2.2.1 = 3) || decide (q.2.2.1 = 4)) || decide (1 ≤ (eg α y).1.2.1)))) && (decide (0 ≤ q.2.2.1) && decide (q.2.2.1 ≤ 4)) && k q.2.1 (anew α (aLong, 0, 0) r)
    | _ => false)
  | 12 => (match α.2.2.1 with
    | y :: x :: r => ((eg α x).1.1 == 1 && (eg α y).1.1 == 1) && k q.2.1 (anew α ((0, -1, 1, 0, 15), 0, 0) r)
    | _ => false)
  | 13 => (match α.2.2.1 with
    | x :: r => (eg α x).1.1 == 0 && k q.2.1 (anew α ((1, (eg α x).1.2.1, (eg α x).1.2.2.1, 0, 0), 0, 0) r)
    | _ => false)
  | 14 => (match α.2.2.1 with
    | x :: r => (eg α x).1.1 == 1 && k q.2.1 (anew α (aAny, 0, 0) r)
    | _ => false)
  | 15 => (match α.2.2.1 with
    | x :: r => (eg α x).1.1 == 0 && k q.2.1 (anew α ((0, -128, 127, 0, 15), 0, 0) r)
    | _ => false)
  | 16 => (match α.2.2.1 with
    | x :: r => (eg α x).1.1 == 0 && abr (anew α (aI 0 0, 0, 0) r) q.2.2.1 x α.1.length r q.2.2.2.1.toNat q.2.1 k
    | _ => false)
  | 17 => (match α.2.2.1 with
    | y :: x :: r => ((eg α x).1.1 == 0 && (eg α y).1.1 == 0) && abr α q.2.2.1 x y r q.2.2.2.1.toNat q.2.1 k
    | _ => false)
  | 18 => (match α.2.2.1 with
    | x :: r => if (eg α x).1.1 = 3 then k q.2.1 (α.1.set x (aRef (akind α x), 0, 0), α.2.1, r, α.2.2.2) && k q.2.2.2.1.toNat (α.1.set x (aNull, 0, 0), α.2.1, r, α.2.2.2)
      else if (eg α x).1.1 = 5 then k q.2.2.2.1.toNat (asst α r) else if oTag (eg α x).1.1 then k q.2.1 (asst α r) else false
    | _ => false)
  | 19 => (match α.2.2.1 with
    | x :: r => if (eg α x).1.1 = 3 then k q.2.2.2.1.toNat (α.1.set x (aRef (akind α x), 0, 0), α.2.1, r, α.2.2.2) && k q.2.1 (α.1.set x (aNull, 0, 0), α.2.1, r, α.2.2.2)
      else if (eg α x).1.1 = 5 then k q.2.1 (asst α r) else if oTag (eg α x).1.1 then k q.2.2.2.1.toNat (asst α r) else false
    | _ => false)
  | 20 => k q.2.2.2.1.toNat α
  | 21 => (match α.2.2.1 with
    | x :: r => (eg α x).1.1 == 0 && (k q.2.2.2.1.toNat (asst α r) && (List.range q.2.2.2.2.length).all (fun j => dead (rst α x (q.2.2.1 + j) (q.2.2.1 + j)) x || k (q.2.2.2.2.getD j q.2.2.2.1.toNat) (asst (rst α x (q.2.2.1 + j) (q.2.2.1 + j)) r)))
    | _ => false)
  | 22 => (match α.2.2.1 with
    | x :: r => agetf α q.2.2.1.toNat q.2.2.2.1.toNat x r (k q.2.1)
    | _ => false)
  | 23 => (match α.2.2.1 with
    | v :: x :: r => aputf X α q.2.2.1.toNat q.2.2.2.1.toNat v x r (k q.2.1)
    | _ => false)
  | 24 => (match α.2.2.1 with
    | i :: x :: r => aaldx α (fun c => c == 1) (fun t => t == 0) x i r (k q.2.1)
    | _ => false)
  | 25 => (match α.2.2.1 with
    | i :: x :: r => aaldx α bytes1 (fun t => t == 0) x i r (k q.2.1)
    | _ => false)
  | 26 => (match α.2.2.1 with
    | i :: x :: r => aaldx α (fun c => c == 2) (fun t => t == 1) x i r (k q.2.1)
    | _ => false)
  | 27 => (match α.2.2.1 with
    | i :: x :: r => aaldx α rowRef isRefT x i r (k q.2.1)
    | _ => false)
  | 28 => (match α.2.2.1 with
    | v :: i :: x :: r => (eg α v).1.1 == 0 && aastx X α (fun c => c == 1) v i x r (k q.2.1)
    | _ => false)
  | 29 => (match α.2.2.1 with
    | v :: i :: x :: r => ((eg α v).1.1 == 0) && (if abfit (rk (akind α x)).1 (eg α v).1 then aastx X α bytes1 v i x r (k q.2.1) else aastx X (α.1 ++ [((0, -128, 127, 0, 15), 0, 0)], α.2) (fun c => c == 0) α.1.length i x r (k q.2.1))
    | _ => false)
  | 30 => (match α.2.2.1 with
    | v :: i :: x :: r => (eg α v).1.1 == 1 && aastx X α (fun c => c == 2) v i x r (k q.2.1)
    | _ => false)
  | 31 => (match α.2.2.1 with
    | v :: i :: x :: r => ((eg α v).1.1 == 2 && decide (akind α v = rowC (rk (akind α x)).1)) && aastx X α rowRef v i x r (k q.2.1)
    | _ => false)
  | 33 => (match α.2.2.1 with
    | x :: r => decide (catA α x = 1) && k q.2.1 (asst α r)
    | _ => false)
  | 34 => (match α.2.2.1 with
    | x :: r => decide (catA α x = 1) && k q.2.1 (asst α (x :: x :: r))
    | _ => false)
  | 35 => (match α.2.2.1 with
    | x :: y :: r => (decide (catA α x = 1) && decide (catA α y = 1)) && k q.2.1 (asst α (x :: y :: x :: y :: r))
    | _ => false)
  | 41 => (decide (cFl X = 0) && decide (cUi X = 0)) && (decide (q.2.2.1.toNat < 14) && ((cNk X).contains q.2.2.1.toNat && (List.range (nF q.2.2.1.toNat)).all (fun j => prim (tyS q.2.2.1.toNat j)))) && k q.2.1 (anewO α q.2.2.1.toNat)
  | 42 => (match α.2.2.1 with
    | x :: r => (decide (cFl X = 0) && decide (cUi X = 0)) && (((eg α x).1.1 == 0 && (decide ((eg α x).1.2.1 = ((rk q.2.2.1.toNat).2 : Int)) && decide ((eg α x).1.2.2.1 = ((rk q.2.2.1.toNat).2 : Int)))) && (decide (20 ≤ q.2.2.1.toNat) && ((cNk X).contains q.2.2.1.toNat && decide ((rk q.2.2.1.toNat).2 ≤ 200000)))) && (if seal0 q.2.2.1.toNat then k q.2.1 (anewA α q.2.2.1.toNat r) else rowRef (rk q.2.2.1.toNat).1 && k q.2.1 (anewQ α q.2.2.1.toNat r))
    | _ => false)
  | 43 => (match α.2.2.1 with
    | y :: x :: r => (((eg α x).1.1 == 0 && (eg α y).1.1 == 0) && decide (catL α r ≤ 8)) && k q.2.1 (anew α (aI (min (eg α x).1.2.1 (eg α y).1.2.1) (min (eg α x).1.2.2.1 (eg α y).1.2.2.1), 0, 0) r)
    | _ => false)
  | 44 => (match α.2.2.1 with
    | y :: x :: r => (((eg α x).1.1 == 1 && (eg α y).1.1 == 1) && decide (catL α r ≤ 8)) && k q.2.1 (anew α (aLong, 0, 0) r)
    | _ => false)
  | 45 => (match α.2.2.1 with
    | x :: r => (oTag (eg α x).1.1 && decide (catL α r ≤ 8)) && k q.2.1 (asst α r)
    | _ => false)
  | _ => false
/-- symbols of another list, found by what fields hold -/
def asg (α : AS) : List Nat → List CH → Option (List Nat)
  | as, [] => some as
  | as, c :: r => if (decide (c.1 < as.length) && (decide (c.2.1 = 0) || (decide (c.2.1 = 1) && (decide (c.2.2.1.toNat < as.length) && (eg α (as.getD c.2.2.1.toNat 0)).1.1 == 0)))) then
    (match (if c.2.1 = 0 then clk α.2.2.2.1 (as.getD c.1 0) 0 c.2.2.1 else clk α.2.2.2.1 (as.getD c.1 0) (ikey α (as.getD c.2.2.1.toNat 0)).1 (ikey α (as.getD c.2.2.1.toNat 0)).2) with
    | none => none
    | some s => if c.2.2.2 = as.length then asg α (as ++ [s]) r else if c.2.2.2 < as.length ∧ as.getD c.2.2.2 0 = s then asg α as r else none) else none
def elv : Nat → Nat → List AV → List (Nat × Nat)
  | _, _, [] => []
  | s, i, t :: r => (s, i) :: elv (if t.1 = 1 then s + 2 else s + 1) (i + 1) r
def asle (α : AS) (as : List Nat) (ts : List AV) : Bool := decide (as.length = ts.length) && (List.range ts.length).all (fun i => aLe (eg α (as.getD i 0)).1 (ts.getD i aNull))
/-- symbols learn what a call's end tells -/
def amt (e : AE) (t : AV) : AE := if e.1.1 = 0 ∧ t.1 = 0 then (aSh (0, max e.1.2.1 t.2.1, min e.1.2.2.1 t.2.2.1, e.1.2.2.2.1, e.1.2.2.2.2), e.2) else if t.1 = 0 ∨ t.1 = 1 then e else (t, 0, 0)
def arf : List AE → List Nat → List AV → List AE
  | env, s :: as, t :: ts => arf (match env[s]? with
    | some e => env.set s (amt e t)
    | none => env) as ts
  | env, _, _ => env
def ckc (α : AS) (mods : List (Nat × Nat)) (c : CH) : Bool := decide (c.2.1 = 2) || (oTag (eg α c.1).1.1 && ((decide (c.2.1 = 0) || decide (14 ≤ akind α c.1)) && !inM mods (akind α c.1) c.2.2.1.toNat))
def apost (as : List Nat) : AS → List (Nat × Int × Nat × Int × Int) → Option AS
  | α, [] => some α
  | α, p :: r => if wfB α && decide (p.1 < as.length) then
      (if p.2.2.1 = 0 then apost as (α.1 ++ [(aI p.2.2.2.1 p.2.2.2.2, 0, 0)], α.2.1, α.2.2.1, (as.getD p.1 0, 0, p.2.1, α.1.length) :: α.2.2.2.1, α.2.2.2.2) r
      else (if (eg α (as.getD (p.2.2.1 - 1) 0)).1.1 = 0 ∧ p.2.2.1 - 1 < as.length then apost as (α.1 ++ [(aI ((eg α (as.getD (p.2.2.1 - 1) 0)).1.2.1 + p.2.2.2.1) ((eg α (as.getD (p.2.2.1 - 1) 0)).1.2.2.1 + p.2.2.2.2), if p.2.2.2.1 = p.2.2.2.2 then adep α (as.getD (p.2.2.1 - 1) 0) p.2.2.2.1 else (0, 0))], α.2.1, α.2.2.1, (as.getD p.1 0, 0, p.2.1, α.1.length) :: α.2.2.2.1, α.2.2.2.2) r else none)) else none
def arec (α : AS) (mode : Int) (k : Nat) (as : List Nat) : Bool := match as with
  | s :: _ => if mode = 0 then oTag (eg α s).1.1 && decide (akind α s = ow k) else if mode = 1 then true else oTag (eg α s).1.1
  | [] => decide (mode = 1)
def acall (ct : List CT) (X : CT) (q : PI) (α : AS) (k : Nat → AS → Bool) : Bool :=
  (decide (np q.2.2.1.toNat ≤ α.2.2.1.length) && (decide (catL α (α.2.2.1.drop (np q.2.2.1.toNat)) ≤ 8) && (decide (catL α (α.2.2.1.take (np q.2.2.1.toNat)) ≤ mL q.2.2.1.toNat) && arec α q.2.2.2.1 q.2.2.1.toNat (α.2.2.1.take (np q.2.2.1.toNat)).reverse))) &&
  ct.any (fun C => decide (C.1 = q.2.2.1.toNat) && (match asg α (α.2.2.1.take (np q.2.2.1.toNat)).reverse (cCh C) with
    | none => false
    | some as => (asle α as (cEnv C) && ((cEnv C).tail.all (fun t => !(t.1 == 4)) && ((cMod C).all (fun m => inM (cMod X) m.1 m.2) && ((cNk C).all (fun m => (cNk X).contains m) &&
        ((if cFl X = 0 then decide (cFl C = 0) else (decide (cFl C = 1) || (decide (cCe C = 0) && (decide (cSl C = 0) && (!inM (cMod C) 26 0))))) &&
        (if cUi X = 0 then decide (cUi C = 0) else (decide (cUi C = 1) || (!inM (cMod C) 97 0 && (!inM (cMod C) 101 0 && (!(cNk C).contains 97 && !(cNk C).contains 101)))))))))) &&
      (cAlt C).all (fun alt => (match apost as (arf α.1 as alt.1, α.2.1, α.2.2.1.drop (np q.2.2.1.toNat), α.2.2.2.1.filter (ckc α (cMod C)), α.2.2.2.2.1 + cCe C, α.2.2.2.2.2 + cSl C) alt.2.2 with
        | none => false
        | some β => (as.any (fun s => dead β s)) || (match alt.2.1 with
          | [] => k q.2.1 β
          | t :: _ => (wfB β && !(t.1 == 4)) && k q.2.1 (anew β (t, 0, 0) β.2.2.1))))))
def sealOne (α : AS) (s : Nat) : AS := if (eg α s).1.1 = 4 ∧ (List.range (szK (akind α s))).all (fun j => match clk α.2.2.2.1 s 0 j with
    | some v => aLe (eg α v).1 (fty (akind α s) j)
    | none => false) = true then (α.1.set s (aRef (akind α s), 0, 0), α.2) else α
def sealAll (α : AS) : Nat → AS
  | 0 => α
  | n + 1 => sealAll (sealOne α n) n
def altRet (α : AS) (X : CT) (alt : ALT) (st : List Nat) : Bool :=
  asle α (List.range X.2.1.length) alt.1 && ((match alt.2.1, st with
    | [], [] => true
    | [t], [s] => aLe (eg α s).1 t
    | _, _ => false) && alt.2.2.all (fun p => match p with
      | (o, j, b, lo, hi) => match clk α.2.2.2.1 o 0 j with
        | some v => (eg α v).1.1 == 0 && (decide (0 ≤ j) && (decide (o < X.2.1.length) && (if b = 0 then decide (lo ≤ (eg α v).1.2.1) && decide ((eg α v).1.2.2.1 ≤ hi) else decide (b ≤ X.2.1.length) && ((decide (v + 1 = b) && (decide (lo ≤ 0) && decide (0 ≤ hi))) || (decide ((eg α v).2.1 = b) && (decide (lo ≤ (eg α v).2.2) && decide ((eg α v).2.2 ≤ hi)))))))
        | none => false))
def aretT (t : Option FieldType) (q : PI) (α : AS) : Bool :=
  match q.1 with
  | 37 => (match α.2.2.1 with
    | [] => t.isNone
    | _ => false)
  | 38 => (match α.2.2.1 with
    | [s] => (eg α s).1.1 == 0 && (match t with
      | some .int => true
      | some .boolean => decide (0 ≤ (eg α s).1.2.1) && decide ((eg α s).1.2.2.1 ≤ 1)
      | _ => false)
    | _ => false)
  | 39 => (match α.2.2.1 with
    | [s] => (eg α s).1.1 == 1 && isLong t
    | _ => false)
  | 40 => (match α.2.2.1 with
    | [s] => isRefT (eg α s).1.1 && isObj t
    | _ => false)
  | _ => false
def aret (X : CT) (q : PI) (α : AS) : Bool :=
  aretT (rt X.1) q α && (((if cFl X = 0 then decide (α.2.2.2.2.1 ≤ cCe X) && decide (α.2.2.2.2.2 ≤ cSl X) else true)) && (cAlt X).any (fun alt => altRet (sealAll α α.1.length) X alt α.2.2.1))
/-- a node: its place, its state, and the symbol that grows when it is come to again (0: none; s + 1) -/
abbrev ND : Type := Nat × AS × Nat
def mlv (α : AS) : List Nat → List (Nat × Nat) → Option (List Nat)
  | as, [] => some as
  | as, c :: r => match alk α.2.1 c.1 with
    | none => none
    | some s => if c.2 = as.length then mlv α (as ++ [s]) r else if c.2 < as.length ∧ as.getD c.2 0 = s then mlv α as r else none
def mst : List Nat → List Nat → List Nat → Option (List Nat)
  | as, [], [] => some as
  | as, c :: r, s :: st => if c = as.length then mst (as ++ [s]) r st else if c < as.length ∧ as.getD c 0 = s then mst as r st else none
  | _, _, _ => none
def ndB : List Nat → Bool
  | [] => true
  | a :: r => !(r.contains a) && ndB r
def raws : List Nat → List AE → List Nat
  | s :: as, e :: env => if e.1.1 = 4 then s :: raws as env else raws as env
  | _, _ => []
def amatch (m : Nat) (α β : AS) (self : Nat) : Bool :=
  ((wfB α && decide (m ≤ α.1.length)) && (ndB (α.2.1.map (·.1)) && ndB (β.2.1.map (·.1)))) && (match mlv α (List.range m) β.2.1 with
  | none => false
  | some as1 => (match mst as1 β.2.2.1 α.2.2.1 with
    | none => false
    | some as2 => (match asg α as2 β.2.2.2.1 with
      | none => false
      | some as => asle α as (β.1.map (·.1)) && (β.1.all (fun e => decide (e.2.1 = 0) || (decide (e.2.1 ≤ m) && (e.1.1 == 0))) && ((List.range β.1.length).all (fun i => decide ((β.1.getD i ((9, 0, 0, 0, 0), 0, 0)).2.1 = 0) || ((eg α (as.getD i 0)).2 == (β.1.getD i ((9, 0, 0, 0, 0), 0, 0)).2 || (decide (as.getD i 0 + 1 = (β.1.getD i ((9, 0, 0, 0, 0), 0, 0)).2.1) && decide ((β.1.getD i ((9, 0, 0, 0, 0), 0, 0)).2.2 = 0)))) && (ndB (raws as β.1) && (decide (α.2.2.2.2.1 ≤ β.2.2.2.2.1) && (decide (α.2.2.2.2.2 ≤ β.2.2.2.2.2) && (decide (self = 0) || ((decide (self ≤ β.1.length) && decide ((eg α (as.getD (self - 1) 0)).2.1 = self)) && (decide (0 < (eg α (as.getD (self - 1) 0)).2.2) && decide ((eg α (as.getD (self - 1) 0)).1.1 = 0)))))))))))) 
/-- from a node on: every path comes to a later node, to itself with a greater number, or to an end -/
def arun (ct : List CT) (X : CT) (nd : ND) (rest : List ND) (ms : List Nat) : Nat → Nat → AS → Bool
  | 0, _, _ => false
  | n + 1, pc, α => wfB α && (match pins X.1 pc with
    | none => false
    | some q =>
      if q.1 = 36 then acall ct X q α (fun pc' β => if ms.contains pc' then (rest.any (fun t => decide (t.1 = pc') && amatch X.2.1.length β t.2.1 0) || (decide (0 < nd.2.2) && (decide (nd.1 = pc') && amatch X.2.1.length β nd.2.1 nd.2.2))) else arun ct X nd rest ms n pc' β)
      else if 37 ≤ q.1 ∧ q.1 ≤ 40 then aret X q α
      else ast X q α (fun pc' β => if ms.contains pc' then (rest.any (fun t => decide (t.1 = pc') && amatch X.2.1.length β t.2.1 0) || (decide (0 < nd.2.2) && (decide (nd.1 = pc') && amatch X.2.1.length β nd.2.1 nd.2.2))) else arun ct X nd rest ms n pc' β))
def achk (ct : List CT) (X : CT) (ms : List Nat) (fuel : Nat) : List ND → Bool
  | [] => true
  | nd :: rest => arun ct X nd rest ms fuel nd.1 nd.2.1 && achk ct X ms fuel rest
def aent (X : CT) : AS := (X.2.1.map (fun t => (t, 0, 0)), elv 0 0 (X.2.1.take (np X.1)), [], X.2.2.1, 0, 0)
def acheck (ct : List CT) (X : CT) (fuel : Nat) (nds : List ND) : Bool := (decide (np X.1 ≤ X.2.1.length) && decide (X.1 < 203)) && achk ct X (nds.map (·.1)) fuel ((0, aent X, 0) :: nds)
