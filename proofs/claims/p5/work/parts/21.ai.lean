abbrev AV : Type := Nat × Int × Int × Nat × Nat
abbrev AE : Type := AV × Nat × Int
abbrev CH : Type := Nat × Nat × Int × Nat
/-- symbols with what is known of each; locals; stack; what fields and elements hold; cells and slots made -/
abbrev AS : Type := List AE × List (Nat × Nat) × List Nat × List CH × Nat × Nat
def aI (lo hi : Int) : AV := if lo / 16 = hi / 16 then (0, lo, hi, (lo % 16).toNat, (hi % 16).toNat) else (0, lo, hi, 0, 15)
def aAny : AV := (0, -2147483648, 2147483647, 0, 15)
def aLong : AV := (1, -9223372036854775808, 9223372036854775807, 0, 0)
def aRef (k : Nat) : AV := (2, k, 0, 0, 0)
def aOpt (k : Nat) : AV := (3, k, 0, 0, 0)
def aRaw (k : Nat) : AV := (4, k, 0, 0, 0)
def aNull : AV := (5, 0, 0, 0, 0)
def aLe (a b : AV) : Bool :=
  if a.1 = 0 then decide (b.1 = 0) && (decide (b.2.1 ≤ a.2.1) && (decide (a.2.2.1 ≤ b.2.2.1) && (decide (b.2.2.2.1 ≤ a.2.2.2.1) && decide (a.2.2.2.2 ≤ b.2.2.2.2))))
  else if a.1 = 1 then decide (b.1 = 1) && (decide (b.2.1 ≤ a.2.1) && decide (a.2.2.1 ≤ b.2.2.1))
  else if a.1 = 2 then (decide (b.1 = 2) || decide (b.1 = 3)) && decide (a.2.1 = b.2.1)
  else if a.1 = 3 then decide (b.1 = 3) && decide (a.2.1 = b.2.1)
  else if a.1 = 4 then decide (b.1 = 4) && decide (a.2.1 = b.2.1)
  else if a.1 = 5 then decide (b.1 = 5) || decide (b.1 = 3)
  else false
def szK (k : Nat) : Nat := if k < 14 then nF k else (rk k).2
def ftb0 : List AV := [aAny, aAny, aAny, aLong, aLong]
def ftb1 : List AV := [aRef 24, aI 0 24]
def ftb2 : List AV := [aRef 11, aRef 11, aAny, aAny, aAny, aAny, aLong, aLong, aLong, aI 0 1]
def ftb3 : List AV := [aAny, aRef 0, aRef 4, aRef 29, aRef 27, aRef 28, aRef 1, aI 0 1, aAny, aAny, aAny, aI 0 4, aI 0 4, aAny, aAny, aAny]
def ftb4 : List AV := [aRef 11, aRef 11, aAny, aAny, aAny, aLong]
def ftb5 : List AV := [aRef 21, aRef 22, aI 0 200, aI 0 17, aAny, aAny]
def ftb6 : List AV := [aRef 11, aI 0 1, aAny, aAny, aLong]
def ftb7 : List AV := [aRef 30, aRef 11, aI 0 8, aAny, aAny, aAny, aAny, aI 0 200, aI 0 1]
def ftb8 : List AV := [aRef 11, aLong]
def ftb9 : List AV := [aRef 11, aAny]
def ftb10 : List AV := [aRef 11, aRef 11, aAny, aAny, aAny, aI 0 1]
def ftb11 : List AV := [aRef 20, aI 0 15]
def ftb12 : List AV := [aRef 25, aRef 5, aRef 7, aRef 23, aRef 26, aI 0 1024, aI 0 1024, aOpt 5, aLong, aLong]
def ftb13a : List AV := [aLong, aRef 41, aI 0 200, aAny, aRef 44, aRef 45, aRef 46, aRef 47, aRef 48, aRef 49, aRef 50, aRef 51, aRef 52, aRef 53, aRef 54, aRef 55, aRef 56, aRef 57, aRef 58, aRef 59, aRef 60, aRef 61, aRef 62, aRef 63, aRef 64, aRef 65, aRef 66, aRef 67, aRef 68, aRef 69, aRef 70, aRef 71, aRef 72, aRef 73, aRef 74, aRef 75, aRef 76, aRef 77, aRef 78, aRef 79]
def ftb13b : List AV := [aRef 80, aRef 81, aRef 82, aRef 83, aRef 84, aRef 85, aI 0 799, aI 0 1001, aRef 88, aRef 89, aI 0 200, aRef 91, aRef 92, aI 0 260, aRef 94, aI 0 24, aRef 96, aRef 97, aI 0 200, aI 0 200, aI 0 1, aRef 101, aRef 102, aRef 103, aRef 104, aRef 105, aRef 106, aRef 107]
def ftb13 : List AV := ftb13a ++ ftb13b
def ftab (k : Nat) : List AV := ([ftb0, ftb1, ftb2, ftb3, ftb4, ftb5, ftb6, ftb7, ftb8, ftb9, ftb10, ftb11, ftb12, ftb13] : List (List AV)).getD k []
def et1 : List AV := [aI (-128) 127, aI (-128) 127, aI 0 127, aAny, aRef 2, aRef 3, aOpt 5, aRef 6, aRef 8, aRef 9, aRef 10, aAny, aAny, aAny, aAny, aAny, aAny, aAny, aLong, aAny, aAny, aI 0 255, aAny, aAny, aI 0 1, aI 0 65535, aAny, aAny, aAny, aAny, aAny, aAny, aI 0 4, aI 0 1, aLong, aLong, aI 0 3, aI 0 4, aLong, aAny, aAny, aAny, aAny, aAny]
def et2 : List AV := [aI 0 4, aAny, aAny, aLong, aI 0 128000, aAny, aLong, aI 0 4, aI 0 24, aAny, aAny, aAny, aLong, aLong, aI 0 1, aAny, aAny, aAny, aI 0 255, aI 0 200, aI 0 7, aAny, aAny, aAny, aAny, aAny, aAny, aAny, aI 0 255, aAny, aAny, aAny, aAny, aI 0 255, aAny, aAny, aAny, aI 0 1, aAny, aAny, aAny, aAny, aAny, aAny]
def ety (k : Nat) : AV := if k < 64 then et1.getD (k - 20) aAny else et2.getD (k - 64) aAny
def wrow (k : Nat) : Bool := k == 60 || k == 61 || k == 62 || k == 65 || k == 69 || k == 80 || k == 81 || k == 91 || k == 96 || k == 102 || k == 103
def fty (k j : Nat) : AV := if k < 14 then (ftab k).getD j aAny else if wrow k && (j % 16 == 0) then aI 0 15 else if (k == 92) && (j == 0) then aI 0 5 else ety k
def okA (Z : Nat → Prop) (L : List Nat) (K : Nat → Nat) (t : AV) (v : Value) : Prop :=
  (t.1 = 0 ∧ ∃ x : Int32, v = .int x ∧ t.2.1 ≤ x.toInt ∧ x.toInt ≤ t.2.2.1 ∧ (t.2.2.2.1 : Int) ≤ x.toInt % 16 ∧ x.toInt % 16 ≤ (t.2.2.2.2 : Int)) ∨
  (t.1 = 1 ∧ ∃ x : Int64, v = .long x ∧ t.2.1 ≤ x.toInt ∧ x.toInt ≤ t.2.2.1) ∨
  (t.1 = 2 ∧ ∃ b, v = .ref b ∧ Z b ∧ K b = t.2.1.toNat) ∨
  (t.1 = 3 ∧ (v = .null ∨ ∃ b, v = .ref b ∧ Z b ∧ K b = t.2.1.toNat)) ∨
  (t.1 = 4 ∧ ∃ b, v = .ref b ∧ b ∈ L ∧ ¬ Z b ∧ K b = t.2.1.toNat) ∨
  (t.1 = 5 ∧ v = .null)
def Typed (Z : Nat → Prop) (σ : ps) : Prop := ∀ a, Z a → a ∈ sL σ ∧ ∀ j, j < szK (sK σ a) → okA Z (sL σ) (sK σ) (fty (sK σ a) j) (sV σ a j)
def chOK (ρ : Nat → Value) (σ : ps) (c : CH) : Prop := (c.2.1 = 2 ∧ ∃ x y : Int32, ρ c.1 = .int x ∧ y.toInt = c.2.2.1 ∧ ρ c.2.2.2 = .int (y * x)) ∨ ∃ a, ρ c.1 = .ref a ∧ ((c.2.1 = 0 ∧ sV σ a c.2.2.1.toNat = ρ c.2.2.2) ∨ (c.2.1 = 1 ∧ ∃ x : Int32, ρ c.2.2.1.toNat = .int x ∧ sV σ a x.toNatClampNeg = ρ c.2.2.2))
def depOK (ρ : Nat → Value) (i : Nat) (e : AE) : Prop := e.2.1 = 0 ∨ ∃ x y : Int32, ρ i = .int x ∧ ρ (e.2.1 - 1) = .int y ∧ x.toInt = y.toInt + e.2.2
def G (Z : Nat → Prop) (ρ : Nat → Value) (α : AS) (lv : LV) (st : List Value) (σ : ps) : Prop :=
  (∀ (i : Nat) (e : AE), α.1[i]? = some e → okA Z (sL σ) (sK σ) e.1 (ρ i) ∧ depOK ρ i e) ∧
  lv = α.2.1.map (fun q => (q.1, ρ q.2)) ∧ st = α.2.2.1.map ρ ∧ (∀ c ∈ α.2.2.2.1, chOK ρ σ c) ∧
  (∀ (i j : Nat) (e e' : AE), α.1[i]? = some e → α.1[j]? = some e' → e.1.1 = 4 → e'.1.1 = 4 → ρ i = ρ j → i = j) ∧ Typed Z σ ∧ ∀ a ∈ sL σ, a < σ.1
def wfB (α : AS) : Bool := α.2.1.all (fun q => decide (q.2 < α.1.length)) && (α.2.2.1.all (fun s => decide (s < α.1.length)) && (α.2.2.2.1.all (fun c => decide (c.1 < α.1.length) && (decide (c.2.2.2 < α.1.length) && (decide (¬ c.2.1 = 1) || decide (c.2.2.1.toNat < α.1.length)))) && α.1.all (fun e => decide (e.2.1 ≤ α.1.length))))
def eg (α : AS) (i : Nat) : AE := α.1.getD i ((9, 0, 0, 0, 0), 0, 0)
def alk : List (Nat × Nat) → Nat → Option Nat
  | [], _ => none
  | (j, v) :: r, i => if j = i then some v else alk r i
def clk : List CH → Nat → Nat → Int → Option Nat
  | [], _, _, _ => none
  | c :: r, o, t, x => if c.1 = o ∧ c.2.1 = t ∧ c.2.2.1 = x then some c.2.2.2 else clk r o t x
def inR (x : Int) : Bool := decide (-2147483648 ≤ x) && decide (x ≤ 2147483647)
/-- a new symbol on the stack -/
def anew (α : AS) (e : AE) (st : List Nat) : AS := (α.1 ++ [e], α.2.1, α.1.length :: st, α.2.2.2)
def asst (α : AS) (st : List Nat) : AS := (α.1, α.2.1, st, α.2.2.2)
def aslv (α : AS) (lv : List (Nat × Nat)) (st : List Nat) : AS := (α.1, lv, st, α.2.2.2)
def asch (α : AS) (ch : List CH) (st : List Nat) : AS := (α.1, α.2.1, st, ch, α.2.2.2.2)
def ast1 (α : AS) (i s : Nat) : List (Nat × Nat) := (i, s) :: α.2.1.filter (fun q => !(q.1 == i) && !(q.1 + 1 == i && ((eg α q.2).1.1 == 1)))
def ast2 (α : AS) (i s : Nat) : List (Nat × Nat) := (i, s) :: α.2.1.filter (fun q => !(q.1 == i) && (!(q.1 == i + 1) && !(q.1 + 1 == i && ((eg α q.2).1.1 == 1))))
def isRefT (t : Nat) : Bool := t == 2 || (t == 3 || (t == 4 || t == 5))
/-- value known and its root -/
def adep (α : AS) (i : Nat) (c : Int) : Nat × Int := if (eg α i).2.1 = 0 then (i + 1, c) else ((eg α i).2.1, (eg α i).2.2 + c)
def aCst (a : AV) : Bool := decide (a.2.1 = a.2.2.1)
/-- sum of residues -/
def aSum (a b : AV) : AV := if a.2.2.2.2 + b.2.2.2.2 ≤ 15 then (0, a.2.1 + b.2.1, a.2.2.1 + b.2.2.1, a.2.2.2.1 + b.2.2.2.1, a.2.2.2.2 + b.2.2.2.2) else aI (a.2.1 + b.2.1) (a.2.2.1 + b.2.2.1)
def aop (α : AS) (o : Int) (x y : Nat) : AE :=
  if o = 0 then (if inR ((eg α x).1.2.1 + (eg α y).1.2.1) && inR ((eg α x).1.2.2.1 + (eg α y).1.2.2.1) then (aSum (eg α x).1 (eg α y).1, if aCst (eg α y).1 then adep α x (eg α y).1.2.1 else if aCst (eg α x).1 then adep α y (eg α x).1.2.1 else (0, 0)) else (aAny, 0, 0))
  else if o = 1 then (if inR ((eg α x).1.2.1 - (eg α y).1.2.2.1) && inR ((eg α x).1.2.2.1 - (eg α y).1.2.1) then (aI ((eg α x).1.2.1 - (eg α y).1.2.2.1) ((eg α x).1.2.2.1 - (eg α y).1.2.1), if aCst (eg α y).1 then adep α x (-(eg α y).1.2.1) else (0, 0)) else (aAny, 0, 0))
  else if o = 2 then
    (if aCst (eg α x).1 && (decide (0 ≤ (eg α x).1.2.1) && (inR ((eg α x).1.2.1 * (eg α y).1.2.1) && inR ((eg α x).1.2.1 * (eg α y).1.2.2.1))) then (if (eg α x).1.2.1 % 16 = 0 then (0, (eg α x).1.2.1 * (eg α y).1.2.1, (eg α x).1.2.1 * (eg α y).1.2.2.1, 0, 0) else aI ((eg α x).1.2.1 * (eg α y).1.2.1) ((eg α x).1.2.1 * (eg α y).1.2.2.1), 0, 0)
    else if aCst (eg α y).1 && (decide (0 ≤ (eg α y).1.2.1) && (inR ((eg α y).1.2.1 * (eg α x).1.2.1) && inR ((eg α y).1.2.1 * (eg α x).1.2.2.1))) then (if (eg α y).1.2.1 % 16 = 0 then (0, (eg α y).1.2.1 * (eg α x).1.2.1, (eg α y).1.2.1 * (eg α x).1.2.2.1, 0, 0) else aI ((eg α y).1.2.1 * (eg α x).1.2.1) ((eg α y).1.2.1 * (eg α x).1.2.2.1), 0, 0)
    else (aAny, 0, 0))
  else if o = 3 then (if decide (0 ≤ (eg α x).1.2.1) && aCst (eg α y).1 then (aI ((eg α x).1.2.1 / (eg α y).1.2.1) ((eg α x).1.2.2.1 / (eg α y).1.2.1), 0, 0) else (aI (min (eg α x).1.2.1 0) (max (eg α x).1.2.2.1 0), 0, 0))
  else if o = 4 then (if decide (0 ≤ (eg α x).1.2.1) then (aI 0 (min (eg α x).1.2.2.1 ((eg α y).1.2.2.1 - 1)), 0, 0) else (aI (1 - (eg α y).1.2.2.1) ((eg α y).1.2.2.1 - 1), 0, 0))
  else if o = 5 then (if 0 ≤ (eg α y).1.2.1 then (aI 0 (eg α y).1.2.2.1, 0, 0) else if 0 ≤ (eg α x).1.2.1 then (aI 0 (eg α x).1.2.2.1, 0, 0) else (aAny, 0, 0))
  else if o = 6 then (if aCst (eg α x).1 && decide ((eg α x).1.2.1 = 0) then ((eg α y).1, 0, 0) else (aAny, 0, 0))
  else if o = 8 then (if aCst (eg α x).1 && decide ((eg α x).1.2.1 = 0) then (aI 0 0, 0, 0) else (aAny, 0, 0))
  else if o = 9 then (if 0 ≤ (eg α x).1.2.1 then (aI 0 (eg α x).1.2.2.1, 0, 0) else (aAny, 0, 0))
  else (aAny, 0, 0)
/-- a symbol's interval made smaller, and its root's -/
def aSh (t : AV) : AV := (0, t.2.1, t.2.2.1, max t.2.2.2.1 (aI t.2.1 t.2.2.1).2.2.2.1, min t.2.2.2.2 (aI t.2.1 t.2.2.1).2.2.2.2)
def rs0 (env : List AE) (i : Nat) (lo hi : Int) : List AE := match env[i]? with
  | some e => env.set i (aSh (0, max e.1.2.1 lo, min e.1.2.2.1 hi, e.1.2.2.2.1, e.1.2.2.2.2), e.2)
  | none => env
def rst (α : AS) (i : Nat) (lo hi : Int) : AS := if (eg α i).2.1 = 0 then (rs0 α.1 i lo hi, α.2) else (rs0 (rs0 α.1 i lo hi) ((eg α i).2.1 - 1) (lo - (eg α i).2.2) (hi - (eg α i).2.2), α.2)
def dead (α : AS) (i : Nat) : Bool := decide ((eg α i).1.1 = 0) && (decide ((eg α i).1.2.2.1 < (eg α i).1.2.1) || (decide (0 < (eg α i).2.1) && (decide ((eg α ((eg α i).2.1 - 1)).1.1 = 0) && decide ((eg α ((eg α i).2.1 - 1)).1.2.2.1 < (eg α ((eg α i).2.1 - 1)).1.2.1))))
/-- x c y holds -/
def aref (α : AS) (c : Int) (x y : Nat) : AS :=
  if c = 0 then rst (rst α x (eg α y).1.2.1 (eg α y).1.2.2.1) y (eg α x).1.2.1 (eg α x).1.2.2.1
  else if c = 1 then (if aCst (eg α y).1 then rst α x (if (eg α x).1.2.1 = (eg α y).1.2.1 then (eg α x).1.2.1 + 1 else (eg α x).1.2.1) (if (eg α x).1.2.2.1 = (eg α y).1.2.1 then (eg α x).1.2.2.1 - 1 else (eg α x).1.2.2.1)
    else if aCst (eg α x).1 then rst α y (if (eg α y).1.2.1 = (eg α x).1.2.1 then (eg α y).1.2.1 + 1 else (eg α y).1.2.1) (if (eg α y).1.2.2.1 = (eg α x).1.2.1 then (eg α y).1.2.2.1 - 1 else (eg α y).1.2.2.1) else α)
  else if c = 2 then rst (rst α x (-2147483648) ((eg α y).1.2.2.1 - 1)) y ((eg α x).1.2.1 + 1) 2147483647
  else if c = 3 then rst (rst α x (eg α y).1.2.1 2147483647) y (-2147483648) (eg α x).1.2.2.1
  else if c = 4 then rst (rst α x ((eg α y).1.2.1 + 1) 2147483647) y (-2147483648) ((eg α x).1.2.2.1 - 1)
  else rst (rst α x (-2147483648) (eg α y).1.2.2.1) y (eg α x).1.2.1 2147483647
def cneg (c : Int) : Int := if c = 0 then 1 else if c = 1 then 0 else if c = 2 then 3 else if c = 3 then 2 else if c = 4 then 5 else 4
def abr (α : AS) (c : Int) (x y : Nat) (st : List Nat) (tgt nx : Nat) (k : Nat → AS → Bool) : Bool :=
  (dead (aref α c x y) x || (dead (aref α c x y) y || k tgt (asst (aref α c x y) st))) && (dead (aref α (cneg c) x y) x || (dead (aref α (cneg c) x y) y || k nx (asst (aref α (cneg c) x y) st)))
