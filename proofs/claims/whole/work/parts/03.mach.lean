/-! THE SMALL MACHINE: numbers are Int (they wrap only where the JVM's row reads them), a cell is (kind, length, places), a reference is the number of its cell; -1 is null, -2 and below are the few things that stand outside. -/
abbrev AV : Type := Nat × Int
abbrev Hp : Type := Nat × Nat × (Nat → Nat) × (Nat → Nat) × (Nat → Nat → Int)
abbrev ME : Type := Nat × Nat × Nat × Int × Int × List (Int × Int)
def mN (h : Hp) : Nat := h.1
def mS (h : Hp) : Nat := h.2.1
def mK (h : Hp) (a : Nat) : Nat := h.2.2.1 a
def mL (h : Hp) (a : Nat) : Nat := h.2.2.2.1 a
def mC (h : Hp) (a k : Nat) : Int := h.2.2.2.2 a k
def mPut (h : Hp) (a k : Nat) (x : Int) : Hp := (h.1, h.2.1, h.2.2.1, h.2.2.2.1, fun b j => if b = a ∧ j = k then x else h.2.2.2.2 b j)
def mNew (h : Hp) (kd ln : Nat) (v : Nat → Int) : Hp := (h.1 + 1, h.2.1 + ln, fun b => if b = h.1 then kd else h.2.2.1 b, fun b => if b = h.1 then ln else h.2.2.2.1 b, fun b j => if b = h.1 then v j else h.2.2.2.2 b j)
abbrev inR (x : Int) : Prop := -2147483648 ≤ x ∧ x < 2147483648
abbrev inR64 (x : Int) : Prop := -9223372036854775808 ≤ x ∧ x < 9223372036854775808
def mBit (o : Nat) (x y : Int) : Int :=
  if o = 5 then (Int32.ofInt x &&& Int32.ofInt y).toInt
  else if o = 6 then (Int32.ofInt x ||| Int32.ofInt y).toInt
  else if o = 7 then (Int32.ofInt x ^^^ Int32.ofInt y).toInt
  else if o = 8 then (Int32.ofInt x <<< (Int32.ofInt y &&& 31)).toInt
  else if o = 9 then (Int32.ofInt x >>> (Int32.ofInt y &&& 31)).toInt
  else ((Int32.ofInt x).toUInt32 >>> ((Int32.ofInt y).toUInt32 &&& 31)).toInt32.toInt
def mBin (o : Nat) (x y : Int) : Option Int :=
  if o = 0 then some (x + y) else if o = 1 then some (x - y) else if o = 2 then some (x * y)
  else if o = 3 then (if (inR x ∧ inR y) ∧ y ≠ 0 then some ((Int32.ofInt x / Int32.ofInt y).toInt) else none)
  else if o = 4 then (if (inR x ∧ inR y) ∧ y ≠ 0 then some ((Int32.ofInt x - Int32.ofInt x / Int32.ofInt y * Int32.ofInt y).toInt) else none)
  else some (mBit o x y)
def mCmp0 (o : Nat) (x y : Int) : Bool :=
  if o = 0 then decide (x = y) else if o = 1 then !decide (x = y) else if o = 2 then decide (x < y) else if o = 3 then !decide (x < y)
  else if o = 4 then decide (y < x) else !decide (y < x)
/-- the number that the machine holds for x -/
def wI (x : Int) : Int := (Int32.ofInt x).toInt
def mCmp (o : Nat) (x y : Int) : Bool := mCmp0 o (wI x) (wI y)
/-- a comparison's code -/
abbrev mCan (o : Nat) (_x _y : Int) : Prop := o < 6
def mCat (v : AV) : Nat := if v.1 = 2 then 2 else 1
def mSet (lv : List AV) (i : Nat) (v : AV) : Option (List AV) :=
  if i < lv.length ∧ (i = 0 ∨ (lv.getD (i - 1) (9, 0)).1 ≠ 2) then
    (if v.1 = 2 then (if i + 1 < lv.length then some ((lv.set i v).set (i + 1) (9, 0)) else none) else some (lv.set i v))
  else none
/-- field kinds: 0 int, 1 reference, 3 boolean -/
def mFt (c : Nat) : List Nat := match c with
  | 0 => [0, 1, 0]
  | 1 => [0, 0, 1, 1, 1, 1]
  | 2 => [1, 1, 1, 0, 0]
  | 3 => [0, 0, 1, 1, 1, 1]
  | 4 => [0, 0, 1, 1, 1, 1]
  | 5 => [0, 0, 1, 1, 1, 1]
  | 6 => [1, 0, 0, 0, 0, 3]
  | 7 => [0, 0, 1, 1, 1, 1]
  | 8 => [0, 1, 1, 0, 0]
  | 9 => [0, 0, 1, 1, 1, 1]
  | 10 => [0, 0, 1, 1, 1, 1]
  | 11 => [1, 1, 1, 1, 1, 1, 1, 1, 1, 1, 1, 1, 0, 0, 0, 0, 0]
  | 12 => [0, 1, 1, 1, 3, 0, 0, 0, 3, 0, 1, 1, 1, 1, 1, 0, 1, 1, 0, 1, 0, 0, 0, 0]
  | _ => []
def mTag (t : Nat) : Nat := if t = 1 then 1 else 0
/-- whether an object of class c may stand where class b is asked -/
def mIsa (c b : Nat) : Bool := c == b || (b == 1 && (c == 3 || c == 4 || c == 5 || c == 7 || c == 9 || c == 10)) || (b == 5 && c == 4) || (b == 9 && c == 7) || (b == 3 && c == 10)
/-- an own cell's number out of a reference -/
def mAd (h : Hp) (x : Int) : Option Nat := if 0 ≤ x ∧ x.toNat < mN h then some x.toNat else none
/-- default places of a new object: 0, or null -/
def mDef (c : Nat) (k : Nat) : Int := if (mFt c).getD k 0 = 1 then -1 else 0
/-- one instruction that is no call and no return; sc: the law's script -/
def mStep (sc : Option (Nat × (Nat → Int))) (op : Nat) (a b : Int) (l : List (Int × Int)) (nx : Nat) (lv st : List AV) (h : Hp) : Option (Nat × List AV × List AV × Hp) :=
  match op with
  | 0 => some (nx, lv, (0, a) :: st, h)
  | 1 => match lv[b.toNat]? with
    | some v => if v.1 = a.toNat then some (nx, lv, v :: st, h) else none
    | none => none
  | 2 => match st with
    | v :: r => if v.1 = a.toNat then (match mSet lv b.toNat v with | some lv' => some (nx, lv', r, h) | none => none) else none
    | _ => none
  | 3 => match lv[a.toNat]? with
    | some (0, x) => match mSet lv a.toNat (0, x + b) with | some lv' => some (nx, lv', st, h) | none => none
    | _ => none
  | 4 => match st with
    | (0, y) :: (0, x) :: r => match mBin a.toNat x y with | some z => some (nx, lv, (0, z) :: r, h) | none => none
    | _ => none
  | 5 => match st with
    | (0, x) :: r => some (nx, lv, (0, -x) :: r, h)
    | _ => none
  | 6 => match st with
    | (0, x) :: r => if mCan b.toNat x 0 then some (if mCmp b.toNat x 0 then a.toNat else nx, lv, r, h) else none
    | _ => none
  | 7 => match st with
    | (0, y) :: (0, x) :: r => if mCan b.toNat x y then some (if mCmp b.toNat x y then a.toNat else nx, lv, r, h) else none
    | _ => none
  | 8 => match st with
    | (1, x) :: r => some (if (decide (x = -1)) == decide (b = 0) then a.toNat else nx, lv, r, h)
    | _ => none
  | 9 => match st with
    | (1, y) :: (1, x) :: r => if (x = -2 ∨ x = -1 ∨ 0 ≤ x) ∧ (y = -2 ∨ y = -1 ∨ 0 ≤ y) then some (if (decide (x = y)) == decide (b = 0) then a.toNat else nx, lv, r, h) else none
    | _ => none
  | 10 => some (a.toNat, lv, st, h)
  | 11 => match st with
    | v :: r => if v.1 < 2 then some (nx, lv, v :: v :: r, h) else none
    | _ => none
  | 12 => match st with
    | v :: r => if v.1 < 2 then some (nx, lv, r, h) else none
    | _ => none
  | 13 => match st with
    | v :: w :: r => if v.1 < 2 ∧ w.1 < 2 then some (nx, lv, v :: w :: v :: r, h) else none
    | _ => none
  | 14 => match st with
    | v :: w :: r => if v.1 < 2 ∧ w.1 < 2 then some (nx, lv, v :: w :: v :: w :: r, h) else none
    | _ => none
  | 15 => some (nx, lv, (1, -1) :: st, h)
  | 16 => match st with
    | (1, x) :: r => match mAd h x with
      | some q => if mK h q < 13 ∧ mIsa (mK h q) b.toNat ∧ a.toNat < (mFt (mK h q)).length then some (nx, lv, (mTag ((mFt (mK h q)).getD a.toNat 0), mC h q a.toNat) :: r, h) else none
      | none => none
    | _ => none
  | 17 => match st with
    | v :: (1, x) :: r => match mAd h x with
      | some q => if mK h q < 13 ∧ mIsa (mK h q) b.toNat ∧ a.toNat < (mFt (mK h q)).length ∧ v.1 = mTag ((mFt (mK h q)).getD a.toNat 0) ∧ ((mFt (mK h q)).getD a.toNat 0 = 3 → v.2 = 0 ∨ v.2 = 1) then some (nx, lv, r, mPut h q a.toNat v.2) else none
      | none => none
    | _ => none
  | 18 => match st with
    | (0, i) :: (1, x) :: r =>
      if x = -5 then (match sc with
        | some (L, xs) => if 0 ≤ i ∧ i.toNat < L ∧ i < 2147483648 then some (nx, lv, (0, xs i.toNat) :: r, h) else none
        | none => none)
      else match mAd h x with
      | some q => if mK h q = 20 ∧ 0 ≤ i ∧ i.toNat < mL h q ∧ i < 2147483648 then some (nx, lv, (0, mC h q i.toNat) :: r, h) else none
      | none => none
    | _ => none
  | 19 => match st with
    | (0, v) :: (0, i) :: (1, x) :: r => match mAd h x with
      | some q => if mK h q = 20 ∧ 0 ≤ i ∧ i.toNat < mL h q ∧ i < 2147483648 then some (nx, lv, r, mPut h q i.toNat v) else none
      | none => none
    | _ => none
  | 20 => match st with
    | (0, i) :: (1, x) :: r => match mAd h x with
      | some q => if mK h q = 21 ∧ 0 ≤ i ∧ i.toNat < mL h q ∧ i < 2147483648 then some (nx, lv, (0, mC h q i.toNat) :: r, h) else none
      | none => none
    | _ => none
  | 21 => match st with
    | (0, v) :: (0, i) :: (1, x) :: r => match mAd h x with
      | some q => if mK h q = 21 ∧ 0 ≤ i ∧ i.toNat < mL h q ∧ i < 2147483648 ∧ (v = 0 ∨ v = 1) then some (nx, lv, r, mPut h q i.toNat v) else none
      | none => none
    | _ => none
  | 22 => match st with
    | (0, i) :: (1, x) :: r => match mAd h x with
      | some q => if mK h q = 22 ∧ 0 ≤ i ∧ i.toNat < mL h q ∧ i < 2147483648 then some (nx, lv, (1, mC h q i.toNat) :: r, h) else none
      | none => none
    | _ => none
  | 23 => match st with
    | (1, v) :: (0, i) :: (1, x) :: r => match mAd h x with
      | some q => if mK h q = 22 ∧ 0 ≤ i ∧ i.toNat < mL h q ∧ i < 2147483648 ∧ (v = -1 ∨ (0 ≤ v ∧ v.toNat < mN h ∧ mK h v.toNat < 13 ∧ mIsa (mK h v.toNat) 1)) then some (nx, lv, r, mPut h q i.toNat v) else none
      | none => none
    | _ => none
  | 24 => match st with
    | (1, x) :: r =>
      if x = -5 then (match sc with
        | some (L, _) => some (nx, lv, (0, (L : Int)) :: r, h)
        | none => none)
      else if x = -2 then some (nx, lv, (0, 0) :: r, h)
      else match mAd h x with
      | some q => if 20 ≤ mK h q ∧ mK h q < 23 then some (nx, lv, (0, (mL h q : Int)) :: r, h) else none
      | none => none
    | _ => none
  | 25 => if a.toNat < 13 then some (nx, lv, (1, (mN h : Int)) :: st, mNew h a.toNat (mFt a.toNat).length (mDef a.toNat)) else none
  | 26 => match st with
    | (0, n) :: r => if 0 ≤ n ∧ n < 100000 ∧ (a = 20 ∨ a = 21) then some (nx, lv, (1, (mN h : Int)) :: r, mNew h a.toNat n.toNat (fun _ => 0)) else none
    | _ => none
  | 27 => match st with
    | (0, n) :: r => if 0 ≤ n ∧ n < 100000 then some (nx, lv, (1, (mN h : Int)) :: r, mNew h 22 n.toNat (fun _ => -1)) else none
    | _ => none
  | 28 => match st with
    | (0, x) :: r => if inR x then some (nx, lv, (2, x) :: r, h) else none
    | _ => none
  | 29 => match st with
    | (2, y) :: (2, x) :: r => some (nx, lv, (2, x + y) :: r, h)
    | _ => none
  | 30 => match st with
    | (2, x) :: r => some (nx, lv, (2, -x) :: r, h)
    | _ => none
  | 31 => match st with
    | (2, y) :: (2, x) :: r => if (inR64 x ∧ inR64 y) ∧ y ≠ 0 then some (nx, lv, (2, (Int64.ofInt x / Int64.ofInt y).toInt) :: r, h) else none
    | _ => none
  | 32 => match st with
    | (2, y) :: (2, x) :: r => if (inR64 x ∧ inR64 y) ∧ y ≠ 0 then some (nx, lv, (2, (Int64.ofInt x - Int64.ofInt x / Int64.ofInt y * Int64.ofInt y).toInt) :: r, h) else none
    | _ => none
  | 33 => match st with
    | (2, y) :: (2, x) :: r => if inR64 x ∧ inR64 y then some (nx, lv, (0, if y < x then 1 else if x = y then 0 else -1) :: r, h) else if x = y then some (nx, lv, (0, 0) :: r, h) else none
    | _ => none
  | 34 => some (nx, lv, (2, a) :: st, h)
  | 35 => some (nx, lv, (1, -10 - a) :: st, h)
  | 36 => some (nx, lv, (1, -2) :: st, h)
  | 37 => match st with
    | (1, x) :: r => match mAd h x with
      | some q => if mK h q < 13 ∧ mIsa (mK h q) a.toNat then some (nx, lv, (1, x) :: r, h) else none
      | none => none
    | _ => none
  | 40 => match st with
    | (0, x) :: r => if inR x then some (((l.lookup x).getD a).toNat, lv, r, h) else none
    | _ => none
  | _ => none
/-- a call's locals: a long takes two places; then nothing, up to n -/
def mArgs : List AV → List AV
  | [] => []
  | v :: vs => if v.1 = 2 then v :: (9, 0) :: mArgs vs else v :: mArgs vs
def mEnt (n : Nat) (as : List AV) : List AV := mArgs as ++ List.replicate (n - (mArgs as).length) (9, 0)
def mCats (st : List AV) : Nat := (st.map mCat).sum
/-- what the JDK's String answers of the claim's constants: length, charAt; Math's abs, max, min -/
def mPrim (txt : Nat → List Nat) (id : Nat) (as : List AV) : Option AV :=
  match id, as with
  | 0, [(1, x)] => if x ≤ -10 ∧ -20 < x then some (0, ((txt (-10 - x).toNat).length : Int)) else none
  | 1, [(1, x), (0, i)] => if x ≤ -10 ∧ -20 < x ∧ 0 ≤ i ∧ i.toNat < (txt (-10 - x).toNat).length then some (0, (((txt (-10 - x).toNat).getD i.toNat 0 : Nat) : Int)) else none
  | 2, [(0, x)] => if inR x ∧ x ≠ -2147483648 then some (0, if x < 0 then -x else x) else none
  | 3, [(0, x), (0, y)] => if inR x ∧ inR y then some (0, if x < y then y else x) else none
  | 4, [(0, x), (0, y)] => if inR x ∧ inR y then some (0, if x < y then x else y) else none
  | _, _ => none
/-- what is known of a method: table, places, arguments, whether it answers a boolean -/
abbrev MT : Type := Nat → List ME × Nat × Nat × Nat
def mAt (t : List ME) (pc : Nat) : Option (Nat × Nat × Int × Int × List (Int × Int)) := t.lookup pc
/-- a return: what is answered -/
def mRet (op rk : Nat) (st : List AV) : Option (Option AV) := match op with
  | 60 => match st with
    | [(0, x)] => if rk = 3 → x = 0 ∨ x = 1 then some (some (0, x)) else none
    | _ => none
  | 61 => match st with
    | [(1, x)] => some (some (1, x))
    | _ => none
  | 62 => match st with
    | [(2, x)] => some (some (2, x))
    | _ => none
  | 63 => match st with
    | [] => some none
    | _ => none
  | _ => none
/-- a call: the method, and how many of the stack it takes -/
def mTgt (mt : MT) (vt : Nat → List (Nat × Nat)) (op a b : Nat) (st : List AV) (h : Hp) : Option (Nat × Nat) := match op with
  | 50 => if (mt a).2.2.1 ≤ st.length ∧ mCats (st.drop (mt a).2.2.1) ≤ 8 ∧ (mArgs (st.take (mt a).2.2.1).reverse).length ≤ (mt a).2.1 then some (a, (mt a).2.2.1) else none
  | 51 => match st[b]? with
    | some (1, x) => match mAd h x with
      | some q => match (vt a).lookup (mK h q) with
        | some y => if (mt y).2.2.1 = b + 1 ∧ mCats (st.drop (b + 1)) ≤ 8 ∧ (mArgs (st.take (b + 1)).reverse).length ≤ (mt y).2.1 then some (y, b + 1) else none
        | none => none
      | none => none
    | _ => none
  | _ => none
/-- Object's constructor, and the texts' methods: the stack behind them -/
def mPri (txt : Nat → List Nat) (op a b : Nat) (st : List AV) (h : Hp) : Option (List AV) := match op with
  | 52 => if b ≤ st.length ∧ mCats (st.drop b) ≤ 8 then (match mPrim txt a (st.take b).reverse with
    | some v => some (v :: st.drop b)
    | none => none) else none
  | 53 => match st with
    | (1, x) :: r => match mAd h x with
      | some _ => if mCats r ≤ 8 then some r else none
      | none => none
    | _ => none
  | _ => none
abbrev MR : Type := Nat → Option (Nat × (Nat → Int)) → List ME → Nat → Nat → List AV → List AV → Hp → Option (Option AV × Hp)
def mBody (mt : MT) (vt : Nat → List (Nat × Nat)) (txt : Nat → List Nat) (rec : MR) : MR := fun d sc tb rk pc lv st h =>
  match mAt tb pc with
  | none => none
  | some (nx, op, a, b, l) =>
    if op < 50 then
      (match mStep sc op a b l nx lv st h with
      | some (pc', lv', st', h') => rec d sc tb rk pc' lv' st' h'
      | none => none)
    else match mRet op rk st with
    | some r => some (r, h)
    | none => match d with
      | 0 => none
      | d + 1 => match mTgt mt vt op a.toNat b.toNat st h with
        | some (y, n) => match rec d none (mt y).1 (mt y).2.2.2 0 (mEnt (mt y).2.1 (st.take n).reverse) [] h with
          | some (r, h') => rec (d + 1) sc tb rk nx lv (r.toList ++ st.drop n) h'
          | none => none
        | none => match mPri txt op a.toNat b.toNat st h with
          | some st' => rec (d + 1) sc tb rk nx lv st' h
          | none => none
def mRun (mt : MT) (vt : Nat → List (Nat × Nat)) (txt : Nat → List Nat) : Nat → MR
  | 0 => fun _ _ _ _ _ _ _ _ => none
  | f + 1 => mBody mt vt txt (mRun mt vt txt f)
