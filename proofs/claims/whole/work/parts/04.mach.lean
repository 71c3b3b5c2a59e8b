/-! THE SMALL MACHINE: the program's bytecode over a flat memory of whole numbers (cell, place), by what must hold ahead of an instruction so that what follows holds. -/
abbrev mV : Type := Int ⊕ (Int ⊕ Nat)
def vi (z : Int) : mV := .inl z
def vl (z : Int) : mV := .inr (.inl z)
def vr (k : Nat) : mV := .inr (.inr k)
abbrev mM : Type := Nat → Int → Int
abbrev mL : Type := Nat → Option mV
abbrev mK : Type := Nat → mL → List mV → mM → Prop
abbrev mQ : Type := Option mV → mM → Prop
abbrev mC : Type := Nat → List mV → mM → mQ → Prop
def w32 (z : Int) : Int := Int.bmod z 4294967296
def w64 (z : Int) : Int := Int.bmod z 18446744073709551616
def iAnd (x y : Int) : Int := (Int32.ofInt x &&& Int32.ofInt y).toInt
def iOr (x y : Int) : Int := (Int32.ofInt x ||| Int32.ofInt y).toInt
def iXor (x y : Int) : Int := (Int32.ofInt x ^^^ Int32.ofInt y).toInt
def iShl (x y : Int) : Int := (Int32.ofInt x <<< (Int32.ofInt y &&& 31)).toInt
def iShr (x y : Int) : Int := (Int32.ofInt x >>> (Int32.ofInt y &&& 31)).toInt
def iUsh (x y : Int) : Int := (((Int32.ofInt x).toUInt32 >>> ((Int32.ofInt y).toUInt32 &&& Int32.toUInt32 31)).toInt32).toInt
def lAnd (x y : Int) : Int := (Int64.ofInt x &&& Int64.ofInt y).toInt
def lOr (x y : Int) : Int := (Int64.ofInt x ||| Int64.ofInt y).toInt
def lXor (x y : Int) : Int := (Int64.ofInt x ^^^ Int64.ofInt y).toInt
def lShl (x y : Int) : Int := (Int64.ofInt x <<< ((Int32.ofInt y).toInt64 &&& 63)).toInt
def lShr (x y : Int) : Int := (Int64.ofInt x >>> ((Int32.ofInt y).toInt64 &&& 63)).toInt
def i2b (x : Int) : Int := (Int8.ofInt x).toInt
def i2c (x : Int) : Int := x % 65536
def lCmp (x y : Int) : Int := if x < y then -1 else if x = y then 0 else 1
def upC (M : mM) (k : Nat) (f : Int → Int) : mM := fun j => if j = k then f else M j
def mU (f : Int → Int) (i v : Int) : Int → Int := fun j => if j = i then v else f j
def mCpy (f g : Int → Int) (sp dp n : Int) : Int → Int := fun j => if dp ≤ j ∧ j < dp + n then f (sp + (j - dp)) else g j
def xlong : Option mV → Bool
  | some (.inr (.inl _)) => true
  | _ => false
def s1 (lv : mL) (i : Nat) (v : mV) : mL := fun k => if k = i then some v else if k + 1 = i ∧ xlong (lv k) = true then none else lv k
def s2 (lv : mL) (i : Nat) (v : mV) : mL := fun k => if k = i then some v else if k = i + 1 then none else if k + 1 = i ∧ xlong (lv k) = true then none else lv k
def mcw : mV → Nat
  | .inr (.inl _) => 2
  | _ => 1
def mcat : List mV → Nat
  | [] => 0
  | v :: r => mcw v + mcat r
def mEn : Nat → List mV → mL
  | _, [] => fun _ => none
  | i, v :: r => fun k => if k = i then some v else mEn (i + mcw v) r k
-- forms that wait for a number to be known
def mtg : mV → Nat
  | .inl _ => 0
  | .inr (.inl _) => 1
  | .inr (.inr _) => 2
def xLoad (t : Nat) (o : Option mV) (K : mK) (pc : Nat) (lv : mL) (st : List mV) (M : mM) : Prop := match o with
  | some v => mtg v = t ∧ K pc lv (v :: st) M
  | none => False
def xInc (o : Option mV) (K : mK) (pc : Nat) (lv : mL) (i : Nat) (n : Int) (st : List mV) (M : mM) : Prop := match o with
  | some (.inl x) => K pc (s1 lv i (vi (w32 (x + n)))) st M
  | _ => False
def xBr (c : Prop) [Decidable c] (K : mK) (t f : Nat) (lv : mL) (st : List mV) (M : mM) : Prop := if c then K t lv st M else K f lv st M
def xNz (y : Int) (K : mK) (pc : Nat) (lv : mL) (v : mV) (st : List mV) (M : mM) : Prop := y ≠ 0 ∧ K pc lv (v :: st) M
def xGf (a b : Nat) (K : mK) (pc : Nat) (lv : mL) (v : mV) (st : List mV) (M : mM) : Prop := a = b ∧ K pc lv (v :: st) M
def xPf (a b : Nat) (K : mK) (pc : Nat) (lv : mL) (st : List mV) (M : mM) : Prop := a = b ∧ K pc lv st M
def xPz (a b : Nat) (v : Int) (K : mK) (pc : Nat) (lv : mL) (st : List mV) (M : mM) : Prop := a = b ∧ (v = 0 ∨ v = 1) ∧ K pc lv st M
def xOk (a n : Nat) (k : Nat) (i : Int) (M : mM) : Prop := 0 ≤ i ∧ ((a ≠ 10 ∧ i < (n : Int)) ∨ (a = 10 ∧ i < M k (-1)))
def xLd (a n : Nat) (k : Nat) (i : Int) (K : mK) (pc : Nat) (lv : mL) (st : List mV) (M : mM) : Prop := (a = 2 ∨ a = 7 ∨ a = 10) ∧ xOk a n k i M ∧ K pc lv (vi (M k i) :: st) M
def xLdb (a n : Nat) (k : Nat) (i : Int) (K : mK) (pc : Nat) (lv : mL) (st : List mV) (M : mM) : Prop := (a = 3 ∨ a = 5 ∨ a = 9) ∧ xOk a n k i M ∧ K pc lv (vi (M k i) :: st) M
def xLdl (a n : Nat) (k : Nat) (i : Int) (K : mK) (pc : Nat) (lv : mL) (st : List mV) (M : mM) : Prop := a = 4 ∧ xOk a n k i M ∧ K pc lv (vl (M k i) :: st) M
def xLdr (a n : Nat) (k : Nat) (i : Int) (K : mK) (pc : Nat) (lv : mL) (st : List mV) (M : mM) : Prop := a = 6 ∧ xOk a n k i M ∧ K pc lv (vr (rf k i) :: st) M
def xSt (a n : Nat) (k : Nat) (i v : Int) (K : mK) (pc : Nat) (lv : mL) (st : List mV) (M : mM) : Prop := a = 2 ∧ xOk a n k i M ∧ K pc lv st (upC M k (mU (M k) i v))
def xStl (a n : Nat) (k : Nat) (i v : Int) (K : mK) (pc : Nat) (lv : mL) (st : List mV) (M : mM) : Prop := a = 4 ∧ xOk a n k i M ∧ K pc lv st (upC M k (mU (M k) i v))
def xStb (a n : Nat) (k : Nat) (i v : Int) (K : mK) (pc : Nat) (lv : mL) (st : List mV) (M : mM) : Prop := (a = 3 ∧ xOk a n k i M ∧ K pc lv st (upC M k (mU (M k) i (i2b v)))) ∨ (a = 5 ∧ (v = 0 ∨ v = 1) ∧ xOk a n k i M ∧ K pc lv st (upC M k (mU (M k) i v)))
def xLen (a n : Nat) (k : Nat) (K : mK) (pc : Nat) (lv : mL) (st : List mV) (M : mM) : Prop := (a = 10 ∧ 0 ≤ M k (-1) ∧ K pc lv (vi (M k (-1)) :: st) M) ∨ (a ≠ 10 ∧ 2 ≤ a ∧ a ≤ 9 ∧ a ≠ 8 ∧ K pc lv (vi n :: st) M)
def xCpy (a b n1 n2 : Nat) (s : Nat) (sp : Int) (d : Nat) (dp n : Int) (K : mK) (pc : Nat) (lv : mL) (st : List mV) (M : mM) : Prop := (a = 2 ∧ b = 2) ∧ (0 ≤ sp ∧ 0 ≤ dp ∧ 0 ≤ n ∧ sp + n ≤ (n1 : Int) ∧ dp + n ≤ (n2 : Int)) ∧ K pc lv st (upC M d (mCpy (M s) (M d) sp dp n))
def xIv (n a b : Nat) (P : Prop) : Prop := n ≤ 8 ∧ a = b ∧ P
def xMx (n : Nat) (K : mK) (pc : Nat) (lv : mL) (v : mV) (st : List mV) (M : mM) : Prop := n ≤ 8 ∧ K pc lv (v :: st) M
def iAbs (x : Int) : Int := if 0 ≤ x then x else w32 (-x)
def mCont (K : mK) (pc : Nat) (lv : mL) (st : List mV) : mQ := fun r M => match r with
  | some v => K pc lv (v :: st) M
  | none => K pc lv st M
def swT (x lo : Int) (ts : List Nat) (d : Nat) : Nat := if lo ≤ x then ts.getD (x - lo).toNat d else d
def swL (x : Int) : List (Int × Nat) → Nat → Nat
  | [], d => d
  | (a, t) :: r, d => if x = a then t else swL x r d
def xSw (t : Nat) (K : mK) (lv : mL) (st : List mV) (M : mM) : Prop := K t lv st M
def rOK : Option FieldType → Int → Prop
  | some .int, _ => True
  | some .boolean, x => x = 0 ∨ x = 1
  | some .char, x => 0 ≤ x ∧ x < 65536
  | some .byte, x => -128 ≤ x ∧ x < 128
  | _, _ => False
-- the stack
def xI (st : List mV) (k : Int → List mV → Prop) : Prop := match st with
  | .inl x :: r => k x r
  | _ => False
def xII (st : List mV) (k : Int → Int → List mV → Prop) : Prop := match st with
  | .inl y :: .inl x :: r => k x y r
  | _ => False
def xL (st : List mV) (k : Int → List mV → Prop) : Prop := match st with
  | .inr (.inl x) :: r => k x r
  | _ => False
def xLL (st : List mV) (k : Int → Int → List mV → Prop) : Prop := match st with
  | .inr (.inl y) :: .inr (.inl x) :: r => k x y r
  | _ => False
def xLI (st : List mV) (k : Int → Int → List mV → Prop) : Prop := match st with
  | .inl y :: .inr (.inl x) :: r => k x y r
  | _ => False
def xR (st : List mV) (k : Nat → List mV → Prop) : Prop := match st with
  | .inr (.inr x) :: r => k x r
  | _ => False
def xIR (st : List mV) (k : Nat → Int → List mV → Prop) : Prop := match st with
  | .inl i :: .inr (.inr a) :: r => k a i r
  | _ => False
def xIIR (st : List mV) (k : Nat → Int → Int → List mV → Prop) : Prop := match st with
  | .inl v :: .inl i :: .inr (.inr a) :: r => k a i v r
  | _ => False
def xLIR (st : List mV) (k : Nat → Int → Int → List mV → Prop) : Prop := match st with
  | .inr (.inl v) :: .inl i :: .inr (.inr a) :: r => k a i v r
  | _ => False
def xCp (st : List mV) (k : Nat → Int → Nat → Int → Int → List mV → Prop) : Prop := match st with
  | .inl n :: .inl dp :: .inr (.inr d) :: .inl sp :: .inr (.inr s) :: r => k s sp d dp n r
  | _ => False
def xT (pc : Nat) (off : Int) (k : Nat → Prop) : Prop := ∃ t : Nat, (pc : Int) + off = (t : Int) ∧ k t
def xBrI (c : ClassFile.Cond) (pc : Nat) (off : Int) (K : mK) (lv : mL) (st : List mV) (M : mM) : Prop := xT pc off fun t => xI st fun x r => match c with
  | .eq => xBr (x = 0) K t (pc + 3) lv r M
  | .ne => xBr (x ≠ 0) K t (pc + 3) lv r M
  | .lt => xBr (x < 0) K t (pc + 3) lv r M
  | .ge => xBr (0 ≤ x) K t (pc + 3) lv r M
  | .gt => xBr (0 < x) K t (pc + 3) lv r M
  | .le => xBr (x ≤ 0) K t (pc + 3) lv r M
def xBrC (c : ClassFile.Cond) (pc : Nat) (off : Int) (K : mK) (lv : mL) (st : List mV) (M : mM) : Prop := xT pc off fun t => xII st fun x y r => match c with
  | .eq => xBr (x = y) K t (pc + 3) lv r M
  | .ne => xBr (x ≠ y) K t (pc + 3) lv r M
  | .lt => xBr (x < y) K t (pc + 3) lv r M
  | .ge => xBr (y ≤ x) K t (pc + 3) lv r M
  | .gt => xBr (y < x) K t (pc + 3) lv r M
  | .le => xBr (x ≤ y) K t (pc + 3) lv r M
def xGet (q : Nat × Nat × Nat) (K : mK) (pc : Nat) (lv : mL) (st : List mV) (M : mM) : Prop := xR st fun k r =>
  if q.2.2 = 0 ∨ q.2.2 = 1 ∨ q.2.2 = 4 then xGf (clO k) q.1 K (pc + 3) lv (vi (M k (q.2.1 : Int))) r M
  else if q.2.2 = 2 then xGf (clO k) q.1 K (pc + 3) lv (vr (rf k (q.2.1 : Int))) r M
  else if q.2.2 = 3 then xGf (clO k) q.1 K (pc + 3) lv (vr (M k (q.2.1 : Int)).toNat) r M
  else False
def xPut (q : Nat × Nat × Nat) (K : mK) (pc : Nat) (lv : mL) (st : List mV) (M : mM) : Prop := match st with
  | .inl v :: .inr (.inr k) :: r => if q.2.2 = 0 then xPf (clO k) q.1 K (pc + 3) lv r (upC M k (mU (M k) (q.2.1 : Int) v))
      else if q.2.2 = 1 then xPz (clO k) q.1 v K (pc + 3) lv r (upC M k (mU (M k) (q.2.1 : Int) v)) else False
  | .inr (.inr v) :: .inr (.inr k) :: r => if q.2.2 = 3 then v < 2147483648 ∧ xPf (clO k) q.1 K (pc + 3) lv r (upC M k (mU (M k) (q.2.1 : Int) (v : Int))) else False
  | _ => False
def xInvV (q : Nat × Nat) (C : mC) (K : mK) (pc : Nat) (lv : mL) (st : List mV) (M : mM) : Prop := (q.1 < 9000 ∧ stOf q.1 = false) ∧ q.2 ≤ st.length ∧ 1 ≤ q.2 ∧ xR (st.drop (q.2 - 1)) fun k r => xIv (mcat r) (clO k) (oOf q.1) (C q.1 (st.take q.2).reverse M (mCont K (pc + 3) lv r))
def xInvS (q : Nat × Nat) (C : mC) (K : mK) (pc : Nat) (lv : mL) (st : List mV) (M : mM) : Prop := if q.1 = 9999 then xCp st fun s sp d dp n r => mcat r ≤ 8 ∧ xCpy (ak s) (ak d) (aln s) (aln d) s sp d dp n K (pc + 3) lv r M
  else if q.1 = 9001 then xII st fun x y r => xMx (mcat r) K (pc + 3) lv (vi (max x y)) r M
  else if q.1 = 9002 then xII st fun x y r => xMx (mcat r) K (pc + 3) lv (vi (min x y)) r M
  else if q.1 = 9003 then xI st fun x r => xMx (mcat r) K (pc + 3) lv (vi (iAbs x)) r M
  else (q.1 < 9000 ∧ stOf q.1 = true) ∧ q.2 ≤ st.length ∧ xIv (mcat (st.drop q.2)) 0 0 (C q.1 (st.take q.2).reverse M (mCont K (pc + 3) lv (st.drop q.2)))
def mGo (C : mC) (j : Nat) (Q : mQ) (K : mK) (i : Instr) (pc : Nat) (lv : mL) (st : List mV) (M : mM) : Prop :=
  match i with
  | .iconst z => K (pc + 1) lv (vi (w32 z) :: st) M
  | .bipush z => K (pc + 2) lv (vi (Int8.ofInt z).toInt :: st) M
  | .sipush z => K (pc + 3) lv (vi (Int16.ofInt z).toInt :: st) M
  | .lconst z => K (pc + 1) lv (vl ((z : Nat) : Int) :: st) M
  | .ldc x => if (kR (oOf j) x).1 = 1 then K (pc + 2) lv (vi (w32 (kR (oOf j) x).2) :: st) M else if (kR (oOf j) x).1 = 2 then K (pc + 2) lv (vr (kR (oOf j) x).2.toNat :: st) M else False
  | .ldc_w x => if (kR (oOf j) x).1 = 1 then K (pc + 3) lv (vi (w32 (kR (oOf j) x).2) :: st) M else False
  | .ldc2_w x => if (kR (oOf j) x).1 = 3 then K (pc + 3) lv (vl (w64 (kR (oOf j) x).2) :: st) M else False
  | .aconst_null => K (pc + 1) lv (vr 0 :: st) M
  | .iload x => xLoad 0 (lv x) K (pc + 2) lv st M
  | .iload_n x => xLoad 0 (lv x) K (pc + 1) lv st M
  | .aload x => xLoad 2 (lv x) K (pc + 2) lv st M
  | .aload_n x => xLoad 2 (lv x) K (pc + 1) lv st M
  | .lload x => xLoad 1 (lv x) K (pc + 2) lv st M
  | .lload_n x => xLoad 1 (lv x) K (pc + 1) lv st M
  | .istore x => x < nOf j ∧ xI st fun v r => K (pc + 2) (s1 lv x (vi v)) r M
  | .istore_n x => x < nOf j ∧ xI st fun v r => K (pc + 1) (s1 lv x (vi v)) r M
  | .astore x => x < nOf j ∧ xR st fun v r => K (pc + 2) (s1 lv x (vr v)) r M
  | .astore_n x => x < nOf j ∧ xR st fun v r => K (pc + 1) (s1 lv x (vr v)) r M
  | .lstore x => x + 1 < nOf j ∧ xL st fun v r => K (pc + 2) (s2 lv x (vl v)) r M
  | .lstore_n x => x + 1 < nOf j ∧ xL st fun v r => K (pc + 1) (s2 lv x (vl v)) r M
  | .iinc x n => x < nOf j ∧ xInc (lv x) K (pc + 3) lv x n st M
  | .iadd => xII st fun x y r => K (pc + 1) lv (vi (w32 (x + y)) :: r) M
  | .isub => xII st fun x y r => K (pc + 1) lv (vi (w32 (x - y)) :: r) M
  | .imul => xII st fun x y r => K (pc + 1) lv (vi (w32 (x * y)) :: r) M
  | .idiv => xII st fun x y r => xNz y K (pc + 1) lv (vi (w32 (Int.tdiv x y))) r M
  | .irem => xII st fun x y r => xNz y K (pc + 1) lv (vi (Int.tmod x y)) r M
  | .ineg => xI st fun x r => K (pc + 1) lv (vi (w32 (-x)) :: r) M
  | .iand => xII st fun x y r => K (pc + 1) lv (vi (iAnd x y) :: r) M
  | .ior => xII st fun x y r => K (pc + 1) lv (vi (iOr x y) :: r) M
  | .ixor => xII st fun x y r => K (pc + 1) lv (vi (iXor x y) :: r) M
  | .ishl => xII st fun x y r => K (pc + 1) lv (vi (iShl x y) :: r) M
  | .ishr => xII st fun x y r => K (pc + 1) lv (vi (iShr x y) :: r) M
  | .iushr => xII st fun x y r => K (pc + 1) lv (vi (iUsh x y) :: r) M
  | .ladd => xLL st fun x y r => K (pc + 1) lv (vl (w64 (x + y)) :: r) M
  | .lsub => xLL st fun x y r => K (pc + 1) lv (vl (w64 (x - y)) :: r) M
  | .lmul => xLL st fun x y r => K (pc + 1) lv (vl (w64 (x * y)) :: r) M
  | .ldiv => xLL st fun x y r => xNz y K (pc + 1) lv (vl (w64 (Int.tdiv x y))) r M
  | .lrem => xLL st fun x y r => xNz y K (pc + 1) lv (vl (Int.tmod x y)) r M
  | .lneg => xL st fun x r => K (pc + 1) lv (vl (w64 (-x)) :: r) M
  | .land => xLL st fun x y r => K (pc + 1) lv (vl (lAnd x y) :: r) M
  | .lor => xLL st fun x y r => K (pc + 1) lv (vl (lOr x y) :: r) M
  | .lxor => xLL st fun x y r => K (pc + 1) lv (vl (lXor x y) :: r) M
  | .lshl => xLI st fun x y r => K (pc + 1) lv (vl (lShl x y) :: r) M
  | .lshr => xLI st fun x y r => K (pc + 1) lv (vl (lShr x y) :: r) M
  | .lcmp => xLL st fun x y r => K (pc + 1) lv (vi (lCmp x y) :: r) M
  | .i2l => xI st fun x r => K (pc + 1) lv (vl x :: r) M
  | .l2i => xL st fun x r => K (pc + 1) lv (vi (w32 x) :: r) M
  | .i2b => xI st fun x r => K (pc + 1) lv (vi (i2b x) :: r) M
  | .i2c => xI st fun x r => K (pc + 1) lv (vi (i2c x) :: r) M
  | .dup => match st with
    | v :: r => mcw v = 1 ∧ K (pc + 1) lv (v :: v :: r) M
    | _ => False
  | .dup2 => match st with
    | v :: u :: r => mcw v = 1 ∧ mcw u = 1 ∧ K (pc + 1) lv (v :: u :: v :: u :: r) M
    | _ => False
  | .pop => match st with
    | v :: r => mcw v = 1 ∧ K (pc + 1) lv r M
    | _ => False
  | .ifCond c off => xBrI c pc off K lv st M
  | .if_icmp c off => xBrC c pc off K lv st M
  | .ifnull off => xT pc off fun t => xR st fun k r => k ≠ 151 ∧ xBr (k = 0) K t (pc + 3) lv r M
  | .ifnonnull off => xT pc off fun t => xR st fun k r => k ≠ 151 ∧ xBr (k ≠ 0) K t (pc + 3) lv r M
  | .goto off => xT pc off fun t => K t lv st M
  | .tableswitch d lo hi offs => (∀ o ∈ d :: offs.toList, 0 ≤ (pc : Int) + o) ∧ (hi - lo + 1 = (offs.size : Int)) ∧ xI st fun x r => xSw (swT x lo (offs.toList.map fun o => ((pc : Int) + o).toNat) ((pc : Int) + d).toNat) K lv r M
  | .lookupswitch d ps => (∀ o ∈ d :: ps.toList.map Prod.snd, 0 ≤ (pc : Int) + o) ∧ ((ps.toList.zip (ps.toList.drop 1)).all (fun (a, next) => a.1 < next.1) = true) ∧ xI st fun x r => xSw (swL x (ps.toList.map fun o => (o.1, ((pc : Int) + o.2).toNat)) ((pc : Int) + d).toNat) K lv r M
  | .getfield x => xGet (fR (oOf j) x) K pc lv st M
  | .putfield x => xPut (fR (oOf j) x) K pc lv st M
  | .getstatic x => if (gR (oOf j) x).1 = 1 then K (pc + 3) lv (vi (gR (oOf j) x).2 :: st) M else if (gR (oOf j) x).1 = 2 then K (pc + 3) lv (vr (gR (oOf j) x).2.toNat :: st) M else False
  | .iaload => xIR st fun k i r => xLd (ak k) (aln k) k i K (pc + 1) lv r M
  | .baload => xIR st fun k i r => xLdb (ak k) (aln k) k i K (pc + 1) lv r M
  | .laload => xIR st fun k i r => xLdl (ak k) (aln k) k i K (pc + 1) lv r M
  | .aaload => xIR st fun k i r => xLdr (ak k) (aln k) k i K (pc + 1) lv r M
  | .iastore => xIIR st fun k i v r => xSt (ak k) (aln k) k i v K (pc + 1) lv r M
  | .bastore => xIIR st fun k i v r => xStb (ak k) (aln k) k i v K (pc + 1) lv r M
  | .lastore => xLIR st fun k i v r => xStl (ak k) (aln k) k i v K (pc + 1) lv r M
  | .arraylength => xR st fun k r => xLen (ak k) (aln k) k K (pc + 1) lv r M
  | .invokevirtual x => xInvV (mR (oOf j) x) C K pc lv st M
  | .invokestatic x => xInvS (mR (oOf j) x) C K pc lv st M
  | .ireturn => match st with
    | [.inl x] => rOK (rtOf j) x ∧ Q (some (vi x)) M
    | _ => False
  | .lreturn => match st with
    | [.inr (.inl x)] => rtOf j = some .long ∧ Q (some (vl x)) M
    | _ => False
  | .areturn => match st with
    | [.inr (.inr k)] => k ≠ 151 ∧ rfr (rtOf j) = true ∧ Q (some (vr k)) M
    | _ => False
  | .return_ => match st with
    | [] => rtOf j = none ∧ Q none M
    | _ => False
  | _ => False

def ilen (i : Instr) (n : Nat) : Nat := match i with
  | .bipush _ => 2 | .sipush _ => 3 | .ldc _ => 2 | .ldc_w _ => 3 | .ldc2_w _ => 3 | .iload _ => 2 | .aload _ => 2 | .lload _ => 2 | .istore _ => 2 | .astore _ => 2 | .lstore _ => 2 | .iinc _ _ => 3
  | .ifCond _ _ => 3 | .if_icmp _ _ => 3 | .ifnull _ => 3 | .ifnonnull _ => 3 | .goto _ => 3 | .getfield _ => 3 | .putfield _ => 3 | .getstatic _ => 3 | .invokevirtual _ => 3 | .invokestatic _ => 3
  | .tableswitch _ _ _ _ => n | .lookupswitch _ _ => n | _ => 1
def mStep (C : mC) (j : Nat) (Q : mQ) (K : mK) (pc : Nat) (lv : mL) (st : List mV) (M : mM) : Prop := match decode (cOf j) pc with
  | .ok (i, n) => n = ilen i n ∧ mGo C j Q K i pc lv st M
  | .error _ => False
def mRun (C : mC) (j : Nat) (Q : mQ) : mK := fun pc lv st M => ∀ X : mK, (∀ pc lv st M, mStep C j Q X pc lv st M → X pc lv st M) → X pc lv st M
def mCall : Nat → mC
  | 0 => fun _ _ _ _ => False
  | d + 1 => fun j a M Q => mcat a ≤ nOf j ∧ mRun (mCall d) j Q 0 (mEn 0 a) [] M
-- what grows, grows
theorem xLoad_m {t : Nat} {o : Option mV} {K K' : mK} {pc : Nat} {lv : mL} {st : List mV} {M : mM} (hK : ∀ pc lv st M, K pc lv st M → K' pc lv st M) (h : xLoad t o K pc lv st M) : xLoad t o K' pc lv st M := by
  cases o with
  | none => exact h
  | some v => exact ⟨h.1, hK _ _ _ _ h.2⟩
theorem xInc_m {o : Option mV} {K K' : mK} {pc : Nat} {lv : mL} {i : Nat} {n : Int} {st : List mV} {M : mM} (hK : ∀ pc lv st M, K pc lv st M → K' pc lv st M) (h : xInc o K pc lv i n st M) : xInc o K' pc lv i n st M := by
  match o, h with
  | some (.inl x), h => exact hK _ _ _ _ h
theorem xBr_m {c : Prop} [Decidable c] {K K' : mK} {t f : Nat} {lv : mL} {st : List mV} {M : mM} (hK : ∀ pc lv st M, K pc lv st M → K' pc lv st M) (h : xBr c K t f lv st M) : xBr c K' t f lv st M := by
  unfold xBr at *
  by_cases g : c
  · rw [if_pos g] at h ⊢; exact hK _ _ _ _ h
  · rw [if_neg g] at h ⊢; exact hK _ _ _ _ h
theorem xI_m {st : List mV} {k k' : Int → List mV → Prop} (hk : ∀ x r, k x r → k' x r) (h : xI st k) : xI st k' := by
  unfold xI at *
  split at h
  · exact hk _ _ h
  · exact h
theorem xII_m {st : List mV} {k k' : Int → Int → List mV → Prop} (hk : ∀ x y r, k x y r → k' x y r) (h : xII st k) : xII st k' := by
  unfold xII at *
  split at h
  · exact hk _ _ _ h
  · exact h
theorem xL_m {st : List mV} {k k' : Int → List mV → Prop} (hk : ∀ x r, k x r → k' x r) (h : xL st k) : xL st k' := by
  unfold xL at *
  split at h
  · exact hk _ _ h
  · exact h
theorem xLL_m {st : List mV} {k k' : Int → Int → List mV → Prop} (hk : ∀ x y r, k x y r → k' x y r) (h : xLL st k) : xLL st k' := by
  unfold xLL at *
  split at h
  · exact hk _ _ _ h
  · exact h
theorem xLI_m {st : List mV} {k k' : Int → Int → List mV → Prop} (hk : ∀ x y r, k x y r → k' x y r) (h : xLI st k) : xLI st k' := by
  unfold xLI at *
  split at h
  · exact hk _ _ _ h
  · exact h
theorem xR_m {st : List mV} {k k' : Nat → List mV → Prop} (hk : ∀ x r, k x r → k' x r) (h : xR st k) : xR st k' := by
  unfold xR at *
  split at h
  · exact hk _ _ h
  · exact h
theorem xIR_m {st : List mV} {k k' : Nat → Int → List mV → Prop} (hk : ∀ a i r, k a i r → k' a i r) (h : xIR st k) : xIR st k' := by
  unfold xIR at *
  split at h
  · exact hk _ _ _ h
  · exact h
theorem xIIR_m {st : List mV} {k k' : Nat → Int → Int → List mV → Prop} (hk : ∀ a i v r, k a i v r → k' a i v r) (h : xIIR st k) : xIIR st k' := by
  unfold xIIR at *
  split at h
  · exact hk _ _ _ _ h
  · exact h
theorem xLIR_m {st : List mV} {k k' : Nat → Int → Int → List mV → Prop} (hk : ∀ a i v r, k a i v r → k' a i v r) (h : xLIR st k) : xLIR st k' := by
  unfold xLIR at *
  split at h
  · exact hk _ _ _ _ h
  · exact h
theorem xCp_m {st : List mV} {k k' : Nat → Int → Nat → Int → Int → List mV → Prop} (hk : ∀ s sp d dp n r, k s sp d dp n r → k' s sp d dp n r) (h : xCp st k) : xCp st k' := by
  unfold xCp at *
  split at h
  · exact hk _ _ _ _ _ _ h
  · exact h
theorem xT_m {pc : Nat} {off : Int} {k k' : Nat → Prop} (hk : ∀ t, k t → k' t) (h : xT pc off k) : xT pc off k' := by
  obtain ⟨t, h1, h2⟩ := h
  exact ⟨t, h1, hk t h2⟩
theorem mCont_m {K K' : mK} {pc : Nat} {lv : mL} {st : List mV} (hK : ∀ pc lv st M, K pc lv st M → K' pc lv st M) : ∀ r N, mCont K pc lv st r N → mCont K' pc lv st r N := by
  intro r N h
  cases r with
  | none => exact hK _ _ _ _ h
  | some v => exact hK _ _ _ _ h
def mMono (C : mC) : Prop := ∀ (k : Nat) (a : List mV) (M : mM) (P P' : mQ), (∀ r N, P r N → P' r N) → C k a M P → C k a M P'
section MonoGo
variable {C : mC} {j : Nat} {Q Q' : mQ} {K K' : mK} {pc : Nat} {lv : mL} {st : List mV} {M : mM}
theorem xBrI_m {c : ClassFile.Cond} {off : Int} (hK : ∀ pc lv st M, K pc lv st M → K' pc lv st M) (h : xBrI c pc off K lv st M) : xBrI c pc off K' lv st M := by
  refine xT_m (fun t h => xI_m (fun x r h => ?_) h) h
  cases c <;> exact xBr_m hK h
theorem xBrC_m {c : ClassFile.Cond} {off : Int} (hK : ∀ pc lv st M, K pc lv st M → K' pc lv st M) (h : xBrC c pc off K lv st M) : xBrC c pc off K' lv st M := by
  refine xT_m (fun t h => xII_m (fun x y r h => ?_) h) h
  cases c <;> exact xBr_m hK h
theorem xGet_m {q : Nat × Nat × Nat} (hK : ∀ pc lv st M, K pc lv st M → K' pc lv st M) (h : xGet q K pc lv st M) : xGet q K' pc lv st M := by
  refine xR_m (fun k r h => ?_) h
  split at h
  · rename_i g; rw [if_pos g]; exact ⟨h.1, hK _ _ _ _ h.2⟩
  · rename_i g; rw [if_neg g]
    split at h
    · rename_i g; rw [if_pos g]; exact ⟨h.1, hK _ _ _ _ h.2⟩
    · rename_i g; rw [if_neg g]
      split at h
      · rename_i g; rw [if_pos g]; exact ⟨h.1, hK _ _ _ _ h.2⟩
      · exact h.elim
theorem xPut_m {q : Nat × Nat × Nat} (hK : ∀ pc lv st M, K pc lv st M → K' pc lv st M) (h : xPut q K pc lv st M) : xPut q K' pc lv st M := by
  unfold xPut at *
  split at h
  · split at h
    · rename_i g; rw [if_pos g]; exact ⟨h.1, hK _ _ _ _ h.2⟩
    · rename_i g; rw [if_neg g]
      split at h
      · rename_i g; rw [if_pos g]; exact ⟨h.1, h.2.1, hK _ _ _ _ h.2.2⟩
      · exact h.elim
  · split at h
    · rename_i g; rw [if_pos g]; exact ⟨h.1, h.2.1, hK _ _ _ _ h.2.2⟩
    · exact h.elim
  · exact h.elim
theorem xInvV_m {q : Nat × Nat} (hC : mMono C) (hK : ∀ pc lv st M, K pc lv st M → K' pc lv st M) (h : xInvV q C K pc lv st M) : xInvV q C K' pc lv st M :=
  ⟨h.1, h.2.1, h.2.2.1, xR_m (fun _ _ h => ⟨h.1, h.2.1, hC _ _ _ _ _ (mCont_m hK) h.2.2⟩) h.2.2.2⟩
theorem xInvS_m {q : Nat × Nat} (hC : mMono C) (hK : ∀ pc lv st M, K pc lv st M → K' pc lv st M) (h : xInvS q C K pc lv st M) : xInvS q C K' pc lv st M := by
  unfold xInvS at *
  split at h
  · rename_i g; rw [if_pos g]; exact xCp_m (fun _ _ _ _ _ _ h => ⟨h.1, h.2.1, h.2.2.1, hK _ _ _ _ h.2.2.2⟩) h
  · rename_i g; rw [if_neg g]
    split at h
    · rename_i g; rw [if_pos g]; exact xII_m (fun _ _ _ h => ⟨h.1, hK _ _ _ _ h.2⟩) h
    · rename_i g; rw [if_neg g]
      split at h
      · rename_i g; rw [if_pos g]; exact xII_m (fun _ _ _ h => ⟨h.1, hK _ _ _ _ h.2⟩) h
      · rename_i g; rw [if_neg g]
        split at h
        · rename_i g; rw [if_pos g]; exact xI_m (fun _ _ h => ⟨h.1, hK _ _ _ _ h.2⟩) h
        · rename_i g; rw [if_neg g]; exact ⟨h.1, h.2.1, h.2.2.1, h.2.2.2.1, hC _ _ _ _ _ (mCont_m hK) h.2.2.2.2⟩
theorem mGo_m {i : Instr} (hC : mMono C) (hQ : ∀ r N, Q r N → Q' r N) (hK : ∀ pc lv st M, K pc lv st M → K' pc lv st M) (h : mGo C j Q K i pc lv st M) : mGo C j Q' K' i pc lv st M := by
  cases i
  case iconst z => exact hK _ _ _ _ h
  case bipush z => exact hK _ _ _ _ h
  case sipush z => exact hK _ _ _ _ h
  case lconst z => exact hK _ _ _ _ h
  case aconst_null => exact hK _ _ _ _ h
  case iload x => exact xLoad_m hK h
  case iload_n x => exact xLoad_m hK h
  case aload x => exact xLoad_m hK h
  case aload_n x => exact xLoad_m hK h
  case lload x => exact xLoad_m hK h
  case lload_n x => exact xLoad_m hK h
  case istore x => exact ⟨h.1, xI_m (fun _ _ => hK _ _ _ _) h.2⟩
  case istore_n x => exact ⟨h.1, xI_m (fun _ _ => hK _ _ _ _) h.2⟩
  case astore x => exact ⟨h.1, xR_m (fun _ _ => hK _ _ _ _) h.2⟩
  case astore_n x => exact ⟨h.1, xR_m (fun _ _ => hK _ _ _ _) h.2⟩
  case lstore x => exact ⟨h.1, xL_m (fun _ _ => hK _ _ _ _) h.2⟩
  case lstore_n x => exact ⟨h.1, xL_m (fun _ _ => hK _ _ _ _) h.2⟩
  case iinc x n => exact ⟨h.1, xInc_m hK h.2⟩
  case iadd => exact xII_m (fun _ _ _ => hK _ _ _ _) h
  case isub => exact xII_m (fun _ _ _ => hK _ _ _ _) h
  case imul => exact xII_m (fun _ _ _ => hK _ _ _ _) h
  case iand => exact xII_m (fun _ _ _ => hK _ _ _ _) h
  case ior => exact xII_m (fun _ _ _ => hK _ _ _ _) h
  case ixor => exact xII_m (fun _ _ _ => hK _ _ _ _) h
  case ishl => exact xII_m (fun _ _ _ => hK _ _ _ _) h
  case ishr => exact xII_m (fun _ _ _ => hK _ _ _ _) h
  case iushr => exact xII_m (fun _ _ _ => hK _ _ _ _) h
  case idiv => exact xII_m (fun _ _ _ h => ⟨h.1, hK _ _ _ _ h.2⟩) h
  case irem => exact xII_m (fun _ _ _ h => ⟨h.1, hK _ _ _ _ h.2⟩) h
  case ladd => exact xLL_m (fun _ _ _ => hK _ _ _ _) h
  case lsub => exact xLL_m (fun _ _ _ => hK _ _ _ _) h
  case lmul => exact xLL_m (fun _ _ _ => hK _ _ _ _) h
  case land => exact xLL_m (fun _ _ _ => hK _ _ _ _) h
  case lor => exact xLL_m (fun _ _ _ => hK _ _ _ _) h
  case lxor => exact xLL_m (fun _ _ _ => hK _ _ _ _) h
  case lcmp => exact xLL_m (fun _ _ _ => hK _ _ _ _) h
  case ldiv => exact xLL_m (fun _ _ _ h => ⟨h.1, hK _ _ _ _ h.2⟩) h
  case lrem => exact xLL_m (fun _ _ _ h => ⟨h.1, hK _ _ _ _ h.2⟩) h
  case lshl => exact xLI_m (fun _ _ _ => hK _ _ _ _) h
  case lshr => exact xLI_m (fun _ _ _ => hK _ _ _ _) h
  case ineg => exact xI_m (fun _ _ => hK _ _ _ _) h
  case i2l => exact xI_m (fun _ _ => hK _ _ _ _) h
  case i2b => exact xI_m (fun _ _ => hK _ _ _ _) h
  case i2c => exact xI_m (fun _ _ => hK _ _ _ _) h
  case lneg => exact xL_m (fun _ _ => hK _ _ _ _) h
  case l2i => exact xL_m (fun _ _ => hK _ _ _ _) h
  case ifCond c off => exact xBrI_m hK h
  case if_icmp c off => exact xBrC_m hK h
  case ifnull off => exact xT_m (fun _ h => xR_m (fun _ _ h => ⟨h.1, xBr_m hK h.2⟩) h) h
  case ifnonnull off => exact xT_m (fun _ h => xR_m (fun _ _ h => ⟨h.1, xBr_m hK h.2⟩) h) h
  case goto off => exact xT_m (fun _ h => hK _ _ _ _ h) h
  case tableswitch d lo hi offs => exact ⟨h.1, h.2.1, xI_m (fun _ _ h => hK _ _ _ _ h) h.2.2⟩
  case lookupswitch d ps => exact ⟨h.1, h.2.1, xI_m (fun _ _ h => hK _ _ _ _ h) h.2.2⟩
  case getfield x => exact xGet_m hK h
  case putfield x => exact xPut_m hK h
  case iaload => exact xIR_m (fun _ _ _ h => ⟨h.1, h.2.1, hK _ _ _ _ h.2.2⟩) h
  case baload => exact xIR_m (fun _ _ _ h => ⟨h.1, h.2.1, hK _ _ _ _ h.2.2⟩) h
  case laload => exact xIR_m (fun _ _ _ h => ⟨h.1, h.2.1, hK _ _ _ _ h.2.2⟩) h
  case aaload => exact xIR_m (fun _ _ _ h => ⟨h.1, h.2.1, hK _ _ _ _ h.2.2⟩) h
  case iastore => exact xIIR_m (fun _ _ _ _ h => ⟨h.1, h.2.1, hK _ _ _ _ h.2.2⟩) h
  case lastore => exact xLIR_m (fun _ _ _ _ h => ⟨h.1, h.2.1, hK _ _ _ _ h.2.2⟩) h
  case bastore => exact xIIR_m (fun _ _ _ _ h => h.elim (fun h => Or.inl ⟨h.1, h.2.1, hK _ _ _ _ h.2.2⟩) (fun h => Or.inr ⟨h.1, h.2.1, h.2.2.1, hK _ _ _ _ h.2.2.2⟩)) h
  case arraylength => exact xR_m (fun _ _ h => h.elim (fun h => Or.inl ⟨h.1, h.2.1, hK _ _ _ _ h.2.2⟩) (fun h => Or.inr ⟨h.1, h.2.1, h.2.2.1, h.2.2.2.1, hK _ _ _ _ h.2.2.2.2⟩)) h
  case invokevirtual x => exact xInvV_m hC hK h
  case invokestatic x => exact xInvS_m hC hK h
  case ldc x =>
    simp only [mGo] at h ⊢
    split at h
    · rename_i g; rw [if_pos g]; exact hK _ _ _ _ h
    · rename_i g; rw [if_neg g]
      split at h
      · rename_i g; rw [if_pos g]; exact hK _ _ _ _ h
      · exact h.elim
  case ldc_w x =>
    simp only [mGo] at h ⊢
    split at h
    · rename_i g; rw [if_pos g]; exact hK _ _ _ _ h
    · exact h.elim
  case ldc2_w x =>
    simp only [mGo] at h ⊢
    split at h
    · rename_i g; rw [if_pos g]; exact hK _ _ _ _ h
    · exact h.elim
  case getstatic x =>
    simp only [mGo] at h ⊢
    split at h
    · rename_i g; rw [if_pos g]; exact hK _ _ _ _ h
    · rename_i g; rw [if_neg g]
      split at h
      · rename_i g; rw [if_pos g]; exact hK _ _ _ _ h
      · exact h.elim
  case dup =>
    match st, h with
    | v :: r, h => exact ⟨h.1, hK _ _ _ _ h.2⟩
  case dup2 =>
    match st, h with
    | v :: u :: r, h => exact ⟨h.1, h.2.1, hK _ _ _ _ h.2.2⟩
  case pop =>
    match st, h with
    | v :: r, h => exact ⟨h.1, hK _ _ _ _ h.2⟩
  case ireturn =>
    match st, h with
    | [.inl x], h => exact ⟨h.1, hQ _ _ h.2⟩
  case lreturn =>
    match st, h with
    | [.inr (.inl x)], h => exact ⟨h.1, hQ _ _ h.2⟩
  case areturn =>
    match st, h with
    | [.inr (.inr x)], h => exact ⟨h.1, h.2.1, hQ _ _ h.2.2⟩
  case return_ =>
    match st, h with
    | [], h => exact ⟨h.1, hQ _ _ h.2⟩
  all_goals exact False.elim h
theorem mStep_m (hC : mMono C) (hQ : ∀ r N, Q r N → Q' r N) (hK : ∀ pc lv st M, K pc lv st M → K' pc lv st M) (h : mStep C j Q K pc lv st M) : mStep C j Q' K' pc lv st M := by
  unfold mStep at *
  split at h
  · exact ⟨h.1, mGo_m hC hQ hK h.2⟩
  · exact h
theorem mRun_of (hC : mMono C) (h : mStep C j Q (mRun C j Q) pc lv st M) : mRun C j Q pc lv st M := by
  intro X hX
  exact hX _ _ _ _ (mStep_m hC (fun _ _ h => h) (fun _ _ _ _ h => h X hX) h)
theorem mRun_to (hC : mMono C) (h : mRun C j Q pc lv st M) : mStep C j Q (mRun C j Q) pc lv st M :=
  h (fun pc lv st M => mStep C j Q (mRun C j Q) pc lv st M) (fun _ _ _ _ h => mStep_m hC (fun _ _ h => h) (fun _ _ _ _ h => mRun_of hC h) h)
theorem mRun_m (hC : mMono C) (hQ : ∀ r N, Q r N → Q' r N) (h : mRun C j Q pc lv st M) : mRun C j Q' pc lv st M :=
  h (mRun C j Q') (fun _ _ _ _ h => mRun_of hC (mStep_m hC hQ (fun _ _ _ _ h => h) h))
end MonoGo
theorem mCall_m : ∀ d, mMono (mCall d)
  | 0 => fun _ _ _ _ _ _ h => h
  | d + 1 => fun _ _ _ _ _ hP h => ⟨h.1, mRun_m (mCall_m d) hP h.2⟩

/-- a method runs, its calls d deep -/
def rn (d j : Nat) (Q : mQ) : mK := mRun (mCall d) j Q
theorem mCall_s {d j : Nat} {a : List mV} {M : mM} {Q : mQ} (n : Nat) (hn : mcat a = n) (h : n ≤ nOf j) : mCall (d + 1) j a M Q = rn d j Q 0 (mEn 0 a) [] M := propext ⟨fun g => g.2, fun g => ⟨by rw [hn]; exact h, g⟩⟩
section Erows
variable {d j : Nat} {Q : mQ} {pc : Nat} {lv : mL} {st : List mV} {M : mM}
theorem e_go {i : Instr} {n : Nat} (h : decode (cOf j) pc = .ok (i, n)) (hn : n = ilen i n) : rn d j Q pc lv st M = mGo (mCall d) j Q (rn d j Q) i pc lv st M := by
  apply propext
  constructor
  · intro g
    have := mRun_to (mCall_m d) g
    unfold mStep at this
    rw [h] at this
    exact this.2
  · intro g
    refine mRun_of (mCall_m d) ?_
    unfold mStep
    rw [h]
    exact ⟨hn, g⟩
theorem e_and {p q : Prop} (h : p) : (p ∧ q) = q := propext ⟨fun x => x.2, fun x => ⟨h, x⟩⟩
theorem e_iconst {z z2 : Int} (h : decode (cOf j) pc = .ok (.iconst z, 1)) (hz : w32 z = z2) : rn d j Q pc lv st M = rn d j Q (pc + 1) lv (vi z2 :: st) M := by subst hz; exact e_go h rfl
theorem e_bipush {z z2 : Int} (h : decode (cOf j) pc = .ok (.bipush z, 2)) (hz : (Int8.ofInt z).toInt = z2) : rn d j Q pc lv st M = rn d j Q (pc + 2) lv (vi z2 :: st) M := by subst hz; exact e_go h rfl
theorem e_sipush {z z2 : Int} (h : decode (cOf j) pc = .ok (.sipush z, 3)) (hz : (Int16.ofInt z).toInt = z2) : rn d j Q pc lv st M = rn d j Q (pc + 3) lv (vi z2 :: st) M := by subst hz; exact e_go h rfl
theorem e_lconst {z : Fin 2} {z2 : Int} (h : decode (cOf j) pc = .ok (.lconst z, 1)) (hz : ((z : Nat) : Int) = z2) : rn d j Q pc lv st M = rn d j Q (pc + 1) lv (vl z2 :: st) M := by subst hz; exact e_go h rfl
theorem e_ldc {x : Nat} {z : Int} (h : decode (cOf j) pc = .ok (.ldc x, 2)) (hz : (kR (oOf j) x).1 = 1 ∧ w32 (kR (oOf j) x).2 = z) : rn d j Q pc lv st M = rn d j Q (pc + 2) lv (vi z :: st) M := by rw [e_go h rfl, mGo, if_pos hz.1, hz.2]
theorem e_ldcs {x : Nat} {z : Nat} (h : decode (cOf j) pc = .ok (.ldc x, 2)) (hz : ¬ (kR (oOf j) x).1 = 1 ∧ (kR (oOf j) x).1 = 2 ∧ (kR (oOf j) x).2.toNat = z) : rn d j Q pc lv st M = rn d j Q (pc + 2) lv (vr z :: st) M := by rw [e_go h rfl, mGo, if_neg hz.1, if_pos hz.2.1, hz.2.2]
theorem e_ldcw {x : Nat} {z : Int} (h : decode (cOf j) pc = .ok (.ldc_w x, 3)) (hz : (kR (oOf j) x).1 = 1 ∧ w32 (kR (oOf j) x).2 = z) : rn d j Q pc lv st M = rn d j Q (pc + 3) lv (vi z :: st) M := by rw [e_go h rfl, mGo, if_pos hz.1, hz.2]
theorem e_ldc2 {x : Nat} {z : Int} (h : decode (cOf j) pc = .ok (.ldc2_w x, 3)) (hz : (kR (oOf j) x).1 = 3 ∧ w64 (kR (oOf j) x).2 = z) : rn d j Q pc lv st M = rn d j Q (pc + 3) lv (vl z :: st) M := by rw [e_go h rfl, mGo, if_pos hz.1, hz.2]
theorem e_null (h : decode (cOf j) pc = .ok (.aconst_null, 1)) : rn d j Q pc lv st M = rn d j Q (pc + 1) lv (vr 0 :: st) M := e_go h rfl
theorem e_iload {x : Nat} (h : decode (cOf j) pc = .ok (.iload x, 2)) : rn d j Q pc lv st M = xLoad 0 (lv x) (rn d j Q) (pc + 2) lv st M := e_go h rfl
theorem e_aload {x : Nat} (h : decode (cOf j) pc = .ok (.aload x, 2)) : rn d j Q pc lv st M = xLoad 2 (lv x) (rn d j Q) (pc + 2) lv st M := e_go h rfl
theorem e_lload {x : Nat} (h : decode (cOf j) pc = .ok (.lload x, 2)) : rn d j Q pc lv st M = xLoad 1 (lv x) (rn d j Q) (pc + 2) lv st M := e_go h rfl
theorem e_iloadn {x : Fin 4} {y : Nat} (h : decode (cOf j) pc = .ok (.iload_n x, 1)) (hx : (x : Nat) = y) : rn d j Q pc lv st M = xLoad 0 (lv y) (rn d j Q) (pc + 1) lv st M := by subst hx; exact e_go h rfl
theorem e_aloadn {x : Fin 4} {y : Nat} (h : decode (cOf j) pc = .ok (.aload_n x, 1)) (hx : (x : Nat) = y) : rn d j Q pc lv st M = xLoad 2 (lv y) (rn d j Q) (pc + 1) lv st M := by subst hx; exact e_go h rfl
theorem e_lloadn {x : Fin 4} {y : Nat} (h : decode (cOf j) pc = .ok (.lload_n x, 1)) (hx : (x : Nat) = y) : rn d j Q pc lv st M = xLoad 1 (lv y) (rn d j Q) (pc + 1) lv st M := by subst hx; exact e_go h rfl
theorem e_istore {x : Nat} {v : Int} (h : decode (cOf j) pc = .ok (.istore x, 2)) (hx : x < nOf j) : rn d j Q pc lv (vi v :: st) M = rn d j Q (pc + 2) (s1 lv x (vi v)) st M := by rw [e_go h rfl]; exact e_and hx
theorem e_istoren {x : Fin 4} {y : Nat} {v : Int} (h : decode (cOf j) pc = .ok (.istore_n x, 1)) (hy : (x : Nat) = y) (hx : y < nOf j) : rn d j Q pc lv (vi v :: st) M = rn d j Q (pc + 1) (s1 lv y (vi v)) st M := by subst hy; rw [e_go h rfl]; exact e_and hx
theorem e_astore {x : Nat} {v : Nat} (h : decode (cOf j) pc = .ok (.astore x, 2)) (hx : x < nOf j) : rn d j Q pc lv (vr v :: st) M = rn d j Q (pc + 2) (s1 lv x (vr v)) st M := by rw [e_go h rfl]; exact e_and hx
theorem e_astoren {x : Fin 4} {y : Nat} {v : Nat} (h : decode (cOf j) pc = .ok (.astore_n x, 1)) (hy : (x : Nat) = y) (hx : y < nOf j) : rn d j Q pc lv (vr v :: st) M = rn d j Q (pc + 1) (s1 lv y (vr v)) st M := by subst hy; rw [e_go h rfl]; exact e_and hx
theorem e_lstore {x : Nat} {v : Int} (h : decode (cOf j) pc = .ok (.lstore x, 2)) (hx : x + 1 < nOf j) : rn d j Q pc lv (vl v :: st) M = rn d j Q (pc + 2) (s2 lv x (vl v)) st M := by rw [e_go h rfl]; exact e_and hx
theorem e_lstoren {x : Fin 4} {y : Nat} {v : Int} (h : decode (cOf j) pc = .ok (.lstore_n x, 1)) (hy : (x : Nat) = y) (hx : y + 1 < nOf j) : rn d j Q pc lv (vl v :: st) M = rn d j Q (pc + 1) (s2 lv y (vl v)) st M := by subst hy; rw [e_go h rfl]; exact e_and hx
theorem e_iinc {x : Nat} {n : Int} (h : decode (cOf j) pc = .ok (.iinc x n, 3)) (hx : x < nOf j) : rn d j Q pc lv st M = xInc (lv x) (rn d j Q) (pc + 3) lv x n st M := by rw [e_go h rfl]; exact e_and hx
theorem e_iadd {x y : Int} (h : decode (cOf j) pc = .ok (.iadd, 1)) : rn d j Q pc lv (vi y :: vi x :: st) M = rn d j Q (pc + 1) lv (vi (w32 (x + y)) :: st) M := e_go h rfl
theorem e_isub {x y : Int} (h : decode (cOf j) pc = .ok (.isub, 1)) : rn d j Q pc lv (vi y :: vi x :: st) M = rn d j Q (pc + 1) lv (vi (w32 (x - y)) :: st) M := e_go h rfl
theorem e_imul {x y : Int} (h : decode (cOf j) pc = .ok (.imul, 1)) : rn d j Q pc lv (vi y :: vi x :: st) M = rn d j Q (pc + 1) lv (vi (w32 (x * y)) :: st) M := e_go h rfl
theorem e_iand {x y : Int} (h : decode (cOf j) pc = .ok (.iand, 1)) : rn d j Q pc lv (vi y :: vi x :: st) M = rn d j Q (pc + 1) lv (vi (iAnd x y) :: st) M := e_go h rfl
theorem e_ior {x y : Int} (h : decode (cOf j) pc = .ok (.ior, 1)) : rn d j Q pc lv (vi y :: vi x :: st) M = rn d j Q (pc + 1) lv (vi (iOr x y) :: st) M := e_go h rfl
theorem e_ixor {x y : Int} (h : decode (cOf j) pc = .ok (.ixor, 1)) : rn d j Q pc lv (vi y :: vi x :: st) M = rn d j Q (pc + 1) lv (vi (iXor x y) :: st) M := e_go h rfl
theorem e_ishl {x y : Int} (h : decode (cOf j) pc = .ok (.ishl, 1)) : rn d j Q pc lv (vi y :: vi x :: st) M = rn d j Q (pc + 1) lv (vi (iShl x y) :: st) M := e_go h rfl
theorem e_ishr {x y : Int} (h : decode (cOf j) pc = .ok (.ishr, 1)) : rn d j Q pc lv (vi y :: vi x :: st) M = rn d j Q (pc + 1) lv (vi (iShr x y) :: st) M := e_go h rfl
theorem e_iushr {x y : Int} (h : decode (cOf j) pc = .ok (.iushr, 1)) : rn d j Q pc lv (vi y :: vi x :: st) M = rn d j Q (pc + 1) lv (vi (iUsh x y) :: st) M := e_go h rfl
theorem e_idiv {x y : Int} (h : decode (cOf j) pc = .ok (.idiv, 1)) : rn d j Q pc lv (vi y :: vi x :: st) M = xNz y (rn d j Q) (pc + 1) lv (vi (w32 (Int.tdiv x y))) st M := e_go h rfl
theorem e_irem {x y : Int} (h : decode (cOf j) pc = .ok (.irem, 1)) : rn d j Q pc lv (vi y :: vi x :: st) M = xNz y (rn d j Q) (pc + 1) lv (vi (Int.tmod x y)) st M := e_go h rfl
theorem e_ldiv {x y : Int} (h : decode (cOf j) pc = .ok (.ldiv, 1)) : rn d j Q pc lv (vl y :: vl x :: st) M = xNz y (rn d j Q) (pc + 1) lv (vl (w64 (Int.tdiv x y))) st M := e_go h rfl
theorem e_lrem {x y : Int} (h : decode (cOf j) pc = .ok (.lrem, 1)) : rn d j Q pc lv (vl y :: vl x :: st) M = xNz y (rn d j Q) (pc + 1) lv (vl (Int.tmod x y)) st M := e_go h rfl
theorem e_ladd {x y : Int} (h : decode (cOf j) pc = .ok (.ladd, 1)) : rn d j Q pc lv (vl y :: vl x :: st) M = rn d j Q (pc + 1) lv (vl (w64 (x + y)) :: st) M := e_go h rfl
theorem e_lsub {x y : Int} (h : decode (cOf j) pc = .ok (.lsub, 1)) : rn d j Q pc lv (vl y :: vl x :: st) M = rn d j Q (pc + 1) lv (vl (w64 (x - y)) :: st) M := e_go h rfl
theorem e_lmul {x y : Int} (h : decode (cOf j) pc = .ok (.lmul, 1)) : rn d j Q pc lv (vl y :: vl x :: st) M = rn d j Q (pc + 1) lv (vl (w64 (x * y)) :: st) M := e_go h rfl
theorem e_land {x y : Int} (h : decode (cOf j) pc = .ok (.land, 1)) : rn d j Q pc lv (vl y :: vl x :: st) M = rn d j Q (pc + 1) lv (vl (lAnd x y) :: st) M := e_go h rfl
theorem e_lor {x y : Int} (h : decode (cOf j) pc = .ok (.lor, 1)) : rn d j Q pc lv (vl y :: vl x :: st) M = rn d j Q (pc + 1) lv (vl (lOr x y) :: st) M := e_go h rfl
theorem e_lxor {x y : Int} (h : decode (cOf j) pc = .ok (.lxor, 1)) : rn d j Q pc lv (vl y :: vl x :: st) M = rn d j Q (pc + 1) lv (vl (lXor x y) :: st) M := e_go h rfl
theorem e_lcmp {x y : Int} (h : decode (cOf j) pc = .ok (.lcmp, 1)) : rn d j Q pc lv (vl y :: vl x :: st) M = rn d j Q (pc + 1) lv (vi (lCmp x y) :: st) M := e_go h rfl
theorem e_lshl {x y : Int} (h : decode (cOf j) pc = .ok (.lshl, 1)) : rn d j Q pc lv (vi y :: vl x :: st) M = rn d j Q (pc + 1) lv (vl (lShl x y) :: st) M := e_go h rfl
theorem e_lshr {x y : Int} (h : decode (cOf j) pc = .ok (.lshr, 1)) : rn d j Q pc lv (vi y :: vl x :: st) M = rn d j Q (pc + 1) lv (vl (lShr x y) :: st) M := e_go h rfl
theorem e_ineg {x : Int} (h : decode (cOf j) pc = .ok (.ineg, 1)) : rn d j Q pc lv (vi x :: st) M = rn d j Q (pc + 1) lv (vi (w32 (-x)) :: st) M := e_go h rfl
theorem e_i2l {x : Int} (h : decode (cOf j) pc = .ok (.i2l, 1)) : rn d j Q pc lv (vi x :: st) M = rn d j Q (pc + 1) lv (vl x :: st) M := e_go h rfl
theorem e_i2b {x : Int} (h : decode (cOf j) pc = .ok (.i2b, 1)) : rn d j Q pc lv (vi x :: st) M = rn d j Q (pc + 1) lv (vi (i2b x) :: st) M := e_go h rfl
theorem e_i2c {x : Int} (h : decode (cOf j) pc = .ok (.i2c, 1)) : rn d j Q pc lv (vi x :: st) M = rn d j Q (pc + 1) lv (vi (i2c x) :: st) M := e_go h rfl
theorem e_lneg {x : Int} (h : decode (cOf j) pc = .ok (.lneg, 1)) : rn d j Q pc lv (vl x :: st) M = rn d j Q (pc + 1) lv (vl (w64 (-x)) :: st) M := e_go h rfl
theorem e_l2i {x : Int} (h : decode (cOf j) pc = .ok (.l2i, 1)) : rn d j Q pc lv (vl x :: st) M = rn d j Q (pc + 1) lv (vi (w32 x) :: st) M := e_go h rfl
theorem e_dupvi {x : Int} (h : decode (cOf j) pc = .ok (.dup, 1)) : rn d j Q pc lv (vi x :: st) M = rn d j Q (pc + 1) lv (vi x :: vi x :: st) M := (e_go h rfl).trans (e_and rfl)
theorem e_popvi {x : Int} (h : decode (cOf j) pc = .ok (.pop, 1)) : rn d j Q pc lv (vi x :: st) M = rn d j Q (pc + 1) lv st M := (e_go h rfl).trans (e_and rfl)
theorem e_dupvr {x : Nat} (h : decode (cOf j) pc = .ok (.dup, 1)) : rn d j Q pc lv (vr x :: st) M = rn d j Q (pc + 1) lv (vr x :: vr x :: st) M := (e_go h rfl).trans (e_and rfl)
theorem e_popvr {x : Nat} (h : decode (cOf j) pc = .ok (.pop, 1)) : rn d j Q pc lv (vr x :: st) M = rn d j Q (pc + 1) lv st M := (e_go h rfl).trans (e_and rfl)
theorem e_dup2ir {x : Int} {k : Nat} (h : decode (cOf j) pc = .ok (.dup2, 1)) : rn d j Q pc lv (vi x :: vr k :: st) M = rn d j Q (pc + 1) lv (vi x :: vr k :: vi x :: vr k :: st) M := (e_go h rfl).trans ((e_and rfl).trans (e_and rfl))
theorem e_T {off : Int} {t : Nat} {k : Nat → Prop} (ht : (pc : Int) + off = (t : Int)) : xT pc off k = k t := by
  apply propext
  constructor
  · rintro ⟨u, h1, h2⟩
    have : u = t := by omega
    subst this; exact h2
  · intro h; exact ⟨t, ht, h⟩
theorem e_if_eq {off : Int} {t : Nat} {x : Int} (h : decode (cOf j) pc = .ok (.ifCond .eq off, 3)) (ht : (pc : Int) + off = (t : Int)) : rn d j Q pc lv (vi x :: st) M = xBr (x = 0) (rn d j Q) t (pc + 3) lv st M := (e_go h rfl).trans (e_T ht)
theorem e_ic_eq {off : Int} {t : Nat} {x y : Int} (h : decode (cOf j) pc = .ok (.if_icmp .eq off, 3)) (ht : (pc : Int) + off = (t : Int)) : rn d j Q pc lv (vi y :: vi x :: st) M = xBr (x = y) (rn d j Q) t (pc + 3) lv st M := (e_go h rfl).trans (e_T ht)
theorem e_if_ne {off : Int} {t : Nat} {x : Int} (h : decode (cOf j) pc = .ok (.ifCond .ne off, 3)) (ht : (pc : Int) + off = (t : Int)) : rn d j Q pc lv (vi x :: st) M = xBr (x ≠ 0) (rn d j Q) t (pc + 3) lv st M := (e_go h rfl).trans (e_T ht)
theorem e_ic_ne {off : Int} {t : Nat} {x y : Int} (h : decode (cOf j) pc = .ok (.if_icmp .ne off, 3)) (ht : (pc : Int) + off = (t : Int)) : rn d j Q pc lv (vi y :: vi x :: st) M = xBr (x ≠ y) (rn d j Q) t (pc + 3) lv st M := (e_go h rfl).trans (e_T ht)
theorem e_if_lt {off : Int} {t : Nat} {x : Int} (h : decode (cOf j) pc = .ok (.ifCond .lt off, 3)) (ht : (pc : Int) + off = (t : Int)) : rn d j Q pc lv (vi x :: st) M = xBr (x < 0) (rn d j Q) t (pc + 3) lv st M := (e_go h rfl).trans (e_T ht)
theorem e_ic_lt {off : Int} {t : Nat} {x y : Int} (h : decode (cOf j) pc = .ok (.if_icmp .lt off, 3)) (ht : (pc : Int) + off = (t : Int)) : rn d j Q pc lv (vi y :: vi x :: st) M = xBr (x < y) (rn d j Q) t (pc + 3) lv st M := (e_go h rfl).trans (e_T ht)
theorem e_if_ge {off : Int} {t : Nat} {x : Int} (h : decode (cOf j) pc = .ok (.ifCond .ge off, 3)) (ht : (pc : Int) + off = (t : Int)) : rn d j Q pc lv (vi x :: st) M = xBr (0 ≤ x) (rn d j Q) t (pc + 3) lv st M := (e_go h rfl).trans (e_T ht)
theorem e_ic_ge {off : Int} {t : Nat} {x y : Int} (h : decode (cOf j) pc = .ok (.if_icmp .ge off, 3)) (ht : (pc : Int) + off = (t : Int)) : rn d j Q pc lv (vi y :: vi x :: st) M = xBr (y ≤ x) (rn d j Q) t (pc + 3) lv st M := (e_go h rfl).trans (e_T ht)
theorem e_if_gt {off : Int} {t : Nat} {x : Int} (h : decode (cOf j) pc = .ok (.ifCond .gt off, 3)) (ht : (pc : Int) + off = (t : Int)) : rn d j Q pc lv (vi x :: st) M = xBr (0 < x) (rn d j Q) t (pc + 3) lv st M := (e_go h rfl).trans (e_T ht)
theorem e_ic_gt {off : Int} {t : Nat} {x y : Int} (h : decode (cOf j) pc = .ok (.if_icmp .gt off, 3)) (ht : (pc : Int) + off = (t : Int)) : rn d j Q pc lv (vi y :: vi x :: st) M = xBr (y < x) (rn d j Q) t (pc + 3) lv st M := (e_go h rfl).trans (e_T ht)
theorem e_if_le {off : Int} {t : Nat} {x : Int} (h : decode (cOf j) pc = .ok (.ifCond .le off, 3)) (ht : (pc : Int) + off = (t : Int)) : rn d j Q pc lv (vi x :: st) M = xBr (x ≤ 0) (rn d j Q) t (pc + 3) lv st M := (e_go h rfl).trans (e_T ht)
theorem e_ic_le {off : Int} {t : Nat} {x y : Int} (h : decode (cOf j) pc = .ok (.if_icmp .le off, 3)) (ht : (pc : Int) + off = (t : Int)) : rn d j Q pc lv (vi y :: vi x :: st) M = xBr (x ≤ y) (rn d j Q) t (pc + 3) lv st M := (e_go h rfl).trans (e_T ht)
theorem e_ifnull {off : Int} {t : Nat} {k : Nat} (h : decode (cOf j) pc = .ok (.ifnull off, 3)) (ht : (pc : Int) + off = (t : Int)) : rn d j Q pc lv (vr k :: st) M = (k ≠ 151 ∧ xBr (k = 0) (rn d j Q) t (pc + 3) lv st M) := (e_go h rfl).trans (e_T ht)
theorem e_ifnonnull {off : Int} {t : Nat} {k : Nat} (h : decode (cOf j) pc = .ok (.ifnonnull off, 3)) (ht : (pc : Int) + off = (t : Int)) : rn d j Q pc lv (vr k :: st) M = (k ≠ 151 ∧ xBr (k ≠ 0) (rn d j Q) t (pc + 3) lv st M) := (e_go h rfl).trans (e_T ht)
theorem e_goto {off : Int} {t : Nat} (h : decode (cOf j) pc = .ok (.goto off, 3)) (ht : (pc : Int) + off = (t : Int)) : rn d j Q pc lv st M = rn d j Q t lv st M := (e_go h rfl).trans (e_T ht)
theorem e_tsw {n : Nat} {df lo hi : Int} {offs : Array Int} {ts : List Nat} {t : Nat} {x : Int} (h : decode (cOf j) pc = .ok (.tableswitch df lo hi offs, n)) (h1 : (∀ o ∈ df :: offs.toList, 0 ≤ (pc : Int) + o) ∧ (hi - lo + 1 = (offs.size : Int))) (h2 : (offs.toList.map fun o => ((pc : Int) + o).toNat) = ts ∧ ((pc : Int) + df).toNat = t) : rn d j Q pc lv (vi x :: st) M = xSw (swT x lo ts t) (rn d j Q) lv st M := by
  obtain ⟨rfl, rfl⟩ := h2
  exact (e_go h rfl).trans ((e_and h1.1).trans (e_and h1.2))
theorem e_lsw {n : Nat} {df : Int} {ps : Array (Int × Int)} {ts : List (Int × Nat)} {t : Nat} {x : Int} (h : decode (cOf j) pc = .ok (.lookupswitch df ps, n)) (h1 : (∀ o ∈ df :: ps.toList.map Prod.snd, 0 ≤ (pc : Int) + o) ∧ ((ps.toList.zip (ps.toList.drop 1)).all (fun (a, next) => a.1 < next.1) = true)) (h2 : (ps.toList.map fun o => (o.1, ((pc : Int) + o.2).toNat)) = ts ∧ ((pc : Int) + df).toNat = t) : rn d j Q pc lv (vi x :: st) M = xSw (swL x ts t) (rn d j Q) lv st M := by
  obtain ⟨rfl, rfl⟩ := h2
  exact (e_go h rfl).trans ((e_and h1.1).trans (e_and h1.2))
theorem e_geti {x c f k : Nat} (h : decode (cOf j) pc = .ok (.getfield x, 3)) (hq : fR (oOf j) x = (c, f, 0) ∨ fR (oOf j) x = (c, f, 1) ∨ fR (oOf j) x = (c, f, 4)) : rn d j Q pc lv (vr k :: st) M = xGf (clO k) c (rn d j Q) (pc + 3) lv (vi (M k (f : Int))) st M := by
  refine (e_go h rfl).trans ?_
  show xGet (fR (oOf j) x) (rn d j Q) pc lv (vr k :: st) M = _
  rcases hq with hq | hq | hq <;> rw [hq] <;> rfl
theorem e_getr {x c f k : Nat} (h : decode (cOf j) pc = .ok (.getfield x, 3)) (hq : fR (oOf j) x = (c, f, 2)) : rn d j Q pc lv (vr k :: st) M = xGf (clO k) c (rn d j Q) (pc + 3) lv (vr (rf k (f : Int))) st M := by
  refine (e_go h rfl).trans ?_
  show xGet (fR (oOf j) x) (rn d j Q) pc lv (vr k :: st) M = _
  rw [hq]; rfl
theorem e_getd {x c f k : Nat} (h : decode (cOf j) pc = .ok (.getfield x, 3)) (hq : fR (oOf j) x = (c, f, 3)) : rn d j Q pc lv (vr k :: st) M = xGf (clO k) c (rn d j Q) (pc + 3) lv (vr (M k (f : Int)).toNat) st M := by
  refine (e_go h rfl).trans ?_
  show xGet (fR (oOf j) x) (rn d j Q) pc lv (vr k :: st) M = _
  rw [hq]; rfl
theorem e_puti {x c f k : Nat} {v : Int} (h : decode (cOf j) pc = .ok (.putfield x, 3)) (hq : fR (oOf j) x = (c, f, 0)) : rn d j Q pc lv (vi v :: vr k :: st) M = xPf (clO k) c (rn d j Q) (pc + 3) lv st (upC M k (mU (M k) (f : Int) v)) := by
  refine (e_go h rfl).trans ?_
  show xPut (fR (oOf j) x) (rn d j Q) pc lv (vi v :: vr k :: st) M = _
  rw [hq]; rfl
theorem e_putz {x c f k : Nat} {v : Int} (h : decode (cOf j) pc = .ok (.putfield x, 3)) (hq : fR (oOf j) x = (c, f, 1)) : rn d j Q pc lv (vi v :: vr k :: st) M = xPz (clO k) c v (rn d j Q) (pc + 3) lv st (upC M k (mU (M k) (f : Int) v)) := by
  refine (e_go h rfl).trans ?_
  show xPut (fR (oOf j) x) (rn d j Q) pc lv (vi v :: vr k :: st) M = _
  rw [hq]; rfl
theorem e_putd {x c f k v : Nat} (h : decode (cOf j) pc = .ok (.putfield x, 3)) (hq : fR (oOf j) x = (c, f, 3)) : rn d j Q pc lv (vr v :: vr k :: st) M = (v < 2147483648 ∧ xPf (clO k) c (rn d j Q) (pc + 3) lv st (upC M k (mU (M k) (f : Int) (v : Int)))) := by
  refine (e_go h rfl).trans ?_
  show xPut (fR (oOf j) x) (rn d j Q) pc lv (vr v :: vr k :: st) M = _
  rw [hq]; rfl
theorem e_getsi {x : Nat} {z : Int} (h : decode (cOf j) pc = .ok (.getstatic x, 3)) (hq : gR (oOf j) x = (1, z)) : rn d j Q pc lv st M = rn d j Q (pc + 3) lv (vi z :: st) M := by
  rw [e_go h rfl, mGo, hq]; rfl
theorem e_getsr {x z : Nat} (h : decode (cOf j) pc = .ok (.getstatic x, 3)) (hq : gR (oOf j) x = (2, (z : Int))) : rn d j Q pc lv st M = rn d j Q (pc + 3) lv (vr z :: st) M := by
  rw [e_go h rfl, mGo, hq]; rfl
theorem e_iaload {k : Nat} {i : Int} (h : decode (cOf j) pc = .ok (.iaload, 1)) : rn d j Q pc lv (vi i :: vr k :: st) M = xLd (ak k) (aln k) k i (rn d j Q) (pc + 1) lv st M := e_go h rfl
theorem e_baload {k : Nat} {i : Int} (h : decode (cOf j) pc = .ok (.baload, 1)) : rn d j Q pc lv (vi i :: vr k :: st) M = xLdb (ak k) (aln k) k i (rn d j Q) (pc + 1) lv st M := e_go h rfl
theorem e_laload {k : Nat} {i : Int} (h : decode (cOf j) pc = .ok (.laload, 1)) : rn d j Q pc lv (vi i :: vr k :: st) M = xLdl (ak k) (aln k) k i (rn d j Q) (pc + 1) lv st M := e_go h rfl
theorem e_aaload {k : Nat} {i : Int} (h : decode (cOf j) pc = .ok (.aaload, 1)) : rn d j Q pc lv (vi i :: vr k :: st) M = xLdr (ak k) (aln k) k i (rn d j Q) (pc + 1) lv st M := e_go h rfl
theorem e_iastore {k : Nat} {i v : Int} (h : decode (cOf j) pc = .ok (.iastore, 1)) : rn d j Q pc lv (vi v :: vi i :: vr k :: st) M = xSt (ak k) (aln k) k i v (rn d j Q) (pc + 1) lv st M := e_go h rfl
theorem e_bastore {k : Nat} {i v : Int} (h : decode (cOf j) pc = .ok (.bastore, 1)) : rn d j Q pc lv (vi v :: vi i :: vr k :: st) M = xStb (ak k) (aln k) k i v (rn d j Q) (pc + 1) lv st M := e_go h rfl
theorem e_lastore {k : Nat} {i v : Int} (h : decode (cOf j) pc = .ok (.lastore, 1)) : rn d j Q pc lv (vl v :: vi i :: vr k :: st) M = xStl (ak k) (aln k) k i v (rn d j Q) (pc + 1) lv st M := e_go h rfl
theorem e_alen {k : Nat} (h : decode (cOf j) pc = .ok (.arraylength, 1)) : rn d j Q pc lv (vr k :: st) M = xLen (ak k) (aln k) k (rn d j Q) (pc + 1) lv st M := e_go h rfl
theorem e_cpy {x : Nat} {a b : Nat} {sp dp n : Int} (h : decode (cOf j) pc = .ok (.invokestatic x, 3)) (hq : mR (oOf j) x = (9999, 5)) : rn d j Q pc lv (vi n :: vi dp :: vr b :: vi sp :: vr a :: st) M = (mcat st ≤ 8 ∧ xCpy (ak a) (ak b) (aln a) (aln b) a sp b dp n (rn d j Q) (pc + 3) lv st M) := by
  refine (e_go h rfl).trans ?_
  show xInvS (mR (oOf j) x) (mCall d) (rn d j Q) pc lv _ M = _
  rw [hq]; rfl
theorem e_max {x : Nat} {x0 y : Int} (h : decode (cOf j) pc = .ok (.invokestatic x, 3)) (hq : mR (oOf j) x = (9001, 2)) : rn d j Q pc lv (vi y :: vi x0 :: st) M = xMx (mcat st) (rn d j Q) (pc + 3) lv (vi (max x0 y)) st M := by
  refine (e_go h rfl).trans ?_
  show xInvS (mR (oOf j) x) (mCall d) (rn d j Q) pc lv _ M = _
  rw [hq]; rfl
theorem e_min {x : Nat} {x0 y : Int} (h : decode (cOf j) pc = .ok (.invokestatic x, 3)) (hq : mR (oOf j) x = (9002, 2)) : rn d j Q pc lv (vi y :: vi x0 :: st) M = xMx (mcat st) (rn d j Q) (pc + 3) lv (vi (min x0 y)) st M := by
  refine (e_go h rfl).trans ?_
  show xInvS (mR (oOf j) x) (mCall d) (rn d j Q) pc lv _ M = _
  rw [hq]; rfl
theorem e_abs {x : Nat} {x0 : Int} (h : decode (cOf j) pc = .ok (.invokestatic x, 3)) (hq : mR (oOf j) x = (9003, 1)) : rn d j Q pc lv (vi x0 :: st) M = xMx (mcat st) (rn d j Q) (pc + 3) lv (vi (iAbs x0)) st M := by
  refine (e_go h rfl).trans ?_
  show xInvS (mR (oOf j) x) (mCall d) (rn d j Q) pc lv _ M = _
  rw [hq]; rfl
theorem e_invS {x k n : Nat} {as : List mV} (h : decode (cOf j) pc = .ok (.invokestatic x, 3)) (hq : mR (oOf j) x = (k, n) ∧ k < 9000 ∧ stOf k = true) (ha : as.length = n) : rn d j Q pc lv (as ++ st) M = xIv (mcat st) 0 0 (mCall d k as.reverse M (mCont (rn d j Q) (pc + 3) lv st)) := by
  refine (e_go h rfl).trans ?_
  show xInvS (mR (oOf j) x) (mCall d) (rn d j Q) pc lv _ M = _
  rw [hq.1]
  unfold xInvS
  have hk := hq.2.1
  rw [if_neg (by show ¬ k = 9999; omega), if_neg (by show ¬ k = 9001; omega), if_neg (by show ¬ k = 9002; omega), if_neg (by show ¬ k = 9003; omega)]
  show ((k < 9000 ∧ stOf k = true) ∧ n ≤ (as ++ st).length ∧ xIv (mcat ((as ++ st).drop n)) 0 0 (mCall d k ((as ++ st).take n).reverse M (mCont (rn d j Q) (pc + 3) lv ((as ++ st).drop n)))) = _
  subst ha
  rw [List.drop_left, List.take_left]
  exact (e_and hq.2).trans (e_and (by rw [List.length_append]; omega))
theorem e_invV {x k n o : Nat} {as : List mV} {c : Nat} (h : decode (cOf j) pc = .ok (.invokevirtual x, 3)) (hq : mR (oOf j) x = (k, n) ∧ k < 9000 ∧ stOf k = false) (ho : oOf k = c) (ha : as.length + 1 = n) : rn d j Q pc lv (as ++ vr o :: st) M = xIv (mcat st) (clO o) c (mCall d k (vr o :: as.reverse) M (mCont (rn d j Q) (pc + 3) lv st)) := by
  refine (e_go h rfl).trans ?_
  show xInvV (mR (oOf j) x) (mCall d) (rn d j Q) pc lv _ M = _
  rw [hq.1]
  subst ha
  subst ho
  unfold xInvV
  dsimp only
  rw [show as.length + 1 - 1 = as.length from rfl, List.drop_left, show as ++ vr o :: st = (as ++ [vr o]) ++ st by simp, show as.length + 1 = (as ++ [vr o]).length by simp, List.take_left, List.reverse_append]
  refine (e_and hq.2).trans <| (e_and (by simp only [List.length_append]; omega)).trans ((e_and (by simp)).trans rfl)
theorem e_iret {x : Int} (h : decode (cOf j) pc = .ok (.ireturn, 1)) (hr : rtOf j = some .int) : rn d j Q pc lv [vi x] M = Q (some (vi x)) M := by
  refine (e_go h rfl).trans ?_
  show (rOK (rtOf j) x ∧ Q (some (vi x)) M) = _
  rw [hr]
  exact e_and trivial
theorem e_xret {x : Int} {t : Option FieldType} (h : decode (cOf j) pc = .ok (.ireturn, 1)) (hr : rtOf j = t) : rn d j Q pc lv [vi x] M = (rOK t x ∧ Q (some (vi x)) M) := by
  subst hr
  exact e_go h rfl
theorem e_lret {x : Int} (h : decode (cOf j) pc = .ok (.lreturn, 1)) (hr : rtOf j = some .long) : rn d j Q pc lv [vl x] M = Q (some (vl x)) M :=
  (e_go h rfl).trans (e_and hr)
theorem e_aret {k : Nat} (h : decode (cOf j) pc = .ok (.areturn, 1)) (hr : rfr (rtOf j) = true) : rn d j Q pc lv [vr k] M = (k ≠ 151 ∧ Q (some (vr k)) M) := by
  refine (e_go h rfl).trans ?_
  show (k ≠ 151 ∧ rfr (rtOf j) = true ∧ Q (some (vr k)) M) = _
  rw [e_and hr]
theorem e_ret (h : decode (cOf j) pc = .ok (.return_, 1)) (hr : rtOf j = none) : rn d j Q pc lv [] M = Q none M :=
  (e_go h rfl).trans (e_and hr)
end Erows
