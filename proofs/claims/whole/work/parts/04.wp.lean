/-! A STEP, AND A STRETCH, OF A METHOD OVER THE MEMORY -/
abbrev KKy : Type := List (Option Value) → List Value → Nat → Nat → TTy → MIy → MJy → MRy → Prop
abbrev QQy : Type := Option Value → TTy → MIy → MJy → MRy → Prop
abbrev RNy : Type := Nat → List Value → TTy → MIy → MJy → MRy → QQy → Prop
abbrev RTy : Type := Option Value → Nat → Nat → TTy → MIy → MJy → MRy → Prop
abbrev EEy : Type := Nat × Instr × Nat × Nat × Nat × Nat × Value
def pI (st : List Value) (k : Int32 → List Value → Prop) : Prop := match st with
  | .int x :: st => k x st
  | _ => False
def pII (st : List Value) (k : Int32 → Int32 → List Value → Prop) : Prop := match st with
  | .int y :: .int x :: st => k x y st
  | _ => False
def pL (st : List Value) (k : Int64 → List Value → Prop) : Prop := match st with
  | .long x :: st => k x st
  | _ => False
def pLL (st : List Value) (k : Int64 → Int64 → List Value → Prop) : Prop := match st with
  | .long y :: .long x :: st => k x y st
  | _ => False
def pIL (st : List Value) (k : Int64 → Int32 → List Value → Prop) : Prop := match st with
  | .int y :: .long x :: st => k x y st
  | _ => False
def pR (st : List Value) (k : Nat → List Value → Prop) : Prop := match st with
  | .ref a :: st => k a st
  | _ => False
def pIR (st : List Value) (k : Nat → Int32 → List Value → Prop) : Prop := match st with
  | .int i :: .ref a :: st => k a i st
  | _ => False
def pIIR (st : List Value) (k : Nat → Int32 → Int32 → List Value → Prop) : Prop := match st with
  | .int x :: .int i :: .ref a :: st => k a i x st
  | _ => False
def pLIR (st : List Value) (k : Nat → Int32 → Int64 → List Value → Prop) : Prop := match st with
  | .long x :: .int i :: .ref a :: st => k a i x st
  | _ => False
def pRIR (st : List Value) (k : Nat → Int32 → Nat → List Value → Prop) : Prop := match st with
  | .ref v :: .int i :: .ref a :: st => k a i v st
  | _ => False
def popN : Nat → List Value → List Value → (List Value → List Value → Prop) → Prop
  | 0, acc, st, k => k acc st
  | _ + 1, _, [], _ => False
  | n + 1, acc, v :: st, k => popN n (v :: acc) st k
def vt : Option Value → List Value → List Value
  | some v, st => v :: st
  | none, st => st
def sL : Nat → List Value → Prop
  | _, [] => True
  | n + 2, .long _ :: l => sL n l
  | n + 1, .int _ :: l => sL n l
  | n + 1, .ref _ :: l => sL n l
  | n + 1, .null :: l => sL n l
  | _, _ => False
def brc (c : Jvm.ClassFile.Cond) (x y : Int32) (A B : Prop) : Prop := match c with
  | .eq => (x = y → A) ∧ (¬ x = y → B)
  | .ne => (¬ x = y → A) ∧ (x = y → B)
  | .lt => (x < y → A) ∧ (¬ x < y → B)
  | .ge => (y ≤ x → A) ∧ (¬ y ≤ x → B)
  | .gt => (y < x → A) ∧ (¬ y < x → B)
  | .le => (x ≤ y → A) ∧ (¬ x ≤ y → B)
def lda (ls : List (Option Value)) (i : Nat) (k : Value → Prop) : Prop := match gl ls i with
  | some (.ref a) => k (.ref a)
  | some .null => k .null
  | _ => False
def ldi (ls : List (Option Value)) (i : Nat) (k : Int32 → Prop) : Prop := match gl ls i with
  | some (.int x) => k x
  | _ => False
def ldl (ls : List (Option Value)) (i : Nat) (k : Int64 → Prop) : Prop := match gl ls i with
  | some (.long x) => k x
  | _ => False
def sta (st : List Value) (k : Value → List Value → Prop) : Prop := match st with
  | .ref a :: st => k (.ref a) st
  | .null :: st => k .null st
  | _ => False
/-- what a field gives: v tells its kind (.int, .float for a boolean, .long, .null for a reference) -/
def gf (v : Value) (I : MIy) (J : MJy) (R : MRy) (o k : Nat) : Value := match v with
  | .long _ => .long (J o k)
  | .null => va_rf (R o k)
  | _ => .int (I o k)
def pfd (v : Value) (st : List Value) (T : TTy) (ci : Nat) (I : MIy) (J : MJy) (R : MRy) (k : Nat) (nx : List Value → MIy → MJy → MRy → Prop) : Prop := match v, st with
  | .int _, .int x :: .ref o :: st => T o = some (ci, 0) ∧ nx st (u2 I o k x) J R
  | .float _, .int x :: .ref o :: st => T o = some (ci, 0) ∧ (x = 0 ∨ x = 1) ∧ nx st (u2 I o k x) J R
  | .long _, .long x :: .ref o :: st => T o = some (ci, 0) ∧ nx st I (u2 J o k x) R
  | .null, .ref b :: .ref o :: st => T o = some (ci, 0) ∧ nx st I J (u2 R o k (some b))
  | _, _ => False
def tyI : Option (Nat × Nat) → Int32 → Prop
  | some (kd, n), i => (kd = 14 ∨ kd = 21) ∧ vp_in i n
  | none, _ => False
def tyIs : Nat → Option (Nat × Nat) → Int32 → Prop
  | k, some (kd, n), i => kd = k ∧ vp_in i n
  | _, none, _ => False
def tyB : Option (Nat × Nat) → Int32 → Prop
  | some (kd, n), i => (kd = 13 ∨ kd = 16) ∧ vp_in i n
  | none, _ => False
def tyQ : Option (Nat × Nat) → Int32 → Prop
  | some (kd, n), i => (17 ≤ kd ∧ kd < 21) ∧ vp_in i n
  | none, _ => False
def tyN : Option (Nat × Nat) → (Int32 → Prop) → Prop
  | some (kd, n), k => 13 ≤ kd ∧ k (nI n)
  | none, _ => False
def nbk : Option (Nat × Nat) → Int32 → Int32
  | some (13, _), x => x.toInt8.toInt32
  | _, x => x &&& 1
def ekd : Nat → Nat
  | 17 => 0
  | 18 => 4
  | 19 => 5
  | _ => 6
def elOk : Option (Nat × Nat) → Option (Nat × Nat) → Prop
  | some (kd, _), some (ci, n) => ci = ekd kd ∧ n = 0
  | _, _ => False
def isO : Nat → List Value → TTy → Prop
  | ci, .ref o :: _, T => T o = some (ci, 0)
  | _, _, _ => False
def swl (J : Nat → Prop) (pc : Nat) (x : Int) : Int → List Int → Prop
  | _, [] => True
  | i, off :: l => (x = i → 0 ≤ (pc : Int) + off ∧ J ((pc : Int) + off).toNat) ∧ swl J pc x (i + 1) l
def cpyI (I : MIy) (a b : Nat) (sp dp n : Nat) : MIy := fun x j => if x = b then va_cpy (I a) (I b) sp dp n j else I x j
def pCp (st : List Value) (k : Nat → Int32 → Nat → Int32 → Int32 → List Value → Prop) : Prop := match st with
  | .int n :: .int dp :: .ref b :: .int sp :: .ref a :: st => k a sp b dp n st
  | _ => False
def mcM (b : Nat) : Nat := (rmM b).cells
def msM (b : Nat) : Nat := (rmM b).slots
/-- what follows a call, closed -/
def kc (nx : KKy) (ls : List (Option Value)) (rest : List Value) (c n : Nat) : QQy := fun w T I J R => nx ls (vt w rest) c n T I J R
/-- a call: kind, method, its arguments, its kind -/
def inv (Rc Rs : Nat) (rn : RNy) (nx : KKy) (a b d ci : Nat) (ls : List (Option Value)) (st : List Value) (c n : Nat) (T : TTy) (I : MIy) (J : MJy) (R : MRy) : Prop := match a with
  | 0 => popN d [] st fun as rest => sL 8 rest ∧ isO ci as T ∧ rn b as T I J R (kc nx ls rest c n)
  | 1 => popN d [] st fun as rest => sL 8 rest ∧ rn b as T I J R (kc nx ls rest c n)
  | 2 => popN d [] st fun as rest => sL 8 rest ∧ isO ci as T ∧ rn b as T I J R (kc nx ls rest c n)
  | 4 => popN d [] st fun as rest => sL 8 rest ∧ rn b as T I J R (kc nx ls rest c n)
  | 5 => popN d [] st fun as rest => sL 8 rest ∧ isO ci as T ∧ rn b as T I J R (kc nx ls rest c n)
  | 10 => pII st fun x y st => sL 8 st ∧ nx ls (.int (if y < x then y else x) :: st) c n T I J R
  | 11 => pII st fun x y st => sL 8 st ∧ nx ls (.int (if x < y then y else x) :: st) c n T I J R
  | 12 => pI st fun x st => sL 8 st ∧ nx ls (.int (if 0 ≤ x then x else 0 - x) :: st) c n T I J R
  | 13 => pCp st fun a sp b dp k st => sL 8 st ∧ a ≠ b ∧ (∃ m, T a = some (14, m) ∧ sp.toNatClampNeg + k.toNatClampNeg ≤ m) ∧ (∃ m, T b = some (14, m) ∧ dp.toNatClampNeg + k.toNatClampNeg ≤ m) ∧ ¬ sp < 0 ∧ ¬ dp < 0 ∧ ¬ k < 0 ∧ nx ls st c n T (cpyI I a b sp.toNatClampNeg dp.toNatClampNeg k.toNatClampNeg) J R
  | 14 => pR st fun _ st => sL 8 st ∧ nx ls st c n T I J R
  | 20 => popN d [] st fun as rest => sL 8 rest ∧ isO ci as T ∧ c + mcM b ≤ Rc ∧ n + msM b ≤ Rs ∧ rn b as T I J R (kc nx ls rest (c + mcM b) (n + msM b))
  | 22 => popN d [] st fun as rest => sL 8 rest ∧ isO ci as T ∧ c + mcM b ≤ Rc ∧ n + msM b ≤ Rs ∧ rn b as T I J R (kc nx ls rest (c + mcM b) (n + msM b))
  | 25 => popN d [] st fun as rest => sL 8 rest ∧ isO ci as T ∧ c + mcM b ≤ Rc ∧ n + msM b ≤ Rs ∧ rn b as T I J R (kc nx ls rest (c + mcM b) (n + msM b))
  | _ => False
def vNat : Value → Nat
  | .ref k => k
  | _ => 0
def vI : Value → Int32
  | .int x => x
  | _ => 0
def stp (Rc Rs : Nat) (rn : RNy) (nx : KKy) (jp : Nat → KKy) (rt : RTy) (e : EEy) (ls : List (Option Value)) (st : List Value) (c n : Nat) (T : TTy) (I : MIy) (J : MJy) (R : MRy) : Prop := match e with
  | (pc, ins, _, a, b, d, v) => match ins with
    | .iconst _ => nx ls (v :: st) c n T I J R
    | .bipush _ => nx ls (v :: st) c n T I J R
    | .sipush _ => nx ls (v :: st) c n T I J R
    | .lconst _ => nx ls (v :: st) c n T I J R
    | .ldc _ => nx ls (v :: st) c n T I J R
    | .ldc_w _ => nx ls (v :: st) c n T I J R
    | .ldc2_w _ => nx ls (v :: st) c n T I J R
    | .aconst_null => nx ls (.null :: st) c n T I J R
    | .iload i => ldi ls i fun x => nx ls (.int x :: st) c n T I J R
    | .iload_n i => ldi ls a fun x => nx ls (.int x :: st) c n T I J R
    | .lload i => ldl ls i fun x => nx ls (.long x :: st) c n T I J R
    | .lload_n i => ldl ls a fun x => nx ls (.long x :: st) c n T I J R
    | .aload i => lda ls i fun x => nx ls (x :: st) c n T I J R
    | .aload_n i => lda ls a fun x => nx ls (x :: st) c n T I J R
    | .istore i => pI st fun x st => nx (st1 ls i (.int x)) st c n T I J R
    | .istore_n i => pI st fun x st => nx (st1 ls a (.int x)) st c n T I J R
    | .lstore i => pL st fun x st => nx (st2 ls i (.long x)) st c n T I J R
    | .lstore_n i => pL st fun x st => nx (st2 ls a (.long x)) st c n T I J R
    | .astore i => sta st fun x st => nx (st1 ls i x) st c n T I J R
    | .astore_n i => sta st fun x st => nx (st1 ls a x) st c n T I J R
    | .iinc i _ => ldi ls i fun x => nx (st1 ls i (.int (x + vI v))) st c n T I J R
    | .iadd => pII st fun x y st => nx ls (.int (x + y) :: st) c n T I J R
    | .isub => pII st fun x y st => nx ls (.int (x - y) :: st) c n T I J R
    | .imul => pII st fun x y st => nx ls (.int (x * y) :: st) c n T I J R
    | .iand => pII st fun x y st => nx ls (.int (x &&& y) :: st) c n T I J R
    | .ixor => pII st fun x y st => nx ls (.int (x ^^^ y) :: st) c n T I J R
    | .idiv => pII st fun x y st => ¬ y = 0 ∧ nx ls (.int (x / y) :: st) c n T I J R
    | .irem => pII st fun x y st => ¬ y = 0 ∧ nx ls (.int (x - x / y * y) :: st) c n T I J R
    | .ineg => pI st fun x st => nx ls (.int (-x) :: st) c n T I J R
    | .i2l => pI st fun x st => nx ls (.long x.toInt64 :: st) c n T I J R
    | .i2b => pI st fun x st => nx ls (.int x.toInt8.toInt32 :: st) c n T I J R
    | .l2i => pL st fun x st => nx ls (.int x.toInt32 :: st) c n T I J R
    | .ladd => pLL st fun x y st => nx ls (.long (x + y) :: st) c n T I J R
    | .lsub => pLL st fun x y st => nx ls (.long (x - y) :: st) c n T I J R
    | .lmul => pLL st fun x y st => nx ls (.long (x * y) :: st) c n T I J R
    | .land => pLL st fun x y st => nx ls (.long (x &&& y) :: st) c n T I J R
    | .lor => pLL st fun x y st => nx ls (.long (x ||| y) :: st) c n T I J R
    | .ldiv => pLL st fun x y st => ¬ y = 0 ∧ nx ls (.long (x / y) :: st) c n T I J R
    | .lrem => pLL st fun x y st => ¬ y = 0 ∧ nx ls (.long (x - x / y * y) :: st) c n T I J R
    | .lushr => pIL st fun x y st => nx ls (.long (x.toUInt64 >>> (y.toInt64.toUInt64 &&& Int64.toUInt64 63)).toInt64 :: st) c n T I J R
    | .lshl => pIL st fun x y st => nx ls (.long (x <<< (y.toInt64 &&& 63)) :: st) c n T I J R
    | .lcmp => pLL st fun x y st => nx ls (.int (lg_cmp x y) :: st) c n T I J R
    | .dup => (match st with
      | .int x :: st => nx ls (.int x :: .int x :: st) c n T I J R
      | .ref x :: st => nx ls (.ref x :: .ref x :: st) c n T I J R
      | _ => False)
    | .pop => (match st with
      | .int x :: st => nx ls st c n T I J R
      | .ref x :: st => nx ls st c n T I J R
      | _ => False)
    | .dup2 => (match st with
      | .int x :: .ref y :: st => nx ls (.int x :: .ref y :: .int x :: .ref y :: st) c n T I J R
      | _ => False)
    | .if_icmp cd _ => pII st fun x y st => brc cd x y (jp a ls st c n T I J R) (nx ls st c n T I J R)
    | .ifCond cd _ => pI st fun x st => brc cd x 0 (jp a ls st c n T I J R) (nx ls st c n T I J R)
    | .goto _ => jp a ls st c n T I J R
    | .ifnull _ => (match st with
      | .ref _ :: st => nx ls st c n T I J R
      | .null :: st => jp a ls st c n T I J R
      | _ => False)
    | .ifnonnull _ => (match st with
      | .ref _ :: st => jp a ls st c n T I J R
      | .null :: st => nx ls st c n T I J R
      | _ => False)
    | .tableswitch dflt lo hi offs => pI st fun x st => (x.toInt < lo ∨ hi < x.toInt → 0 ≤ (pc : Int) + dflt ∧ jp ((pc : Int) + dflt).toNat ls st c n T I J R) ∧ hi = lo + offs.toList.length - 1 ∧ swl (fun t => jp t ls st c n T I J R) pc x.toInt lo offs.toList
    | .lookupswitch dflt ps => pI st fun x st => 0 ≤ (pc : Int) + Op.lookupswitch.offset ps.toList dflt x.toInt ∧ jp ((pc : Int) + Op.lookupswitch.offset ps.toList dflt x.toInt).toNat ls st c n T I J R
    | .getfield _ => pR st fun o st => T o = some (a, 0) ∧ nx ls (gf v I J R o b :: st) c n T I J R
    | .putfield _ => pfd v st T a I J R b fun st I J R => nx ls st c n T I J R
    | .getstatic _ => nx ls (.ref 0 :: st) c n T I J R
    | .iaload => pIR st fun o i st => tyI (T o) i ∧ nx ls (.int (I o i.toNatClampNeg) :: st) c n T I J R
    | .baload => pIR st fun o i st => tyB (T o) i ∧ nx ls (.int (I o i.toNatClampNeg) :: st) c n T I J R
    | .laload => pIR st fun o i st => tyIs 15 (T o) i ∧ nx ls (.long (J o i.toNatClampNeg) :: st) c n T I J R
    | .aaload => pIR st fun o i st => tyQ (T o) i ∧ nx ls (va_rf (R o i.toNatClampNeg) :: st) c n T I J R
    | .iastore => pIIR st fun o i x st => tyIs 14 (T o) i ∧ nx ls st c n T (u2 I o i.toNatClampNeg x) J R
    | .bastore => pIIR st fun o i x st => tyB (T o) i ∧ nx ls st c n T (u2 I o i.toNatClampNeg (nbk (T o) x)) J R
    | .lastore => pLIR st fun o i x st => tyIs 15 (T o) i ∧ nx ls st c n T I (u2 J o i.toNatClampNeg x) R
    | .aastore => pRIR st fun o i x st => tyQ (T o) i ∧ elOk (T o) (T x) ∧ nx ls st c n T I J (u2 R o i.toNatClampNeg (some x))
    | .arraylength => pR st fun o st => tyN (T o) fun x => nx ls (.int x :: st) c n T I J R
    | .new _ => ∃ q, T q = none ∧ c + 1 ≤ Rc ∧ n + b ≤ Rs ∧ nx ls (.ref q :: st) (c + 1) (n + b) (uT T q (a, 0)) (r0 I q 0) (r0 J q 0) (r0 R q none)
    | .newarray _ => pI st fun x st => ¬ x < 0 ∧ x.toNatClampNeg ≤ 60000 ∧ ∃ q, T q = none ∧ c + 1 ≤ Rc ∧ n + x.toNatClampNeg ≤ Rs ∧ nx ls (.ref q :: st) (c + 1) (n + x.toNatClampNeg) (uT T q (a, x.toNatClampNeg)) (r0 I q 0) (r0 J q 0) (r0 R q none)
    | .anewarray _ => pI st fun x st => ¬ x < 0 ∧ x.toNatClampNeg ≤ 60000 ∧ ∃ q, T q = none ∧ c + 1 ≤ Rc ∧ n + x.toNatClampNeg ≤ Rs ∧ nx ls (.ref q :: st) (c + 1) (n + x.toNatClampNeg) (uT T q (a, x.toNatClampNeg)) (r0 I q 0) (r0 J q 0) (r0 R q none)
    | .invokevirtual _ => inv Rc Rs rn nx a b d (vNat v) ls st c n T I J R
    | .invokestatic _ => inv Rc Rs rn nx a b d (vNat v) ls st c n T I J R
    | .invokespecial _ => inv Rc Rs rn nx a b d (vNat v) ls st c n T I J R
    | .ireturn => (match st with
      | [.int x] => rt (some (.int x)) c n T I J R
      | _ => False)
    | .lreturn => (match st with
      | [.long x] => rt (some (.long x)) c n T I J R
      | _ => False)
    | .areturn => (match st with
      | [.ref x] => rt (some (.ref x)) c n T I J R
      | [.null] => rt (some .null) c n T I J R
      | _ => False)
    | .return_ => (match st with
      | [] => rt none c n T I J R
      | _ => False)
    | _ => False
def bk : List (Nat × List EEy) → Nat → List EEy
  | [], _ => []
  | (p, b) :: r, t => if t = p then b else bk r t
def jpK (K : Nat → KKy) (B : List (Nat × List EEy)) (cut : List Nat) (w : Nat → List EEy → KKy) : Nat → KKy := fun t ls st c n T I J R => if t ∈ cut then K t ls st c n T I J R else w t (bk B t) ls st c n T I J R
def wpk (Rc Rs : Nat) (rn : RNy) (K : Nat → KKy) (rt : RTy) (B : List (Nat × List EEy)) (cut : List Nat) : Nat → Nat → List EEy → KKy
  | 0, pc, _, ls, st, c, n, T, I, J, R => K pc ls st c n T I J R
  | f + 1, pc, [], ls, st, c, n, T, I, J, R => jpK K B cut (wpk Rc Rs rn K rt B cut f) pc ls st c n T I J R
  | f + 1, _, e :: r, ls, st, c, n, T, I, J, R => stp Rc Rs rn (wpk Rc Rs rn K rt B cut f (e.1 + e.2.2.1) r) (jpK K B cut (wpk Rc Rs rn K rt B cut f)) rt e ls st c n T I J R
