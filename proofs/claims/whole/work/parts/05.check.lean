/-! WHAT A PROGRAM CHECKS OF A METHOD'S LISTED CODE -/
def isI : Value → Bool
  | .int _ => true
  | _ => false
def isLg : Value → Bool
  | .long _ => true
  | _ => false
def vL : Value → Int64
  | .long x => x
  | _ => 0
def tagF : Value → Nat
  | .int _ => 0
  | .long _ => 1
  | .null => 2
  | .float _ => 3
  | _ => 4
def akd : Nat → FieldType
  | 13 => .byte
  | 14 => .int
  | 15 => .long
  | _ => .boolean
theorem cl_notMH : ∀ o, o < 16 → clN o ≠ "java/lang/invoke/MethodHandle" ∧ clN o ≠ "java/lang/invoke/VarHandle" := by decide +kernel
def roomOk (mi b : Nat) : Bool := decide ((rmM b).frames + 1 ≤ (rmM mi).frames) && decide (8 + (lM b + 11) + (rmM b).locals ≤ (rmM mi).locals)
/-- a call's entry: kinds below 20 make nothing -/
def okInv (mi : Nat) (st ini : Bool) (i a b d : Nat) (v : Value) : Bool := match a with
  | 0 => (!st && !ini) && decide (d = npT b + 1) && decide (b < 239) && decide (oM b < 13) && roomOk mi b && mL0.any (fun l => decide ((oM mi, i, b) ∈ l)) && decide (vNat v = oM b) && decide ((rmM b).cells = 0) && decide ((rmM b).slots = 0)
  | 1 => st && decide (d = npT b) && decide (b < 239) && decide (oM b < 16) && roomOk mi b && mL1.any (fun l => decide ((oM mi, i, b) ∈ l)) && decide ((rmM b).cells = 0) && decide ((rmM b).slots = 0)
  | 2 => ini && decide (d = npT b + 1) && decide (b < 239) && decide (oM b < 13) && roomOk mi b && mL2.any (fun l => decide ((oM mi, i, b) ∈ l)) && decide (vNat v = oM b) && decide ((rmM b).cells = 0) && decide ((rmM b).slots = 0)
  | 4 => st && decide (d = npT b) && decide (b < 239) && decide (oM b < 16) && roomOk mi b && mL4.any (fun l => decide ((oM mi, i, b) ∈ l)) && decide ((rmM b).cells = 0) && decide ((rmM b).slots = 0)
  | 5 => ini && decide (d = npT b + 1) && decide (b < 239) && decide (oM b < 13) && roomOk mi b && mL5.any (fun l => decide ((oM mi, i, b) ∈ l)) && decide (vNat v = oM b) && decide ((rmM b).cells = 0) && decide ((rmM b).slots = 0)
  | 20 => (!st && !ini) && decide (d = npT b + 1) && decide (b < 239) && decide (oM b < 13) && roomOk mi b && mL0.any (fun l => decide ((oM mi, i, b) ∈ l)) && decide (vNat v = oM b)
  | 22 => ini && decide (d = npT b + 1) && decide (b < 239) && decide (oM b < 13) && roomOk mi b && mL2.any (fun l => decide ((oM mi, i, b) ∈ l)) && decide (vNat v = oM b)
  | 25 => ini && decide (d = npT b + 1) && decide (b < 239) && decide (oM b < 13) && roomOk mi b && mL5.any (fun l => decide ((oM mi, i, b) ∈ l)) && decide (vNat v = oM b)
  | _ => false
def okNat (mi : Nat) (st ini : Bool) (i a b d : Nat) : Bool := match a with
  | 10 => st && wAt b (.methodLink (clN (oM mi)) i Lib.Math.min.name) && decide (1 ≤ (rmM mi).frames) && decide (21 ≤ (rmM mi).locals)
  | 11 => st && wAt b (.methodLink (clN (oM mi)) i Lib.Math.max.name) && decide (1 ≤ (rmM mi).frames) && decide (21 ≤ (rmM mi).locals)
  | 12 => st && wAt b (.methodLink (clN (oM mi)) i Lib.Math.abs.name) && decide (1 ≤ (rmM mi).frames) && decide (21 ≤ (rmM mi).locals)
  | 13 => st && wAt b (.methodLink (clN (oM mi)) i arraycopyName) && decide (1 ≤ (rmM mi).frames) && decide (30 ≤ (rmM mi).locals)
  | 14 => ini && wAt b (.methodLink (clN (oM mi)) i objectInit) && decide (1 ≤ (rmM mi).frames) && decide (20 ≤ (rmM mi).locals)
  | _ => false
def okE2 (mi : Nat) (e : EEy) : Bool := match e with
  | (pc, ins, len, a, b, d, v) => match ins with
    | .iconst z => decide (v = .int (Int32.ofInt z)) && decide (len = 1)
    | .bipush z => decide (v = .int (Int8.ofInt z).toInt32) && decide (len = 2)
    | .sipush z => decide (v = .int (Int16.ofInt z).toInt32) && decide (len = 3)
    | .lconst z => decide (v = .long (Int64.ofNat (z : Nat))) && decide (len = 1)
    | .ldc i => wAt b (.constant (clN (oM mi)) i (vI v)) && isI v && decide (len = 2)
    | .ldc_w i => wAt b (.constant (clN (oM mi)) i (vI v)) && isI v && decide (len = 3)
    | .ldc2_w i => wAt b (.constantLong (clN (oM mi)) i (vL v)) && isLg v && decide (len = 3)
    | .iload _ => decide (len = 2)
    | .lload _ => decide (len = 2)
    | .aload _ => decide (len = 2)
    | .iload_n i => decide ((i : Nat) = a) && decide (len = 1)
    | .lload_n i => decide ((i : Nat) = a) && decide (len = 1)
    | .aload_n i => decide ((i : Nat) = a) && decide (len = 1)
    | .istore i => decide (i < lM mi) && decide (len = 2)
    | .astore i => decide (i < lM mi) && decide (len = 2)
    | .lstore i => decide (i + 1 < lM mi) && decide (len = 2)
    | .istore_n i => decide ((i : Nat) = a) && decide (a < lM mi) && decide (len = 1)
    | .astore_n i => decide ((i : Nat) = a) && decide (a < lM mi) && decide (len = 1)
    | .lstore_n i => decide ((i : Nat) = a) && decide (a + 1 < lM mi) && decide (len = 1)
    | .iinc i z => decide (Int32.ofInt z = vI v) && decide (i < lM mi) && decide (len = 3)
    | .if_icmp _ off => decide ((pc : Int) + off = (a : Int)) && decide (len = 3)
    | .ifCond _ off => decide ((pc : Int) + off = (a : Int)) && decide (len = 3)
    | .goto off => decide ((pc : Int) + off = (a : Int)) && decide (len = 3)
    | .ifnull off => decide ((pc : Int) + off = (a : Int)) && decide (len = 3)
    | .ifnonnull off => decide ((pc : Int) + off = (a : Int)) && decide (len = 3)
    | .tableswitch _ _ _ _ => true
    | .lookupswitch _ ps => (ps.toList.zip (ps.toList.drop 1)).all (fun (a, next) => a.1 < next.1)
    | .getfield i => decide ((oM mi, i, a, b, d) ∈ fT) && decide (tagF v = fk a b) && decide (len = 3)
    | .putfield i => decide ((oM mi, i, a, b, d) ∈ fT) && decide (tagF v = fk a b) && decide (len = 3) && (if ((TXf a) b).2.2.2 = true then decide ((yM mi).name = "<init>") && decide (oM mi = a) else true)
    | .getstatic i => wAt b (.fieldLink (clN (oM mi)) i "TelegraphHouse" "ZONE_CENTS" "[I") && decide (len = 3)
    | .new i => kT.any (fun q => decide (q.1 = oM mi ∧ q.2.1 = i ∧ q.2.2.1 = a)) && decide (b = nfM a) && decide (len = 3)
    | .newarray t => decide (13 ≤ a) && decide (a < 17) && decide (newarray.typeOf t = akd a) && wAt b (.arrayClass (akd a)) && decide (len = 2)
    | .anewarray i => decide (17 ≤ a) && decide (a < 21) && wAt b (.classLink (clN (oM mi)) i (clN (ekd a))) && decide (len = 3)
    | .invokevirtual i => okInv mi false false i a b d v && decide (len = 3)
    | .invokestatic i => (okInv mi true false i a b d v || okNat mi true false i a b d) && decide (len = 3)
    | .invokespecial i => (okInv mi false true i a b d v || okNat mi false true i a b d) && decide (len = 3)
    | _ => decide (len = 1)
def okE (mi : Nat) (e : EEy) : Bool := decide (decode (cM mi) e.1 = .ok (e.2.1, e.2.2.1)) && okE2 mi e
def okL (mi : Nat) : Nat → List EEy → Bool
  | _, [] => true
  | pc, e :: r => decide (e.1 = pc) && okE mi e && okL mi (pc + e.2.2.1) r
def okB (mi : Nat) (B : List (Nat × List EEy)) : Bool := B.all (fun q => okL mi q.1 q.2)
theorem okB_at {mi : Nat} : ∀ {B : List (Nat × List EEy)}, okB mi B = true → ∀ t, okL mi t (bk B t) = true
  | [], _, t => rfl
  | (p, b) :: r, h, t => by
    simp only [okB, List.all_cons, Bool.and_eq_true] at h
    unfold bk
    by_cases e : t = p
    · subst e
      rw [if_pos rfl]
      exact h.1
    · rw [if_neg e]
      exact okB_at (B := r) h.2 t
