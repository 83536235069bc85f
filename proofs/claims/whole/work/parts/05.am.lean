/-! THE ABSTRACT MACHINE: whole numbers in place of Int32, a memory by address and place, relative addresses (0 the script, i + 1 the i-th cell made) -/
/-- a value: an int, a long, a reference (null: none) -/
abbrev V : Type := Int ⊕ Int ⊕ Option Nat
/-- a memory: kinds (0..10 objects by class, 20 int[], 21 Call[], 22 Scene[], 30 the script, 31 nothing yet), lengths, ints, references, cells made, slots made -/
abbrev Hp : Type := (Nat → Nat) × (Nat → Int) × (Nat → Int → Int) × (Nat → Int → Option Nat) × Nat × Nat
def tg (G : Hp) (a : Nat) : Nat := G.1 a
def ln (G : Hp) (a : Nat) : Int := G.2.1 a
def iv (G : Hp) (a : Nat) (k : Int) : Int := G.2.2.1 a k
def rv (G : Hp) (a : Nat) (k : Int) : Option Nat := G.2.2.2.1 a k
def sz (G : Hp) : Nat := G.2.2.2.2.1
def sl (G : Hp) : Nat := G.2.2.2.2.2
def si (G : Hp) (a : Nat) (k v : Int) : Hp := (G.1, G.2.1, fun b j => if b = a ∧ j = k then v else G.2.2.1 b j, G.2.2.2)
def sr (G : Hp) (a : Nat) (k : Int) (r : Option Nat) : Hp := (G.1, G.2.1, G.2.2.1, fun b j => if b = a ∧ j = k then r else G.2.2.2.1 b j, G.2.2.2.2)
def nw (G : Hp) (t : Nat) (n : Int) (w : Nat) : Hp := (fun b => if b = sz G + 1 then t else G.1 b, fun b => if b = sz G + 1 then n else G.2.1 b, fun b j => if b = sz G + 1 then 0 else G.2.2.1 b j, fun b j => if b = sz G + 1 then none else G.2.2.2.1 b j, sz G + 1, sl G + w)
def cp (G : Hp) (a : Nat) (sp : Int) (b : Nat) (dp n : Int) : Hp := (G.1, G.2.1, fun c j => if c = b ∧ dp ≤ j ∧ j < dp + n then G.2.2.1 a (sp + (j - dp)) else G.2.2.1 c j, G.2.2.2)
abbrev Ls : Type := List (Option V)
abbrev Ot : Type := (Nat × Ls × List V × Hp) ⊕ (Nat × List V × Nat × List V) ⊕ Option V
def wr (x : Int) : Int := Int.bmod x 4294967296
def wl (x : Int) : Int := Int.bmod x 18446744073709551616
def i32 (x : Int) : Prop := -2147483648 ≤ x ∧ x < 2147483648
def i64 (x : Int) : Prop := -9223372036854775808 ≤ x ∧ x < 9223372036854775808
def cmpI : ClassFile.Cond → Int → Int → Bool
  | .eq, x, y => decide (x = y)
  | .ne, x, y => decide (¬ x = y)
  | .lt, x, y => decide (x < y)
  | .ge, x, y => decide (y ≤ x)
  | .gt, x, y => decide (y < x)
  | .le, x, y => decide (x ≤ y)
def fres (own idx : Nat) : Option (Nat × Int) := (ftab.find? (fun e => e.1 == own && e.2.1 == idx)).map (fun e => (e.2.2.1, e.2.2.2.1))
def lres (own idx : Nat) : Option (Nat × Nat) := (ltab.find? (fun e => e.1 == own && e.2.1 == idx)).map (fun e => (e.2.2.1, e.2.2.2.1))
def nres (own idx : Nat) : Option Nat := (ntab.find? (fun e => e.1 == own && e.2.1 == idx)).map (fun e => e.2.2.1)
def kres (own idx : Nat) : Option Int := (ktab.find? (fun e => e.1 == own && e.2.1 == idx)).map (fun e => e.2.2.1)
def jres (own idx : Nat) : Option Int := (jtab.find? (fun e => e.1 == own && e.2.1 == idx)).map (fun e => e.2.2.1)
def vcat (v : V) : Nat := match v with
  | .inr (.inl _) => 2
  | _ => 1
def cats (st : List V) : Nat := (st.map vcat).sum
def isL (v : Option V) : Bool := match v with
  | some (.inr (.inl _)) => true
  | _ => false
def noL (ls : Ls) : Bool := ls.all (fun v => !isL v)
def nxt (q : Nat) (ls : Ls) (st : List V) (G : Hp) : Option Ot := some (.inl (q, ls, st, G))
def gto (pc : Nat) (off : Int) (ls : Ls) (st : List V) (G : Hp) : Option Ot := if 0 ≤ (pc : Int) + off then nxt ((pc : Int) + off).toNat ls st G else none
def ldv (ls : Ls) (k : Nat) (t : Nat) (q : Nat) (st : List V) (G : Hp) : Option Ot := match ls[k]? with
  | some (some v) => (match v, t with
    | .inl x, 0 => nxt q ls (.inl x :: st) G
    | .inr (.inl x), 1 => nxt q ls (.inr (.inl x) :: st) G
    | .inr (.inr x), 2 => nxt q ls (.inr (.inr x) :: st) G
    | _, _ => none)
  | _ => none
def stv (ls : Ls) (k : Nat) (t : Nat) (q : Nat) (st : List V) (G : Hp) : Option Ot := match st with
  | v :: st => (match v, t with
    | .inl x, 0 => if k < ls.length ∧ noL ls = true then nxt q (ls.set k (some (.inl x))) st G else none
    | .inr (.inr x), 2 => if k < ls.length ∧ noL ls = true then nxt q (ls.set k (some (.inr (.inr x)))) st G else none
    | _, _ => none)
  | _ => none
def un1 (q : Nat) (ls : Ls) (st : List V) (G : Hp) (f : Int → Option V) : Option Ot := match st with
  | .inl x :: st => (match f x with
    | some v => nxt q ls (v :: st) G
    | none => none)
  | _ => none
def bi2 (q : Nat) (ls : Ls) (st : List V) (G : Hp) (f : Int → Int → Option Int) : Option Ot := match st with
  | .inl y :: .inl x :: st => (match f x y with
    | some v => nxt q ls (.inl v :: st) G
    | none => none)
  | _ => none
def bl2 (q : Nat) (ls : Ls) (st : List V) (G : Hp) (f : Int → Int → Option V) : Option Ot := match st with
  | .inr (.inl y) :: .inr (.inl x) :: st => (match f x y with
    | some v => nxt q ls (v :: st) G
    | none => none)
  | _ => none
def pushI (v lo hi : Int) (q : Nat) (ls : Ls) (st : List V) (G : Hp) : Option Ot := if lo ≤ v ∧ v ≤ hi then nxt q ls (.inl v :: st) G else none
def getF (own idx q : Nat) (ls : Ls) (st : List V) (G : Hp) : Option Ot := match fres own idx, st with
  | some (c, k), .inr (.inr (some a)) :: st => if tg G a = c then (if isR c k.toNat = true then nxt q ls (.inr (.inr (rv G a k)) :: st) G else nxt q ls (.inl (iv G a k) :: st) G) else none
  | _, _ => none
def putF (own : Nat) (ini : Bool) (idx q : Nat) (ls : Ls) (st : List V) (G : Hp) : Option Ot := match fres own idx, st with
  | some (c, k), v :: .inr (.inr (some a)) :: st => if tg G a = c ∧ ((cT c k.toNat).2.2.2 = true → ini = true ∧ c = own) then (match v with
    | .inl x => if isR c k.toNat = false ∧ (isZ c k.toNat = true → x = 0 ∨ x = 1) then nxt q ls st (si G a k x) else none
    | .inr (.inr r) => if isR c k.toNat = true then nxt q ls st (sr G a k r) else none
    | _ => none) else none
  | _, _ => none
def iald (q : Nat) (ls : Ls) (st : List V) (G : Hp) : Option Ot := match st with
  | .inl i :: .inr (.inr (some a)) :: st => if (tg G a = 20 ∨ tg G a = 30) ∧ 0 ≤ i ∧ i < ln G a then nxt q ls (.inl (iv G a i) :: st) G else none
  | _ => none
def aald (q : Nat) (ls : Ls) (st : List V) (G : Hp) : Option Ot := match st with
  | .inl i :: .inr (.inr (some a)) :: st => if (tg G a = 21 ∨ tg G a = 22) ∧ 0 ≤ i ∧ i < ln G a then nxt q ls (.inr (.inr (rv G a i)) :: st) G else none
  | _ => none
def iast (q : Nat) (ls : Ls) (st : List V) (G : Hp) : Option Ot := match st with
  | .inl x :: .inl i :: .inr (.inr (some a)) :: st => if tg G a = 20 ∧ 0 ≤ i ∧ i < ln G a then nxt q ls st (si G a i x) else none
  | _ => none
def aast (q : Nat) (ls : Ls) (st : List V) (G : Hp) : Option Ot := match st with
  | .inr (.inr (some x)) :: .inl i :: .inr (.inr (some a)) :: st => if ((tg G a = 21 ∧ tg G x = 1) ∨ (tg G a = 22 ∧ tg G x = 7)) ∧ 0 ≤ i ∧ i < ln G a then nxt q ls st (sr G a i (some x)) else none
  | _ => none
def alen (q : Nat) (ls : Ls) (st : List V) (G : Hp) : Option Ot := match st with
  | .inr (.inr (some a)) :: st => if tg G a = 20 ∨ tg G a = 30 then nxt q ls (.inl (ln G a) :: st) G else none
  | _ => none
def newA (t : Nat) (q : Nat) (ls : Ls) (st : List V) (G : Hp) : Option Ot := match st with
  | .inl n :: st => if 0 ≤ n ∧ n ≤ 100000 then nxt q ls (.inr (.inr (some (sz G + 1))) :: st) (nw G t n n.toNat) else none
  | _ => none
def newO (own idx q : Nat) (ls : Ls) (st : List V) (G : Hp) : Option Ot := match nres own idx with
  | some c => nxt q ls (.inr (.inr (some (sz G + 1))) :: st) (nw G c 0 (cN c))
  | none => none
def invV (own idx q : Nat) (st : List V) (G : Hp) : Option Ot := match lres own idx with
  | some (mid, 0) => (match mtab[mid]? with
    | some (_, _, _, _, c, 0, na) => (match st.drop na with
      | .inr (.inr (some a)) :: rest => if tg G a = c ∧ cats rest ≤ 8 then some (.inr (.inl (mid, .inr (.inr (some a)) :: (st.take na).reverse, q, rest))) else none
      | _ => none)
    | _ => none)
  | _ => none
def invS (own idx q : Nat) (ls : Ls) (st : List V) (G : Hp) : Option Ot := match lres own idx with
  | some (901, _) => (match st with
    | .inl n :: .inl dp :: .inr (.inr (some b)) :: .inl sp :: .inr (.inr (some a)) :: rest => if tg G a = 20 ∧ tg G b = 20 ∧ 0 ≤ sp ∧ 0 ≤ dp ∧ 0 ≤ n ∧ sp + n ≤ ln G a ∧ dp + n ≤ ln G b ∧ cats rest ≤ 8 then nxt q ls rest (cp G a sp b dp n) else none
    | _ => none)
  | some (mid, _) => (match mtab[mid]? with
    | some (_, _, _, _, _, 1, na) => if na ≤ st.length ∧ cats (st.drop na) ≤ 8 then some (.inr (.inl (mid, (st.take na).reverse, q, st.drop na))) else none
    | _ => none)
  | _ => none
def invI (own idx q : Nat) (ls : Ls) (st : List V) (G : Hp) : Option Ot := match lres own idx with
  | some (900, _) => (match st with
    | .inr (.inr (some _)) :: rest => if cats rest ≤ 8 then nxt q ls rest G else none
    | _ => none)
  | some (mid, _) => (match mtab[mid]? with
    | some (_, _, _, _, _, 2, na) => (match st.drop na with
      | .inr (.inr (some a)) :: rest => if cats rest ≤ 8 then some (.inr (.inl (mid, .inr (.inr (some a)) :: (st.take na).reverse, q, rest))) else none
      | _ => none)
    | _ => none)
  | _ => none
/-- one instruction -/
def stp (ret : Option FieldType) (own : Nat) (ini : Bool) (i : Instr) (pc q : Nat) (ls : Ls) (st : List V) (G : Hp) : Option Ot := match i with
  | .aload_n k => ldv ls k.val 2 q st G
  | .aload k => ldv ls k 2 q st G
  | .iload_n k => ldv ls k.val 0 q st G
  | .iload k => ldv ls k 0 q st G
  | .lload_n k => ldv ls k.val 1 q st G
  | .lload k => ldv ls k 1 q st G
  | .istore_n k => stv ls k.val 0 q st G
  | .istore k => stv ls k 0 q st G
  | .astore_n k => stv ls k.val 2 q st G
  | .astore k => stv ls k 2 q st G
  | .iinc k n => (match ls[k]? with
    | some (some (.inl x)) => if noL ls = true then nxt q (ls.set k (some (.inl (wr (x + n))))) st G else none
    | _ => none)
  | .iconst n => pushI n (-1) 5 q ls st G
  | .bipush n => pushI n (-128) 127 q ls st G
  | .sipush n => pushI n (-32768) 32767 q ls st G
  | .lconst n => nxt q ls (.inr (.inl (n.val : Int)) :: st) G
  | .ldc k => (match kres own k with
    | some v => nxt q ls (.inl v :: st) G
    | none => none)
  | .ldc_w k => (match kres own k with
    | some v => nxt q ls (.inl v :: st) G
    | none => none)
  | .ldc2_w k => (match jres own k with
    | some v => nxt q ls (.inr (.inl v) :: st) G
    | none => none)
  | .aconst_null => nxt q ls (.inr (.inr none) :: st) G
  | .iadd => bi2 q ls st G (fun x y => some (wr (x + y)))
  | .isub => bi2 q ls st G (fun x y => some (wr (x - y)))
  | .imul => bi2 q ls st G (fun x y => some (wr (x * y)))
  | .idiv => bi2 q ls st G (fun x y => if y = 0 then none else some (wr (x.tdiv y)))
  | .irem => bi2 q ls st G (fun x y => if y = 0 then none else some (x.tmod y))
  | .iand => bi2 q ls st G (fun x y => some (Int32.ofInt x &&& Int32.ofInt y).toInt)
  | .ior => bi2 q ls st G (fun x y => some (Int32.ofInt x ||| Int32.ofInt y).toInt)
  | .ixor => bi2 q ls st G (fun x y => some (Int32.ofInt x ^^^ Int32.ofInt y).toInt)
  | .ishl => bi2 q ls st G (fun x y => some (Int32.ofInt x <<< (Int32.ofInt y &&& 31)).toInt)
  | .ishr => bi2 q ls st G (fun x y => some (Int32.ofInt x >>> (Int32.ofInt y &&& 31)).toInt)
  | .i2l => un1 q ls st G (fun x => some (.inr (.inl x)))
  | .l2i => (match st with
    | .inr (.inl x) :: st => nxt q ls (.inl (wr x) :: st) G
    | _ => none)
  | .ladd => bl2 q ls st G (fun x y => some (.inr (.inl (wl (x + y)))))
  | .lmul => bl2 q ls st G (fun x y => some (.inr (.inl (wl (x * y)))))
  | .lrem => bl2 q ls st G (fun x y => if y = 0 then none else some (.inr (.inl (x.tmod y))))
  | .lcmp => bl2 q ls st G (fun x y => some (.inl (if x < y then -1 else if x = y then 0 else 1)))
  | .dup => (match st with
    | v :: st => if vcat v = 1 then nxt q ls (v :: v :: st) G else none
    | _ => none)
  | .dup2 => (match st with
    | v :: w :: st => if vcat v = 1 ∧ vcat w = 1 then nxt q ls (v :: w :: v :: w :: st) G else none
    | _ => none)
  | .pop => (match st with
    | v :: st => if vcat v = 1 then nxt q ls st G else none
    | _ => none)
  | .goto off => gto pc off ls st G
  | .ifCond c off => (match st with
    | .inl x :: st => if 0 ≤ (pc : Int) + off then (if cmpI c x 0 = true then gto pc off ls st G else nxt q ls st G) else none
    | _ => none)
  | .if_icmp c off => (match st with
    | .inl y :: .inl x :: st => if 0 ≤ (pc : Int) + off then (if cmpI c x y = true then gto pc off ls st G else nxt q ls st G) else none
    | _ => none)
  | .ifnull off => (match st with
    | .inr (.inr none) :: st => gto pc off ls st G
    | .inr (.inr (some _)) :: st => nxt q ls st G
    | _ => none)
  | .ifnonnull off => (match st with
    | .inr (.inr none) :: st => nxt q ls st G
    | .inr (.inr (some _)) :: st => gto pc off ls st G
    | _ => none)
  | .if_acmp .eq off => (match st with
    | .inr (.inr y) :: .inr (.inr x) :: st => if 0 ≤ (pc : Int) + off then (if x = y then gto pc off ls st G else nxt q ls st G) else none
    | _ => none)
  | .if_acmp .ne off => (match st with
    | .inr (.inr y) :: .inr (.inr x) :: st => if 0 ≤ (pc : Int) + off then (if ¬ x = y then gto pc off ls st G else nxt q ls st G) else none
    | _ => none)
  | .tableswitch df lo hi offs => (match st with
    | .inl x :: st => if x < lo ∨ hi < x then gto pc df ls st G else (match offs[(x - lo).toNat]? with
      | some off => gto pc off ls st G
      | none => none)
    | _ => none)
  | .lookupswitch df ps => (match st with
    | .inl x :: st => if (ps.toList.zip (ps.toList.drop 1)).all (fun (a, next) => a.1 < next.1) = true then gto pc (Op.lookupswitch.offset ps.toList df x) ls st G else none
    | _ => none)
  | .getfield k => getF own k q ls st G
  | .putfield k => putF own ini k q ls st G
  | .iaload => iald q ls st G
  | .iastore => iast q ls st G
  | .aaload => aald q ls st G
  | .aastore => aast q ls st G
  | .arraylength => alen q ls st G
  | .newarray .int => newA 20 q ls st G
  | .anewarray k => (match nres own k with
    | some 1 => newA 21 q ls st G
    | some 7 => newA 22 q ls st G
    | _ => none)
  | .new k => newO own k q ls st G
  | .invokevirtual k => invV own k q st G
  | .invokestatic k => invS own k q ls st G
  | .invokespecial k => invI own k q ls st G
  | .ireturn => (match st, ret with
    | [.inl x], some .int => some (.inr (.inr (some (.inl x))))
    | [.inl x], some .boolean => if x = 0 ∨ x = 1 then some (.inr (.inr (some (.inl x)))) else none
    | _, _ => none)
  | .areturn => (match st, ret with
    | [.inr (.inr r)], some (.object _) => some (.inr (.inr (some (.inr (.inr r)))))
    | _, _ => none)
  | .return_ => (match st, ret with
    | [], none => some (.inr (.inr none))
    | _, _ => none)
  | _ => none
/-- how long an instruction is in the code -/
def lenOk (i : Instr) (len : Nat) : Bool := match i with
  | .aload _ | .iload _ | .lload _ | .istore _ | .astore _ | .bipush _ | .ldc _ | .newarray _ => len == 2
  | .iinc .. | .sipush _ | .ldc_w _ | .ldc2_w _ | .goto _ | .ifCond .. | .if_icmp .. | .ifnull _ | .ifnonnull _ | .if_acmp .. | .getfield _ | .putfield _ | .anewarray _ | .new _ | .invokevirtual _ | .invokestatic _ | .invokespecial _ => len == 3
  | .tableswitch .. | .lookupswitch .. => true
  | _ => len == 1
/-- a run of one method's code: n steps, calls by C -/
def runR (C : Nat → List V → Hp → Option V → Hp → Prop) (ret : Option FieldType) (own : Nat) (ini : Bool) (cc : ByteArray) : Nat → Nat → Ls → List V → Hp → Option V → Hp → Prop
  | 0, _, _, _, _, _, _ => False
  | n + 1, pc, ls, st, G, r, G' => match decode cc pc with
    | .ok (i, len) => lenOk i len = true ∧ (match stp ret own ini i pc (pc + len) ls st G with
      | some (.inl (q, ls', st', G1)) => runR C ret own ini cc n q ls' st' G1 r G'
      | some (.inr (.inl (mid, as, q, rest))) => ∃ r1 G1, C mid as G r1 G1 ∧ runR C ret own ini cc n q ls (r1.toList ++ rest) G1 r G'
      | some (.inr (.inr v)) => r = v ∧ G' = G
      | none => False)
    | .error _ => False
def sl1 (v : V) : Ls := match v with
  | .inr (.inl x) => [some (.inr (.inl x)), none]
  | w => [some w]
def entr (as : List V) (nL : Nat) : Ls := as.flatMap sl1 ++ List.replicate (nL - (as.flatMap sl1).length) none
/-- a call, at most d deep -/
def Cal : Nat → Nat → List V → Hp → Option V → Hp → Prop
  | 0, _, _, _, _, _ => False
  | d + 1, mid, as, G, r, G' => match mtab[mid]? with
    | some (_, cc, nL, ret, own, kind, _) => (as.flatMap sl1).length ≤ nL ∧ ∃ n, runR (Cal d) ret own (kind == 2) cc n 0 (entr as nL) [] G r G'
    | none => False
def CX (d mid : Nat) (as : List V) (G : Hp) (Q : Option V → Hp → Prop) : Prop := ∃ r G', Cal d mid as G r G' ∧ Q r G'
def Ex (d : Nat) (ret : Option FieldType) (own : Nat) (ini : Bool) (cc : ByteArray) (pc : Nat) (ls : Ls) (st : List V) (G : Hp) (Q : Option V → Hp → Prop) : Prop := ∃ n r G', runR (Cal d) ret own ini cc n pc ls st G r G' ∧ Q r G'
