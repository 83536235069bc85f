/-! WHAT IS SO: the document's words as pure functions. Signs: 43 + 45 - 42 * 60 < 63 ? 110 n 120 x 102 f 48..57 figures -/
def isBin (c : Int) : Prop := c = 43 ∨ c = 45 ∨ c = 42 ∨ c = 60
def opv (c a b : Int) : Int := if c = 43 then (a + b) % 997 else if c = 45 then (a - b + 997) % 997 else if c = 42 then a * b % 997 else if a < b then 1 else 0
def bit (i : Int) : Int := (Int32.ofInt 1 <<< (Int32.ofInt i &&& 31)).toInt
def bor (m b : Int) : Int := (Int32.ofInt m ||| Int32.ofInt b).toInt
def rb (m i : Int) : Int := (Int32.ofInt (Int32.ofInt m >>> (Int32.ofInt i &&& 31)).toInt &&& Int32.ofInt 1).toInt
/-- where the term at a ends -/
def tend (cd : Int → Int) : Nat → Int → Int
  | 0, a => a
  | n + 1, a => if cd a = 120 then tend cd n (a + 1) else if cd a = 102 then tend cd n (a + 2) else if cd a = 43 ∨ cd a = 45 ∨ cd a = 42 ∨ cd a = 60 then tend cd n (tend cd n (a + 1)) else if cd a = 63 then tend cd n (tend cd n (tend cd n (a + 1))) else a + 1
/-- what the term at a tells: rd reads a cell, cl calls, x the argument, s what is carried along -/
def ev {σ : Type} (cd : Int → Int) (rd : Int → σ → Int × σ) (cl : Int → Int → σ → Int × σ) (x : Int) : Nat → Int → σ → Int × σ
  | 0, _, s => (0, s)
  | n + 1, a, s => if cd a = 110 then (x, s) else if cd a = 120 then rd (ev cd rd cl x n (a + 1) s).1 (ev cd rd cl x n (a + 1) s).2 else if cd a = 102 then cl (cd (a + 1) - 48) (ev cd rd cl x n (a + 2) s).1 (ev cd rd cl x n (a + 2) s).2
    else if cd a = 43 ∨ cd a = 45 ∨ cd a = 42 ∨ cd a = 60 then (opv (cd a) (ev cd rd cl x n (a + 1) s).1 (ev cd rd cl x n (tend cd n (a + 1)) (ev cd rd cl x n (a + 1) s).2).1, (ev cd rd cl x n (tend cd n (a + 1)) (ev cd rd cl x n (a + 1) s).2).2)
    else if cd a = 63 then (if (ev cd rd cl x n (a + 1) s).1 = 0 then ev cd rd cl x n (tend cd n (tend cd n (a + 1))) (ev cd rd cl x n (a + 1) s).2 else ev cd rd cl x n (tend cd n (a + 1)) (ev cd rd cl x n (a + 1) s).2)
    else (cd a - 48, s)
/-- a call: address, function, argument, what it tells, what it read, name, doings -/
abbrev Nd : Type := Nat × Int × Int × Int × Int × Int × Int
def nAd (n : Nd) : Nat := n.1
def nF (n : Nd) : Int := n.2.1
def nX (n : Nd) : Int := n.2.2.1
def nV (n : Nd) : Int := n.2.2.2.1
def nM (n : Nd) : Int := n.2.2.2.2.1
def nN (n : Nd) : Int := n.2.2.2.2.2.1
def nD (n : Nd) : Int := n.2.2.2.2.2.2
/-- a call with its parts, at most d levels -/
def Tr : Nat → Type
  | 0 => Empty
  | d + 1 => Nd × List (Tr d)
def rt : (d : Nat) → Tr d → Nd
  | 0, t => t.elim
  | _ + 1, t => t.1
def pts : (d : Nat) → Tr (d + 1) → List (Tr d) := fun _ t => t.2
def mkN (d : Nat) (n : Nd) (ps : List (Tr d)) : Tr (d + 1) := (n, ps)
def tsz : (d : Nat) → Tr d → Nat
  | 0, t => t.elim
  | d + 1, t => 1 + (t.2.map (tsz d)).sum
def tszL (d : Nat) (l : List (Tr d)) : Nat := (l.map (tsz d)).sum
/-- all calls in order, each with its nest -/
def flat : (d : Nat) → Int → Tr d → List (Nd × Int)
  | 0, _, t => t.elim
  | d + 1, n, t => (t.1, n) :: t.2.flatMap (flat d (n + 1))
def rdc {α : Type} (c : Int → Int) (v : Int) (s : Int × α) : Int × Int × α := (c (v % 8), bor s.1 (bit (v % 8)), s.2)
/-- a program: the code, where bodies begin, how many functions -/
abbrev Pg : Type := (Int → Int) × (Int → Int) × Int
/-- what a call would be, made now with cells c; d levels may follow -/
def fr (P : Pg) (c : Int → Int) : (d : Nat) → Int → Int → Tr (d + 1)
  | 0, f, x =>
    let r := ev P.1 (rdc c) (fun _ _ s => (0, s)) x 160 (P.2.1 f) ((0, []) : Int × List (Tr 0))
    mkN 0 (0, f, x, r.1, r.2.1, 0, 0) r.2.2
  | d + 1, f, x =>
    let r := ev P.1 (rdc c) (fun k y s => if k < P.2.2 then (nV (rt (d + 1) (fr P c d k y)), s.1, s.2 ++ [fr P c d k y]) else (0, s)) x 160 (P.2.1 f) ((0, []) : Int × List (Tr (d + 1)))
    mkN (d + 1) (0, f, x, r.1, r.2.1, 0, 0) r.2.2
/-- counts: made ever, made, done anew, gone -/
abbrev Kt : Type := Int × Int × Int × Int
/-- MADE, with names -/
def mkT (P : Pg) (c : Int → Int) : (d : Nat) → Int → Int → Kt → Tr (d + 1) × Kt
  | 0, f, x, κ =>
    let r := ev P.1 (rdc c) (fun _ _ s => (0, s)) x 160 (P.2.1 f) ((0, [], κ.1 + 1, κ.2.1 + 1, κ.2.2) : Int × List (Tr 0) × Kt)
    (mkN 0 (0, f, x, r.1, r.2.1, κ.1, 1) r.2.2.1, r.2.2.2)
  | d + 1, f, x, κ =>
    let r := ev P.1 (rdc c) (fun k y s => if k < P.2.2 then (nV (rt (d + 1) (mkT P c d k y s.2.2).1), s.1, s.2.1 ++ [(mkT P c d k y s.2.2).1], (mkT P c d k y s.2.2).2) else (0, s)) x 160 (P.2.1 f) ((0, [], κ.1 + 1, κ.2.1 + 1, κ.2.2) : Int × List (Tr (d + 1)) × Kt)
    (mkN (d + 1) (0, f, x, r.1, r.2.1, κ.1, 1) r.2.2.1, r.2.2.2)
/-- of what is left, the first of a function and argument: what is passed over, it, the rest -/
def fnd {d : Nat} (f x : Int) : List (Bool × Tr d) → Option (List (Bool × Tr d) × (Bool × Tr d) × List (Bool × Tr d))
  | [] => none
  | t :: l => if nF (rt d t.2) = f ∧ nX (rt d t.2) = x then some ([], t, l) else (fnd f x l).map (fun q => (t :: q.1, q.2))
def gon {d : Nat} (l : List (Bool × Tr d)) (κ : Kt) : Kt := (κ.1, κ.2.1, κ.2.2.1, κ.2.2.2 + ((l.map (fun t => tsz d t.2)).sum : Nat))
def isOldN (h c : Int → Int) (m : Int) : Bool := ([0, 1, 2, 3, 4, 5, 6, 7] : List Int).any (fun i => decide (rb m i ≠ 0) && decide (h i ≠ c i))
/-- parts BROUGHT, the first one first, until one tells otherwise: those brought, those left, whether one did -/
def brL {d : Nat} (br : Tr d → Kt → Tr d × Kt) : List (Tr d) → Kt → List (Tr d) × List (Tr d) × Bool × Kt
  | [], κ => ([], [], false, κ)
  | t :: l, κ => if nV (rt d (br t κ).1) = nV (rt d t) then ((br t κ).1 :: (brL br l (br t κ).2).1, (brL br l (br t κ).2).2) else ([(br t κ).1], l, true, (br t κ).2)
/-- a part that is called while a call is done anew -/
def anC {d : Nat} (P : Pg) (br : Tr (d + 1) → Kt → Tr (d + 1) × Kt) (mk : Int → Int → Kt → Tr (d + 1) × Kt) (k y : Int) (s : Int × List (Tr (d + 1)) × List (Bool × Tr (d + 1)) × Kt) : Int × Int × List (Tr (d + 1)) × List (Bool × Tr (d + 1)) × Kt :=
  if k < P.2.2 then (match fnd k y s.2.2.1 with
    | some q => (match q.2.1.1 with
      | true => (nV (rt (d + 1) q.2.1.2), s.1, s.2.1 ++ [q.2.1.2], q.2.2, gon q.1 s.2.2.2)
      | false => (nV (rt (d + 1) (br q.2.1.2 (gon q.1 s.2.2.2)).1), s.1, s.2.1 ++ [(br q.2.1.2 (gon q.1 s.2.2.2)).1], q.2.2, (br q.2.1.2 (gon q.1 s.2.2.2)).2))
    | none => (nV (rt (d + 1) (mk k y s.2.2.2).1), s.1, s.2.1 ++ [(mk k y s.2.2.2).1], s.2.2.1, (mk k y s.2.2.2).2)) else (0, s)
/-- DONE ANEW: the call n with its parts so far -/
def anT {d : Nat} (P : Pg) (c : Int → Int) (cl : Int → Int → Int × List (Tr d) × List (Bool × Tr d) × Kt → Int × Int × List (Tr d) × List (Bool × Tr d) × Kt) (n : Nd) (rem : List (Bool × Tr d)) (κ : Kt) : Tr (d + 1) × Kt :=
  let r := ev P.1 (rdc c) cl (nX n) 160 (P.2.1 (nF n)) ((0, [], rem, κ.1, κ.2.1, κ.2.2.1 + 1, κ.2.2.2) : Int × List (Tr d) × List (Bool × Tr d) × Kt)
  (mkN d (nAd n, nF n, nX n, r.1, r.2.1, nN n, nD n + 1) r.2.2.1, gon r.2.2.2.1 r.2.2.2.2)

/-- BROUGHT: h the cells as they were when last brought, c as they are -/
def brT (P : Pg) (h c : Int → Int) : (d : Nat) → Tr (d + 1) → Kt → Tr (d + 1) × Kt
  | 0, t, κ => if isOldN h c (nM t.1) = true then anT P c (fun _ _ s => (0, s)) t.1 (t.2.map (fun p => (false, p))) κ else (t, κ)
  | d + 1, t, κ => if isOldN h c (nM t.1) = true then anT P c (anC P (brT P h c d) (mkT P c d)) t.1 (t.2.map (fun p => (false, p))) κ
    else (match brL (brT P h c d) t.2 κ with
      | (bs, rs, true, κ') => anT P c (anC P (brT P h c d) (mkT P c d)) t.1 (bs.map (fun p => (true, p)) ++ rs.map (fun p => (false, p))) κ'
      | (bs, _, false, κ') => (mkN (d + 1) t.1 bs, κ'))
