/-! 10: the giving, over numbers: rows by all orders, then all ways to deal out (as the reference does it) -/
/-- the rows of a set of slots, by least first -/
def permsF : Nat → Nat → List (List Nat)
  | 0, _ => [[]]
  | f + 1, S => if S = 0 then [[]] else (List.range 6).flatMap (fun i => if S.testBit i = true then (permsF f (S - 2 ^ i)).map (fun p => i :: p) else [])
def perms (S : Nat) : List (List Nat) := permsF 6 S
/-- the slots of a set, ascending -/
def elems (S n : Nat) : List Nat := (List.range n).filter (fun i => S.testBit i)
/-- the next order, as the reference finds it: i + 1 (0: none) .. -/
def ndI (o : Nat → Nat) : Nat → Nat
  | 0 => 0
  | m + 1 => if o (m + 1) < o m then ndI o m else m + 1
def ndJ (o : Nat → Nat) (v : Nat) : Nat → Nat
  | 0 => 0
  | m + 1 => if o (m + 1) < v then ndJ o v m else m + 1
def swp (o : Nat → Nat) (a b : Nat) : Nat → Nat := fun q => if q = b then o a else if q = a then o b else o q
def revF : Nat → (Nat → Nat) → Nat → Nat → Nat → Nat
  | 0, o, _, _ => o
  | f + 1, o, a, b => if a < b then revF f (swp o a b) (a + 1) (b - 1) else o
def nxtF (o : Nat → Nat) (n : Nat) : Option (Nat → Nat) := match ndI o (n - 1) with
  | 0 => none
  | i + 1 => some (revF n (swp o i (ndJ o (o i) (n - 1))) (i + 1) (n - 1))
def nxtL (p : List Nat) : Option (List Nat) := (nxtF (fun i => p.getD i 0) p.length).map (fun o => (List.range p.length).map o)
def chainB : List (List Nat) → Bool
  | [] => true
  | [p] => decide (nxtL p = none)
  | p :: q :: r => decide (nxtL p = some q) && chainB (q :: r)
/-- the orders come one behind the other -/
theorem chain_all : ∀ S, S < 64 → chainB (perms S) = true ∧ (perms S).head? = some (elems S 6) ∧ ∀ p ∈ perms S, p.length = (elems S 6).length ∧ ∀ x ∈ p, x < 6 ∧ S.testBit x = true := by decide +kernel
/-- the first least of a list -/
def bst {α : Type} (f : α → Nat) (p : α) (a : Option (Nat × α)) : Option (Nat × α) := match a with
  | none => some (f p, p)
  | some b => if f p < b.1 then some (f p, p) else some b
def brs {α : Type} (f : α → Nat) (ok : α → Bool) : List α → Option (Nat × α) → Option (Nat × α)
  | [], a => a
  | p :: ps, a => brs f ok ps (if ok p = true then bst f p a else a)
theorem bst_n {α : Type} (f : α → Nat) (p : α) : bst f p none = some (f p, p) := rfl
theorem bst_s {α : Type} (f : α → Nat) (p : α) (b : Nat × α) : bst f p (some b) = if f p < b.1 then some (f p, p) else some b := rfl
theorem brs_cons {α : Type} (f : α → Nat) (ok : α → Bool) (p : α) (ps : List α) (a : Option (Nat × α)) : brs f ok (p :: ps) a = brs f ok ps (if ok p = true then bst f p a else a) := rfl
def rowC (sp : Nat) (fr to w : Nat → Nat) : Nat → Nat → List Nat → Nat
  | _, _, [] => 0
  | pl, t, i :: r => (w i * (t + dist pl (fr i) * sp) + (t + dist pl (fr i) * sp + (3 + dist (fr i) (to i) * sp))) + rowC sp fr to w (to i) (t + dist pl (fr i) * sp + (3 + dist (fr i) (to i) * sp) + 3) r
/-- PICK and SET of a slot in a row -/
def rowE (sp : Nat) (fr to : Nat → Nat) : Nat → Nat → List Nat → Nat → Nat × Nat
  | _, _, [], _ => (0, 0)
  | pl, t, i :: r, j => if j = i then (t + dist pl (fr i) * sp, t + dist pl (fr i) * sp + (3 + dist (fr i) (to i) * sp)) else rowE sp fr to (to i) (t + dist pl (fr i) * sp + (3 + dist (fr i) (to i) * sp) + 3) r j
def gB (s : AS) (k : Nat) : Bool := isOp s k && !decide (carsN s k = 0)
def gL (s : AS) : List Nat := (List.range (s.1 3)).filter (gB s)
def gn (s : AS) : Nat := (gL s).length
def gk (s : AS) (i : Nat) : Nat := (gL s).getD i 0
def gfr (s : AS) (i : Nat) : Nat := s.2.2 (gk s i) 0
def gto (s : AS) (i : Nat) : Nat := s.2.2 (gk s i) 1
def gw (s : AS) (i : Nat) : Nat := wgt s (gk s i)
def gdl (s : AS) (c : Nat) : Nat := s.2.1 c 2 - s.1 1
/-- the slot of the call that the car has begun, among a set's first n; 6: none -/
def firstF (s : AS) (c S : Nat) : Nat → Nat
  | 0 => 6
  | n + 1 => if S.testBit n = true ∧ s.2.2 (gk s n) 5 = c then n else firstF s c S n
def okF (first : Nat) (p : List Nat) : Bool := decide (first = 6) || decide (p.getD 0 0 = first)
def gcost (s : AS) (c : Nat) (p : List Nat) : Nat := rowC (s.2.1 c 0) (gfr s) (gto s) (gw s) (s.2.1 c 1) (gdl s c) p
def gbest (s : AS) (c S : Nat) : Option (Nat × List Nat) := brs (gcost s c) (okF (firstF s c S (gn s))) (perms S) none
def gcst (s : AS) (c S : Nat) : Nat := ((gbest s c S).getD (0, [])).1
def grow (s : AS) (c S : Nat) : List Nat := ((gbest s c S).getD (0, [])).2
def setO (d : List Nat) (c : Nat) : Nat → Nat
  | 0 => 0
  | n + 1 => setO d c n + (if d.getD n 0 = c then 2 ^ n else 0)
def gtotF (s : AS) (d : List Nat) : Nat → Nat
  | 0 => 0
  | c + 1 => gtotF s d c + gcst s c (setO d c (gn s))
def gtot (s : AS) (d : List Nat) : Nat := gtotF s d (s.1 2)
def ggoodF (s : AS) (d : List Nat) : Nat → Bool
  | 0 => true
  | n + 1 => ggoodF s d n && (carsN s (gk s n)).testBit (d.getD n 0)
def ggood (s : AS) (d : List Nat) : Bool := ggoodF s d (gn s)
def dig (n w : Nat) : List Nat := (List.range n).map (fun i => w / 4 ^ (n - 1 - i) % 4)
def gways (s : AS) : List (List Nat) := (List.range (4 ^ gn s)).map (dig (gn s))
def gway (s : AS) : Option (Nat × List Nat) := brs (gtot s) (ggood s) (gways s) none
def gsum (s : AS) : Nat := ((gway s).getD (0, [])).1
def gd (s : AS) : List Nat := ((gway s).getD (0, [])).2
def gRow (s : AS) (c : Nat) : List Nat := if c < s.1 2 then grow s c (setO (gd s) c (gn s)) else []
def gE (s : AS) (c j : Nat) : Nat × Nat := rowE (s.2.1 c 0) (gfr s) (gto s) (s.2.1 c 1) (gdl s c) (gRow s c) j
def gres (s : AS) : GR := (fun k q => if (gL s).idxOf k < gn s then (match q with
    | 0 => (gd s).getD ((gL s).idxOf k) 0
    | 1 => (gE s ((gd s).getD ((gL s).idxOf k) 0) ((gL s).idxOf k)).1
    | 2 => (gE s ((gd s).getD ((gL s).idxOf k) 0) ((gL s).idxOf k)).2
    | _ => gw s ((gL s).idxOf k)) else 4,
  fun c i => gk s ((gRow s c).getD i 0), fun c => (gRow s c).length)
