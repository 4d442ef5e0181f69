/-! 07: what the calls mean, over numbers. A state: scalars (0 floors, 1 TIME, 2 cars, 3 calls), cars (0 speed, 1 floor, 2 second, 3 least, 4 greatest, 5 asleep), calls (0 from, 1 to, 2 since, 3 open, 4 urgent, 5 begun by; 4: by none) -/
abbrev AS : Type := (Nat → Nat) × (Nat → Nat → Nat) × (Nat → Nat → Nat)
def up1 (f : Nat → Nat) (i v : Nat) : Nat → Nat := fun j => if j = i then v else f j
def up2 (f : Nat → Nat → Nat) (i q v : Nat) : Nat → Nat → Nat := fun j r => if j = i ∧ r = q then v else f j r
def iN (x : Int32) : Nat := x.toNatClampNeg
theorem iN_nI {n : Nat} (h : n < 2 ^ 31) : iN (nI n) = n := nI_clamp h
def inB (x : Int32) (n : Nat) : Bool := decide (0 ≤ x ∧ x < nI n)
def inR (x : Int32) (a b : Nat) : Bool := decide (nI a ≤ x ∧ x ≤ nI b)
def beI (b : Nat) : Int32 := if b = 4 then -1 else nI b
/-- how many of the first n hold -/
def cnt (p : Nat → Bool) : Nat → Nat
  | 0 => 0
  | n + 1 => cnt p n + (if p n = true then 1 else 0)
def isOp (s : AS) (k : Nat) : Bool := decide (s.2.2 k 3 = 1)
def nOp (s : AS) : Nat := cnt (isOp s) (s.1 3)
def opB (s : AS) (x : Int32) : Bool := inB x (s.1 3) && isOp s (iN x)
def witB (s : AS) (c k : Nat) : Bool := decide ((s.2.1 c 3 ≤ s.2.2 k 0 ∧ s.2.2 k 0 ≤ s.2.1 c 4) ∧ s.2.1 c 3 ≤ s.2.2 k 1 ∧ s.2.2 k 1 ≤ s.2.1 c 4)
def mayB (s : AS) (c k : Nat) : Bool := witB s c k && decide (s.2.2 k 5 = 4 ∨ s.2.2 k 5 = c)
/-- the cars below n of call k that are awake (z = 0) or asleep (z = 1), 2 to the power of each -/
def carsZ (s : AS) (k z : Nat) : Nat → Nat
  | 0 => 0
  | n + 1 => carsZ s k z n + (if mayB s n k = true ∧ s.2.1 n 5 = z then 2 ^ n else 0)
def carsN (s : AS) (k : Nat) : Nat := if carsZ s k 0 (s.1 2) = 0 then carsZ s k 1 (s.1 2) else carsZ s k 0 (s.1 2)
def wgt (s : AS) (k : Nat) : Nat := (1 + (s.1 1 - s.2.2 k 2) / 30) * (if s.2.2 k 4 = 1 then 4 else 1)
def othB (s : AS) (k c : Nat) : Nat → Bool
  | 0 => false
  | n + 1 => othB s k c n || (decide (n ≠ k) && isOp s n && decide (s.2.2 n 5 = c))
def leftN (s : AS) : Nat := cnt (fun k => isOp s k && decide (carsN s k = 0)) (s.1 3)
/-- the state's bounds -/
def AI (s : AS) : Prop := (2 ≤ s.1 0 ∧ s.1 0 ≤ 60) ∧ s.1 1 ≤ 100000 ∧ s.1 2 ≤ 4 ∧ s.1 3 ≤ 400 ∧
  (∀ c, c < s.1 2 → (1 ≤ s.2.1 c 0 ∧ s.2.1 c 0 ≤ 5) ∧ s.2.1 c 1 < s.1 0 ∧ s.2.1 c 2 ≤ 100000 ∧ (s.2.1 c 3 ≤ s.2.1 c 4 ∧ s.2.1 c 4 < s.1 0) ∧ s.2.1 c 5 ≤ 1) ∧
  (∀ k, k < s.1 3 → s.2.2 k 0 < s.1 0 ∧ s.2.2 k 1 < s.1 0 ∧ s.2.2 k 2 ≤ s.1 1 ∧ s.2.2 k 3 ≤ 1 ∧ s.2.2 k 4 ≤ 1 ∧ s.2.2 k 5 ≤ 4 ∧ (s.2.2 k 5 = 4 ∨ s.2.2 k 5 < s.1 2)) ∧
  nOp s ≤ 6 ∧ (∀ a b, a < s.1 3 → b < s.1 3 → isOp s a = true → isOp s b = true → s.2.2 a 5 = s.2.2 b 5 → s.2.2 a 5 ≠ 4 → a = b)
/-- the answers: what is thrown (1, 2; 0: nothing), the answer, the state behind -/
abbrev RS : Type := Nat × Int32 × AS
def newCar (s : AS) (f p : Int32) : Nat → Nat := fun q => match q with
  | 0 => iN p
  | 1 => iN f
  | 2 => s.1 1
  | 3 => 0
  | 4 => s.1 0 - 1
  | _ => 0
def newCall (s : AS) (f t : Int32) : Nat → Nat := fun q => match q with
  | 0 => iN f
  | 1 => iN t
  | 2 => s.1 1
  | 3 => 1
  | 4 => 0
  | _ => 4
def sCar (s : AS) (f p : Int32) : RS := if (inB f (s.1 0) && inR p 1 5) = false then (1, 0, s) else if s.1 2 = 4 then (2, 0, s) else (0, nI (s.1 2), (up1 s.1 2 (s.1 2 + 1), fun c => if c = s.1 2 then newCar s f p else s.2.1 c, s.2.2))
def sFree (s : AS) (c f x : Int32) : RS := if (inB c (s.1 2) && inB f (s.1 0) && inR x 0 100000) = false then (1, 0, s) else (0, 0, (s.1, up2 (up2 s.2.1 (iN c) 1 (iN f)) (iN c) 2 (iN x), s.2.2))
def sZone (s : AS) (c a b : Int32) : RS := if (inB c (s.1 2) && inB a (s.1 0) && inB b (s.1 0) && decide (a ≤ b)) = false then (1, 0, s) else (0, 0, (s.1, up2 (up2 s.2.1 (iN c) 3 (iN a)) (iN c) 4 (iN b), s.2.2))
def sSleep (s : AS) (c : Int32) (on : Bool) : RS := if inB c (s.1 2) = false then (1, 0, s) else (0, nI (s.2.1 (iN c) 5), (s.1, up2 s.2.1 (iN c) 5 (if on = true then 1 else 0), s.2.2))
def sCall (s : AS) (f t : Int32) : RS := if (inB f (s.1 0) && inB t (s.1 0) && !decide (f = t)) = false then (1, 0, s) else if nOp s = 6 ∨ s.1 3 = 400 then (2, 0, s) else (0, nI (s.1 3), (up1 s.1 3 (s.1 3 + 1), s.2.1, fun k => if k = s.1 3 then newCall s f t else s.2.2 k))
def sUrgent (s : AS) (x : Int32) (on : Bool) : RS := if opB s x = false then (1, 0, s) else (0, nI (s.2.2 (iN x) 4), (s.1, s.2.1, up2 s.2.2 (iN x) 4 (if on = true then 1 else 0)))
def sBegin (s : AS) (x c : Int32) : RS := if (opB s x && (decide (c = -1) || inB c (s.1 2))) = false then (1, 0, s)
  else if c = -1 then (0, 1, (s.1, s.2.1, up2 s.2.2 (iN x) 5 4))
  else if (othB s (iN x) (iN c) (s.1 3) || !witB s (iN c) (iN x)) = true then (0, 0, s)
  else (0, 1, (s.1, s.2.1, up2 s.2.2 (iN x) 5 (iN c)))
def sDone (s : AS) (x : Int32) : RS := if opB s x = false then (1, 0, s) else (0, 0, (s.1, s.2.1, up2 s.2.2 (iN x) 3 0))
def sPass (s : AS) (x : Int32) : RS := if inR x 1 1000 = false then (1, 0, s) else if 100000 < s.1 1 + iN x then (1, 0, s) else (0, nI (s.1 1 + iN x), (up1 s.1 1 (s.1 1 + iN x), s.2.1, s.2.2))
/-- what a giving says: of calls (0 car, 4: none; 1 PICK, 2 SET, 3 WEIGHT), the rows of cars, how long they are -/
abbrev GR : Type := (Nat → Nat → Nat) × (Nat → Nat → Nat) × (Nat → Nat)
def sCarOf (s : AS) (r : GR) (x : Int32) : Nat × Int32 := if inB x (s.1 3) = false then (1, 0) else (0, beI (r.1 (iN x) 0))
def sTurn (s : AS) (r : GR) (c x : Int32) : Nat × Int32 := if (inB c (s.1 2) && decide (0 ≤ x)) = false then (1, 0) else (0, if iN x < r.2.2 (iN c) then nI (r.2.1 (iN c) (iN x)) else -1)
def sTold (s : AS) (r : GR) (x w : Int32) : Nat × Int32 := if (inB x (s.1 3) && inR w 0 2) = false then (1, 0) else (0, if r.1 (iN x) 0 = 4 then -1 else nI (r.1 (iN x) (iN w + 1)))
def sCars (s : AS) (x : Int32) : Nat × Int32 := if opB s x = false then (1, 0) else (0, nI (carsN s (iN x)))
def sWeight (s : AS) (x : Int32) : Nat × Int32 := if opB s x = false then (1, 0) else (0, nI (wgt s (iN x)))
/-! facts -/
theorem inB_iff {x : Int32} {n : Nat} (hn : n < 2 ^ 31) : inB x n = true ↔ ∃ j, j < n ∧ x = nI j := by
  unfold inB
  rw [decide_eq_true_iff]
  constructor
  · rintro ⟨h1, h2⟩
    obtain ⟨j, hj, rfl⟩ := nI_of (x := x) (fun q => absurd h1 (by rw [Int32.le_iff_toInt_le]; rw [Int32.lt_iff_toInt_lt] at q; omega))
    exact ⟨j, (nI_ltI hj hn).mp h2, rfl⟩
  · rintro ⟨j, hj, rfl⟩
    exact ⟨nI_pos' (by omega), nI_lt hj hn⟩
theorem inB_nI {j n : Nat} (hj : j < n) (hn : n < 2 ^ 31) : inB (nI j) n = true := (inB_iff hn).mpr ⟨j, hj, rfl⟩
theorem inB_at {x : Int32} {n : Nat} (hn : n < 2 ^ 31) (h : inB x n = true) : iN x < n ∧ x = nI (iN x) := by
  obtain ⟨j, hj, rfl⟩ := (inB_iff hn).mp h
  rw [iN_nI (by omega)]
  exact ⟨hj, rfl⟩
theorem inR_at {x : Int32} {a b : Nat} (ha : a < 2 ^ 31) (hb : b < 2 ^ 31) (h : inR x a b = true) : a ≤ iN x ∧ iN x ≤ b ∧ x = nI (iN x) := by
  unfold inR at h
  obtain ⟨h1, h2⟩ := of_decide_eq_true h
  obtain ⟨j, hj, rfl⟩ := nI_of (x := x) (fun q => by
    rw [Int32.lt_iff_toInt_lt] at q
    rw [Int32.le_iff_toInt_le, nI_toInt ha] at h1
    have : (0 : Int32).toInt = 0 := rfl
    omega)
  rw [iN_nI hj]
  exact ⟨(nI_leI ha hj).mp h1, (nI_leI hj hb).mp h2, rfl⟩
theorem inB_sub {x : Int32} {n : Nat} (hn : n < 2 ^ 31) : decide (0 ≤ x ∧ x ≤ nI n - 1) = inB x n := by
  unfold inB
  refine decide_eq_decide.mpr ⟨fun h => ⟨h.1, ?_⟩, fun h => ⟨h.1, ?_⟩⟩
  · have h2 := h.2
    match n, hn with
    | 0, _ =>
      have h1 := h.1
      rw [Int32.le_iff_toInt_le] at h1 h2
      have e1 : (nI 0 - 1).toInt = -1 := by decide
      have e0 : (0 : Int32).toInt = 0 := rfl
      omega
    | n + 1, hn =>
      rw [nI_pred, Int32.le_iff_toInt_le, nI_toInt (by omega)] at h2
      rw [Int32.lt_iff_toInt_lt, nI_toInt hn]
      omega
  · have h2 := h.2
    match n, hn with
    | 0, _ =>
      have h1 := h.1
      rw [Int32.le_iff_toInt_le] at h1
      rw [Int32.lt_iff_toInt_lt] at h2
      have e1 : (nI 0).toInt = 0 := by decide
      have e0 : (0 : Int32).toInt = 0 := rfl
      omega
    | n + 1, hn =>
      rw [nI_pred, Int32.le_iff_toInt_le, nI_toInt (by omega)]
      rw [Int32.lt_iff_toInt_lt, nI_toInt hn] at h2
      omega
theorem beI_eq {a b : Nat} (ha : a ≤ 4) (hb : b ≤ 4) : beI a = beI b ↔ a = b := by
  constructor
  · intro h
    match a, ha, b, hb with
    | 0, _, 0, _ | 1, _, 1, _ | 2, _, 2, _ | 3, _, 3, _ | 4, _, 4, _ => rfl
    | 0, _, 1, _ | 0, _, 2, _ | 0, _, 3, _ | 0, _, 4, _ | 1, _, 0, _ | 1, _, 2, _ | 1, _, 3, _ | 1, _, 4, _ | 2, _, 0, _ | 2, _, 1, _ | 2, _, 3, _ | 2, _, 4, _ | 3, _, 0, _ | 3, _, 1, _ | 3, _, 2, _ | 3, _, 4, _ | 4, _, 0, _ | 4, _, 1, _ | 4, _, 2, _ | 4, _, 3, _ => exact absurd h (by decide)
  · rintro rfl; rfl
theorem beI_c {a c : Nat} (ha : a ≤ 4) (hc : c < 4) : beI a = nI c ↔ a = c := by
  have : beI c = nI c := if_neg (by omega)
  rw [← this]
  exact beI_eq ha (by omega)
theorem beI_m {a : Nat} (ha : a ≤ 4) : beI a = -1 ↔ a = 4 := by
  have : beI 4 = -1 := rfl
  rw [← this]
  exact beI_eq ha (by omega)
theorem b2_of {p : Prop} [Decidable p] (h : p) : (1 : Int32) = b2 (decide p) := by rw [decide_eq_true h]; rfl
theorem b2_no {p : Prop} [Decidable p] (h : ¬ p) : (0 : Int32) = b2 (decide p) := by rw [decide_eq_false h]; rfl
theorem b2_nI (b : Bool) : b2 b = nI (if b = true then 1 else 0) := by cases b <;> rfl
