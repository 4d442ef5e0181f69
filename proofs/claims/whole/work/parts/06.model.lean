/-! 06: the reference's state: F its scalars by field, A its arrays of ints and booleans by field, B its array of longs; pure answers; rules over them -/
def b2 (b : Bool) : Int32 := cond b 1 0
theorem b2_nar (b : Bool) : narrow .boolean (.int (b2 b)) = .int (b2 b) := by cases b <;> rfl
theorem b2_eq0 {b : Bool} : b2 b = 0 ↔ b = false := by cases b <;> decide
theorem b2_t {b : Bool} (h : ¬ b2 b = 0) : b = true := by cases b with
  | true => rfl
  | false => exact absurd rfl h
theorem b2_f {b : Bool} (h : b2 b = 0) : b = false := b2_eq0.mp h
def Kv (r : Value) (h : Hp) (nx : Nat) : Option Value → Hp → Nat → Prop := fun v h' nx' => v = some r ∧ h = h' ∧ nx = nx'
def moff (kf : Nat) : Nat := if kf < 10 then kf - 3 else if kf < 17 then kf - 4 else if kf < 24 then kf - 5 else kf - 6
def mlen (kf : Nat) : Nat := match kf with
  | 4 => 4 | 5 => 4 | 6 => 4 | 7 => 4 | 8 => 4 | 9 => 4
  | 22 => 24 | 23 => 4 | 25 => 6 | 26 => 6 | 28 => 1536 | 29 => 6 | 30 => 6
  | _ => 400
def marr (kf : Nat) : Bool := decide ((4 ≤ kf ∧ kf < 10) ∨ (11 ≤ kf ∧ kf < 17) ∨ (18 ≤ kf ∧ kf < 24) ∨ (25 ≤ kf ∧ kf < 31))
def mz (kf : Nat) : Bool := decide (kf = 9 ∨ kf = 14 ∨ kf = 15)
def ment (kf : Nat) (A : Nat → Nat → Int32) (B : Nat → Int64) : PE := if kf = 27 then eJ 256 B else if mz kf = true then eZ (mlen kf) (A kf) else eI (mlen kf) (A kf)
def mobj (m : Nat) (F : Nat → Int32) : List Value := [.int (F 0), .int (F 1), .int (F 2), .int (F 3), .ref (m + moff 4), .ref (m + moff 5), .ref (m + moff 6), .ref (m + moff 7), .ref (m + moff 8), .ref (m + moff 9), .int (F 10), .ref (m + moff 11), .ref (m + moff 12), .ref (m + moff 13), .ref (m + moff 14), .ref (m + moff 15), .ref (m + moff 16), .int (F 17), .ref (m + moff 18), .ref (m + moff 19), .ref (m + moff 20), .ref (m + moff 21), .ref (m + moff 22), .ref (m + moff 23), .int (F 24), .ref (m + moff 25), .ref (m + moff 26), .ref (m + moff 27), .ref (m + moff 28), .ref (m + moff 29), .ref (m + moff 30)]
def MO (h : Hp) (m : Nat) (F : Nat → Int32) (A : Nat → Nat → Int32) (B : Nat → Int64) : Prop := h m = some (eO 5 (mobj m F)) ∧ ∀ kf, marr kf = true → h (m + moff kf) = some (ment kf A B)
def FrM (m : Nat) (h h' : Hp) : Prop := ∀ a, (a < m ∨ m + 25 ≤ a) → h' a = h a
/-- the reference's state where the heap is h, all else as in h0 -/
def MS (h0 h : Hp) (m : Nat) (F : Nat → Int32) (A : Nat → Nat → Int32) (B : Nat → Int64) : Prop := MO h m F A B ∧ FrM m h0 h
def KM (r : Option Value) (h : Hp) (m : Nat) (F : Nat → Int32) (A : Nat → Nat → Int32) (B : Nat → Int64) (nx : Nat) : Option Value → Hp → Nat → Prop := fun v h' nx' => v = r ∧ nx = nx' ∧ MS h h' m F A B
def upA (A : Nat → Nat → Int32) (kf : Nat) (f : Nat → Int32) : Nat → Nat → Int32 := fun q => if q = kf then f else A q
theorem upA_eq (A : Nat → Nat → Int32) (kf : Nat) (f : Nat → Int32) : upA A kf f kf = f := if_pos rfl
theorem upA_ne {A : Nat → Nat → Int32} {kf q : Nat} {f : Nat → Int32} (h : q ≠ kf) : upA A kf f q = A q := if_neg h
theorem moff_rng {kf : Nat} (h : marr kf = true) : 1 ≤ moff kf ∧ moff kf < 25 := by
  have h9 := of_decide_eq_true h
  unfold moff
  split
  · omega
  · split
    · omega
    · split <;> omega
theorem moff_inj {a b : Nat} (ha : marr a = true) (hb : marr b = true) (e : moff a = moff b) : a = b := by
  have h1 := of_decide_eq_true ha
  have h2 := of_decide_eq_true hb
  unfold moff at e
  split at e <;> split at e <;> (try split at e) <;> (try split at e) <;> (try split at e) <;> (try split at e) <;> omega
theorem MS.rf {h : Hp} {m : Nat} {F : Nat → Int32} {A : Nat → Nat → Int32} {B : Nat → Int64} (hM : MO h m F A B) : MS h h m F A B := ⟨hM, fun _ _ => rfl⟩
theorem MS.then {h0 h h' : Hp} {m : Nat} {F F' : Nat → Int32} {A A' : Nat → Nat → Int32} {B B' : Nat → Int64} (h1 : MS h0 h m F A B) (h2 : MS h h' m F' A' B') : MS h0 h' m F' A' B' := ⟨h2.1, fun a ha => (h2.2 a ha).trans (h1.2 a ha)⟩
theorem MS.putF {h0 h : Hp} {m : Nat} {F F' : Nat → Int32} {A : Nat → Nat → Int32} {B : Nat → Int64} (hM : MS h0 h m F A B) : MS h0 (hpU h m (eO 5 (mobj m F'))) m F' A B := by
  refine ⟨⟨hpU_eq _ _ _, fun kf hk => ?_⟩, fun a ha => ?_⟩
  · rw [hpU_ne (by have := moff_rng hk; omega)]
    exact hM.1.2 kf hk
  · rw [hpU_ne (by omega)]
    exact hM.2 a ha
theorem MS.putA {h0 h : Hp} {m kf : Nat} {F : Nat → Int32} {A A' : Nat → Nat → Int32} {B B' : Nat → Int64} (hM : MS h0 h m F A B) (hk : marr kf = true) (hA : ∀ q, q ≠ kf → ment q A' B' = ment q A B) : MS h0 (hpU h (m + moff kf) (ment kf A' B')) m F A' B' := by
  have hr := moff_rng hk
  refine ⟨⟨?_, fun q hq => ?_⟩, fun a ha => ?_⟩
  · rw [hpU_ne (by omega)]
    exact hM.1.1
  · by_cases e : q = kf
    · subst e
      rw [hpU_eq]
    · rw [hpU_ne (fun z => e (moff_inj hq hk (by omega))), hA q e]
      exact hM.1.2 q hq
  · rw [hpU_ne (by omega)]
    exact hM.2 a ha
section MRULES
variable {k : Cx} {own : String} {cc : ByteArray} {cells slots : Nat} {h0 h : Hp} {nx pc : Nat} {ls : List (Option Value)} {st stk : List Value} {mc ms mc0 ms0 lv lv0 n idx : Nat} {mi : Mi} {As : List Value} {m : Nat} {F : Nat → Int32} {A : Nat → Nat → Int32} {B : Nat → Int64}
theorem rm_get {kf : Nat} {ty : FieldType} {fin : Bool} {v : Value} (g : Gd k own cc) (hM : MS h0 h m F A B) (f : FL own idx 5 kf ty fin) (hv : (mobj m F)[kf]? = some v) (d : decode cc pc = .ok (.getfield idx, 3)) (kk : Sf k cells slots h nx (pc + 3) ls (v :: st)) : Sf k cells slots h nx pc ls (.ref m :: st) :=
  r_getf g f hM.1.1 hv d kk
theorem rm_put {kf : Nat} {v : Int32} {F' : Nat → Int32} (g : Gd k own cc) (hM : MS h0 h m F A B) (hb : cBase k ≤ m) (f : FL own idx 5 kf .int false) (hl : kf < 31) (hF : (mobj m F).set kf (.int v) = mobj m F') (d : decode cc pc = .ok (.putfield idx, 3)) (kk : ∀ h', MS h0 h' m F' A B → Sf k cells slots h' nx (pc + 3) ls st) : Sf k cells slots h nx pc ls (.int v :: .ref m :: st) :=
  r_putf g f hM.1.1 hb hl rfl rfl d (kk _ (by rw [hF]; exact hM.putF))
theorem ment_i {kf : Nat} (h : kf ≠ 27) (hz : mz kf = false) (A : Nat → Nat → Int32) (B : Nat → Int64) : ment kf A B = eI (mlen kf) (A kf) := by
  unfold ment
  rw [if_neg h, if_neg (by rw [hz]; decide)]
theorem ment_z {kf : Nat} (hz : mz kf = true) (A : Nat → Nat → Int32) (B : Nat → Int64) : ment kf A B = eZ (mlen kf) (A kf) := by
  unfold ment
  rw [if_neg (by intro q; rw [q] at hz; exact absurd hz (by decide)), if_pos hz]
theorem mlen_lt (kf : Nat) : mlen kf < 2 ^ 31 := by
  unfold mlen
  split <;> decide
theorem rm_iald (kf : Nat) {i : Int32} {j : Nat} (g : Gd k own cc) (hM : MS h0 h m F A B) (hk : marr kf = true) (h27 : kf ≠ 27) (hz : mz kf = false) (hi : i = nI j) (hj : j < mlen kf) (d : decode cc pc = .ok (.iaload, 1)) (kk : Sf k cells slots h nx (pc + 1) ls (.int (A kf j) :: st)) : Sf k cells slots h nx pc ls (.int i :: .ref (m + moff kf) :: st) :=
  r_iald g ((hM.1.2 kf hk).trans (by rw [ment_i h27 hz])) hi hj (mlen_lt kf) d kk
theorem rm_zald (kf : Nat) {i : Int32} {j : Nat} (g : Gd k own cc) (hM : MS h0 h m F A B) (hk : marr kf = true) (hz : mz kf = true) (hi : i = nI j) (hj : j < mlen kf) (d : decode cc pc = .ok (.baload, 1)) (kk : Sf k cells slots h nx (pc + 1) ls (.int (A kf j) :: st)) : Sf k cells slots h nx pc ls (.int i :: .ref (m + moff kf) :: st) :=
  r_zald g ((hM.1.2 kf hk).trans (by rw [ment_z hz])) hi hj (mlen_lt kf) d kk
theorem rm_lald {i : Int32} {j : Nat} (g : Gd k own cc) (hM : MS h0 h m F A B) (hi : i = nI j) (hj : j < 256) (d : decode cc pc = .ok (.laload, 1)) (kk : Sf k cells slots h nx (pc + 1) ls (.long (B j) :: st)) : Sf k cells slots h nx pc ls (.int i :: .ref (m + moff 27) :: st) :=
  r_lald g (hM.1.2 27 rfl) hi hj (by decide) d kk
theorem ment_up {A : Nat → Nat → Int32} {B : Nat → Int64} {kf q : Nat} {f : Nat → Int32} (h : q ≠ kf) : ment q (upA A kf f) B = ment q A B := by
  unfold ment
  rw [upA_ne h]
theorem rm_iast (kf : Nat) {i x : Int32} {j : Nat} (g : Gd k own cc) (hM : MS h0 h m F A B) (hb : cBase k ≤ m) (hk : marr kf = true) (h27 : kf ≠ 27) (hz : mz kf = false) (hi : i = nI j) (hj : j < mlen kf) (d : decode cc pc = .ok (.iastore, 1)) (kk : ∀ h', MS h0 h' m F (upA A kf (upd (A kf) j x)) B → Sf k cells slots h' nx (pc + 1) ls st) : Sf k cells slots h nx pc ls (.int x :: .int i :: .ref (m + moff kf) :: st) :=
  r_iast g ((hM.1.2 kf hk).trans (by rw [ment_i h27 hz])) (Nat.le_trans hb (Nat.le_add_right _ _)) hi hj (mlen_lt kf) d (kk _ (by
    have h9 := hM.putA (A' := upA A kf (upd (A kf) j x)) (B' := B) hk (fun q hq => ment_up hq)
    rw [ment_i h27 hz, upA_eq] at h9
    exact h9))
theorem rm_zast (kf : Nat) {i x : Int32} {j : Nat} (g : Gd k own cc) (hM : MS h0 h m F A B) (hb : cBase k ≤ m) (hk : marr kf = true) (hz : mz kf = true) (hi : i = nI j) (hj : j < mlen kf) (hx : narrow .boolean (.int x) = .int x) (d : decode cc pc = .ok (.bastore, 1)) (kk : ∀ h', MS h0 h' m F (upA A kf (upd (A kf) j x)) B → Sf k cells slots h' nx (pc + 1) ls st) : Sf k cells slots h nx pc ls (.int x :: .int i :: .ref (m + moff kf) :: st) :=
  r_zast g ((hM.1.2 kf hk).trans (by rw [ment_z hz])) (Nat.le_trans hb (Nat.le_add_right _ _)) hi hj (mlen_lt kf) hx d (kk _ (by
    have h9 := hM.putA (A' := upA A kf (upd (A kf) j x)) (B' := B) hk (fun q hq => ment_up hq)
    rw [ment_z hz, upA_eq] at h9
    exact h9))
theorem rm_last {i : Int32} {x : Int64} {j : Nat} (g : Gd k own cc) (hM : MS h0 h m F A B) (hb : cBase k ≤ m) (hi : i = nI j) (hj : j < 256) (d : decode cc pc = .ok (.lastore, 1)) (kk : ∀ h', MS h0 h' m F A (vp_updL B j x) → Sf k cells slots h' nx (pc + 1) ls st) : Sf k cells slots h nx pc ls (.long x :: .int i :: .ref (m + moff 27) :: st) :=
  r_last g (hM.1.2 27 rfl) (Nat.le_trans hb (Nat.le_add_right _ _)) hi hj (by decide) d (kk _ (hM.putA (kf := 27) (A' := A) (B' := vp_updL B j x) rfl (fun q hq => by unfold ment; rw [if_neg hq, if_neg hq])))
/-- calls whose answer is all: the heap stays -/
theorem r_pV {a ci : Nat} {fs : List Value} {v : Value} (g : Gd k own cc) (cv : CV own idx mi n) (hM : MetP (cL k) (cG k) (cD k) (cBase k) mi lv 0 0 (.ref a :: As) h nx (Kv v h nx)) (hobj : h a = some (eO ci fs)) (hci : (vwCl[ci]?).map (fun q => q.1) = some mi.1.cls) (hn : As.length = n) (hstk : stk = As.reverse ++ .ref a :: st) (hnx : cBase k ≤ nx)
    (hR : RmK k lv0 mc0 ms0) (h1 : lv + 1 ≤ lv0) (h2 : cells ≤ mc0) (h3 : slots ≤ ms0) (h4 : Nat.ble mi.2.2.1 20 = true) (hW : Nat.ble ((st.map fun v => v.category).sum) 8 = true) (d : decode cc pc = .ok (.invokevirtual idx, 3))
    (kk : Sf k cells slots h nx (pc + 3) ls (v :: st)) : Sf k cells slots h nx pc ls stk :=
  r_callV g cv hM hobj hci hn hstk hnx hR h1 h2 h3 h4 hW d (fun v9 h' nx' hk _ => by obtain ⟨rfl, rfl, rfl⟩ := hk; exact kk)
theorem r_pS {v : Value} (g : Gd k own cc) (cv : CSt own idx mi n) (hM : MetP (cL k) (cG k) (cD k) (cBase k) mi lv 0 0 As h nx (Kv v h nx)) (hn : As.length = n) (hstk : stk = As.reverse ++ st) (hnx : cBase k ≤ nx)
    (hR : RmK k lv0 mc0 ms0) (h1 : lv + 1 ≤ lv0) (h2 : cells ≤ mc0) (h3 : slots ≤ ms0) (h4 : Nat.ble mi.2.2.1 20 = true) (hW : Nat.ble ((st.map fun v => v.category).sum) 8 = true) (d : decode cc pc = .ok (.invokestatic idx, 3))
    (kk : Sf k cells slots h nx (pc + 3) ls (v :: st)) : Sf k cells slots h nx pc ls stk :=
  r_callS g cv hM hn hstk hnx hR h1 h2 h3 h4 hW d (fun v9 h' nx' hk _ => by obtain ⟨rfl, rfl, rfl⟩ := hk; exact kk)
/-- calls of the reference's methods that change its state -/
theorem r_mV {F' : Nat → Int32} {A' : Nat → Nat → Int32} {B' : Nat → Int64} {r : Option Value} (g : Gd k own cc) (cv : CV own idx mi n) (hS : MS h0 h m F A B) (hM : MetP (cL k) (cG k) (cD k) (cBase k) mi lv 0 0 (.ref m :: As) h nx (KM r h m F' A' B' nx)) (hci : mi.1.cls = RX5) (hn : As.length = n) (hstk : stk = As.reverse ++ .ref m :: st) (hnx : cBase k ≤ nx)
    (hR : RmK k lv0 mc0 ms0) (h1 : lv + 1 ≤ lv0) (h2 : cells ≤ mc0) (h3 : slots ≤ ms0) (h4 : Nat.ble mi.2.2.1 20 = true) (hW : Nat.ble ((st.map fun v => v.category).sum) 8 = true) (d : decode cc pc = .ok (.invokevirtual idx, 3))
    (kk : ∀ h', MS h0 h' m F' A' B' → Sf k cells slots h' nx (pc + 3) ls (r.toList ++ st)) : Sf k cells slots h nx pc ls stk :=
  r_callV g cv hM hS.1.1 (by rw [hci]; rfl) hn hstk hnx hR h1 h2 h3 h4 hW d (fun v9 h' nx' hk _ => by obtain ⟨rfl, rfl, hq⟩ := hk; exact kk h' (hS.then hq))
end MRULES
