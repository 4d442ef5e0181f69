/-! 03: a judgement over pure states: Sf k cells slots h nx pc ls st - from the frame at pc with locals ls and stack st, the heap holding what h says and being nx cells long, the machine comes to an end that k's goal holds of -/
abbrev PE : Type := (Nat × vp_A) ⊕ (Nat × List Value)
abbrev Hp : Type := Nat → Option PE
def toE (G : Nat → ClassId) (e : PE) : va_E := match e with
  | .inl x => .inl (G x.1, x.2)
  | .inr o => .inr o
def eI (n : Nat) (f : Nat → Int32) : PE := .inl (0, n, .inl f)
def eJ (n : Nat) (f : Nat → Int64) : PE := .inl (1, n, .inr (.inl f))
def eZ (n : Nat) (f : Nat → Int32) : PE := .inl (2, n, .inl f)
def eQ (t n : Nat) (f : Nat → Option Nat) : PE := .inl (t + 3, n, .inr (.inr (.inr (.inr f))))
def eO (k : Nat) (fs : List Value) : PE := .inr (k, fs)
def tysG (G : Nat → ClassId) : List (ClassId × FieldType) := [(G 0, .int), (G 1, .long), (G 2, .boolean), (G 3, .object RX1), (G 4, .object RX2)]
def hpU (h : Hp) (a : Nat) (e : PE) : Hp := fun b => if b = a then some e else h b
theorem hpU_eq (h : Hp) (a : Nat) (e : PE) : hpU h a e a = some e := if_pos rfl
theorem hpU_ne {h : Hp} {a b : Nat} {e : PE} (n : b ≠ a) : hpU h a e b = h b := if_neg n
def HPok (G : Nat → ClassId) (D : va_G) (nx : Nat) (h : Hp) (H : Heap) : Prop := H.size = nx ∧ ∀ a e, h a = some e → va_at D vwCl (a, toE G e) H
def ABase (base : Nat) : Nat → Prop := fun q => base ≤ q
/-- the texts that the class throws with: pool entries of CallSums -/
def thrL : List (Nat × String) := [(47, "no such floor, or no such speed"), (57, "there are 4 cars"), (68, "no such car, floor or second"), (76, "no such car, or no such zone"), (84, "no such car"), (90, "no such floor, or both are one"), (98, "there are 6 open calls, or 400 calls"), (110, "the call is not open"), (115, "the call is not open, or no such car"), (132, "so many seconds can not pass"), (155, "there never was such a call"), (165, "no such car, or k is below 0"), (170, "there never was such a call, or nothing such is told")]
def eIA : String := "java/lang/IllegalArgumentException"
def eIS : String := "java/lang/IllegalStateException"
/-- words of exceptions that only the tables decide -/
def exW : List Cond := [.castable eIA eIA, .castable eIS eIS, .declares (Bundle.initS "java/lang/RuntimeException"), .declares (Bundle.initS "java/lang/Exception"), .declares (Bundle.initS "java/lang/Throwable")]
theorem exW_warm {u U : State} (hW : u.WarmedH U.vm) (h : ∀ w ∈ exW, va_Nw w u) : ∀ w ∈ exW, va_Nw w U := by
  have q := fun i (w : Cond) (e : exW[i]? = some w) => h w (List.mem_of_getElem? e)
  exact List.forall_mem_cons.mpr ⟨va_Nw.warmC hW (q 0 _ rfl), List.forall_mem_cons.mpr ⟨va_Nw.warmC hW (q 1 _ rfl), List.forall_mem_cons.mpr ⟨va_Nw.warmD hW (q 2 _ rfl), List.forall_mem_cons.mpr ⟨va_Nw.warmD hW (q 3 _ rfl), List.forall_mem_cons.mpr ⟨va_Nw.warmD hW (q 4 _ rfl), fun _ z => (List.not_mem_nil z).elim⟩⟩⟩⟩⟩
def KK (G : Nat → ClassId) (D : va_G) (base : Nat) (U : State) (H : Heap) : Prop :=
  va_K D vwCl (tysG G) U ∧ (va_AO RX1 U ∧ va_AO RX2 U ∧ va_Nw (.methodLinkNest RX1 9 yX3_init RX4) U ∧ (∀ q ∈ thrL, ∃ sa : Nat, vk_R RX4 q.1 q.2 sa U) ∧ (∀ w ∈ exW, va_Nw w U) ∧ va_Nc eIS eIA U) ∧ vx_Zq Bundle.tN "UNASSIGNED_STACK" Bundle.steD (ABase base) U H ∧ vx_Zq Bundle.tN "SUPPRESSED_SENTINEL" Bundle.listD (ABase base) U H
theorem KK.warm {G : Nat → ClassId} {D : va_G} {base : Nat} {u U : State} {H : Heap} (hW : u.WarmedH U.vm) (h : KK G D base u H) : KK G D base U H :=
  ⟨va_K.moved hW.alike h.1, ⟨va_AO.moved hW.alike h.2.1.1, va_AO.moved hW.alike h.2.1.2.1, va_Nw.warmM hW h.2.1.2.2.1, fun q hq => (h.2.1.2.2.2.1 q hq).elim fun sa z => ⟨sa, z.warm hW⟩, exW_warm hW h.2.1.2.2.2.2.1, va_Nc.moved hW.alike h.2.1.2.2.2.2.2⟩, vx_Zq.moved hW.alike h.2.2.1, vx_Zq.moved hW.alike h.2.2.2⟩
theorem KK.kept {G : Nat → ClassId} {D : va_G} {base : Nat} {U : State} {H H1 : Heap} (h : KK G D base U H) (hq : ∀ a : Nat, a < H.size → ¬ ABase base a → H1[a]? = H[a]?) : KK G D base U H1 :=
  ⟨h.1, h.2.1, h.2.2.1.kept hq, h.2.2.2.kept hq⟩
/-- locals by their places; none: not known -/
def lh (la : Array Slot) (nL : Nat) (ls : List (Option Value)) : Prop := la.size = nL ∧ lv_wf la ∧ ls.length = nL ∧ ∀ (k : Nat) (v : Value), ls[k]? = some (some v) → la[k]? = some (Slot.val v)
def lprs (nL : Nat) (ls : List (Option Value)) : List (Nat × Value) := (List.range nL).filterMap (fun k => match ls[k]? with
  | some (some v) => some (k, v)
  | _ => none)
theorem lprs_mem {nL : Nat} {ls : List (Option Value)} {k : Nat} {v : Value} : (k, v) ∈ lprs nL ls ↔ k < nL ∧ ls[k]? = some (some v) := by
  unfold lprs
  rw [List.mem_filterMap]
  constructor
  · rintro ⟨a, h1, h2⟩
    have h3 := List.mem_range.mp h1
    split at h2
    · next w hw =>
      cases h2
      exact ⟨h3, hw⟩
    · cases h2
  · rintro ⟨h1, h2⟩
    exact ⟨k, List.mem_range.mpr h1, by rw [h2]⟩
theorem lh.has {la : Array Slot} {nL : Nat} {ls : List (Option Value)} (h : lh la nL ls) : lv_has la nL (lprs nL ls) :=
  ⟨h.1, h.2.1, fun q hq => h.2.2.2 q.1 q.2 (lprs_mem.mp hq).2⟩
/-- no long stands just ahead of place i -/
def noL (ls : List (Option Value)) (i : Nat) : Bool := match i with
  | 0 => true
  | j + 1 => match ls[j]? with
    | some (some v) => !(Nat.beq v.category 2)
    | _ => true
theorem noL_spec {ls : List (Option Value)} {i k : Nat} {v : Value} (h : noL ls i = true) (hk : ls[k]? = some (some v)) (e : k + 1 = i) : ¬ v.category = 2 := by
  subst e
  unfold noL at h
  simp only [hk] at h
  intro q
  rw [q] at h
  exact absurd h (by decide)
theorem lh_store1 {la' : Array Slot} {nL i : Nat} {ls : List (Option Value)} {v : Value} (hlen : ls.length = nL) (hn : i < nL) (hno : noL ls i = true)
    (h : lv_has la' nL ((i, v) :: (lprs nL ls).filter (fun q => !(q.1 == i) && !(q.1 + 1 == i && q.2.category == 2)))) : lh la' nL (ls.set i (some v)) := by
  refine ⟨h.1, h.2.1, by rw [List.length_set]; exact hlen, fun k w hk => ?_⟩
  by_cases hki : k = i
  · subst hki
    rw [List.getElem?_set_self (by omega)] at hk
    cases hk
    exact h.2.2 (k, v) List.mem_cons_self
  · rw [List.getElem?_set_ne (fun e => hki e.symm)] at hk
    have hkl : k < nL := by rw [← hlen]; exact (List.getElem?_eq_some_iff.mp hk).1
    refine h.2.2 (k, w) (List.mem_cons_of_mem _ (List.mem_filter.mpr ⟨lprs_mem.mpr ⟨hkl, hk⟩, ?_⟩))
    have h2 : k + 1 = i → ¬ w.category = 2 := fun e => noL_spec hno hk e
    simp only [Bool.and_eq_true, Bool.not_eq_true', beq_eq_false_iff_ne, ne_eq]
    refine ⟨hki, ?_⟩
    by_cases e : k + 1 = i
    · simp [h2 e]
    · simp [e]
theorem lh_store2 {la' : Array Slot} {nL i : Nat} {ls : List (Option Value)} {v : Value} (hlen : ls.length = nL) (hn : i + 1 < nL) (hno : noL ls i = true)
    (h : lv_has la' nL ((i, v) :: (lprs nL ls).filter (fun q => !(q.1 == i) && (!(q.1 == i + 1) && !(q.1 + 1 == i && q.2.category == 2))))) : lh la' nL ((ls.set i (some v)).set (i + 1) none) := by
  refine ⟨h.1, h.2.1, by rw [List.length_set, List.length_set]; exact hlen, fun k w hk => ?_⟩
  by_cases hki1 : k = i + 1
  · subst hki1
    rw [List.getElem?_set_self (by rw [List.length_set]; omega)] at hk
    cases hk
  · rw [List.getElem?_set_ne (fun e => hki1 e.symm)] at hk
    by_cases hki : k = i
    · subst hki
      rw [List.getElem?_set_self (by omega)] at hk
      cases hk
      exact h.2.2 (k, v) List.mem_cons_self
    · rw [List.getElem?_set_ne (fun e => hki e.symm)] at hk
      have hkl : k < nL := by rw [← hlen]; exact (List.getElem?_eq_some_iff.mp hk).1
      refine h.2.2 (k, w) (List.mem_cons_of_mem _ (List.mem_filter.mpr ⟨lprs_mem.mpr ⟨hkl, hk⟩, ?_⟩))
      have h2 : k + 1 = i → ¬ w.category = 2 := fun e => noL_spec hno hk e
      simp only [Bool.and_eq_true, Bool.not_eq_true', beq_eq_false_iff_ne, ne_eq]
      refine ⟨hki, hki1, ?_⟩
      by_cases e : k + 1 = i
      · simp [h2 e]
      · simp [e]
/-- fewer known -/
def lle : List (Option Value) → List (Option Value) → Prop
  | [], [] => True
  | none :: t, _ :: t2 => lle t t2
  | some v :: t, some w :: t2 => w = v ∧ lle t t2
  | _, _ => False
theorem lle_at : ∀ {a b : List (Option Value)} {k : Nat} {v : Value}, lle a b → a[k]? = some (some v) → b[k]? = some (some v)
  | [], _, k, v, _, h => by simp at h
  | none :: t, [], _, _, h, _ => h.elim
  | none :: t, _ :: t2, 0, v, _, h => by simp at h
  | none :: t, x :: t2, k + 1, v, h1, h => by
    rw [List.getElem?_cons_succ] at h ⊢
    exact lle_at (a := t) (b := t2) h1 h
  | some w :: t, [], _, _, h, _ => h.elim
  | some w :: t, none :: t2, _, _, h, _ => h.elim
  | some w :: t, some x :: t2, 0, v, h1, h => by
    rw [List.getElem?_cons_zero] at h ⊢
    rw [h1.1]
    exact h
  | some w :: t, some x :: t2, k + 1, v, h1, h => by
    rw [List.getElem?_cons_succ] at h ⊢
    exact lle_at (a := t) (b := t2) h1.2 h
theorem lle_len : ∀ {a b : List (Option Value)}, lle a b → a.length = b.length
  | [], [], _ => rfl
  | [], _ :: _, h => h.elim
  | none :: t, [], h => h.elim
  | none :: t, x :: t2, h => by rw [List.length_cons, List.length_cons, lle_len (a := t) (b := t2) h]
  | some w :: t, [], h => h.elim
  | some w :: t, none :: t2, h => h.elim
  | some w :: t, some x :: t2, h => by rw [List.length_cons, List.length_cons, lle_len (a := t) (b := t2) h.2]
theorem lh.le {la : Array Slot} {nL : Nat} {a b : List (Option Value)} (h : lh la nL b) (hl : lle a b) : lh la nL a :=
  ⟨h.1, h.2.1, (lle_len hl).trans h.2.2.1, fun k v hk => h.2.2.2 k v (lle_at hl hk)⟩
/-- the locals at a method's entry -/
def enL : List Value → List (Option Value)
  | [] => []
  | v :: vs => if v.category = 2 then some v :: none :: enL vs else some v :: enL vs
theorem enL_mem : ∀ (vs : List Value) (i k : Nat) (v : Value), (enL vs)[k]? = some (some v) → (i + k, v) ∈ lv_args i vs
  | [], i, k, v, h => by simp [enL] at h
  | w :: vs, i, k, v, h => by
    unfold enL at h
    unfold lv_args
    by_cases hc : w.category = 2
    · rw [if_pos hc] at h ⊢
      match k, h with
      | 0, h => rw [List.getElem?_cons_zero] at h; cases h; exact List.mem_cons_self
      | 1, h => simp at h
      | k + 2, h =>
        rw [List.getElem?_cons_succ, List.getElem?_cons_succ] at h
        have := enL_mem vs (i + 2) k v h
        rw [show i + (k + 2) = i + 2 + k by omega]
        exact List.mem_cons_of_mem _ this
    · rw [if_neg hc] at h ⊢
      match k, h with
      | 0, h => rw [List.getElem?_cons_zero] at h; cases h; exact List.mem_cons_self
      | k + 1, h =>
        rw [List.getElem?_cons_succ] at h
        have := enL_mem vs (i + 1) k v h
        rw [show i + (k + 1) = i + 1 + k by omega]
        exact List.mem_cons_of_mem _ this
theorem enL_len : ∀ (vs : List Value), (enL vs).length = (lg_sl vs).length
  | [] => rfl
  | w :: vs => by
    have ih := enL_len vs
    unfold enL
    have e : lg_sl (w :: vs) = (if w.category = 2 then [Slot.val w, Slot.second] else [Slot.val w]) ++ lg_sl vs := by simp [lg_sl]
    rw [e]
    by_cases hc : w.category = 2
    · simp [hc, ih]
    · simp [hc, ih]
theorem lh_entry (vs : List Value) {n : Nat} (h : (enL vs).length ≤ n) : lh ((lg_sl vs ++ List.replicate (n - (lg_sl vs).length) Slot.unset).toArray) n (enL vs ++ List.replicate (n - (enL vs).length) none) := by
  have h0 := lv_entry vs (n := n) (by rw [← enL_len]; exact h)
  refine ⟨h0.1, h0.2.1, by simp; omega, fun k v hk => ?_⟩
  by_cases hl : k < (enL vs).length
  · rw [List.getElem?_append_left hl] at hk
    have h1 := enL_mem vs 0 k v hk
    rw [Nat.zero_add] at h1
    exact h0.2.2 (k, v) h1
  · rw [List.getElem?_append_right (by omega), List.getElem?_replicate] at hk
    split at hk <;> cases hk
abbrev Cx : Type := Program × Launch × Env × Room × State × MethodId × Array Value × List Frame × Method × Code × (State → Prop) × Nat × (Nat → ClassId) × va_G × Nat
def Sf (k : Cx) (cells slots : Nat) (h : Hp) (nx pc : Nat) (ls : List (Option Value)) (st : List Value) : Prop := match k with
  | (p, l, e, R, s, m, args, below, meth, c, Q, base, G, D, nL) => ∀ (H : Heap) (locs : List Loc) (la : Array Slot), HPok G D nx h H → va_S (ABase base) s.heap H locs → lh la nL ls → W p l e R s m args below meth c H locs cells slots Q (F0 m pc la st)
def Gd (k : Cx) (own : String) (cc : ByteArray) : Prop := match k with
  | (p, _, _, _, s, m, args, _, meth, c, _, base, G, D, nL) => p.tables.exec = Jvm.exec ∧ c.code = cc ∧ c.maxLocals = nL ∧ s.vm.findClass own = some m.cls ∧ (∀ w ∈ UW, w.before args s = true) ∧ KK G D base s s.heap ∧ base ≤ s.heap.size ∧ meth.locks = false
def cRoom (k : Cx) : Room := k.2.2.2.1
def cBase (k : Cx) : Nat := k.2.2.2.2.2.2.2.2.2.2.2.1
def cName (k : Cx) : String := k.2.2.2.2.2.2.2.2.1.name
section RULES
variable {k : Cx} {own : String} {cc : ByteArray} {cells slots : Nat} {h : Hp} {nx pc : Nat} {ls : List (Option Value)} {st : List Value}
theorem r_eq {ls2 : List (Option Value)} {st2 : List Value} {pc2 : Nat} (e1 : pc = pc2) (e2 : ls = ls2) (e3 : st = st2) (kk : Sf k cells slots h nx pc2 ls2 st2) : Sf k cells slots h nx pc ls st := by
  subst e1; subst e2; subst e3; exact kk
theorem r_le {ls2 : List (Option Value)} (hl : lle ls2 ls) (kk : Sf k cells slots h nx pc ls2 st) : Sf k cells slots h nx pc ls st := by
  obtain ⟨p, l, e, R, s, m, args, below, meth, c, Q, base, G, D, nL⟩ := k
  exact fun H locs la hH hS hL => kk H locs la hH hS (hL.le hl)
theorem r_widen {c2 s2 : Nat} (h1 : cells ≤ c2) (h2 : slots ≤ s2) (kk : Sf k c2 s2 h nx pc ls st) : Sf k cells slots h nx pc ls st := by
  obtain ⟨p, l, e, R, s, m, args, below, meth, c, Q, base, G, D, nL⟩ := k
  exact fun H locs la hH hS hL => W.widen h1 h2 (kk H locs la hH hS hL)
theorem r_topi {x y : Int32} {rest : List Value} (e : x = y) (kk : Sf k cells slots h nx pc ls (.int y :: rest)) : Sf k cells slots h nx pc ls (.int x :: rest) := e ▸ kk
theorem r_topl {x y : Int64} {rest : List Value} (e : x = y) (kk : Sf k cells slots h nx pc ls (.long y :: rest)) : Sf k cells slots h nx pc ls (.long x :: rest) := e ▸ kk

theorem r_iconst {n : Int} {v : Int32} (g : Gd k own cc) (d : decode cc pc = .ok (.iconst n, 1)) (hv : Int32.ofInt n = v) (kk : Sf k cells slots h nx (pc + 1) ls (.int v :: st)) : Sf k cells slots h nx pc ls (st) := by
  obtain ⟨p, l, e, R, s, m, args, below, meth, c, Q, base, G, D, nL⟩ := k
  exact fun H locs la hH hS hL => lv_iconst g.1 g.2.1 d hv (kk H locs la hH hS hL)

theorem r_bipush {n : Int} {v : Int32} (g : Gd k own cc) (d : decode cc pc = .ok (.bipush n, 2)) (hv : (Int8.ofInt n).toInt32 = v) (kk : Sf k cells slots h nx (pc + 2) ls (.int v :: st)) : Sf k cells slots h nx pc ls (st) := by
  obtain ⟨p, l, e, R, s, m, args, below, meth, c, Q, base, G, D, nL⟩ := k
  exact fun H locs la hH hS hL => lv_bipush g.1 g.2.1 d hv (kk H locs la hH hS hL)

theorem r_sipush {n : Int} {v : Int32} (g : Gd k own cc) (d : decode cc pc = .ok (.sipush n, 3)) (hv : (Int16.ofInt n).toInt32 = v) (kk : Sf k cells slots h nx (pc + 3) ls (.int v :: st)) : Sf k cells slots h nx pc ls (st) := by
  obtain ⟨p, l, e, R, s, m, args, below, meth, c, Q, base, G, D, nL⟩ := k
  exact fun H locs la hH hS hL => lv_sipush g.1 g.2.1 d hv (kk H locs la hH hS hL)

theorem r_lconst {n : Fin 2} {v : Int64} (g : Gd k own cc) (d : decode cc pc = .ok (.lconst n, 1)) (hv : Int64.ofNat (n : Nat) = v) (kk : Sf k cells slots h nx (pc + 1) ls (.long v :: st)) : Sf k cells slots h nx pc ls (st) := by
  obtain ⟨p, l, e, R, s, m, args, below, meth, c, Q, base, G, D, nL⟩ := k
  exact fun H locs la hH hS hL => lv_lconst g.1 g.2.1 d hv (kk H locs la hH hS hL)

theorem r_ldc {index : Nat} {v : Int32} (g : Gd k own cc) (d : decode cc pc = .ok (.ldc index, 2)) (hw : Cond.constant own index v ∈ UW) (kk : Sf k cells slots h nx (pc + 2) ls (.int v :: st)) : Sf k cells slots h nx pc ls (st) := by
  obtain ⟨p, l, e, R, s, m, args, below, meth, c, Q, base, G, D, nL⟩ := k
  exact fun H locs la hH hS hL => lv_ldc g.1 g.2.1 g.2.2.2.1 (g.2.2.2.2.1 _ hw) d (kk H locs la hH hS hL)

theorem r_ldc2 {index : Nat} {v : Int64} (g : Gd k own cc) (d : decode cc pc = .ok (.ldc2_w index, 3)) (hw : Cond.constantLong own index v ∈ UW) (kk : Sf k cells slots h nx (pc + 3) ls (.long v :: st)) : Sf k cells slots h nx pc ls (st) := by
  obtain ⟨p, l, e, R, s, m, args, below, meth, c, Q, base, G, D, nL⟩ := k
  exact fun H locs la hH hS hL => lv_ldc2 g.1 g.2.1 g.2.2.2.1 (g.2.2.2.2.1 _ hw) d (kk H locs la hH hS hL)

theorem r_iload_n {i : Fin 4} {x : Int32} (g : Gd k own cc) (d : decode cc pc = .ok (.iload_n i, 1)) (hl : ls[(i : Nat)]? = some (some (.int x))) (kk : Sf k cells slots h nx (pc + 1) ls (.int x :: st)) : Sf k cells slots h nx pc ls (st) := by
  obtain ⟨p, l, e, R, s, m, args, below, meth, c, Q, base, G, D, nL⟩ := k
  exact fun H locs la hH hS hL => lv_iload_n g.1 g.2.1 d rfl (hL.2.2.2 _ _ hl) (kk H locs la hH hS hL)

theorem r_iload {i : Nat} {x : Int32} (g : Gd k own cc) (d : decode cc pc = .ok (.iload i, 2)) (hl : ls[i]? = some (some (.int x))) (kk : Sf k cells slots h nx (pc + 2) ls (.int x :: st)) : Sf k cells slots h nx pc ls (st) := by
  obtain ⟨p, l, e, R, s, m, args, below, meth, c, Q, base, G, D, nL⟩ := k
  exact fun H locs la hH hS hL => lv_iload g.1 g.2.1 d (hL.2.2.2 _ _ hl) (kk H locs la hH hS hL)

theorem r_lload_n {i : Fin 4} {x : Int64} (g : Gd k own cc) (d : decode cc pc = .ok (.lload_n i, 1)) (hl : ls[(i : Nat)]? = some (some (.long x))) (kk : Sf k cells slots h nx (pc + 1) ls (.long x :: st)) : Sf k cells slots h nx pc ls (st) := by
  obtain ⟨p, l, e, R, s, m, args, below, meth, c, Q, base, G, D, nL⟩ := k
  exact fun H locs la hH hS hL => lv_lload_n g.1 g.2.1 d rfl (hL.2.2.2 _ _ hl) (kk H locs la hH hS hL)

theorem r_lload {i : Nat} {x : Int64} (g : Gd k own cc) (d : decode cc pc = .ok (.lload i, 2)) (hl : ls[i]? = some (some (.long x))) (kk : Sf k cells slots h nx (pc + 2) ls (.long x :: st)) : Sf k cells slots h nx pc ls (st) := by
  obtain ⟨p, l, e, R, s, m, args, below, meth, c, Q, base, G, D, nL⟩ := k
  exact fun H locs la hH hS hL => lv_lload g.1 g.2.1 d (hL.2.2.2 _ _ hl) (kk H locs la hH hS hL)

theorem r_aload_n {i : Fin 4} {x : Nat} (g : Gd k own cc) (d : decode cc pc = .ok (.aload_n i, 1)) (hl : ls[(i : Nat)]? = some (some (.ref x))) (kk : Sf k cells slots h nx (pc + 1) ls (.ref x :: st)) : Sf k cells slots h nx pc ls (st) := by
  obtain ⟨p, l, e, R, s, m, args, below, meth, c, Q, base, G, D, nL⟩ := k
  exact fun H locs la hH hS hL => lv_aload_n g.1 g.2.1 d rfl (hL.2.2.2 _ _ hl) (kk H locs la hH hS hL)

theorem r_aload {i : Nat} {x : Nat} (g : Gd k own cc) (d : decode cc pc = .ok (.aload i, 2)) (hl : ls[i]? = some (some (.ref x))) (kk : Sf k cells slots h nx (pc + 2) ls (.ref x :: st)) : Sf k cells slots h nx pc ls (st) := by
  obtain ⟨p, l, e, R, s, m, args, below, meth, c, Q, base, G, D, nL⟩ := k
  exact fun H locs la hH hS hL => lv_aload g.1 g.2.1 d (hL.2.2.2 _ _ hl) (kk H locs la hH hS hL)

theorem r_aload_nN {i : Fin 4} (g : Gd k own cc) (d : decode cc pc = .ok (.aload_n i, 1)) (hl : ls[(i : Nat)]? = some (some .null)) (kk : Sf k cells slots h nx (pc + 1) ls (.null :: st)) : Sf k cells slots h nx pc ls (st) := by
  obtain ⟨p, l, e, R, s, m, args, below, meth, c, Q, base, G, D, nL⟩ := k
  exact fun H locs la hH hS hL => lv_aload_nN g.1 g.2.1 d rfl (hL.2.2.2 _ _ hl) (kk H locs la hH hS hL)

theorem r_aloadN {i : Nat} (g : Gd k own cc) (d : decode cc pc = .ok (.aload i, 2)) (hl : ls[i]? = some (some .null)) (kk : Sf k cells slots h nx (pc + 2) ls (.null :: st)) : Sf k cells slots h nx pc ls (st) := by
  obtain ⟨p, l, e, R, s, m, args, below, meth, c, Q, base, G, D, nL⟩ := k
  exact fun H locs la hH hS hL => lv_aloadN g.1 g.2.1 d (hL.2.2.2 _ _ hl) (kk H locs la hH hS hL)

theorem r_null (g : Gd k own cc) (d : decode cc pc = .ok (.aconst_null, 1)) (kk : Sf k cells slots h nx (pc + 1) ls (.null :: st)) : Sf k cells slots h nx pc ls (st) := by
  obtain ⟨p, l, e, R, s, m, args, below, meth, c, Q, base, G, D, nL⟩ := k
  exact fun H locs la hH hS hL => lv_null g.1 g.2.1 d (kk H locs la hH hS hL)

theorem r_iadd {x y : Int32} (g : Gd k own cc) (d : decode cc pc = .ok (.iadd, 1)) (kk : Sf k cells slots h nx (pc + 1) ls (.int (x + y) :: st)) : Sf k cells slots h nx pc ls (.int y :: .int x :: st) := by
  obtain ⟨p, l, e, R, s, m, args, below, meth, c, Q, base, G, D, nL⟩ := k
  exact fun H locs la hH hS hL => lv_iadd g.1 g.2.1 d (kk H locs la hH hS hL)

theorem r_isub {x y : Int32} (g : Gd k own cc) (d : decode cc pc = .ok (.isub, 1)) (kk : Sf k cells slots h nx (pc + 1) ls (.int (x - y) :: st)) : Sf k cells slots h nx pc ls (.int y :: .int x :: st) := by
  obtain ⟨p, l, e, R, s, m, args, below, meth, c, Q, base, G, D, nL⟩ := k
  exact fun H locs la hH hS hL => lv_isub g.1 g.2.1 d (kk H locs la hH hS hL)

theorem r_imul {x y : Int32} (g : Gd k own cc) (d : decode cc pc = .ok (.imul, 1)) (kk : Sf k cells slots h nx (pc + 1) ls (.int (x * y) :: st)) : Sf k cells slots h nx pc ls (.int y :: .int x :: st) := by
  obtain ⟨p, l, e, R, s, m, args, below, meth, c, Q, base, G, D, nL⟩ := k
  exact fun H locs la hH hS hL => lv_imul g.1 g.2.1 d (kk H locs la hH hS hL)

theorem r_iand {x y : Int32} (g : Gd k own cc) (d : decode cc pc = .ok (.iand, 1)) (kk : Sf k cells slots h nx (pc + 1) ls (.int (x &&& y) :: st)) : Sf k cells slots h nx pc ls (.int y :: .int x :: st) := by
  obtain ⟨p, l, e, R, s, m, args, below, meth, c, Q, base, G, D, nL⟩ := k
  exact fun H locs la hH hS hL => lv_iand g.1 g.2.1 d (kk H locs la hH hS hL)

theorem r_ior {x y : Int32} (g : Gd k own cc) (d : decode cc pc = .ok (.ior, 1)) (kk : Sf k cells slots h nx (pc + 1) ls (.int (x ||| y) :: st)) : Sf k cells slots h nx pc ls (.int y :: .int x :: st) := by
  obtain ⟨p, l, e, R, s, m, args, below, meth, c, Q, base, G, D, nL⟩ := k
  exact fun H locs la hH hS hL => lv_ior g.1 g.2.1 d (kk H locs la hH hS hL)

theorem r_ixor {x y : Int32} (g : Gd k own cc) (d : decode cc pc = .ok (.ixor, 1)) (kk : Sf k cells slots h nx (pc + 1) ls (.int (x ^^^ y) :: st)) : Sf k cells slots h nx pc ls (.int y :: .int x :: st) := by
  obtain ⟨p, l, e, R, s, m, args, below, meth, c, Q, base, G, D, nL⟩ := k
  exact fun H locs la hH hS hL => lv_ixor g.1 g.2.1 d (kk H locs la hH hS hL)

theorem r_ishl {x y : Int32} (g : Gd k own cc) (d : decode cc pc = .ok (.ishl, 1)) (kk : Sf k cells slots h nx (pc + 1) ls (.int (x <<< (y &&& 31)) :: st)) : Sf k cells slots h nx pc ls (.int y :: .int x :: st) := by
  obtain ⟨p, l, e, R, s, m, args, below, meth, c, Q, base, G, D, nL⟩ := k
  exact fun H locs la hH hS hL => lv_ishl g.1 g.2.1 d (kk H locs la hH hS hL)

theorem r_ishr {x y : Int32} (g : Gd k own cc) (d : decode cc pc = .ok (.ishr, 1)) (kk : Sf k cells slots h nx (pc + 1) ls (.int (x >>> (y &&& 31)) :: st)) : Sf k cells slots h nx pc ls (.int y :: .int x :: st) := by
  obtain ⟨p, l, e, R, s, m, args, below, meth, c, Q, base, G, D, nL⟩ := k
  exact fun H locs la hH hS hL => lv_ishr g.1 g.2.1 d (kk H locs la hH hS hL)

theorem r_ladd {x y : Int64} (g : Gd k own cc) (d : decode cc pc = .ok (.ladd, 1)) (kk : Sf k cells slots h nx (pc + 1) ls (.long (x + y) :: st)) : Sf k cells slots h nx pc ls (.long y :: .long x :: st) := by
  obtain ⟨p, l, e, R, s, m, args, below, meth, c, Q, base, G, D, nL⟩ := k
  exact fun H locs la hH hS hL => lv_ladd g.1 g.2.1 d (kk H locs la hH hS hL)

theorem r_lsub {x y : Int64} (g : Gd k own cc) (d : decode cc pc = .ok (.lsub, 1)) (kk : Sf k cells slots h nx (pc + 1) ls (.long (x - y) :: st)) : Sf k cells slots h nx pc ls (.long y :: .long x :: st) := by
  obtain ⟨p, l, e, R, s, m, args, below, meth, c, Q, base, G, D, nL⟩ := k
  exact fun H locs la hH hS hL => lv_lsub g.1 g.2.1 d (kk H locs la hH hS hL)

theorem r_lmul {x y : Int64} (g : Gd k own cc) (d : decode cc pc = .ok (.lmul, 1)) (kk : Sf k cells slots h nx (pc + 1) ls (.long (x * y) :: st)) : Sf k cells slots h nx pc ls (.long y :: .long x :: st) := by
  obtain ⟨p, l, e, R, s, m, args, below, meth, c, Q, base, G, D, nL⟩ := k
  exact fun H locs la hH hS hL => lv_lmul g.1 g.2.1 d (kk H locs la hH hS hL)

theorem r_idiv {x y : Int32} (g : Gd k own cc) (d : decode cc pc = .ok (.idiv, 1)) (hne : ¬ y = 0) (kk : Sf k cells slots h nx (pc + 1) ls (.int (x / y) :: st)) : Sf k cells slots h nx pc ls (.int y :: .int x :: st) := by
  obtain ⟨p, l, e, R, s, m, args, below, meth, c, Q, base, G, D, nL⟩ := k
  exact fun H locs la hH hS hL => lv_idiv g.1 g.2.1 d hne (kk H locs la hH hS hL)

theorem r_irem {x y : Int32} (g : Gd k own cc) (d : decode cc pc = .ok (.irem, 1)) (hne : ¬ y = 0) (kk : Sf k cells slots h nx (pc + 1) ls (.int (x - x / y * y) :: st)) : Sf k cells slots h nx pc ls (.int y :: .int x :: st) := by
  obtain ⟨p, l, e, R, s, m, args, below, meth, c, Q, base, G, D, nL⟩ := k
  exact fun H locs la hH hS hL => lv_irem g.1 g.2.1 d hne (kk H locs la hH hS hL)

theorem r_i2l {x : Int32} (g : Gd k own cc) (d : decode cc pc = .ok (.i2l, 1)) (kk : Sf k cells slots h nx (pc + 1) ls (.long x.toInt64 :: st)) : Sf k cells slots h nx pc ls (.int x :: st) := by
  obtain ⟨p, l, e, R, s, m, args, below, meth, c, Q, base, G, D, nL⟩ := k
  exact fun H locs la hH hS hL => lv_i2l g.1 g.2.1 d rfl (kk H locs la hH hS hL)

theorem r_lcmp {x y : Int64} (g : Gd k own cc) (d : decode cc pc = .ok (.lcmp, 1)) (kk : Sf k cells slots h nx (pc + 1) ls (.int (lg_cmp x y) :: st)) : Sf k cells slots h nx pc ls (.long y :: .long x :: st) := by
  obtain ⟨p, l, e, R, s, m, args, below, meth, c, Q, base, G, D, nL⟩ := k
  exact fun H locs la hH hS hL => W.lcmp g.1 g.2.1 d (kk H locs la hH hS hL)

theorem r_dup {v : Value} (g : Gd k own cc) (d : decode cc pc = .ok (.dup, 1)) (hv : v.category = 1) (kk : Sf k cells slots h nx (pc + 1) ls (v :: v :: st)) : Sf k cells slots h nx pc ls (v :: st) := by
  obtain ⟨p, l, e, R, s, m, args, below, meth, c, Q, base, G, D, nL⟩ := k
  exact fun H locs la hH hS hL => lv_dup g.1 g.2.1 d hv (kk H locs la hH hS hL)

theorem r_dup2 {v w : Value} (g : Gd k own cc) (d : decode cc pc = .ok (.dup2, 1)) (hv : v.category = 1) (hw : w.category = 1) (kk : Sf k cells slots h nx (pc + 1) ls (v :: w :: v :: w :: st)) : Sf k cells slots h nx pc ls (v :: w :: st) := by
  obtain ⟨p, l, e, R, s, m, args, below, meth, c, Q, base, G, D, nL⟩ := k
  exact fun H locs la hH hS hL => lv_dup2_11 g.1 g.2.1 d hv hw (kk H locs la hH hS hL)

theorem r_pop2 {v : Value} (g : Gd k own cc) (d : decode cc pc = .ok (.pop2, 1)) (hv : v.category = 2) (kk : Sf k cells slots h nx (pc + 1) ls (st)) : Sf k cells slots h nx pc ls (v :: st) := by
  obtain ⟨p, l, e, R, s, m, args, below, meth, c, Q, base, G, D, nL⟩ := k
  exact fun H locs la hH hS hL => lv_pop2_2 g.1 g.2.1 d hv (kk H locs la hH hS hL)

theorem r_istore_n {i : Fin 4} {x : Int32} {ls2 : List (Option Value)} (g : Gd k own cc) (d : decode cc pc = .ok (.istore_n i, 1)) (hn : Nat.ble ((i : Nat) + 1) ls.length = true) (hno : noL ls (i : Nat) = true) (el : ls.set (i : Nat) (some (.int x)) = ls2) (kk : Sf k cells slots h nx (pc + 1) ls2 st) : Sf k cells slots h nx pc ls (.int x :: st) := by
  obtain ⟨p, l, e, R, s, m, args, below, meth, c, Q, base, G, D, nL⟩ := k
  intro H locs la hH hS hL
  have hn2 := Nat.le_of_ble_eq_true hn
  have hlen := hL.2.2.1
  exact lv_istore_n g.1 g.2.1 d rfl hL.has (by omega) rfl (fun la2 h2 => kk H locs la2 hH hS (el ▸ lh_store1 hlen (by omega) hno h2))

theorem r_istore {i : Nat} {x : Int32} {ls2 : List (Option Value)} (g : Gd k own cc) (d : decode cc pc = .ok (.istore i, 2)) (hn : Nat.ble ((i : Nat) + 1) ls.length = true) (hno : noL ls (i : Nat) = true) (el : ls.set (i : Nat) (some (.int x)) = ls2) (kk : Sf k cells slots h nx (pc + 2) ls2 st) : Sf k cells slots h nx pc ls (.int x :: st) := by
  obtain ⟨p, l, e, R, s, m, args, below, meth, c, Q, base, G, D, nL⟩ := k
  intro H locs la hH hS hL
  have hn2 := Nat.le_of_ble_eq_true hn
  have hlen := hL.2.2.1
  exact lv_istore g.1 g.2.1 d hL.has (by omega) rfl (fun la2 h2 => kk H locs la2 hH hS (el ▸ lh_store1 hlen (by omega) hno h2))

theorem r_lstore_n {i : Fin 4} {x : Int64} {ls2 : List (Option Value)} (g : Gd k own cc) (d : decode cc pc = .ok (.lstore_n i, 1)) (hn : Nat.ble ((i : Nat) + 1 + 1) ls.length = true) (hno : noL ls (i : Nat) = true) (el : (ls.set (i : Nat) (some (.long x))).set ((i : Nat) + 1) none = ls2) (kk : Sf k cells slots h nx (pc + 1) ls2 st) : Sf k cells slots h nx pc ls (.long x :: st) := by
  obtain ⟨p, l, e, R, s, m, args, below, meth, c, Q, base, G, D, nL⟩ := k
  intro H locs la hH hS hL
  have hn2 := Nat.le_of_ble_eq_true hn
  have hlen := hL.2.2.1
  exact lv_lstore_n g.1 g.2.1 d rfl hL.has (by omega) rfl (fun la2 h2 => kk H locs la2 hH hS (el ▸ lh_store2 hlen (by omega) hno h2))

theorem r_lstore {i : Nat} {x : Int64} {ls2 : List (Option Value)} (g : Gd k own cc) (d : decode cc pc = .ok (.lstore i, 2)) (hn : Nat.ble ((i : Nat) + 1 + 1) ls.length = true) (hno : noL ls (i : Nat) = true) (el : (ls.set (i : Nat) (some (.long x))).set ((i : Nat) + 1) none = ls2) (kk : Sf k cells slots h nx (pc + 2) ls2 st) : Sf k cells slots h nx pc ls (.long x :: st) := by
  obtain ⟨p, l, e, R, s, m, args, below, meth, c, Q, base, G, D, nL⟩ := k
  intro H locs la hH hS hL
  have hn2 := Nat.le_of_ble_eq_true hn
  have hlen := hL.2.2.1
  exact lv_lstore g.1 g.2.1 d hL.has (by omega) rfl (fun la2 h2 => kk H locs la2 hH hS (el ▸ lh_store2 hlen (by omega) hno h2))

theorem r_astore_n {i : Fin 4} {x : Nat} {ls2 : List (Option Value)} (g : Gd k own cc) (d : decode cc pc = .ok (.astore_n i, 1)) (hn : Nat.ble ((i : Nat) + 1) ls.length = true) (hno : noL ls (i : Nat) = true) (el : ls.set (i : Nat) (some (.ref x)) = ls2) (kk : Sf k cells slots h nx (pc + 1) ls2 st) : Sf k cells slots h nx pc ls (.ref x :: st) := by
  obtain ⟨p, l, e, R, s, m, args, below, meth, c, Q, base, G, D, nL⟩ := k
  intro H locs la hH hS hL
  have hn2 := Nat.le_of_ble_eq_true hn
  have hlen := hL.2.2.1
  exact lv_astore_n g.1 g.2.1 d rfl hL.has (by omega) rfl (fun la2 h2 => kk H locs la2 hH hS (el ▸ lh_store1 hlen (by omega) hno h2))

theorem r_astore {i : Nat} {x : Nat} {ls2 : List (Option Value)} (g : Gd k own cc) (d : decode cc pc = .ok (.astore i, 2)) (hn : Nat.ble ((i : Nat) + 1) ls.length = true) (hno : noL ls (i : Nat) = true) (el : ls.set (i : Nat) (some (.ref x)) = ls2) (kk : Sf k cells slots h nx (pc + 2) ls2 st) : Sf k cells slots h nx pc ls (.ref x :: st) := by
  obtain ⟨p, l, e, R, s, m, args, below, meth, c, Q, base, G, D, nL⟩ := k
  intro H locs la hH hS hL
  have hn2 := Nat.le_of_ble_eq_true hn
  have hlen := hL.2.2.1
  exact lv_astore g.1 g.2.1 d hL.has (by omega) rfl (fun la2 h2 => kk H locs la2 hH hS (el ▸ lh_store1 hlen (by omega) hno h2))

theorem r_astore_nN {i : Fin 4} {ls2 : List (Option Value)} (g : Gd k own cc) (d : decode cc pc = .ok (.astore_n i, 1)) (hn : Nat.ble ((i : Nat) + 1) ls.length = true) (hno : noL ls (i : Nat) = true) (el : ls.set (i : Nat) (some (.null)) = ls2) (kk : Sf k cells slots h nx (pc + 1) ls2 st) : Sf k cells slots h nx pc ls (.null :: st) := by
  obtain ⟨p, l, e, R, s, m, args, below, meth, c, Q, base, G, D, nL⟩ := k
  intro H locs la hH hS hL
  have hn2 := Nat.le_of_ble_eq_true hn
  have hlen := hL.2.2.1
  exact lv_astore_nN g.1 g.2.1 d rfl hL.has (by omega) rfl (fun la2 h2 => kk H locs la2 hH hS (el ▸ lh_store1 hlen (by omega) hno h2))

theorem r_astoreN {i : Nat} {ls2 : List (Option Value)} (g : Gd k own cc) (d : decode cc pc = .ok (.astore i, 2)) (hn : Nat.ble ((i : Nat) + 1) ls.length = true) (hno : noL ls (i : Nat) = true) (el : ls.set (i : Nat) (some (.null)) = ls2) (kk : Sf k cells slots h nx (pc + 2) ls2 st) : Sf k cells slots h nx pc ls (.null :: st) := by
  obtain ⟨p, l, e, R, s, m, args, below, meth, c, Q, base, G, D, nL⟩ := k
  intro H locs la hH hS hL
  have hn2 := Nat.le_of_ble_eq_true hn
  have hlen := hL.2.2.1
  exact lv_astoreN g.1 g.2.1 d hL.has (by omega) rfl (fun la2 h2 => kk H locs la2 hH hS (el ▸ lh_store1 hlen (by omega) hno h2))

theorem r_iinc {i : Nat} {n : Int} {x v : Int32} {ls2 : List (Option Value)} (g : Gd k own cc) (d : decode cc pc = .ok (.iinc i n, 3)) (hl : ls[i]? = some (some (.int x))) (hv : x + Int32.ofInt n = v) (hno : noL ls i = true) (el : ls.set i (some (.int v)) = ls2) (kk : Sf k cells slots h nx (pc + 3) ls2 st) : Sf k cells slots h nx pc ls st := by
  obtain ⟨p, l, e, R, s, m, args, below, meth, c, Q, base, G, D, nL⟩ := k
  intro H locs la hH hS hL
  have hlen := hL.2.2.1
  have hil : i < nL := by rw [← hlen]; exact (List.getElem?_eq_some_iff.mp hl).1
  obtain ⟨j, hj⟩ := List.getElem?_of_mem (lprs_mem.mpr ⟨hil, hl⟩)
  exact lv_iinc g.1 g.2.1 d hL.has hj hv hil rfl (fun la2 h2 => kk H locs la2 hH hS (el ▸ lh_store1 hlen hil hno h2))

theorem r_if_eq {x : Int32} {off : Int} (tgt : Nat) (g : Gd k own cc) (d : decode cc pc = .ok (.ifCond .eq off, 3)) (ht : (pc : Int) + off = (tgt : Int)) (kt : x = 0 → Sf k cells slots h nx tgt ls st) (kf : ¬ x = 0 → Sf k cells slots h nx (pc + 3) ls st) : Sf k cells slots h nx pc ls (.int x :: st) := by
  obtain ⟨p, l, e, R, s, m, args, below, meth, c, Q, base, G, D, nL⟩ := k
  exact fun H locs la hH hS hL => lv_if_eq g.1 g.2.1 d ht (fun q => kt q H locs la hH hS hL) (fun q => kf q H locs la hH hS hL)

theorem r_icmp_eq {x y : Int32} {off : Int} (tgt : Nat) (g : Gd k own cc) (d : decode cc pc = .ok (.if_icmp .eq off, 3)) (ht : (pc : Int) + off = (tgt : Int)) (kt : x = y → Sf k cells slots h nx tgt ls st) (kf : ¬ x = y → Sf k cells slots h nx (pc + 3) ls st) : Sf k cells slots h nx pc ls (.int y :: .int x :: st) := by
  obtain ⟨p, l, e, R, s, m, args, below, meth, c, Q, base, G, D, nL⟩ := k
  exact fun H locs la hH hS hL => lv_icmp_eq g.1 g.2.1 d ht (fun q => kt q H locs la hH hS hL) (fun q => kf q H locs la hH hS hL)

theorem r_if_ne {x : Int32} {off : Int} (tgt : Nat) (g : Gd k own cc) (d : decode cc pc = .ok (.ifCond .ne off, 3)) (ht : (pc : Int) + off = (tgt : Int)) (kt : ¬ x = 0 → Sf k cells slots h nx tgt ls st) (kf : x = 0 → Sf k cells slots h nx (pc + 3) ls st) : Sf k cells slots h nx pc ls (.int x :: st) := by
  obtain ⟨p, l, e, R, s, m, args, below, meth, c, Q, base, G, D, nL⟩ := k
  exact fun H locs la hH hS hL => lv_if_ne g.1 g.2.1 d ht (fun q => kt q H locs la hH hS hL) (fun q => kf q H locs la hH hS hL)

theorem r_icmp_ne {x y : Int32} {off : Int} (tgt : Nat) (g : Gd k own cc) (d : decode cc pc = .ok (.if_icmp .ne off, 3)) (ht : (pc : Int) + off = (tgt : Int)) (kt : ¬ x = y → Sf k cells slots h nx tgt ls st) (kf : x = y → Sf k cells slots h nx (pc + 3) ls st) : Sf k cells slots h nx pc ls (.int y :: .int x :: st) := by
  obtain ⟨p, l, e, R, s, m, args, below, meth, c, Q, base, G, D, nL⟩ := k
  exact fun H locs la hH hS hL => lv_icmp_ne g.1 g.2.1 d ht (fun q => kt q H locs la hH hS hL) (fun q => kf q H locs la hH hS hL)

theorem r_if_lt {x : Int32} {off : Int} (tgt : Nat) (g : Gd k own cc) (d : decode cc pc = .ok (.ifCond .lt off, 3)) (ht : (pc : Int) + off = (tgt : Int)) (kt : x < 0 → Sf k cells slots h nx tgt ls st) (kf : ¬ x < 0 → Sf k cells slots h nx (pc + 3) ls st) : Sf k cells slots h nx pc ls (.int x :: st) := by
  obtain ⟨p, l, e, R, s, m, args, below, meth, c, Q, base, G, D, nL⟩ := k
  exact fun H locs la hH hS hL => lv_if_lt g.1 g.2.1 d ht (fun q => kt q H locs la hH hS hL) (fun q => kf q H locs la hH hS hL)

theorem r_icmp_lt {x y : Int32} {off : Int} (tgt : Nat) (g : Gd k own cc) (d : decode cc pc = .ok (.if_icmp .lt off, 3)) (ht : (pc : Int) + off = (tgt : Int)) (kt : x < y → Sf k cells slots h nx tgt ls st) (kf : ¬ x < y → Sf k cells slots h nx (pc + 3) ls st) : Sf k cells slots h nx pc ls (.int y :: .int x :: st) := by
  obtain ⟨p, l, e, R, s, m, args, below, meth, c, Q, base, G, D, nL⟩ := k
  exact fun H locs la hH hS hL => lv_icmp_lt g.1 g.2.1 d ht (fun q => kt q H locs la hH hS hL) (fun q => kf q H locs la hH hS hL)

theorem r_if_ge {x : Int32} {off : Int} (tgt : Nat) (g : Gd k own cc) (d : decode cc pc = .ok (.ifCond .ge off, 3)) (ht : (pc : Int) + off = (tgt : Int)) (kt : 0 ≤ x → Sf k cells slots h nx tgt ls st) (kf : ¬ 0 ≤ x → Sf k cells slots h nx (pc + 3) ls st) : Sf k cells slots h nx pc ls (.int x :: st) := by
  obtain ⟨p, l, e, R, s, m, args, below, meth, c, Q, base, G, D, nL⟩ := k
  exact fun H locs la hH hS hL => lv_if_ge g.1 g.2.1 d ht (fun q => kt q H locs la hH hS hL) (fun q => kf q H locs la hH hS hL)

theorem r_icmp_ge {x y : Int32} {off : Int} (tgt : Nat) (g : Gd k own cc) (d : decode cc pc = .ok (.if_icmp .ge off, 3)) (ht : (pc : Int) + off = (tgt : Int)) (kt : y ≤ x → Sf k cells slots h nx tgt ls st) (kf : ¬ y ≤ x → Sf k cells slots h nx (pc + 3) ls st) : Sf k cells slots h nx pc ls (.int y :: .int x :: st) := by
  obtain ⟨p, l, e, R, s, m, args, below, meth, c, Q, base, G, D, nL⟩ := k
  exact fun H locs la hH hS hL => lv_icmp_ge g.1 g.2.1 d ht (fun q => kt q H locs la hH hS hL) (fun q => kf q H locs la hH hS hL)

theorem r_if_gt {x : Int32} {off : Int} (tgt : Nat) (g : Gd k own cc) (d : decode cc pc = .ok (.ifCond .gt off, 3)) (ht : (pc : Int) + off = (tgt : Int)) (kt : 0 < x → Sf k cells slots h nx tgt ls st) (kf : ¬ 0 < x → Sf k cells slots h nx (pc + 3) ls st) : Sf k cells slots h nx pc ls (.int x :: st) := by
  obtain ⟨p, l, e, R, s, m, args, below, meth, c, Q, base, G, D, nL⟩ := k
  exact fun H locs la hH hS hL => lv_if_gt g.1 g.2.1 d ht (fun q => kt q H locs la hH hS hL) (fun q => kf q H locs la hH hS hL)

theorem r_icmp_gt {x y : Int32} {off : Int} (tgt : Nat) (g : Gd k own cc) (d : decode cc pc = .ok (.if_icmp .gt off, 3)) (ht : (pc : Int) + off = (tgt : Int)) (kt : y < x → Sf k cells slots h nx tgt ls st) (kf : ¬ y < x → Sf k cells slots h nx (pc + 3) ls st) : Sf k cells slots h nx pc ls (.int y :: .int x :: st) := by
  obtain ⟨p, l, e, R, s, m, args, below, meth, c, Q, base, G, D, nL⟩ := k
  exact fun H locs la hH hS hL => lv_icmp_gt g.1 g.2.1 d ht (fun q => kt q H locs la hH hS hL) (fun q => kf q H locs la hH hS hL)

theorem r_if_le {x : Int32} {off : Int} (tgt : Nat) (g : Gd k own cc) (d : decode cc pc = .ok (.ifCond .le off, 3)) (ht : (pc : Int) + off = (tgt : Int)) (kt : x ≤ 0 → Sf k cells slots h nx tgt ls st) (kf : ¬ x ≤ 0 → Sf k cells slots h nx (pc + 3) ls st) : Sf k cells slots h nx pc ls (.int x :: st) := by
  obtain ⟨p, l, e, R, s, m, args, below, meth, c, Q, base, G, D, nL⟩ := k
  exact fun H locs la hH hS hL => lv_if_le g.1 g.2.1 d ht (fun q => kt q H locs la hH hS hL) (fun q => kf q H locs la hH hS hL)

theorem r_icmp_le {x y : Int32} {off : Int} (tgt : Nat) (g : Gd k own cc) (d : decode cc pc = .ok (.if_icmp .le off, 3)) (ht : (pc : Int) + off = (tgt : Int)) (kt : x ≤ y → Sf k cells slots h nx tgt ls st) (kf : ¬ x ≤ y → Sf k cells slots h nx (pc + 3) ls st) : Sf k cells slots h nx pc ls (.int y :: .int x :: st) := by
  obtain ⟨p, l, e, R, s, m, args, below, meth, c, Q, base, G, D, nL⟩ := k
  exact fun H locs la hH hS hL => lv_icmp_le g.1 g.2.1 d ht (fun q => kt q H locs la hH hS hL) (fun q => kf q H locs la hH hS hL)

theorem r_goto {off : Int} (tgt : Nat) (g : Gd k own cc) (d : decode cc pc = .ok (.goto off, 3)) (ht : (pc : Int) + off = (tgt : Int)) (kk : Sf k cells slots h nx tgt ls st) : Sf k cells slots h nx pc ls st := by
  obtain ⟨p, l, e, R, s, m, args, below, meth, c, Q, base, G, D, nL⟩ := k
  exact fun H locs la hH hS hL => lv_goto g.1 g.2.1 d ht (kk H locs la hH hS hL)

theorem r_acmp_eq {rx ry : Option Nat} {off : Int} (tgt : Nat) (g : Gd k own cc) (d : decode cc pc = .ok (.if_acmp .eq off, 3)) (ht : (pc : Int) + off = (tgt : Int)) (kt : rx = ry → Sf k cells slots h nx tgt ls st) (kf : ¬ rx = ry → Sf k cells slots h nx (pc + 3) ls st) : Sf k cells slots h nx pc ls (va_rf ry :: va_rf rx :: st) := by
  obtain ⟨p, l, e, R, s, m, args, below, meth, c, Q, base, G, D, nL⟩ := k
  exact fun H locs la hH hS hL => lv_acmp_eq g.1 g.2.1 d ht (fun q => kt q H locs la hH hS hL) (fun q => kf q H locs la hH hS hL)

theorem r_acmp_ne {rx ry : Option Nat} {off : Int} (tgt : Nat) (g : Gd k own cc) (d : decode cc pc = .ok (.if_acmp .ne off, 3)) (ht : (pc : Int) + off = (tgt : Int)) (kt : ¬ rx = ry → Sf k cells slots h nx tgt ls st) (kf : rx = ry → Sf k cells slots h nx (pc + 3) ls st) : Sf k cells slots h nx pc ls (va_rf ry :: va_rf rx :: st) := by
  obtain ⟨p, l, e, R, s, m, args, below, meth, c, Q, base, G, D, nL⟩ := k
  exact fun H locs la hH hS hL => lv_acmp_ne g.1 g.2.1 d ht (fun q => kt q H locs la hH hS hL) (fun q => kf q H locs la hH hS hL)

theorem r_ifnonnull {x : Nat} {off : Int} (tgt : Nat) (g : Gd k own cc) (d : decode cc pc = .ok (.ifnonnull off, 3)) (ht : (pc : Int) + off = (tgt : Int)) (kk : Sf k cells slots h nx tgt ls st) : Sf k cells slots h nx pc ls (.ref x :: st) := by
  obtain ⟨p, l, e, R, s, m, args, below, meth, c, Q, base, G, D, nL⟩ := k
  exact fun H locs la hH hS hL => lv_ifnonnull g.1 g.2.1 d ht (kk H locs la hH hS hL)

theorem r_ifnonnullN {off : Int} (g : Gd k own cc) (d : decode cc pc = .ok (.ifnonnull off, 3)) (kk : Sf k cells slots h nx (pc + 3) ls st) : Sf k cells slots h nx pc ls (.null :: st) := by
  obtain ⟨p, l, e, R, s, m, args, below, meth, c, Q, base, G, D, nL⟩ := k
  exact fun H locs la hH hS hL => lv_ifnonnullN g.1 g.2.1 d (kk H locs la hH hS hL)

theorem r_ifnull {x : Nat} {off : Int} (g : Gd k own cc) (d : decode cc pc = .ok (.ifnull off, 3)) (kk : Sf k cells slots h nx (pc + 3) ls st) : Sf k cells slots h nx pc ls (.ref x :: st) := by
  obtain ⟨p, l, e, R, s, m, args, below, meth, c, Q, base, G, D, nL⟩ := k
  exact fun H locs la hH hS hL => lv_ifnull g.1 g.2.1 d (kk H locs la hH hS hL)

theorem r_ifnullN {off : Int} (tgt : Nat) (g : Gd k own cc) (d : decode cc pc = .ok (.ifnull off, 3)) (ht : (pc : Int) + off = (tgt : Int)) (kk : Sf k cells slots h nx tgt ls st) : Sf k cells slots h nx pc ls (.null :: st) := by
  obtain ⟨p, l, e, R, s, m, args, below, meth, c, Q, base, G, D, nL⟩ := k
  exact fun H locs la hH hS hL => lv_ifnullN g.1 g.2.1 d ht (kk H locs la hH hS hL)

end RULES
