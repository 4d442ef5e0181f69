/-! 05: contracts over pure states; returns; calls -/
def QK (G : Nat → ClassId) (D : va_G) (base : Nat) (K : Option Value → Hp → Nat → Prop) : Array Value → State → Outcome → State → Prop := fun _ st o t =>
  (∃ (v : Option Value) (h' : Hp) (nx' : Nat), o = .returned v ∧ K v h' nx' ∧ HPok G D nx' h' t.heap) ∧ va_F (ABase base) st t
def PK (G : Nat → ClassId) (D : va_G) (base : Nat) (args : List Value) (h : Hp) (nx : Nat) : Array Value → State → Prop := va_Pc args (fun U => base ≤ nx ∧ HPok G D nx h U.heap ∧ KK G D base U U.heap)
def rmOf (lv mc ms : Nat) : Room := { frames := lv, cells := mc, slots := ms, locals := 40 * lv }
/-- the contract of a method: called with args where the heap is h (nx cells), it returns, and K holds of its answer and the heap behind it -/
def MetP (l : Launch) (G : Nat → ClassId) (D : va_G) (base : Nat) (mi : Mi) (lv mc ms : Nat) (args : List Value) (h : Hp) (nx : Nat) (K : Option Value → Hp → Nat → Prop) : Prop :=
  Met l mi.1 (Cond.code mi.1 mi.2.1 mi.2.2.1 mi.2.2.2 :: UW) (rmOf lv mc ms) (PK G D base args h nx) (QK G D base K) mc ms (ABase base)
/-- .. that throws, too: KX of the thrown class -/
def XKd (G : Nat → ClassId) (D : va_G) (base : Nat) (h : Hp) (nx : Nat) (KX : String → Prop) : String → State → State → Prop := fun E st t =>
  KX E ∧ (∃ nx' : Nat, nx ≤ nx' ∧ HPok G D nx' h t.heap) ∧ va_F (ABase base) st t
def MetX (l : Launch) (G : Nat → ClassId) (D : va_G) (base : Nat) (mi : Mi) (lv mc ms : Nat) (args : List Value) (h : Hp) (nx : Nat) (K : Option Value → Hp → Nat → Prop) (KX : String → Prop) : Prop :=
  vx_Met l mi.1 (Cond.code mi.1 mi.2.1 mi.2.2.1 mi.2.2.2 :: UW) (rmOf lv mc ms) (PK G D base args h nx) (QK G D base K) (XKd G D base h nx KX) mc ms (ABase base)
def cL (k : Cx) : Launch := k.2.1
def cG (k : Cx) : Nat → ClassId := k.2.2.2.2.2.2.2.2.2.2.2.2.1
def cD (k : Cx) : va_G := k.2.2.2.2.2.2.2.2.2.2.2.2.2.1
def RetK (k : Cx) (ret : Option FieldType) (mc ms : Nat) (K : Option Value → Hp → Nat → Prop) : Prop := match k with
  | (p, l, e, R, s, m, args, below, meth, c, Q, base, G, D, _) => meth.sig.returnType = ret ∧ ∀ (H : Heap) (locs : List Loc) (gf : JFrame), W p l e R s m args below meth c H locs mc ms (MQ below (QK G D base K) args s mc ms (ABase base)) gf → W p l e R s m args below meth c H locs mc ms Q gf
def RmK (k : Cx) (lv mc ms : Nat) : Prop := lv ≤ (cRoom k).frames ∧ 40 * lv ≤ (cRoom k).locals ∧ mc ≤ (cRoom k).cells ∧ ms ≤ (cRoom k).slots
theorem PK_blind {G : Nat → ClassId} {D : va_G} {base : Nat} {args : List Value} {h : Hp} {nx : Nat} : FrameBlind (PK G D base args h nx) :=
  fun a U gf mk q => ⟨q.1, q.2.1, q.2.2.1, KK.warm (State.WarmedH.refl U : U.WarmedH (U.calling gf mk a).vm) q.2.2.2⟩
theorem MetP_of {l : Launch} {G : Nat → ClassId} {D : va_G} {base : Nat} {mi : Mi} {lv mc ms : Nat} {args : List Value} {h : Hp} {nx : Nat} {K : Option Value → Hp → Nat → Prop} (hy : plainName mi.1.cls = true) (hlen : Nat.ble (enL args).length mi.2.2.1 = true)
    (body : ∀ k : Cx, Gd k mi.1.cls mi.2.1 → RetK k mi.2.2.2 mc ms K → RmK k lv mc ms → cL k = l → cG k = G → cD k = D → cBase k = base → cName k = mi.1.name → base ≤ nx → Sf k 0 0 h nx 0 (enL args ++ List.replicate (mi.2.2.1 - (enL args).length) none) []) : MetP l G D base mi lv mc ms args h nx K := by
  refine Met.ofW (cc := mi.2.1) (maxL := mi.2.2.1) (ret := mi.2.2.2) hy rfl ?_
  intro p e s m a below meth c s₁ B hml hv
  obtain ⟨rfl, hnx, hH, hKK⟩ := hv
  have hts := atoms_spec (ws := Cond.code mi.1 mi.2.1 mi.2.2.1 mi.2.2.2 :: UW) B.pre
  rw [lg_entry_eq]
  exact body (p, l, e, _, s, m, args.toArray, below, meth, c, _, base, G, D, mi.2.2.1) ⟨B.exec, B.bytes, hml, findClass_of_methodNamed B.named, fun w hw => hts w (List.mem_cons_of_mem _ hw), hKK, by rw [hH.1]; exact hnx, B.notSynchronized⟩
    ⟨B.returns, fun _ _ _ z => z⟩ ⟨Nat.le_refl _, Nat.le_refl _, Nat.le_refl _, Nat.le_refl _⟩ rfl rfl rfl rfl (name_of_methodNamed B.named B.method).1 hnx s.heap [] _ hH va_S.rf (lh_entry args (Nat.le_of_ble_eq_true hlen))
section RETS
variable {k : Cx} {own : String} {cc : ByteArray} {cells slots : Nat} {h : Hp} {nx pc : Nat} {ls : List (Option Value)} {st : List Value} {mc ms : Nat} {K : Option Value → Hp → Nat → Prop}
theorem r_iret {v : Int32} (g : Gd k own cc) (hr : RetK k (some .int) mc ms K) (hc : cells ≤ mc) (hs : slots ≤ ms) (d : decode cc pc = .ok (.ireturn, 1)) (hk : K (some (.int v)) h nx) : Sf k cells slots h nx pc ls [.int v] := by
  obtain ⟨p, l, e, R, s, m, args, below, meth, c, Q, base, G, D, nL⟩ := k
  exact fun H locs la hH hS hL => W.widen hc hs (hr.2 H locs _ (W.iret g.1 g.2.1 hr.1 (fun t ht hW => ⟨⟨_, h, nx, rfl, hk, by rw [ht]; exact hH⟩, hS.F ht⟩) hS.2.2 d g.2.2.2.2.2.2.2))
theorem r_zret {v : Int32} (g : Gd k own cc) (hr : RetK k (some .boolean) mc ms K) (hc : cells ≤ mc) (hs : slots ≤ ms) (d : decode cc pc = .ok (.ireturn, 1)) (hv : narrow .boolean (.int v) = .int v) (hk : K (some (.int v)) h nx) : Sf k cells slots h nx pc ls [.int v] := by
  obtain ⟨p, l, e, R, s, m, args, below, meth, c, Q, base, G, D, nL⟩ := k
  exact fun H locs la hH hS hL => W.widen hc hs (hr.2 H locs _ (W.zret g.1 g.2.1 hr.1 hv (fun t ht hW => ⟨⟨_, h, nx, rfl, hk, by rw [ht]; exact hH⟩, hS.F ht⟩) hS.2.2 d g.2.2.2.2.2.2.2))
theorem r_lret {v : Int64} (g : Gd k own cc) (hr : RetK k (some .long) mc ms K) (hc : cells ≤ mc) (hs : slots ≤ ms) (d : decode cc pc = .ok (.lreturn, 1)) (hk : K (some (.long v)) h nx) : Sf k cells slots h nx pc ls [.long v] := by
  obtain ⟨p, l, e, R, s, m, args, below, meth, c, Q, base, G, D, nL⟩ := k
  exact fun H locs la hH hS hL => W.widen hc hs (hr.2 H locs _ (W.lret g.1 g.2.1 hr.1 (fun t ht hW => ⟨⟨_, h, nx, rfl, hk, by rw [ht]; exact hH⟩, hS.F ht⟩) hS.2.2 d g.2.2.2.2.2.2.2))
theorem r_vret (g : Gd k own cc) (hr : RetK k none mc ms K) (hc : cells ≤ mc) (hs : slots ≤ ms) (d : decode cc pc = .ok (.return_, 1)) (hk : K none h nx) : Sf k cells slots h nx pc ls [] := by
  obtain ⟨p, l, e, R, s, m, args, below, meth, c, Q, base, G, D, nL⟩ := k
  exact fun H locs la hH hS hL => W.widen hc hs (hr.2 H locs _ (W.vret g.1 g.2.1 hr.1 (fun t ht hW => ⟨⟨_, h, nx, rfl, hk, by rw [ht]; exact hH⟩, hS.F ht⟩) hS.2.2 d g.2.2.2.2.2.2.2))
theorem r_aret {C : String} {v : Value} (g : Gd k own cc) (hr : RetK k (some (.object C)) mc ms K) (hc : cells ≤ mc) (hs : slots ≤ ms) (d : decode cc pc = .ok (.areturn, 1)) (hv : v = .null ∨ ∃ a, v = .ref a) (hk : K (some v) h nx) : Sf k cells slots h nx pc ls [v] := by
  obtain ⟨p, l, e, R, s, m, args, below, meth, c, Q, base, G, D, nL⟩ := k
  exact fun H locs la hH hS hL => W.widen hc hs (hr.2 H locs _ (W.aret g.1 g.2.1 hr.1 (Or.inl ⟨C, rfl⟩) hv (fun t ht hW => ⟨⟨_, h, nx, rfl, hk, by rw [ht]; exact hH⟩, hS.F ht⟩) hS.2.2 d g.2.2.2.2.2.2.2))
end RETS
section CALLS
variable {k : Cx} {own : String} {cc : ByteArray} {cells slots : Nat} {h : Hp} {nx pc : Nat} {ls : List (Option Value)} {st stk : List Value} {mc ms mc0 ms0 lv lv0 n idx : Nat} {mi : Mi} {As : List Value} {K : Option Value → Hp → Nat → Prop}
theorem good_all {y : Cond} (h : y ∈ UW) : GoodIn UW (y :: UW) := fun w hw => by
  rcases List.mem_cons.mp hw with rfl | hw
  · exact ⟨h, uw_good _ h⟩
  · exact ⟨hw, uw_good _ hw⟩
theorem run_to {p : Program} {l : Launch} {e : Env} {R : Room} {s : State} {m : MethodId} {args : Array Value} {below : List Frame} {meth : Method} {c : Code} {Q : State → Prop} {base : Nat} {G : Nat → ClassId} {D : va_G} {H : Heap} {locs : List Loc} {la : Array Slot} {a : Array Value} {stv : List Value}
    (hr : va_Run p l e R s m args below meth c H locs cells slots mc ms (F0 m pc la stv) st (QK G D base K a) (ABase base)) (hH : HPok G D nx h H) (hS : va_S (ABase base) s.heap H locs)
    (kk : ∀ (v : Option Value) (h' : Hp) (nx' : Nat), K v h' nx' → nx ≤ nx' → ∀ (H1 : Heap) (locs1 : List Loc), HPok G D nx' h' H1 → va_S (ABase base) s.heap H1 locs1 → W p l e R s m args below meth c H1 locs1 (cells + mc) (slots + ms) Q (F0 m (pc + 3) la (v.toList ++ st))) :
    W p l e R s m args below meth c H locs cells slots Q (F0 m pc la stv) := by
  intro T hT X
  obtain ⟨v, st₀, t, T', L, h0, X', hL, e1, e2, ⟨⟨v9, h', nx', hv, hK9, hH'⟩, hz, hk⟩, hst⟩ := hr T hT X
  cases hv
  rw [h0] at hz hk
  obtain ⟨t2, a1, b1⟩ := kk v h' nx' hK9 (by rw [← hH.1, ← hH'.1]; exact hz) T'.heap (locs ++ L) (by rw [e1]; exact hH')
    ⟨Nat.le_trans hS.1 (by rw [e1]; exact hz), fun q h1 h2 => by rw [e1, hk q (Nat.lt_of_lt_of_le h1 hS.1) h2]; exact hS.2.1 q h1 h2, fun q hq => by
      rcases List.mem_append.mp hq with h | h
      · exact hS.2.2 q h
      · exact hL q h⟩ T' rfl X'
  exact ⟨t2, hst t2 a1, b1⟩
theorem r_callV {a ci : Nat} {fs : List Value} (g : Gd k own cc) (cv : CV own idx mi n) (hM : MetP (cL k) (cG k) (cD k) (cBase k) mi lv mc ms (.ref a :: As) h nx K) (hobj : h a = some (eO ci fs)) (hci : (vwCl[ci]?).map (fun q => q.1) = some mi.1.cls) (hn : As.length = n) (hstk : stk = As.reverse ++ .ref a :: st) (hnx : cBase k ≤ nx)
    (hR : RmK k lv0 mc0 ms0) (h1 : lv + 1 ≤ lv0) (h2 : cells + mc ≤ mc0) (h3 : slots + ms ≤ ms0) (h4 : Nat.ble mi.2.2.1 20 = true) (hW : Nat.ble ((st.map fun v => v.category).sum) 8 = true) (d : decode cc pc = .ok (.invokevirtual idx, 3))
    (kk : ∀ (v : Option Value) (h' : Hp) (nx' : Nat), K v h' nx' → nx ≤ nx' → Sf k (cells + mc) (slots + ms) h' nx' (pc + 3) ls (v.toList ++ st)) : Sf k cells slots h nx pc ls stk := by
  obtain ⟨p, l, e, R, s, m, args, below, meth, c, Q, base, G, D, nL⟩ := k
  intro H locs la hH hS hL
  subst hstk
  obtain ⟨r, hr9⟩ : ∃ r, vwCl[ci]? = some r := by
    cases hq : vwCl[ci]? with
    | none => rw [hq] at hci; cases hci
    | some r => exact ⟨r, rfl⟩
  have hcls : r.1 = mi.1.cls := by rw [hr9] at hci; exact Option.some.inj hci
  have hrec := va_recv g.2.2.2.2.2.1.1 (hp1 hH hobj) (ci := ci) (q0 := 0) hr9 rfl
  rw [hcls] at hrec
  have hts := g.2.2.2.2.1
  have h49 := Nat.le_of_ble_eq_true h4
  have cw : CallW R s args own mi.1.cls idx mi.1 mi.2.1 mi.2.2.1 mi.2.2.2 (Cond.code mi.1 mi.2.1 mi.2.2.1 mi.2.2.2 :: UW) (rmOf lv mc ms) mc ms n :=
    ⟨⟨rfl, rfl, Nat.le_trans h1 hR.1, by have := hR.2.1; show 8 + (mi.2.2.1 + 11) + 40 * lv ≤ R.locals; have h5 : 40 * lv0 ≤ R.locals := this; omega, pay_in hts (good_all cv.2.2.2.2.1), List.mem_cons_self, hts _ cv.2.2.2.2.1, hts _ cv.2.2.2.1, cv.2.2.2.2.2.1, fun sig hs9 => by have h6 := cv.2.2.2.2.2.2; rw [hs9] at h6; exact (Option.some.inj h6).symm, hts _ cv.1⟩, hts _ cv.2.1, hts _ cv.2.2.1⟩
  refine run_to (va_runV (As := As) (rest := st) ⟨g.1, g.2.1, g.2.2.1, g.2.2.2.1, hts⟩ hM cw ⟨PK_blind, hrec, fun U hU hW9 => ⟨rfl, hnx, by rw [hU]; exact hH, KK.warm hW9 (by rw [hU]; exact g.2.2.2.2.2.1.kept hS.2.1)⟩⟩ rfl hn hL.1 rfl (lv_room (Nat.le_of_ble_eq_true hW)) d ⟨Nat.le_trans h2 hR.2.2.1, Nat.le_trans h3 hR.2.2.2⟩) hH hS ?_
  exact fun v h' nx' hk9 hle H1 locs1 hH1 hS1 => kk v h' nx' hk9 hle H1 locs1 la hH1 hS1 hL
theorem r_callS (g : Gd k own cc) (cv : CSt own idx mi n) (hM : MetP (cL k) (cG k) (cD k) (cBase k) mi lv mc ms As h nx K) (hn : As.length = n) (hstk : stk = As.reverse ++ st) (hnx : cBase k ≤ nx)
    (hR : RmK k lv0 mc0 ms0) (h1 : lv + 1 ≤ lv0) (h2 : cells + mc ≤ mc0) (h3 : slots + ms ≤ ms0) (h4 : Nat.ble mi.2.2.1 20 = true) (hW : Nat.ble ((st.map fun v => v.category).sum) 8 = true) (d : decode cc pc = .ok (.invokestatic idx, 3))
    (kk : ∀ (v : Option Value) (h' : Hp) (nx' : Nat), K v h' nx' → nx ≤ nx' → Sf k (cells + mc) (slots + ms) h' nx' (pc + 3) ls (v.toList ++ st)) : Sf k cells slots h nx pc ls stk := by
  obtain ⟨p, l, e, R, s, m, args, below, meth, c, Q, base, G, D, nL⟩ := k
  intro H locs la hH hS hL
  subst hstk
  have hts := g.2.2.2.2.1
  have h49 := Nat.le_of_ble_eq_true h4
  have cw : CallB R s args own idx mi.1 mi.2.1 mi.2.2.1 mi.2.2.2 (Cond.code mi.1 mi.2.1 mi.2.2.1 mi.2.2.2 :: UW) (rmOf lv mc ms) mc ms n ∧ (Cond.static mi.1).before args s = true :=
    ⟨⟨rfl, rfl, Nat.le_trans h1 hR.1, by have := hR.2.1; show 8 + (mi.2.2.1 + 11) + 40 * lv ≤ R.locals; have h5 : 40 * lv0 ≤ R.locals := this; omega, pay_in hts (good_all cv.2.2.2.1), List.mem_cons_self, hts _ cv.2.2.2.1, hts _ cv.2.2.1, cv.2.2.2.2.1, fun sig hs9 => by have h6 := cv.2.2.2.2.2; rw [hs9] at h6; exact (Option.some.inj h6).symm, hts _ cv.1⟩, hts _ cv.2.1⟩
  refine run_to (va_runS (As := As) (rest := st) ⟨g.1, g.2.1, g.2.2.1, g.2.2.2.1, hts⟩ hM cw ⟨PK_blind, fun U hU hW9 => ⟨rfl, hnx, by rw [hU]; exact hH, KK.warm hW9 (by rw [hU]; exact g.2.2.2.2.2.1.kept hS.2.1)⟩⟩ rfl hn hL.1 rfl (lv_room (Nat.le_of_ble_eq_true hW)) d ⟨Nat.le_trans h2 hR.2.2.1, Nat.le_trans h3 hR.2.2.2⟩) hH hS ?_
  exact fun v h' nx' hk9 hle H1 locs1 hH1 hS1 => kk v h' nx' hk9 hle H1 locs1 la hH1 hS1 hL
theorem r_callI {a : Nat} {y : MethodName} {cy : ByteArray} {ml : Nat} (g : Gd k own cc) (cv : CIn own idx (y, cy, ml, none) n) (hM : MetP (cL k) (cG k) (cD k) (cBase k) (y, cy, ml, none) lv mc ms (.ref a :: As) h nx K) (hy1 : y.name = "<init>") (hn : As.length = n) (hstk : stk = As.reverse ++ .ref a :: st) (hnx : cBase k ≤ nx)
    (hR : RmK k lv0 mc0 ms0) (h1 : lv + 1 ≤ lv0) (h2 : cells + mc ≤ mc0) (h3 : slots + ms ≤ ms0) (h4 : Nat.ble ml 20 = true) (hW : Nat.ble ((st.map fun v => v.category).sum) 8 = true) (d : decode cc pc = .ok (.invokespecial idx, 3))
    (kk : ∀ (v : Option Value) (h' : Hp) (nx' : Nat), K v h' nx' → nx ≤ nx' → Sf k (cells + mc) (slots + ms) h' nx' (pc + 3) ls (v.toList ++ st)) : Sf k cells slots h nx pc ls stk := by
  obtain ⟨p, l, e, R, s, m, args, below, meth, c, Q, base, G, D, nL⟩ := k
  intro H locs la hH hS hL
  subst hstk
  have hts := g.2.2.2.2.1
  have h49 := Nat.le_of_ble_eq_true h4
  have cw : CallB R s args own idx y cy ml none (Cond.code y cy ml none :: UW) (rmOf lv mc ms) mc ms n ∧ y.name = "<init>" ∧ (Cond.instanceMethod y).before args s = true :=
    ⟨⟨rfl, rfl, Nat.le_trans h1 hR.1, by have := hR.2.1; show 8 + (ml + 11) + 40 * lv ≤ R.locals; have h5 : 40 * lv0 ≤ R.locals := this; omega, pay_in hts (good_all cv.2.2.2.1), List.mem_cons_self, hts _ cv.2.2.2.1, hts _ cv.2.2.1, cv.2.2.2.2.1, fun sig hs9 => by have h6 := cv.2.2.2.2.2; rw [hs9] at h6; exact (Option.some.inj h6).symm, hts _ cv.1⟩, hy1, hts _ cv.2.1⟩
  refine run_to (va_runI (As := As) (rest := st) ⟨g.1, g.2.1, g.2.2.1, g.2.2.2.1, hts⟩ hM cw ⟨PK_blind, fun U hU hW9 => ⟨rfl, hnx, by rw [hU]; exact hH, KK.warm hW9 (by rw [hU]; exact g.2.2.2.2.2.1.kept hS.2.1)⟩⟩ rfl hn hL.1 rfl (lv_room (Nat.le_of_ble_eq_true hW)) d ⟨Nat.le_trans h2 hR.2.2.1, Nat.le_trans h3 hR.2.2.2⟩) hH hS ?_
  exact fun v h' nx' hk9 hle H1 locs1 hH1 hS1 => kk v h' nx' hk9 hle H1 locs1 la hH1 hS1 hL
/-- the private constructor of Rows, called by its nest mate Lift -/
theorem r_callRows {a : Nat} (g : Gd k RX1 cc) (hM : MetP (cL k) (cG k) (cD k) (cBase k) miX3_init lv mc ms [.ref a] h nx K) (hstk : stk = .ref a :: st) (hnx : cBase k ≤ nx)
    (hR : RmK k lv0 mc0 ms0) (h1 : lv + 1 ≤ lv0) (h2 : cells + mc ≤ mc0) (h3 : slots + ms ≤ ms0) (hW : Nat.ble ((st.map fun v => v.category).sum) 8 = true) (d : decode cc pc = .ok (.invokespecial 9, 3))
    (hco : Cond.code miX3_init.1 miX3_init.2.1 miX3_init.2.2.1 miX3_init.2.2.2 ∈ UW) (hin : Cond.instanceMethod miX3_init.1 ∈ UW) (hini : Cond.initialized RX3 ∈ UW)
    (kk : ∀ (v : Option Value) (h' : Hp) (nx' : Nat), K v h' nx' → nx ≤ nx' → Sf k (cells + mc) (slots + ms) h' nx' (pc + 3) ls (v.toList ++ st)) : Sf k cells slots h nx pc ls stk := by
  obtain ⟨p, l, e, R, s, m, args, below, meth, c, Q, base, G, D, nL⟩ := k
  intro H locs la hH hS hL
  subst hstk
  have hts := g.2.2.2.2.1
  have h5 : 40 * lv0 ≤ R.locals := hR.2.1
  have cw := va_cnB (R := R) (s := s) (args := args) (own := RX1) (host := RX4) (index := 9) (maxL := 1) (mc := mc) (ms := ms) (y := yX3_init) (bytes := cX3_init) (ret := none) (Ts := UW) (ws := Cond.code yX3_init cX3_init 1 none :: UW) (ws' := UW) (rm := rmOf lv mc ms) 0 hts (good_all hco) rfl rfl rfl g.2.2.2.2.2.1.2.1.2.2.1 (hts _ hini) ⟨by decide +kernel, by decide +kernel, by decide +kernel⟩ ⟨Nat.le_trans h1 hR.1, by show 8 + (1 + 11) + 40 * lv ≤ R.locals; omega⟩
  refine run_to (va_runIN (As := []) (rest := st) ⟨g.1, g.2.1, g.2.2.1, g.2.2.2.1, hts⟩ hM ⟨cw, rfl, hts _ hin⟩ ⟨PK_blind, fun U hU hW9 => ⟨rfl, hnx, by rw [hU]; exact hH, KK.warm hW9 (by rw [hU]; exact g.2.2.2.2.2.1.kept hS.2.1)⟩⟩ rfl rfl hL.1 rfl (lv_room (Nat.le_of_ble_eq_true hW)) d ⟨Nat.le_trans h2 hR.2.2.1, Nat.le_trans h3 hR.2.2.2⟩) hH hS ?_
  exact fun v h' nx' hk9 hle H1 locs1 hH1 hS1 => kk v h' nx' hk9 hle H1 locs1 la hH1 hS1 hL
/-- Object's constructor -/
theorem r_objInit {a : Nat} (g : Gd k own cc) (hl : Cond.methodLink own idx objectInit ∈ UW) (hin : Cond.instanceMethod objectInit ∈ UW) (hco : Cond.code objectInit ⟨#[0xb1]⟩ 1 none ∈ UW) (hR : RmK k lv0 mc0 ms0) (h1 : 1 ≤ lv0) (hW : Nat.ble ((st.map fun v => v.category).sum) 8 = true) (d : decode cc pc = .ok (.invokespecial idx, 3)) (kk : Sf k cells slots h nx (pc + 3) ls st) : Sf k cells slots h nx pc ls (.ref a :: st) := by
  obtain ⟨p, l, e, R, s, m, args, below, meth, c, Q, base, G, D, nL⟩ := k
  intro H locs la hH hS hL
  have hts := g.2.2.2.2.1
  have h5 : 40 * lv0 ≤ R.locals := hR.2.1
  exact W.objInit g.1 g.2.1 g.2.2.2.1 (hts _ hl) (hts _ hin) (hts _ hco) rfl (by rw [g.2.2.1]; exact hL.1) rfl d (Nat.le_trans h1 hR.1) (by have := Nat.le_of_ble_eq_true hW; show 2 * 0 + _ + 12 ≤ R.locals; omega) (kk H locs la hH hS hL)
/-- Math -/
theorem r_max {x y : Int32} (g : Gd k own cc) (cv : CSt own idx miJ9_max_7cf53 2) (hR : RmK k lv0 mc0 ms0) (h1 : 1 ≤ lv0) (h2 : cells ≤ mc0) (h3 : slots ≤ ms0) (hW : Nat.ble ((st.map fun v => v.category).sum) 8 = true) (d : decode cc pc = .ok (.invokestatic idx, 3)) (kk : Sf k cells slots h nx (pc + 3) ls (.int (if x < y then y else x) :: st)) : Sf k cells slots h nx pc ls (.int y :: .int x :: st) := by
  obtain ⟨p, l, e, R, s, m, args, below, meth, c, Q, base, G, D, nL⟩ := k
  intro H locs la hH hS hL
  have hts := g.2.2.2.2.1
  have h5 : 40 * lv0 ≤ R.locals := hR.2.1
  exact va_mmax g.1 g.2.1 (by rw [g.2.2.1]; exact hL.1.symm) g.2.2.2.1 (hts _ cv.1) (hts _ cv.2.1) (hts _ cv.2.2.1) (hts _ cv.2.2.2.1) (Nat.le_trans h1 hR.1) (by have := Nat.le_of_ble_eq_true hW; show _ ≤ R.locals; omega) (Nat.le_trans h2 hR.2.2.1) (Nat.le_trans h3 hR.2.2.2) d (kk H locs la hH hS hL)
theorem r_min {x y : Int32} (g : Gd k own cc) (cv : CSt own idx miJ9_min_7cf53 2) (hR : RmK k lv0 mc0 ms0) (h1 : 1 ≤ lv0) (h2 : cells ≤ mc0) (h3 : slots ≤ ms0) (hW : Nat.ble ((st.map fun v => v.category).sum) 8 = true) (d : decode cc pc = .ok (.invokestatic idx, 3)) (kk : Sf k cells slots h nx (pc + 3) ls (.int (if y < x then y else x) :: st)) : Sf k cells slots h nx pc ls (.int y :: .int x :: st) := by
  obtain ⟨p, l, e, R, s, m, args, below, meth, c, Q, base, G, D, nL⟩ := k
  intro H locs la hH hS hL
  have hts := g.2.2.2.2.1
  have h5 : 40 * lv0 ≤ R.locals := hR.2.1
  exact va_mmin g.1 g.2.1 (by rw [g.2.2.1]; exact hL.1.symm) g.2.2.2.1 (hts _ cv.1) (hts _ cv.2.1) (hts _ cv.2.2.1) (hts _ cv.2.2.2.1) (Nat.le_trans h1 hR.1) (by have := Nat.le_of_ble_eq_true hW; show _ ≤ R.locals; omega) (Nat.le_trans h2 hR.2.2.1) (Nat.le_trans h3 hR.2.2.2) d (kk H locs la hH hS hL)
theorem r_abs {x : Int32} (g : Gd k own cc) (cv : CSt own idx miJ9_abs_0f7a4 1) (hR : RmK k lv0 mc0 ms0) (h1 : 1 ≤ lv0) (h2 : cells ≤ mc0) (h3 : slots ≤ ms0) (hW : Nat.ble ((st.map fun v => v.category).sum) 8 = true) (d : decode cc pc = .ok (.invokestatic idx, 3)) (kk : Sf k cells slots h nx (pc + 3) ls (.int (if 0 ≤ x then x else 0 - x) :: st)) : Sf k cells slots h nx pc ls (.int x :: st) := by
  obtain ⟨p, l, e, R, s, m, args, below, meth, c, Q, base, G, D, nL⟩ := k
  intro H locs la hH hS hL
  have hts := g.2.2.2.2.1
  have h5 : 40 * lv0 ≤ R.locals := hR.2.1
  exact va_mabs g.1 g.2.1 (by rw [g.2.2.1]; exact hL.1.symm) g.2.2.2.1 (hts _ cv.1) (hts _ cv.2.1) (hts _ cv.2.2.1) (hts _ cv.2.2.2.1) (Nat.le_trans h1 hR.1) (by have := Nat.le_of_ble_eq_true hW; show _ ≤ R.locals; omega) (Nat.le_trans h2 hR.2.2.1) (Nat.le_trans h3 hR.2.2.2) d (kk H locs la hH hS hL)
end CALLS
