section
-- ===== PART A: goes FIRST, ahead of the names: the tables' words, and 'selects' of the private methods out of them =====
/-- a private method of a class that the tables say can be made, by its rows of tables_1 -/
def lw_okq (q : MethodName × Nat) : Prop := (q.1.cls ≠ "java/lang/invoke/MethodHandle" ∧ q.1.cls ≠ "java/lang/invoke/VarHandle") ∧ Cond.instantiable q.1.cls q.2 ∈ tables_1 ∧ Cond.privateMethod q.1 ∈ tables_1 ∧ Cond.instanceMethod q.1 ∈ tables_1
theorem lw_p0 : lw_okq (⟨"CallSums$Giving", "clearRows", "()V"⟩, 15) := ⟨⟨by decide +kernel, by decide +kernel⟩, List.mem_of_getElem? (i := 27) (by decide +kernel), List.mem_of_getElem? (i := 33) (by decide +kernel), List.mem_of_getElem? (i := 34) (by decide +kernel)⟩
theorem lw_p1 : lw_okq (⟨"CallSums", "ableCars", "(LCallSums$Ride;)I"⟩, 8) := ⟨⟨by decide +kernel, by decide +kernel⟩, List.mem_of_getElem? (i := 15) (by decide +kernel), List.mem_of_getElem? (i := 131) (by decide +kernel), List.mem_of_getElem? (i := 132) (by decide +kernel)⟩
theorem lw_p2 : lw_okq (⟨"CallSums$Lift", "within", "(I)Z"⟩, 7) := ⟨⟨by decide +kernel, by decide +kernel⟩, List.mem_of_getElem? (i := 141) (by decide +kernel), List.mem_of_getElem? (i := 139) (by decide +kernel), List.mem_of_getElem? (i := 140) (by decide +kernel)⟩
theorem lw_p3 : lw_okq (⟨"CallSums", "weightNow", "(LCallSums$Ride;)I"⟩, 8) := ⟨⟨by decide +kernel, by decide +kernel⟩, List.mem_of_getElem? (i := 15) (by decide +kernel), List.mem_of_getElem? (i := 144) (by decide +kernel), List.mem_of_getElem? (i := 145) (by decide +kernel)⟩
theorem lw_p4 : lw_okq (⟨"CallSums$Giving", "weighSets", "()V"⟩, 15) := ⟨⟨by decide +kernel, by decide +kernel⟩, List.mem_of_getElem? (i := 27) (by decide +kernel), List.mem_of_getElem? (i := 156) (by decide +kernel), List.mem_of_getElem? (i := 157) (by decide +kernel)⟩
theorem lw_p5 : lw_okq (⟨"CallSums$Rows", "choose", "(LCallSums$Giving;III)V"⟩, 6) := ⟨⟨by decide +kernel, by decide +kernel⟩, List.mem_of_getElem? (i := 175) (by decide +kernel), List.mem_of_getElem? (i := 173) (by decide +kernel), List.mem_of_getElem? (i := 174) (by decide +kernel)⟩
theorem lw_p6 : lw_okq (⟨"CallSums$Rows", "firsts", "(I)I"⟩, 6) := ⟨⟨by decide +kernel, by decide +kernel⟩, List.mem_of_getElem? (i := 175) (by decide +kernel), List.mem_of_getElem? (i := 193) (by decide +kernel), List.mem_of_getElem? (i := 194) (by decide +kernel)⟩
theorem lw_p7 : lw_okq (⟨"CallSums$Giving", "keep", "(J)V"⟩, 15) := ⟨⟨by decide +kernel, by decide +kernel⟩, List.mem_of_getElem? (i := 27) (by decide +kernel), List.mem_of_getElem? (i := 201) (by decide +kernel), List.mem_of_getElem? (i := 202) (by decide +kernel)⟩
theorem lw_p8 : lw_okq (⟨"CallSums$Giving", "tell", "(LCallSums$Rows;I)V"⟩, 15) := ⟨⟨by decide +kernel, by decide +kernel⟩, List.mem_of_getElem? (i := 27) (by decide +kernel), List.mem_of_getElem? (i := 212) (by decide +kernel), List.mem_of_getElem? (i := 213) (by decide +kernel)⟩
theorem lw_p9 : lw_okq (⟨"CallSums", "isFloor", "(I)Z"⟩, 8) := ⟨⟨by decide +kernel, by decide +kernel⟩, List.mem_of_getElem? (i := 15) (by decide +kernel), List.mem_of_getElem? (i := 242) (by decide +kernel), List.mem_of_getElem? (i := 243) (by decide +kernel)⟩
theorem lw_p10 : lw_okq (⟨"java/lang/Throwable", "fillInStackTrace", "(I)Ljava/lang/Throwable;"⟩, 6) := ⟨⟨by decide +kernel, by decide +kernel⟩, List.mem_of_getElem? (i := 283) (by decide +kernel), List.mem_of_getElem? (i := 281) (by decide +kernel), List.mem_of_getElem? (i := 282) (by decide +kernel)⟩
theorem lw_p11 : lw_okq (⟨"CallSums", "liftOf", "(I)LCallSums$Lift;"⟩, 8) := ⟨⟨by decide +kernel, by decide +kernel⟩, List.mem_of_getElem? (i := 15) (by decide +kernel), List.mem_of_getElem? (i := 394) (by decide +kernel), List.mem_of_getElem? (i := 395) (by decide +kernel)⟩
theorem lw_p12 : lw_okq (⟨"CallSums", "openRide", "(I)LCallSums$Ride;"⟩, 8) := ⟨⟨by decide +kernel, by decide +kernel⟩, List.mem_of_getElem? (i := 15) (by decide +kernel), List.mem_of_getElem? (i := 465) (by decide +kernel), List.mem_of_getElem? (i := 466) (by decide +kernel)⟩
theorem lw_p13 : lw_okq (⟨"CallSums", "hasBegunAnother", "(ILCallSums$Ride;)Z"⟩, 8) := ⟨⟨by decide +kernel, by decide +kernel⟩, List.mem_of_getElem? (i := 15) (by decide +kernel), List.mem_of_getElem? (i := 478) (by decide +kernel), List.mem_of_getElem? (i := 479) (by decide +kernel)⟩
theorem lw_p14 : lw_okq (⟨"CallSums", "dropRide", "(I)V"⟩, 8) := ⟨⟨by decide +kernel, by decide +kernel⟩, List.mem_of_getElem? (i := 15) (by decide +kernel), List.mem_of_getElem? (i := 489) (by decide +kernel), List.mem_of_getElem? (i := 490) (by decide +kernel)⟩
theorem lw_p15 : lw_okq (⟨"CallSums", "wasCalled", "(I)Z"⟩, 8) := ⟨⟨by decide +kernel, by decide +kernel⟩, List.mem_of_getElem? (i := 15) (by decide +kernel), List.mem_of_getElem? (i := 508) (by decide +kernel), List.mem_of_getElem? (i := 509) (by decide +kernel)⟩
def lw_privs_1 : List (MethodName × Nat) := [(⟨"CallSums$Giving", "clearRows", "()V"⟩, 15), (⟨"CallSums", "ableCars", "(LCallSums$Ride;)I"⟩, 8), (⟨"CallSums$Lift", "within", "(I)Z"⟩, 7), (⟨"CallSums", "weightNow", "(LCallSums$Ride;)I"⟩, 8), (⟨"CallSums$Giving", "weighSets", "()V"⟩, 15), (⟨"CallSums$Rows", "choose", "(LCallSums$Giving;III)V"⟩, 6), (⟨"CallSums$Rows", "firsts", "(I)I"⟩, 6), (⟨"CallSums$Giving", "keep", "(J)V"⟩, 15), (⟨"CallSums$Giving", "tell", "(LCallSums$Rows;I)V"⟩, 15), (⟨"CallSums", "isFloor", "(I)Z"⟩, 8), (⟨"java/lang/Throwable", "fillInStackTrace", "(I)Ljava/lang/Throwable;"⟩, 6), (⟨"CallSums", "liftOf", "(I)LCallSums$Lift;"⟩, 8), (⟨"CallSums", "openRide", "(I)LCallSums$Ride;"⟩, 8), (⟨"CallSums", "hasBegunAnother", "(ILCallSums$Ride;)Z"⟩, 8), (⟨"CallSums", "dropRide", "(I)V"⟩, 8), (⟨"CallSums", "wasCalled", "(I)Z"⟩, 8)]
theorem lw_r1 : ∀ q ∈ lw_privs_1, lw_okq q := List.forall_mem_cons.mpr ⟨lw_p0, List.forall_mem_cons.mpr ⟨lw_p1, List.forall_mem_cons.mpr ⟨lw_p2, List.forall_mem_cons.mpr ⟨lw_p3, List.forall_mem_cons.mpr ⟨lw_p4, List.forall_mem_cons.mpr ⟨lw_p5, List.forall_mem_cons.mpr ⟨lw_p6, List.forall_mem_cons.mpr ⟨lw_p7, List.forall_mem_cons.mpr ⟨lw_p8, List.forall_mem_cons.mpr ⟨lw_p9, List.forall_mem_cons.mpr ⟨lw_p10, List.forall_mem_cons.mpr ⟨lw_p11, List.forall_mem_cons.mpr ⟨lw_p12, List.forall_mem_cons.mpr ⟨lw_p13, List.forall_mem_cons.mpr ⟨lw_p14, List.forall_mem_cons.mpr ⟨lw_p15, fun _ h => absurd h List.not_mem_nil⟩⟩⟩⟩⟩⟩⟩⟩⟩⟩⟩⟩⟩⟩⟩⟩
theorem lw_p16 : lw_okq (⟨"CallSumsModel", "isFloor", "(I)Z"⟩, 31) := ⟨⟨by decide +kernel, by decide +kernel⟩, List.mem_of_getElem? (i := 551) (by decide +kernel), List.mem_of_getElem? (i := 660) (by decide +kernel), List.mem_of_getElem? (i := 661) (by decide +kernel)⟩
theorem lw_p17 : lw_okq (⟨"CallSumsModel", "isCar", "(I)Z"⟩, 31) := ⟨⟨by decide +kernel, by decide +kernel⟩, List.mem_of_getElem? (i := 551) (by decide +kernel), List.mem_of_getElem? (i := 671) (by decide +kernel), List.mem_of_getElem? (i := 672) (by decide +kernel)⟩
theorem lw_p18 : lw_okq (⟨"CallSumsModel", "isOpenCall", "(I)Z"⟩, 31) := ⟨⟨by decide +kernel, by decide +kernel⟩, List.mem_of_getElem? (i := 551) (by decide +kernel), List.mem_of_getElem? (i := 692) (by decide +kernel), List.mem_of_getElem? (i := 693) (by decide +kernel)⟩
theorem lw_p19 : lw_okq (⟨"CallSumsModel", "isWithin", "(II)Z"⟩, 31) := ⟨⟨by decide +kernel, by decide +kernel⟩, List.mem_of_getElem? (i := 551) (by decide +kernel), List.mem_of_getElem? (i := 700) (by decide +kernel), List.mem_of_getElem? (i := 701) (by decide +kernel)⟩
theorem lw_p20 : lw_okq (⟨"CallSumsModel", "carsOf", "(I)I"⟩, 31) := ⟨⟨by decide +kernel, by decide +kernel⟩, List.mem_of_getElem? (i := 551) (by decide +kernel), List.mem_of_getElem? (i := 716) (by decide +kernel), List.mem_of_getElem? (i := 717) (by decide +kernel)⟩
theorem lw_p21 : lw_okq (⟨"CallSumsModel", "findRows", "(II)V"⟩, 31) := ⟨⟨by decide +kernel, by decide +kernel⟩, List.mem_of_getElem? (i := 551) (by decide +kernel), List.mem_of_getElem? (i := 720) (by decide +kernel), List.mem_of_getElem? (i := 721) (by decide +kernel)⟩
theorem lw_p22 : lw_okq (⟨"CallSumsModel", "sumOf", "(IIZ)J"⟩, 31) := ⟨⟨by decide +kernel, by decide +kernel⟩, List.mem_of_getElem? (i := 551) (by decide +kernel), List.mem_of_getElem? (i := 725) (by decide +kernel), List.mem_of_getElem? (i := 726) (by decide +kernel)⟩
theorem lw_p23 : lw_okq (⟨"CallSumsModel", "weightOf", "(I)I"⟩, 31) := ⟨⟨by decide +kernel, by decide +kernel⟩, List.mem_of_getElem? (i := 551) (by decide +kernel), List.mem_of_getElem? (i := 732) (by decide +kernel), List.mem_of_getElem? (i := 733) (by decide +kernel)⟩
theorem lw_p24 : lw_okq (⟨"CallSumsModel", "nextOrder", "(I)Z"⟩, 31) := ⟨⟨by decide +kernel, by decide +kernel⟩, List.mem_of_getElem? (i := 551) (by decide +kernel), List.mem_of_getElem? (i := 736) (by decide +kernel), List.mem_of_getElem? (i := 737) (by decide +kernel)⟩
theorem lw_p25 : lw_okq (⟨"CallSumsModel", "deal", "(I)V"⟩, 31) := ⟨⟨by decide +kernel, by decide +kernel⟩, List.mem_of_getElem? (i := 551) (by decide +kernel), List.mem_of_getElem? (i := 740) (by decide +kernel), List.mem_of_getElem? (i := 741) (by decide +kernel)⟩
theorem lw_p26 : lw_okq (⟨"CallSumsModel", "setOf", "(I)I"⟩, 31) := ⟨⟨by decide +kernel, by decide +kernel⟩, List.mem_of_getElem? (i := 551) (by decide +kernel), List.mem_of_getElem? (i := 744) (by decide +kernel), List.mem_of_getElem? (i := 745) (by decide +kernel)⟩
theorem lw_p27 : lw_okq (⟨"CallSumsModel", "wasCall", "(I)Z"⟩, 31) := ⟨⟨by decide +kernel, by decide +kernel⟩, List.mem_of_getElem? (i := 551) (by decide +kernel), List.mem_of_getElem? (i := 752) (by decide +kernel), List.mem_of_getElem? (i := 753) (by decide +kernel)⟩
def lw_privs_2 : List (MethodName × Nat) := [(⟨"CallSumsModel", "isFloor", "(I)Z"⟩, 31), (⟨"CallSumsModel", "isCar", "(I)Z"⟩, 31), (⟨"CallSumsModel", "isOpenCall", "(I)Z"⟩, 31), (⟨"CallSumsModel", "isWithin", "(II)Z"⟩, 31), (⟨"CallSumsModel", "carsOf", "(I)I"⟩, 31), (⟨"CallSumsModel", "findRows", "(II)V"⟩, 31), (⟨"CallSumsModel", "sumOf", "(IIZ)J"⟩, 31), (⟨"CallSumsModel", "weightOf", "(I)I"⟩, 31), (⟨"CallSumsModel", "nextOrder", "(I)Z"⟩, 31), (⟨"CallSumsModel", "deal", "(I)V"⟩, 31), (⟨"CallSumsModel", "setOf", "(I)I"⟩, 31), (⟨"CallSumsModel", "wasCall", "(I)Z"⟩, 31)]
theorem lw_r2 : ∀ q ∈ lw_privs_2, lw_okq q := List.forall_mem_cons.mpr ⟨lw_p16, List.forall_mem_cons.mpr ⟨lw_p17, List.forall_mem_cons.mpr ⟨lw_p18, List.forall_mem_cons.mpr ⟨lw_p19, List.forall_mem_cons.mpr ⟨lw_p20, List.forall_mem_cons.mpr ⟨lw_p21, List.forall_mem_cons.mpr ⟨lw_p22, List.forall_mem_cons.mpr ⟨lw_p23, List.forall_mem_cons.mpr ⟨lw_p24, List.forall_mem_cons.mpr ⟨lw_p25, List.forall_mem_cons.mpr ⟨lw_p26, List.forall_mem_cons.mpr ⟨lw_p27, fun _ h => absurd h List.not_mem_nil⟩⟩⟩⟩⟩⟩⟩⟩⟩⟩⟩⟩
def lw_privs : List (MethodName × Nat) := lw_privs_1 ++ (lw_privs_2)
def lw_tbl : List Cond := k2_sels lw_privs ++ tables_1
theorem lw_privs_ok : ∀ q ∈ lw_privs, lw_okq q := by
  show ∀ q ∈ lw_privs_1 ++ (lw_privs_2), lw_okq q
  exact List.forall_mem_append.mpr ⟨lw_r1, lw_r2⟩
-- ===== end of PART A; then your names; then what follows =====
end
section
/-! ===== BEGIN words of one list among another's, by their places ===== -/
theorem goodIn_r {big : List Cond} (ws : List Cond) (ps : List Nat) (hp : ws = ps.filterMap (fun i => big[i]?)) (h : ws.all goodWord = true) : GoodIn big ws := by
  intro w hw
  have h1 := List.all_eq_true.mp h w hw
  rw [hp] at hw
  obtain ⟨i, -, hi⟩ := List.mem_filterMap.mp hw
  have hm : w ∈ big := by first | exact List.mem_of_getElem? hi | exact List.getElem?_mem hi
  exact ⟨hm, good_of_word h1⟩
theorem goodIn_app {big a b : List Cond} (ha : GoodIn big a) (hb : GoodIn big b) : GoodIn big (a ++ b) := fun w h => (List.mem_append.mp h).elim (ha w) (hb w)
theorem goodIn_ca {big a b : List Cond} {c : Cond} (ha : GoodIn big (c :: a)) (hb : GoodIn big b) : GoodIn big (c :: (a ++ b)) := fun w h => (List.mem_cons.mp h).elim (fun e => ha w (List.mem_cons.mpr (Or.inl e))) (fun h => (List.mem_append.mp h).elim (fun h => ha w (List.mem_cons.mpr (Or.inr h))) (hb w))
theorem goodIn_sub {big ws : List Cond} (hm : ∀ w ∈ ws, w ∈ big) (h : ws.all goodWord = true) : GoodIn big ws := fun w hw => ⟨hm w hw, good_of_word (List.all_eq_true.mp h w hw)⟩
/-! ===== END ===== -/

/-! ===== BEGIN exceptions that leave a method, and their catching by the caller (launches without stack traces) ===== -/
section VXA
/-! The laws vx_back, vx_callV, vx_callS, vx_callSW, vx_throw0, vx_throwS follow proofs of the library, with one case more: JvmDerived/Free/Laws.lean (Back.of_free), Shelf42/LK1.lean (callV, callS), Shelf/KitTraced.lean (throwNew0V, throwNewS). -/
/-- where a method has thrown q: the class by its name, the cell, what was written, the world -/
def vx_T (XC : String → State → State → Prop) (st : State) (q : Addr) (t : State) (mc ms : Nat) (free : Addr → Prop) : Prop :=
  ∃ (E : String) (ce : Cell) (L : List Loc), XC E st t ∧ t.heap[q]? = some ce ∧ ce.vm = .none ∧ st.vm.findClass E = some ce.cls ∧ st.WarmedH t.vm ∧ st.sameButNew ({ t with vm := st.vm } : State) L mc ms ∧ ∀ z ∈ L, free z.base
def vx_Q (Qc : Array Value → State → Outcome → State → Prop) (XC : String → State → State → Prop) (mc ms : Nat) (free : Addr → Prop) : Array Value → State → Outcome → State → Prop := fun a st o t =>
  (Qc a st o t ∧ ∃ L, FrameEnd st o t L mc ms ∧ ∀ q ∈ L, free q.base) ∨ ∃ q, o = .threw q ∧ vx_T XC st q t mc ms free
/-- a callee that returns or throws -/
def vx_Met (l : Launch) (y : MethodName) (ws : List Cond) (rm : Room) (Pc : Array Value → State → Prop) (Qc : Array Value → State → Outcome → State → Prop) (XC : String → State → State → Prop) (mc ms : Nat) (free : Addr → Prop) : Prop :=
  MetFree l y (headSpec ws rm) Pc (fun _ _ _ _ _ => True) (vx_Q Qc XC mc ms free)
def vx_Post (XC : String → State → State → Prop) (mc ms : Nat) (free : Addr → Prop) : Pt → Array Value → Addr → Pt → Prop := fun A a q B =>
  ∃ (g : JFrame) (mk : MethodId) (t : State) (L : List Loc) (E : String) (ce : Cell), B.U.heap = t.heap ∧ B.U.vm = t.vm ∧ XC E (A.U.calling g mk a) t ∧ t.heap[q]? = some ce ∧ ce.vm = .none ∧ A.U.vm.findClass E = some ce.cls ∧ B.locs = A.locs ++ L ∧ (∀ z ∈ L, free z.base) ∧ B.cells = A.cells + mc ∧ B.slots = A.slots + ms
def vx_Back (l : Launch) (R : Room) (p : Program) (e : Env) (below : List Frame) (s : State) (sargs : Array Value) (y : MethodName) (len W9 : Nat)
    (Pre : Pt → Array Value → Prop) (Post : Pt → Array Value → Option Value → Pt → Prop) (PostX : Pt → Array Value → Addr → Pt → Prop) : Prop :=
  ∀ (m : MethodId) (meth : Method) (c : Code) (A : Pt) (g : JFrame) (ig : Instr) (mk : MethodId) (a : Array Value),
    Stand p l e R s m sargs below meth c A.U A.locs A.cells A.slots → g.method = m → g.locals.size = c.maxLocals → decode c.code g.pc = .ok (ig, len) →
    2 * g.monitorRoom + (g.stack.map fun v => v.category).sum ≤ W9 → A.U.methodNamed? y = some mk → Pre A a →
    (∃ (v : Option Value) (B : Pt), Stand p l e R s m sargs below meth c B.U B.locs B.cells B.slots ∧ Post A a v B ∧
      Steps p.tables e below (doInvoke e (A.U.setTop g) [] mk a).1 (B.U.setTop { g with pc := g.pc + len, stack := v.toList ++ g.stack })) ∨
    (∃ (q : Addr) (B : Pt), Stand p l e R s m sargs below meth c B.U B.locs B.cells B.slots ∧ PostX A a q B ∧
      Steps p.tables e below (doInvoke e (A.U.setTop g) [] mk a).1 ((B.U.setTop g).pushFrame (.throwing q)))
section Payer
variable {l : Launch} {R : Room} {p : Program} {e : Env} {below : List Frame} {s : State} {sargs : Array Value} {y : MethodName} {len W9 : Nat}
theorem vx_back {ws : List Cond} {rm : Room} {Pc : Array Value → State → Prop} {Qc : Array Value → State → Outcome → State → Prop} {XC : String → State → State → Prop} {mc ms : Nat} {free : Addr → Prop} {bytes : ByteArray} {maxL : Nat} {ret : Option FieldType}
    (hM : vx_Met l y ws rm Pc Qc XC mc ms free) (hblind : FrameBlind Pc) (hrc : rm.cells = mc) (hrs : rm.slots = ms)
    (hframes : rm.frames + 1 ≤ R.frames) (hlocals : W9 + (maxL + 11) + rm.locals ≤ R.locals)
    (hws : ∀ w ∈ ws, ∀ a' U, s.WarmedH U.vm → w.before a' U = true) (hcode : Cond.code y bytes maxL ret ∈ ws) (hinit : ∀ a' U, s.WarmedH U.vm → (Cond.initialized y.cls).before a' U = true) :
    vx_Back l R p e below s sargs y len W9 (PreOf R mc ms Pc) (PostOf Qc mc ms free) (vx_Post XC mc ms free) := by
  intro m meth c A g ig mk a X hg hsize hdg hW hn hp
  have h1 : (headSpec ws rm).pre.before a A.U = true := atoms_intro fun w hw => hws w hw _ _ X.warmed
  have h2 : (Cond.code y bytes maxL ret).before a A.U = true := hws _ hcode _ _ X.warmed
  have h3 : (Cond.initialized y.cls).before a A.U = true := hinit _ _ X.warmed
  have h4 : A.cells + (headSpec ws rm).room.cells ≤ R.cells := by rw [show (headSpec ws rm).room.cells = mc from hrc]; exact hp.1
  have h5 : A.slots + (headSpec ws rm).room.slots ≤ R.slots := by rw [show (headSpec ws rm).room.slots = ms from hrs]; exact hp.2.1
  have hPc : Pc a (A.U.calling g mk a) := hblind _ _ _ _ hp.2.2
  obtain ⟨U, Ls, c0, s0⟩ := A
  dsimp only [Pt.U, Pt.locs, Pt.cells, Pt.slots] at h1 h2 h3 h4 h5 X hn hPc ⊢
  obtain ⟨methY, cY, hmY, hcY, -, hlY, -, -, -, -⟩ := Cond.code_spec hn h2
  obtain ⟨kY, hkY, -⟩ := className_of_methodNamed hn
  have hinitY : kY.init = .initialized := Cond.initialized_spec (findClass_of_methodNamed hn) hkY h3
  have h : At U g.method c below := by rw [hg]; exact X.here
  have hlocals9 : W9 + (maxL + 11) + (headSpec ws rm).room.locals ≤ R.locals := hlocals
  have happ : (headSpec ws rm).appliesLoose y e.platform (U.calling g mk a) = true :=
    Spec.appliesLoose_calling (g := g) h hdg hn hkY hinitY
      (X.room_calling (g := g) (R' := (headSpec ws rm).room) hsize hmY hcY hframes (by rw [hlY]; omega) h4 h5) h1
  obtain ⟨mid, hmid⟩ := h.above
  have hfr : (U.setTop g).frames = (.java g :: mid) ++ below := by rw [State.frames_setTop' g h.top, hmid]; rfl
  obtain ⟨o, s₂, hsteps, -, hend, hq⟩ := Steps.callFree hM p X.admits X.cas X.clock (acts := []) hfr happ hPc trivial
  have hq' : vx_Q Qc XC mc ms free a (U.calling g mk a) o s₂ := hq
  rw [State.frames_setTop' g h.top] at hend
  obtain ⟨g₀, hg0⟩ := Option.isSome_iff_exists.mp h.top
  obtain ⟨r, hr⟩ := State.topJava?_eq_some.mp hg0
  have hr' : (({ U with heap := s₂.heap, slotsUsed := s₂.slotsUsed } : State).setVm s₂.vm).frames = .java g₀ :: r := hr
  rcases hq' with ⟨hqc, L, hfe, hL⟩ | ⟨q, rfl, E, ce, L, hx, hce, hcv, hcl, hW₂, hsm, hL⟩
  · obtain ⟨⟨v, rfl⟩, hW₂, e2, q2, q3, q4, q5, q6⟩ := id hfe
    have e3 : s₂ = ({ (U.calling g mk a).setFrames s₂.frames with heap := s₂.heap, slotsUsed := s₂.slotsUsed } : State).setVm s₂.vm := by
      have : s₂ = ({ s₂ with vm := (U.calling g mk a).vm } : State).setVm s₂.vm := rfl
      rw [e2] at this
      exact this
    obtain ⟨c₂, i₂, len₂, hc₂, hd₂, hf₂⟩ := hend
    have hW' : U.WarmedH s₂.vm := hW₂
    have hcc : c₂ = c := by
      have h1 : s₂.code? g.method = U.code? g.method := by
        rw [State.code?_eq, State.code?_eq, hW'.alike.method?]
      exact Option.some.inj (hc₂.symm.trans (h1.trans h.code))
    subst hcc
    have hlen : len₂ = len := by rw [hdg] at hd₂; cases hd₂; rfl
    subst hlen
    have hs₂ : s₂ = (({ U with heap := s₂.heap, slotsUsed := s₂.slotsUsed } : State).setVm s₂.vm).setTop { g with pc := g.pc + len₂, stack := v.toList ++ g.stack } := by
      refine e3.trans ?_
      rw [hf₂, State.calling_eq h.top, State.setFrames_setFrames, State.setTop_of_frames _ hr', hr]
      rfl
    have hsame : U.sameButNew ({ U with heap := s₂.heap, slotsUsed := s₂.slotsUsed } : State) L mc ms := by
      refine ⟨?_, q2, q3, q4, q5, q6⟩
      obtain ⟨t, ht, -⟩ := State.frames_cons hr
      show ({ U with heap := s₂.heap, slotsUsed := s₂.slotsUsed } : State) = { U.setFrames U.frames with heap := s₂.heap, slotsUsed := s₂.slotsUsed }
      rw [State.setFrames_self ht]
    subst hg
    refine Or.inl ⟨v, ⟨(({ U with heap := s₂.heap, slotsUsed := s₂.slotsUsed } : State).setVm s₂.vm), Ls ++ L, c0 + mc, s0 + ms⟩,
      ⟨X.admits, X.cas, X.clock, X.frames, X.room, X.hears, X.method, X.code, (X.here.setHeapUsed s₂.heap s₂.slotsUsed).setVm hW'.alike, X.tail, State.WarmedH.trans X.warmed hW', X.limits, X.bytes, X.same.trans (hsame.setVm s.vm)⟩,
      ⟨g, mk, s₂, L, rfl, rfl, hqc, rfl, hL, rfl, rfl⟩, ?_⟩
    show Steps p.tables e below _ ((({ U with heap := s₂.heap, slotsUsed := s₂.slotsUsed } : State).setVm s₂.vm).setTop { g with pc := g.pc + len₂, stack := v.toList ++ g.stack })
    rw [← hs₂]
    exact hsteps
  · obtain ⟨e2, q2, q3, q4, q5, q6⟩ := id hsm
    have e3 : s₂ = ({ (U.calling g mk a).setFrames s₂.frames with heap := s₂.heap, slotsUsed := s₂.slotsUsed } : State).setVm s₂.vm := by
      have : s₂ = ({ s₂ with vm := (U.calling g mk a).vm } : State).setVm s₂.vm := rfl
      rw [e2] at this
      exact this
    have hf₂ : s₂.frames = .throwing q :: .java g :: U.frames.tail := hend
    have hW' : U.WarmedH s₂.vm := hW₂
    have hs₂ : s₂ = ((({ U with heap := s₂.heap, slotsUsed := s₂.slotsUsed } : State).setVm s₂.vm).setTop g).pushFrame (.throwing q) := by
      refine e3.trans ?_
      rw [hf₂, State.calling_eq h.top, State.setFrames_setFrames, State.pushFrame, State.frames_setTop _ hr', State.setTop_of_frames _ hr', State.setFrames_setFrames, hr]
      rfl
    have hsame : U.sameButNew ({ U with heap := s₂.heap, slotsUsed := s₂.slotsUsed } : State) L mc ms := by
      refine ⟨?_, q2, q3, q4, q5, q6⟩
      obtain ⟨t, ht, -⟩ := State.frames_cons hr
      show ({ U with heap := s₂.heap, slotsUsed := s₂.slotsUsed } : State) = { U.setFrames U.frames with heap := s₂.heap, slotsUsed := s₂.slotsUsed }
      rw [State.setFrames_self ht]
    subst hg
    refine Or.inr ⟨q, ⟨(({ U with heap := s₂.heap, slotsUsed := s₂.slotsUsed } : State).setVm s₂.vm), Ls ++ L, c0 + mc, s0 + ms⟩,
      ⟨X.admits, X.cas, X.clock, X.frames, X.room, X.hears, X.method, X.code, (X.here.setHeapUsed s₂.heap s₂.slotsUsed).setVm hW'.alike, X.tail, State.WarmedH.trans X.warmed hW', X.limits, X.bytes, X.same.trans (hsame.setVm s.vm)⟩,
      ⟨g, mk, s₂, L, E, ce, rfl, rfl, hx, hce, hcv, hcl, rfl, hL, rfl, rfl⟩, ?_⟩
    show Steps p.tables e below _ (((({ U with heap := s₂.heap, slotsUsed := s₂.slotsUsed } : State).setVm s₂.vm).setTop g).pushFrame (.throwing q))
    rw [← hs₂]
    exact hsteps
end Payer
section Calls
variable {p : Program} {l : Launch} {e : Env} {R : Room} {s : State} {m : MethodId} {args : Array Value} {below : List Frame} {meth : Method} {c : Code} {T : State} {locs : List Loc} {cells slots : Nat}
theorem vx_callV (X : Stand p l e R s m args below meth c T locs cells slots) (hexec : p.tables.exec = Jvm.exec) {own C : String} {index : Nat} {y : MethodName} {bytes : ByteArray} {maxL : Nat} {ret : Option FieldType}
    (hown : s.vm.findClass own = some m.cls) (hlink : (Cond.methodLink own index y).before args s = true) (hinst : (Cond.instanceMethod y).before args s = true) (hsel : (Cond.selects C y y).before args s = true)
    (hcode : (Cond.code y bytes maxL ret).before args s = true) (hy : y.cls ≠ "java/lang/invoke/MethodHandle" ∧ y.cls ≠ "java/lang/invoke/VarHandle")
    {W9 : Nat} {Pre : Pt → Array Value → Prop} {Post : Pt → Array Value → Option Value → Pt → Prop} {PostX : Pt → Array Value → Addr → Pt → Prop} (hK : vx_Back l R p e below s args y 3 W9 Pre Post PostX)
    {b : Addr} {cellB : Cell} (hcell : T.heap[b]? = some cellB) (hobj : cellB.vm.isStatics = false) (hcls : s.vm.findClass C = some cellB.cls)
    {g : JFrame} (hg : g.method = m) (hsize : g.locals.size = c.maxLocals) {argsL rest : List Value} (hlen : ∀ sig, parseMethodDescriptor y.desc = some sig → argsL.length = sig.parameters.length)
    (hstack : g.stack = argsL.reverse ++ .ref b :: rest) (hW : 2 * g.monitorRoom + (rest.map fun v => v.category).sum ≤ W9) (hdg : decode c.code g.pc = .ok (.invokevirtual index, 3))
    (hpre : ∀ vm₁, s.WarmedH vm₁ → Pre ⟨T.setVm vm₁, locs, cells, slots⟩ (Value.ref b :: argsL).toArray) :
    (∃ (v : Option Value) (vm₁ : Vm) (B : Pt), s.WarmedH vm₁ ∧ Stand p l e R s m args below meth c B.U B.locs B.cells B.slots ∧ Post ⟨T.setVm vm₁, locs, cells, slots⟩ (Value.ref b :: argsL).toArray v B ∧
      ∀ target, Steps p.tables e below (B.U.setTop { g with pc := g.pc + 3, stack := v.toList ++ rest }) target → Steps p.tables e below (T.setTop g) target) ∨
    (∃ (q : Addr) (vm₁ : Vm) (B : Pt), s.WarmedH vm₁ ∧ Stand p l e R s m args below meth c B.U B.locs B.cells B.slots ∧ PostX ⟨T.setVm vm₁, locs, cells, slots⟩ (Value.ref b :: argsL).toArray q B ∧
      Steps p.tables e below (T.setTop g) ((B.U.setTop { g with stack := rest }).pushFrame (.throwing q))) := by
  obtain ⟨mk, methM, hnamed, hmethM, hstM, habM⟩ := Cond.instanceMethod_spec hinst
  obtain ⟨methM', cM, hmethM', -, -, -, -, -, -, hsigM⟩ := Cond.code_spec hnamed hcode
  cases hmethM.symm.trans hmethM'
  obtain ⟨c2, r2, m2, q1, q2, q3, q4, kP, hkP, hkPi⟩ := Cond.selects_spec hsel
  cases hcls.symm.trans q1
  cases (State.methodFound?_of_named hnamed hy).symm.trans q2
  cases hnamed.symm.trans q3
  have hselP : selectMethod e.platform s.vm cellB.cls mk = .method mk := by rw [Launch.admits_selectMethod X.admits]; exact q4
  obtain ⟨vm₁, X₁, hstep₁⟩ := X.invokevirtual hexec hown hlink hnamed hmethM hstM hkP hkPi hy (a := b) (cell := cellB) hcell
    (fun z h => by rw [h] at hobj; cases hobj) hselP hmethM habM hkP hkPi (g := g) hg (argsL := argsL) (rest := rest) (hlen _ hsigM) hstack hdg
  rcases hK m meth c ⟨T.setVm vm₁, locs, cells, slots⟩ { g with stack := rest } (.invokevirtual index) mk (Value.ref b :: argsL).toArray X₁ hg hsize hdg hW (X₁.named hnamed) (hpre vm₁ X₁.warmed) with ⟨v, B, X', hpost, hsteps⟩ | ⟨q, B, X', hpost, hsteps⟩
  · exact Or.inl ⟨v, vm₁, B, X₁.warmed, X', hpost, fun target h => hstep₁ _ fun acts => by rw [doInvoke_state]; exact hsteps.trans h⟩
  · exact Or.inr ⟨q, vm₁, B, X₁.warmed, X', hpost, hstep₁ _ fun acts => by rw [doInvoke_state]; exact hsteps⟩
theorem vx_callS (X : Stand p l e R s m args below meth c T locs cells slots) (hexec : p.tables.exec = Jvm.exec) {own : String} {index : Nat} {y : MethodName} {bytes : ByteArray} {maxL : Nat} {ret : Option FieldType}
    (hown : s.vm.findClass own = some m.cls) (hlink : (Cond.methodLink own index y).before args s = true) (hstat : (Cond.static y).before args s = true) (hinit : (Cond.initialized y.cls).before args s = true)
    (hcode : (Cond.code y bytes maxL ret).before args s = true) (hy : y.cls ≠ "java/lang/invoke/MethodHandle" ∧ y.cls ≠ "java/lang/invoke/VarHandle")
    {W9 : Nat} {Pre : Pt → Array Value → Prop} {Post : Pt → Array Value → Option Value → Pt → Prop} {PostX : Pt → Array Value → Addr → Pt → Prop} (hK : vx_Back l R p e below s args y 3 W9 Pre Post PostX)
    {g : JFrame} (hg : g.method = m) (hsize : g.locals.size = c.maxLocals) {argsL rest : List Value} (hlen : ∀ sig, parseMethodDescriptor y.desc = some sig → argsL.length = sig.parameters.length)
    (hstack : g.stack = argsL.reverse ++ rest) (hW : 2 * g.monitorRoom + (rest.map fun v => v.category).sum ≤ W9) (hdg : decode c.code g.pc = .ok (.invokestatic index, 3))
    (hpre : ∀ vm₁, s.WarmedH vm₁ → Pre ⟨T.setVm vm₁, locs, cells, slots⟩ argsL.toArray) :
    (∃ (v : Option Value) (vm₁ : Vm) (B : Pt), s.WarmedH vm₁ ∧ Stand p l e R s m args below meth c B.U B.locs B.cells B.slots ∧ Post ⟨T.setVm vm₁, locs, cells, slots⟩ argsL.toArray v B ∧
      ∀ target, Steps p.tables e below (B.U.setTop { g with pc := g.pc + 3, stack := v.toList ++ rest }) target → Steps p.tables e below (T.setTop g) target) ∨
    (∃ (q : Addr) (vm₁ : Vm) (B : Pt), s.WarmedH vm₁ ∧ Stand p l e R s m args below meth c B.U B.locs B.cells B.slots ∧ PostX ⟨T.setVm vm₁, locs, cells, slots⟩ argsL.toArray q B ∧
      Steps p.tables e below (T.setTop g) ((B.U.setTop { g with stack := rest }).pushFrame (.throwing q))) := by
  obtain ⟨mk, hnamed⟩ := Cond.code_named hcode
  obtain ⟨methM, cM, hmethM, -, -, -, -, -, -, hsigM⟩ := Cond.code_spec hnamed hcode
  have hstatic : methM.isStatic = true := Cond.static_spec hnamed hmethM hstat
  obtain ⟨kP, hkP, -⟩ := className_of_methodNamed hnamed
  have hinitP : kP.init = .initialized := Cond.initialized_spec (findClass_of_methodNamed hnamed) hkP hinit
  obtain ⟨vm₁, X₁, hstep₁⟩ := X.invokestatic hexec hown hlink hnamed hmethM hstatic hkP hinitP hy (g := g) hg (argsL := argsL) (rest := rest) (hlen _ hsigM) hstack hdg
  rcases hK m meth c ⟨T.setVm vm₁, locs, cells, slots⟩ { g with stack := rest } (.invokestatic index) mk argsL.toArray X₁ hg hsize hdg hW (X₁.named hnamed) (hpre vm₁ X₁.warmed) with ⟨v, B, X', hpost, hsteps⟩ | ⟨q, B, X', hpost, hsteps⟩
  · exact Or.inl ⟨v, vm₁, B, X₁.warmed, X', hpost, fun target h => hstep₁ _ fun acts => by rw [doInvoke_state]; exact hsteps.trans h⟩
  · exact Or.inr ⟨q, vm₁, B, X₁.warmed, X', hpost, hstep₁ _ fun acts => by rw [doInvoke_state]; exact hsteps⟩
end Calls
theorem vx_cls {s : State} {T : State} {vm₁ : Vm} {E : String} {k : ClassId} (hW : s.WarmedH vm₁) (h : (T.setVm vm₁).vm.findClass E = some k) : s.vm.findClass E = some k := by
  have h1 : vm₁.findClass E = some k := h
  rw [hW.alike.findClass] at h1
  exact h1
/-- the method's frame g, with q thrown over it -/
def vx_W (p : Program) (l : Launch) (e : Env) (R : Room) (s : State) (m : MethodId) (args : Array Value) (below : List Frame) (meth : Method) (c : Code) (H : Heap) (locs : List Loc) (cells slots : Nat) (Q : State → Prop) (g : JFrame) (q : Addr) : Prop :=
  ∀ T : State, T.heap = H → Stand p l e R s m args below meth c T locs cells slots → ∃ t, Steps p.tables e below ((T.setTop g).pushFrame (.throwing q)) t ∧ Q t
def vx_Run (p : Program) (l : Launch) (e : Env) (R : Room) (s : State) (m : MethodId) (args : Array Value) (below : List Frame) (meth : Method) (c : Code) (H : Heap) (locs : List Loc) (cells slots mc ms : Nat) (g : JFrame) (rest : List Value) (Qa : State → Outcome → State → Prop) (XC : String → State → State → Prop) (free : Addr → Prop) : Prop :=
  ∀ T : State, T.heap = H → Stand p l e R s m args below meth c T locs cells slots →
    (∃ (v : Option Value) (st₀ t T' : State) (L : List Loc), st₀.heap = H ∧ Stand p l e R s m args below meth c T' (locs ++ L) (cells + mc) (slots + ms) ∧ (∀ q ∈ L, free q.base) ∧ T'.heap = t.heap ∧ T'.vm = t.vm ∧ Qa st₀ (.returned v) t ∧
      Goes p e below T g T' { g with pc := g.pc + 3, stack := v.toList ++ rest }) ∨
    (∃ (q : Addr) (st₀ t T' : State) (L : List Loc) (E : String) (ce : Cell), st₀.heap = H ∧ Stand p l e R s m args below meth c T' (locs ++ L) (cells + mc) (slots + ms) ∧ (∀ z ∈ L, free z.base) ∧ T'.heap = t.heap ∧ T'.vm = t.vm ∧ XC E st₀ t ∧ t.heap[q]? = some ce ∧ ce.vm = .none ∧ s.vm.findClass E = some ce.cls ∧
      Steps p.tables e below (T.setTop g) ((T'.setTop { g with stack := rest }).pushFrame (.throwing q)))
def vx_X {S : Type} (px : S → Prop) (B : String → S → State → Prop) (A : Nat → Prop) : String → State → State → Prop := fun E st t => ∃ u : S, px u ∧ B E u t ∧ va_F A st t
section Runs
variable {p : Program} {l : Launch} {e : Env} {R : Room} {s : State} {m : MethodId} {args : Array Value} {below : List Frame} {meth : Method} {c : Code} {H : Heap} {locs : List Loc} {cells slots : Nat}
variable {y : MethodName} {bytes cc : ByteArray} {maxL nL mc ms n index : Nat} {ret : Option FieldType} {ws : List Cond} {rm : Room} {Pc : Array Value → State → Prop} {Qc : Array Value → State → Outcome → State → Prop} {XC : String → State → State → Prop} {free : Addr → Prop} {Ts : List Cond} {own C : String} {b : Addr} {As rest : List Value} {g : JFrame}
theorem vx_callBack (cb : CallB R s args own index y bytes maxL ret ws rm mc ms n) (hM : vx_Met l y ws rm Pc Qc XC mc ms free) (hbl : FrameBlind Pc) : vx_Back l R p e below s args y 3 8 (PreOf R mc ms Pc) (PostOf Qc mc ms free) (vx_Post XC mc ms free) := by
  obtain ⟨hrc, hrs, hfr, hlo, hws, hcw, -, hini, -⟩ := cb
  exact vx_back (bytes := bytes) (maxL := maxL) (ret := ret) hM hbl hrc hrs hfr hlo hws hcw (fun a' U hW => word_at hW (Or.inl (by first | rfl | simp [Cond.onTables, Cond.keeps, Cond.steady])) hini)
theorem vx_runV (S : CallFix p m c cc nL s args Ts own) (hM : vx_Met l y ws rm Pc Qc XC mc ms free) (cw : CallW R s args own C index y bytes maxL ret ws rm mc ms n) (hp : PreV s H C b Pc As)
    (hg : g.method = m) (hn : As.length = n) (hsize : g.locals.size = nL) (hstack : g.stack = As.reverse ++ .ref b :: rest) (hW : 2 * g.monitorRoom + (rest.map fun v => v.category).sum ≤ 8) (hdg : decode cc g.pc = .ok (.invokevirtual index, 3)) (hf : cells + mc ≤ R.cells ∧ slots + ms ≤ R.slots) :
    vx_Run p l e R s m args below meth c H locs cells slots mc ms g rest (Qc (Value.ref b :: As).toArray) XC free := by
  have hK : vx_Back l R p e below s args y 3 8 (PreOf R mc ms Pc) (PostOf Qc mc ms free) (vx_Post XC mc ms free) := vx_callBack cw.1 hM hp.1
  obtain ⟨⟨-, -, -, -, -, -, hcode, -, hy, hlen, hl⟩, hin, hse⟩ := cw
  obtain ⟨hx, hb, hml, ho, -⟩ := S
  obtain ⟨-, ⟨cellB, hcB, hoB, hclB⟩, hPc⟩ := hp
  intro T hT X
  rcases vx_callV X hx (C := C) (bytes := bytes) (maxL := maxL) (ret := ret) ho hl hin hse hcode hy hK (by rw [hT]; exact hcB) hoB hclB hg (hsize.trans hml.symm) (argsL := As) (rest := rest) (fun sig h => hn.trans (hlen sig h)) hstack hW (by rw [hb]; exact hdg)
    (fun vm₁ hW₁ => ⟨hf.1, hf.2, hPc (T.setVm vm₁) hT hW₁⟩) with ⟨v, vm₁, ⟨U', l2, c2, s2⟩, hW₁, X', ⟨g', mk, t, L, e1, e2, hq, h1, hL, h2, h3⟩, st⟩ | ⟨q, vm₁, ⟨U', l2, c2, s2⟩, hW₁, X', ⟨g', mk, t, L, E, ce, e1, e2, hq, hce, hcv, hcl, h1, hL, h2, h3⟩, st⟩
  · dsimp only [Pt.U, Pt.locs, Pt.cells, Pt.slots] at X' e1 e2 h1 h2 h3 st
    subst h1; subst h2; subst h3
    exact Or.inl ⟨v, (T.setVm vm₁).calling g' mk (Value.ref b :: As).toArray, t, U', L, hT, X', hL, e1, e2, hq, st⟩
  · dsimp only [Pt.U, Pt.locs, Pt.cells, Pt.slots] at X' e1 e2 h1 h2 h3 st hcl
    subst h1; subst h2; subst h3
    exact Or.inr ⟨q, (T.setVm vm₁).calling g' mk (Value.ref b :: As).toArray, t, U', L, E, ce, hT, X', hL, e1, e2, hq, hce, hcv, vx_cls hW₁ hcl, st⟩
theorem vx_runS (S : CallFix p m c cc nL s args Ts own) (hM : vx_Met l y ws rm Pc Qc XC mc ms free) (cw : CallB R s args own index y bytes maxL ret ws rm mc ms n ∧ (Cond.static y).before args s = true) (hp : PreS s H Pc As)
    (hg : g.method = m) (hn : As.length = n) (hsize : g.locals.size = nL) (hstack : g.stack = As.reverse ++ rest) (hW : 2 * g.monitorRoom + (rest.map fun v => v.category).sum ≤ 8) (hdg : decode cc g.pc = .ok (.invokestatic index, 3)) (hf : cells + mc ≤ R.cells ∧ slots + ms ≤ R.slots) :
    vx_Run p l e R s m args below meth c H locs cells slots mc ms g rest (Qc As.toArray) XC free := by
  have hK : vx_Back l R p e below s args y 3 8 (PreOf R mc ms Pc) (PostOf Qc mc ms free) (vx_Post XC mc ms free) := vx_callBack cw.1 hM hp.1
  obtain ⟨⟨-, -, -, -, -, -, hcode, hini, hy, hlen, hl⟩, hstt⟩ := cw
  obtain ⟨hx, hb, hml, ho, -⟩ := S
  intro T hT X
  rcases vx_callS X hx (bytes := bytes) (maxL := maxL) (ret := ret) ho hl hstt hini hcode hy hK hg (hsize.trans hml.symm) (argsL := As) (rest := rest) (fun sig h => hn.trans (hlen sig h)) hstack hW (by rw [hb]; exact hdg)
    (fun vm₁ hW₁ => ⟨hf.1, hf.2, hp.2 (T.setVm vm₁) hT hW₁⟩) with ⟨v, vm₁, ⟨U', l2, c2, s2⟩, hW₁, X', ⟨g', mk, t, L, e1, e2, hq, h1, hL, h2, h3⟩, st⟩ | ⟨q, vm₁, ⟨U', l2, c2, s2⟩, hW₁, X', ⟨g', mk, t, L, E, ce, e1, e2, hq, hce, hcv, hcl, h1, hL, h2, h3⟩, st⟩
  · dsimp only [Pt.U, Pt.locs, Pt.cells, Pt.slots] at X' e1 e2 h1 h2 h3 st
    subst h1; subst h2; subst h3
    exact Or.inl ⟨v, (T.setVm vm₁).calling g' mk As.toArray, t, U', L, hT, X', hL, e1, e2, hq, st⟩
  · dsimp only [Pt.U, Pt.locs, Pt.cells, Pt.slots] at X' e1 e2 h1 h2 h3 st hcl
    subst h1; subst h2; subst h3
    exact Or.inr ⟨q, (T.setVm vm₁).calling g' mk As.toArray, t, U', L, E, ce, hT, X', hL, e1, e2, hq, hce, hcv, vx_cls hW₁ hcl, st⟩
end Runs
section Rows
variable {p : Program} {l : Launch} {e : Env} {R : Room} {s : State} {m : MethodId} {args : Array Value} {below : List Frame} {meth : Method} {c : Code} {H : Heap} {locs : List Loc} {cells slots : Nat} {Q : State → Prop}
variable {mc ms : Nat} {free : Addr → Prop} {A0 A1 : Nat → Prop} {H0 : Heap} {a : Array Value} {pc : Nat} {ls : Array Slot} {st0 rest : List Value}
theorem vx_keep {st₀ t T' : State} {L : List Loc} (h0 : st₀.heap = H) (e1 : T'.heap = t.heap) (hS : va_S A0 H0 H locs) (hA : ∀ q, q < H.size → A1 q → A0 q) (hf : ∀ q, free q → A0 q) (hL : ∀ q ∈ L, free q.base) (hF : va_F A1 st₀ t) :
    H.size ≤ T'.heap.size ∧ (∀ q : Nat, q < H.size → ¬ A1 q → T'.heap[q]? = H[q]?) ∧ va_S A0 H0 T'.heap (locs ++ L) := by
  obtain ⟨hz, hk⟩ := hF
  rw [h0] at hz hk
  exact ⟨by rw [e1]; exact hz, fun q h1 h2 => by rw [e1]; exact hk q h1 h2,
    ⟨Nat.le_trans hS.1 (by rw [e1]; exact hz), fun q h1 h2 => by rw [e1, hk q (Nat.lt_of_lt_of_le h1 hS.1) (fun z => h2 (hA q (Nat.lt_of_lt_of_le h1 hS.1) z))]; exact hS.2.1 q h1 h2, fun q hq => by
      rcases List.mem_append.mp hq with h | h
      · exact hS.2.2 q h
      · exact hf _ (hL q h)⟩⟩
theorem vx_calli {S SX : Type} {post : Int32 → S → Prop} {px : SX → Prop} {B : S → State → Prop} {BX : String → SX → State → Prop} {AX : Nat → Prop} (hr : vx_Run p l e R s m args below meth c H locs cells slots mc ms (F0 m pc ls st0) rest (va_Qi post B A1 a) (vx_X px BX AX) free) (hS : va_S A0 H0 H locs) (hA : ∀ q, q < H.size → A1 q → A0 q) (hf : ∀ q, free q → A0 q) (hAX : ∀ q, q < H.size → AX q → A0 q)
    (kx : ∀ (E : String) (ce : Cell) (q9 : Addr) (u : SX) (t : State) (H1 : Heap) (locs1 : List Loc), t.heap = H1 → s.vm.Alike t.vm → px u → BX E u t → H.size ≤ H1.size → (∀ q : Nat, q < H.size → ¬ AX q → H1[q]? = H[q]?) → va_S A0 H0 H1 locs1 → H1[q9]? = some ce → ce.vm = .none → s.vm.findClass E = some ce.cls → vx_W p l e R s m args below meth c H1 locs1 (cells + mc) (slots + ms) Q (F0 m pc ls rest) q9)
    (kk : ∀ (r : Int32) (u : S) (t : State) (H1 : Heap) (locs1 : List Loc), t.heap = H1 → s.vm.Alike t.vm → post r u → B u t → H.size ≤ H1.size → (∀ q : Nat, q < H.size → ¬ A1 q → H1[q]? = H[q]?) → va_S A0 H0 H1 locs1 → W p l e R s m args below meth c H1 locs1 (cells + mc) (slots + ms) Q (F0 m (pc + 3) ls (.int r :: rest))) : W p l e R s m args below meth c H locs cells slots Q (F0 m pc ls st0) := by
  intro T hT X
  rcases hr T hT X with ⟨v, st₀, t, T', L, h0, X', hL, e1, e2, ⟨⟨r, u, hv, hp, hb⟩, hF⟩, st⟩ | ⟨q, st₀, t, T', L, E, ce, h0, X', hL, e1, e2, ⟨u, hp, hb, hF⟩, hce, hcv, hcl, st⟩
  · cases hv
    obtain ⟨k1, k2, k3⟩ := vx_keep h0 e1 hS hA hf hL hF
    obtain ⟨t2, a1, b1⟩ := kk r u t T'.heap (locs ++ L) e1.symm (by rw [← e2]; exact X'.warmed.alike) hp hb k1 k2 k3 T' rfl X'
    exact ⟨t2, st t2 a1, b1⟩
  · obtain ⟨k1, k2, k3⟩ := vx_keep h0 e1 hS hAX hf hL hF
    obtain ⟨t2, a1, b1⟩ := kx E ce q u t T'.heap (locs ++ L) e1.symm (by rw [← e2]; exact X'.warmed.alike) hp hb k1 k2 k3 (by rw [e1]; exact hce) hcv hcl T' rfl X'
    exact ⟨t2, st.trans a1, b1⟩
theorem vx_calll {S SX : Type} {post : Int64 → S → Prop} {px : SX → Prop} {B : S → State → Prop} {BX : String → SX → State → Prop} {AX : Nat → Prop} (hr : vx_Run p l e R s m args below meth c H locs cells slots mc ms (F0 m pc ls st0) rest (va_Ql post B A1 a) (vx_X px BX AX) free) (hS : va_S A0 H0 H locs) (hA : ∀ q, q < H.size → A1 q → A0 q) (hf : ∀ q, free q → A0 q) (hAX : ∀ q, q < H.size → AX q → A0 q)
    (kx : ∀ (E : String) (ce : Cell) (q9 : Addr) (u : SX) (t : State) (H1 : Heap) (locs1 : List Loc), t.heap = H1 → s.vm.Alike t.vm → px u → BX E u t → H.size ≤ H1.size → (∀ q : Nat, q < H.size → ¬ AX q → H1[q]? = H[q]?) → va_S A0 H0 H1 locs1 → H1[q9]? = some ce → ce.vm = .none → s.vm.findClass E = some ce.cls → vx_W p l e R s m args below meth c H1 locs1 (cells + mc) (slots + ms) Q (F0 m pc ls rest) q9)
    (kk : ∀ (r : Int64) (u : S) (t : State) (H1 : Heap) (locs1 : List Loc), t.heap = H1 → s.vm.Alike t.vm → post r u → B u t → H.size ≤ H1.size → (∀ q : Nat, q < H.size → ¬ A1 q → H1[q]? = H[q]?) → va_S A0 H0 H1 locs1 → W p l e R s m args below meth c H1 locs1 (cells + mc) (slots + ms) Q (F0 m (pc + 3) ls (.long r :: rest))) : W p l e R s m args below meth c H locs cells slots Q (F0 m pc ls st0) := by
  intro T hT X
  rcases hr T hT X with ⟨v, st₀, t, T', L, h0, X', hL, e1, e2, ⟨⟨r, u, hv, hp, hb⟩, hF⟩, st⟩ | ⟨q, st₀, t, T', L, E, ce, h0, X', hL, e1, e2, ⟨u, hp, hb, hF⟩, hce, hcv, hcl, st⟩
  · cases hv
    obtain ⟨k1, k2, k3⟩ := vx_keep h0 e1 hS hA hf hL hF
    obtain ⟨t2, a1, b1⟩ := kk r u t T'.heap (locs ++ L) e1.symm (by rw [← e2]; exact X'.warmed.alike) hp hb k1 k2 k3 T' rfl X'
    exact ⟨t2, st t2 a1, b1⟩
  · obtain ⟨k1, k2, k3⟩ := vx_keep h0 e1 hS hAX hf hL hF
    obtain ⟨t2, a1, b1⟩ := kx E ce q u t T'.heap (locs ++ L) e1.symm (by rw [← e2]; exact X'.warmed.alike) hp hb k1 k2 k3 (by rw [e1]; exact hce) hcv hcl T' rfl X'
    exact ⟨t2, st.trans a1, b1⟩
theorem vx_callf {S SX : Type} {post : UInt32 → S → Prop} {px : SX → Prop} {B : S → State → Prop} {BX : String → SX → State → Prop} {AX : Nat → Prop} (hr : vx_Run p l e R s m args below meth c H locs cells slots mc ms (F0 m pc ls st0) rest (va_Qf post B A1 a) (vx_X px BX AX) free) (hS : va_S A0 H0 H locs) (hA : ∀ q, q < H.size → A1 q → A0 q) (hf : ∀ q, free q → A0 q) (hAX : ∀ q, q < H.size → AX q → A0 q)
    (kx : ∀ (E : String) (ce : Cell) (q9 : Addr) (u : SX) (t : State) (H1 : Heap) (locs1 : List Loc), t.heap = H1 → s.vm.Alike t.vm → px u → BX E u t → H.size ≤ H1.size → (∀ q : Nat, q < H.size → ¬ AX q → H1[q]? = H[q]?) → va_S A0 H0 H1 locs1 → H1[q9]? = some ce → ce.vm = .none → s.vm.findClass E = some ce.cls → vx_W p l e R s m args below meth c H1 locs1 (cells + mc) (slots + ms) Q (F0 m pc ls rest) q9)
    (kk : ∀ (r : UInt32) (u : S) (t : State) (H1 : Heap) (locs1 : List Loc), t.heap = H1 → s.vm.Alike t.vm → post r u → B u t → H.size ≤ H1.size → (∀ q : Nat, q < H.size → ¬ A1 q → H1[q]? = H[q]?) → va_S A0 H0 H1 locs1 → W p l e R s m args below meth c H1 locs1 (cells + mc) (slots + ms) Q (F0 m (pc + 3) ls (.float r :: rest))) : W p l e R s m args below meth c H locs cells slots Q (F0 m pc ls st0) := by
  intro T hT X
  rcases hr T hT X with ⟨v, st₀, t, T', L, h0, X', hL, e1, e2, ⟨⟨r, u, hv, hp, hb⟩, hF⟩, st⟩ | ⟨q, st₀, t, T', L, E, ce, h0, X', hL, e1, e2, ⟨u, hp, hb, hF⟩, hce, hcv, hcl, st⟩
  · cases hv
    obtain ⟨k1, k2, k3⟩ := vx_keep h0 e1 hS hA hf hL hF
    obtain ⟨t2, a1, b1⟩ := kk r u t T'.heap (locs ++ L) e1.symm (by rw [← e2]; exact X'.warmed.alike) hp hb k1 k2 k3 T' rfl X'
    exact ⟨t2, st t2 a1, b1⟩
  · obtain ⟨k1, k2, k3⟩ := vx_keep h0 e1 hS hAX hf hL hF
    obtain ⟨t2, a1, b1⟩ := kx E ce q u t T'.heap (locs ++ L) e1.symm (by rw [← e2]; exact X'.warmed.alike) hp hb k1 k2 k3 (by rw [e1]; exact hce) hcv hcl T' rfl X'
    exact ⟨t2, st.trans a1, b1⟩
theorem vx_calld {S SX : Type} {post : UInt64 → S → Prop} {px : SX → Prop} {B : S → State → Prop} {BX : String → SX → State → Prop} {AX : Nat → Prop} (hr : vx_Run p l e R s m args below meth c H locs cells slots mc ms (F0 m pc ls st0) rest (va_Qd post B A1 a) (vx_X px BX AX) free) (hS : va_S A0 H0 H locs) (hA : ∀ q, q < H.size → A1 q → A0 q) (hf : ∀ q, free q → A0 q) (hAX : ∀ q, q < H.size → AX q → A0 q)
    (kx : ∀ (E : String) (ce : Cell) (q9 : Addr) (u : SX) (t : State) (H1 : Heap) (locs1 : List Loc), t.heap = H1 → s.vm.Alike t.vm → px u → BX E u t → H.size ≤ H1.size → (∀ q : Nat, q < H.size → ¬ AX q → H1[q]? = H[q]?) → va_S A0 H0 H1 locs1 → H1[q9]? = some ce → ce.vm = .none → s.vm.findClass E = some ce.cls → vx_W p l e R s m args below meth c H1 locs1 (cells + mc) (slots + ms) Q (F0 m pc ls rest) q9)
    (kk : ∀ (r : UInt64) (u : S) (t : State) (H1 : Heap) (locs1 : List Loc), t.heap = H1 → s.vm.Alike t.vm → post r u → B u t → H.size ≤ H1.size → (∀ q : Nat, q < H.size → ¬ A1 q → H1[q]? = H[q]?) → va_S A0 H0 H1 locs1 → W p l e R s m args below meth c H1 locs1 (cells + mc) (slots + ms) Q (F0 m (pc + 3) ls (.double r :: rest))) : W p l e R s m args below meth c H locs cells slots Q (F0 m pc ls st0) := by
  intro T hT X
  rcases hr T hT X with ⟨v, st₀, t, T', L, h0, X', hL, e1, e2, ⟨⟨r, u, hv, hp, hb⟩, hF⟩, st⟩ | ⟨q, st₀, t, T', L, E, ce, h0, X', hL, e1, e2, ⟨u, hp, hb, hF⟩, hce, hcv, hcl, st⟩
  · cases hv
    obtain ⟨k1, k2, k3⟩ := vx_keep h0 e1 hS hA hf hL hF
    obtain ⟨t2, a1, b1⟩ := kk r u t T'.heap (locs ++ L) e1.symm (by rw [← e2]; exact X'.warmed.alike) hp hb k1 k2 k3 T' rfl X'
    exact ⟨t2, st t2 a1, b1⟩
  · obtain ⟨k1, k2, k3⟩ := vx_keep h0 e1 hS hAX hf hL hF
    obtain ⟨t2, a1, b1⟩ := kx E ce q u t T'.heap (locs ++ L) e1.symm (by rw [← e2]; exact X'.warmed.alike) hp hb k1 k2 k3 (by rw [e1]; exact hce) hcv hcl T' rfl X'
    exact ⟨t2, st.trans a1, b1⟩
theorem vx_callv {S SX : Type} {post : S → Prop} {px : SX → Prop} {B : S → State → Prop} {BX : String → SX → State → Prop} {AX : Nat → Prop} (hr : vx_Run p l e R s m args below meth c H locs cells slots mc ms (F0 m pc ls st0) rest (va_Qv post B A1 a) (vx_X px BX AX) free) (hS : va_S A0 H0 H locs) (hA : ∀ q, q < H.size → A1 q → A0 q) (hf : ∀ q, free q → A0 q) (hAX : ∀ q, q < H.size → AX q → A0 q)
    (kx : ∀ (E : String) (ce : Cell) (q9 : Addr) (u : SX) (t : State) (H1 : Heap) (locs1 : List Loc), t.heap = H1 → s.vm.Alike t.vm → px u → BX E u t → H.size ≤ H1.size → (∀ q : Nat, q < H.size → ¬ AX q → H1[q]? = H[q]?) → va_S A0 H0 H1 locs1 → H1[q9]? = some ce → ce.vm = .none → s.vm.findClass E = some ce.cls → vx_W p l e R s m args below meth c H1 locs1 (cells + mc) (slots + ms) Q (F0 m pc ls rest) q9)
    (kk : ∀ (u : S) (t : State) (H1 : Heap) (locs1 : List Loc), t.heap = H1 → s.vm.Alike t.vm → post u → B u t → H.size ≤ H1.size → (∀ q : Nat, q < H.size → ¬ A1 q → H1[q]? = H[q]?) → va_S A0 H0 H1 locs1 → W p l e R s m args below meth c H1 locs1 (cells + mc) (slots + ms) Q (F0 m (pc + 3) ls (rest))) : W p l e R s m args below meth c H locs cells slots Q (F0 m pc ls st0) := by
  intro T hT X
  rcases hr T hT X with ⟨v, st₀, t, T', L, h0, X', hL, e1, e2, ⟨⟨u, hv, hp, hb⟩, hF⟩, st⟩ | ⟨q, st₀, t, T', L, E, ce, h0, X', hL, e1, e2, ⟨u, hp, hb, hF⟩, hce, hcv, hcl, st⟩
  · cases hv
    obtain ⟨k1, k2, k3⟩ := vx_keep h0 e1 hS hA hf hL hF
    obtain ⟨t2, a1, b1⟩ := kk u t T'.heap (locs ++ L) e1.symm (by rw [← e2]; exact X'.warmed.alike) hp hb k1 k2 k3 T' rfl X'
    exact ⟨t2, st t2 a1, b1⟩
  · obtain ⟨k1, k2, k3⟩ := vx_keep h0 e1 hS hAX hf hL hF
    obtain ⟨t2, a1, b1⟩ := kx E ce q u t T'.heap (locs ++ L) e1.symm (by rw [← e2]; exact X'.warmed.alike) hp hb k1 k2 k3 (by rw [e1]; exact hce) hcv hcl T' rfl X'
    exact ⟨t2, st.trans a1, b1⟩
/-- caught by the row x of this method's table; the rows ahead don't take it -/
theorem vx_catch {own name : String} {E : String} {ce : Cell} {q : Addr} (hown : s.vm.findClass own = some m.cls) (pre : List ExceptionTableEntry) (x : ExceptionTableEntry) (suf : List ExceptionTableEntry) (hsplit : c.exceptionTable.toList = pre ++ x :: suf)
    (hpass : ∀ z ∈ pre, covers z pc = false ∨ (z.catchType ≠ 0 ∧ ∃ nm : String, (Cond.classLink own z.catchType nm).before args s = true ∧ va_Nc E nm s)) (hx : covers x pc = true) (h0 : x.catchType ≠ 0)
    (hlink : (Cond.classLink own x.catchType name).before args s = true) (hcast : (Cond.castable E name).before args s = true) (hcell : H[q]? = some ce) (hv : ce.vm = .none) (hcl : s.vm.findClass E = some ce.cls)
    (kk : W p l e R s m args below meth c H locs cells slots Q (F0 m x.handlerPc ls [.ref q])) : vx_W p l e R s m args below meth c H locs cells slots Q (F0 m pc ls rest) q := by
  intro T hT X
  have hpl : e.platform.magicAccessors = ({} : Platform).magicAccessors := by rw [X.admits.platform]
  obtain ⟨c3, c4, hc3, hc4, hasg⟩ := Cond.castable_spec hcast
  cases Option.some.inj (hc3.symm.trans hcl)
  obtain ⟨c5, hc5, hcl5⟩ := Cond.classLink_spec hown hlink e.platform hpl
  cases Option.some.inj (hc4.symm.trans hc5)
  obtain ⟨vm', X', st⟩ := X.thenCaughtThrough q (g := F0 m pc ls rest) rfl (Steps.refl _) (by rw [hT]; exact hcell) (by rw [hv]; rfl) (by obtain ⟨k9, h9, -⟩ := Vm.findClass_spec hcl; exact ⟨k9, h9⟩) pre x suf hsplit
    (fun z hz => by
      rcases hpass z hz with h | ⟨hz0, nm, hl1, hn1⟩
      · exact Or.inl h
      · obtain ⟨c6, hc6, hcl6⟩ := Cond.classLink_spec hown hl1 e.platform hpl
        obtain ⟨a8, b8, h1, h2, h3⟩ := hn1
        cases Option.some.inj (h1.symm.trans hcl)
        cases Option.some.inj (h2.symm.trans hc6)
        exact Or.inr ⟨hz0, _, hcl6, h3⟩) hx (Or.inr ⟨h0, c4, hcl5, hasg⟩)
  obtain ⟨t, a1, b1⟩ := kk (T.setVm vm') hT X'
  exact ⟨t, st.trans a1, b1⟩
end Rows
section Ends
variable {p : Program} {l : Launch} {e : Env} {R : Room} {s : State} {m : MethodId} {args : Array Value} {below : List Frame} {meth : Method} {c : Code} {H : Heap} {locs : List Loc} {cells slots : Nat} {Q : State → Prop}
variable {mc ms : Nat} {free : Addr → Prop} {A0 A1 : Nat → Prop} {H0 : Heap} {a : Array Value} {ls : Array Slot} {st0 rest : List Value}
variable {Qc : Array Value → State → Outcome → State → Prop} {XC : String → State → State → Prop}
/-- what a body that may throw owes at its end -/
def vx_MQ (below : List Frame) (Qc : Array Value → State → Outcome → State → Prop) (XC : String → State → State → Prop) (a : Array Value) (s : State) (mc ms : Nat) (free : Addr → Prop) : State → Prop := fun t =>
  ∃ o, t.status = .running ∧ Ended t below o ∧ vx_Q Qc XC mc ms free a s o t
theorem vx_ret {g : JFrame} {mc ms : Nat} (k : W p l e R s m args below meth c H locs cells slots (MQ below Qc args s mc ms free) g) : W p l e R s m args below meth c H locs cells slots (vx_MQ below Qc XC args s mc ms free) g := by
  intro T hT X
  obtain ⟨t, a1, o, b1, b2, b3, b4⟩ := k T hT X
  exact ⟨t, a1, o, b1, b2, Or.inl ⟨b3, b4⟩⟩
/-- not caught here: it goes on to the caller -/
theorem vx_widen {g : JFrame} {q : Addr} {k n : Nat} (h1 : cells ≤ k) (h2 : slots ≤ n) (kk : vx_W p l e R s m args below meth c H locs k n Q g q) : vx_W p l e R s m args below meth c H locs cells slots Q g q := fun T hT X => kk T hT (stand_widen X h1 h2)
theorem vx_out {pc : Nat} {E : String} {ce : Cell} {q : Addr} {mc ms : Nat} (hout : ∀ x ∈ c.exceptionTable.toList, covers x pc = false) (hlocks : meth.locks = false) (hcell : H[q]? = some ce) (hv : ce.vm = .none) (hcl : s.vm.findClass E = some ce.cls)
    (hx : ∀ t : State, t.heap = H → s.vm.Alike t.vm → XC E s t) (hf : ∀ z ∈ locs, free z.base) (hc : cells ≤ mc) (hs : slots ≤ ms) :
    vx_W p l e R s m args below meth c H locs cells slots (vx_MQ below Qc XC args s mc ms free) (F0 m pc ls rest) q := by
  intro T hT X
  obtain ⟨st1, hrun, hend, hW, hsm⟩ := X.leaveThrown q (g := F0 m pc ls rest) rfl rfl rfl hout hlocks
  have hcell9 : (T.setFrames (.throwing q :: below)).heap[q]? = some ce := by
    show T.heap[q]? = some ce
    rw [hT]; exact hcell
  exact ⟨_, st1, .threw q, hrun, hend, Or.inr ⟨q, rfl, E, ce, locs, hx _ hT hW.alike, hcell9, hv, hcl, hW, hsm.mono hc hs, hf⟩⟩
theorem vx_frame {U : State} {k n : Nat} (h : s.sameButNew ({ U with vm := s.vm } : State) locs k n) : s.heap.size ≤ U.heap.size ∧ ∀ q : Nat, q < s.heap.size → (∀ z ∈ locs, z.base ≠ q) → U.heap[q]? = s.heap[q]? := by
  obtain ⟨-, h2, -, -, -, h6⟩ := h
  refine ⟨h2, fun q hq hz => ?_⟩
  obtain ⟨c9, e1, e2, e3, e4⟩ := h6 q _ (Array.getElem?_eq_getElem hq)
  have hs : c9.slots = (s.heap[q]).slots := Array.ext_getElem? fun i => e4 i fun hm => hz _ hm rfl
  have h9 : c9 = s.heap[q] := by
    rw [hs] at e2
    exact e2
  have e5 : U.heap[q]? = some c9 := e1
  rw [e5, h9, Array.getElem?_eq_getElem hq]
/-- the words of a throw but the four that speak of the heap -/
def vx_no (w : Cond) : Bool := decide (w ≠ .isRef (.static Bundle.tN "UNASSIGNED_STACK" Bundle.steD)) && decide (w ≠ .isRef (.static Bundle.tN "SUPPRESSED_SENTINEL" Bundle.listD)) && decide (w ≠ .laysStatic Bundle.tN "UNASSIGNED_STACK" Bundle.steD) && decide (w ≠ .laysStatic Bundle.tN "SUPPRESSED_SENTINEL" Bundle.listD)
def vx_at0 (own : String) (ic : Nat) (X : String) (names : List String) : List Cond := (Bundle.ownAtoms0 own ic X names).filter vx_no
def vx_atS (own : String) (ic : Nat) (X : String) (names : List String) : List Cond := (Bundle.ownAtoms own ic X names).filter vx_no
/-- a word that the tables alone decide, or a good one -/
def vx_ot (w : Cond) : Bool := w.onTables || goodWord w
theorem vx_ot_at {args a' : Array Value} {s U : State} {w : Cond} (hW : s.WarmedH U.vm) (hvm : s.vm = U.vm) (hg : vx_ot w = true) (h : w.before args s = true) : w.before a' U = true := by
  simp only [vx_ot, Bool.or_eq_true] at hg
  rcases hg with hg | hg
  · exact va_tabs hg hvm h
  · exact word_at hW (good_of_word hg) h
/-- a list's words: the good ones out of the method's own list, the others by premises of their own -/
theorem vx_hat {args : Array Value} {s : State} {L B : List Cond} (h1 : ∀ w ∈ L.filter goodWord, w.before args s = true) (h2 : ∀ w ∈ L.filter (fun w => !goodWord w), w ∈ B) (h3 : ∀ w ∈ B, w.before args s = true) : ∀ w ∈ L, w.before args s = true := by
  intro w hw
  by_cases g : goodWord w = true
  · exact h1 w (List.mem_filter.mpr ⟨hw, g⟩)
  · refine h3 w (h2 w (List.mem_filter.mpr ⟨hw, ?_⟩))
    show (!goodWord w) = true
    cases hgw : goodWord w
    · rfl
    · exact absurd hgw g
theorem vx_c {args : Array Value} {s : State} {w : Cond} {B : List Cond} (h : w.before args s = true) (t : ∀ w ∈ B, w.before args s = true) : ∀ w' ∈ w :: B, w'.before args s = true := fun w' h' => (List.mem_cons.mp h').elim (fun e => by rw [e]; exact h) (t w')
theorem vx_n {args : Array Value} {s : State} : ∀ w ∈ ([] : List Cond), w.before args s = true := fun _ h => nomatch h
theorem vx_own {args : Array Value} {s : State} {L : List Cond} (h1 : ∀ w ∈ L.filter vx_no, w.before args s = true)
    (hU : (Cond.isRef (.static Bundle.tN "UNASSIGNED_STACK" Bundle.steD)).before args s = true) (hN : (Cond.isRef (.static Bundle.tN "SUPPRESSED_SENTINEL" Bundle.listD)).before args s = true)
    (lU : (Cond.laysStatic Bundle.tN "UNASSIGNED_STACK" Bundle.steD).before args s = true) (lN : (Cond.laysStatic Bundle.tN "SUPPRESSED_SENTINEL" Bundle.listD).before args s = true) : ∀ w ∈ L, w.before args s = true := by
  intro w hw
  by_cases e1 : w = .isRef (.static Bundle.tN "UNASSIGNED_STACK" Bundle.steD)
  · rw [e1]; exact hU
  · by_cases e2 : w = .isRef (.static Bundle.tN "SUPPRESSED_SENTINEL" Bundle.listD)
    · rw [e2]; exact hN
    · by_cases e3 : w = .laysStatic Bundle.tN "UNASSIGNED_STACK" Bundle.steD
      · rw [e3]; exact lU
      · by_cases e4 : w = .laysStatic Bundle.tN "SUPPRESSED_SENTINEL" Bundle.listD
        · rw [e4]; exact lN
        · exact h1 w (List.mem_filter.mpr ⟨hw, by unfold vx_no; rw [decide_eq_true e1, decide_eq_true e2, decide_eq_true e3, decide_eq_true e4]; rfl⟩)
/-- where a static field lies, its class's statics cell in H -/
def vx_L (C n d : String) (A : Nat → Prop) (U : State) (H : Heap) : Prop := ∃ (c : ClassId) (k : Class) (i : Nat) (f : Field) (a : Nat) (cell : Cell), U.vm.findClass C = some c ∧ U.fieldFound? C n d = some (c, k, i, f) ∧ f.isStatic = true ∧ k.statics = some a ∧ H[a]? = some cell ∧ cell.vm.isStatics = true ∧ cell.cls = c ∧ f.slot < cell.slots.size ∧ k.staticTypes[f.slot]? = some f.type ∧ ¬ A a
theorem vx_L.moved {C n d : String} {A : Nat → Prop} {u U : State} {H : Heap} (hvm : u.vm.Alike U.vm) (h : vx_L C n d A u H) : vx_L C n d A U H := by
  obtain ⟨c, k, i, f, a, cell, h1, h2, h3, h4, h5, h6, h7, h8, h9, h10⟩ := h
  obtain ⟨k', hi', he⟩ := State.fieldFound?_setVm hvm h2
  exact ⟨c, k', i, f, a, cell, by rw [hvm.findClass]; exact h1, hi', h3, by rw [he]; exact h4, h5, h6, h7, h8, by rw [he]; exact h9, h10⟩
theorem vx_L.kept {C n d : String} {A : Nat → Prop} {U : State} {H H1 : Heap} (h : vx_L C n d A U H) (hq : ∀ a : Nat, a < H.size → ¬ A a → H1[a]? = H[a]?) : vx_L C n d A U H1 := by
  obtain ⟨c, k, i, f, a, cell, h1, h2, h3, h4, h5, h6, h7, h8, h9, h10⟩ := h
  exact ⟨c, k, i, f, a, cell, h1, h2, h3, h4, by rw [hq a (Array.getElem?_eq_some_iff.mp h5).1 h10]; exact h5, h6, h7, h8, h9, h10⟩
theorem vx_L.narrow {C n d : String} {A B : Nat → Prop} {U : State} {H : Heap} (h : vx_L C n d A U H) (hAB : ∀ q, B q → A q) : vx_L C n d B U H := by
  obtain ⟨c, k, i, f, a, cell, h1, h2, h3, h4, h5, h6, h7, h8, h9, h10⟩ := h
  exact ⟨c, k, i, f, a, cell, h1, h2, h3, h4, h5, h6, h7, h8, h9, fun z => h10 (hAB _ z)⟩
theorem vx_L.word {C n d : String} {A : Nat → Prop} {s : State} {args : Array Value} (h : vx_L C n d A s s.heap) : (Cond.laysStatic C n d).before args s = true := by
  obtain ⟨c, k, i, f, a, cell, h1, h2, h3, h4, h5, h6, h7, h8, h9, -⟩ := h
  show (Cond.laysStatic C n d).holds args s none s [] = true
  exact Cond.laysStatic_of h1 h2 h3 h4 h5 h6 h7 h8 h9
/-- .. and what it holds: null or some reference -/
def vx_Zq (C n d : String) (A : Nat → Prop) (U : State) (H : Heap) : Prop := va_Zq C n d A U H ∧ vx_L C n d A U H
theorem vx_Zq.moved {C n d : String} {A : Nat → Prop} {u U : State} {H : Heap} (hvm : u.vm.Alike U.vm) (h : vx_Zq C n d A u H) : vx_Zq C n d A U H := ⟨va_Zq.moved hvm h.1, vx_L.moved hvm h.2⟩
theorem vx_Zq.kept {C n d : String} {A : Nat → Prop} {U : State} {H H1 : Heap} (h : vx_Zq C n d A U H) (hq : ∀ a : Nat, a < H.size → ¬ A a → H1[a]? = H[a]?) : vx_Zq C n d A U H1 := ⟨va_Zq.kept h.1 hq, vx_L.kept h.2 hq⟩
theorem vx_Zq.narrow {C n d : String} {A B : Nat → Prop} {U : State} {H : Heap} (h : vx_Zq C n d A U H) (hAB : ∀ q, B q → A q) : vx_Zq C n d B U H := ⟨va_Zq.narrow h.1 hAB, vx_L.narrow h.2 hAB⟩
theorem vx_Zqof {args : Array Value} {s : State} {C n d : String} {A : Nat → Prop} (hl : (Cond.laysStatic C n d).before args s = true) (hini : (Cond.initialized C).before args s = true) (h : (Cond.isRef (.static C n d)).before args s = true) (hA : ∀ a : Nat, a < s.heap.size → ¬ A a) : vx_Zq C n d A s s.heap := by
  refine ⟨va_Zqof hl hini h hA, ?_⟩
  obtain ⟨c, k, i, f, a, cell, h1, h2, h3, h4, h5, h6, h7, h8, h9⟩ := Cond.laysStatic_spec hl
  exact ⟨c, k, i, f, a, cell, h1, h2, h3, h4, h5, h6, h7, h8, h9, hA a (Array.getElem?_eq_some_iff.mp h5).1⟩
theorem vx_isRef {C n d : String} {v : Value} {A : Nat → Prop} {s : State} {args : Array Value} (h : va_Z C n d v A s s.heap) (hv : v.isRef = true) : (Cond.isRef (.static C n d)).before args s = true := by
  obtain ⟨cf, kf, fi, f, a, cell, h1, h2, h3, h4, h5, h6, h7, -⟩ := h
  have he : (Term.static C n d).eval args s none [] s = some v := by
    simp [Term.eval, State.fieldNamed?, h1, h2, h4, h5, h6, h7]
  simp only [Cond.before, Cond.holds, Cond.value, he]
  cases v <;> simp_all [Value.isRef]
theorem vx_isRefq {C n d : String} {A : Nat → Prop} {s : State} {args : Array Value} (h : va_Zq C n d A s s.heap) : (Cond.isRef (.static C n d)).before args s = true := by
  rcases h with h | ⟨t, h⟩
  · exact vx_isRef h rfl
  · exact vx_isRef h rfl
/-- the same frame, seen from here: as if the method were called anew in this heap -/
theorem vx_rebase {T : State} (X : Stand p l e R s m args below meth c T locs cells slots) {R' : Room} (hf : R'.frames ≤ R.frames) (hl : R'.locals ≤ R.locals) (hc : cells + R'.cells ≤ R.cells) (hs : slots + R'.slots ≤ R.slots) :
    Stand p l e R' ((T.setVm s.vm).setFrames (.invoking m args :: below)) m args below meth c T [] 0 0 := by
  have htop : (T.setVm s.vm).topJava?.isSome := X.here.top
  have hF : ((T.setVm s.vm).setFrames (.invoking m args :: below)).frames = .invoking m args :: below := State.frames_setFrames _ (State.cur_lt_of_top htop)
  obtain ⟨g₀, hg0⟩ := Option.isSome_iff_exists.mp htop
  obtain ⟨r, hr⟩ := State.topJava?_eq_some.mp hg0
  have hl9 : e.platform.stackLimits (T.setVm s.vm).me = e.platform.stackLimits s.me := X.limits
  have hb9 : (T.setVm s.vm).me.stackBytes = s.me.stackBytes := X.bytes
  refine ⟨X.admits, X.cas, X.clock, hF, ?_, X.hears, X.method, X.code, X.here, X.tail, X.warmed, ?_, ?_, ?_⟩
  · have h := X.room
    have hU : ((T.setVm s.vm).setFrames (.invoking m args :: below)).localsInUse = s.localsInUse := by
      rw [State.localsInUse_invoking hF (meth := meth) (c := c) X.method X.code, State.localsInUse_invoking X.frames X.method X.code]
    simp only [State.hasRoom, Bool.and_eq_true, decide_eq_true_eq] at h ⊢
    obtain ⟨⟨⟨⟨h1, h2, h3, h4, h5, h6⟩, h7⟩, h8⟩, h9⟩ := h
    rw [X.frames, List.length_cons] at h2 h3
    have q1 := X.heapSize
    have q2 := X.used
    simp only [hF, hU, List.length_cons, State.stackLimits_setFrames, State.stackBytes_setFrames, hl9, hb9]
    refine ⟨⟨⟨⟨by omega, by omega, by omega, by omega, by omega, h6⟩, ?_⟩, ?_⟩, X.book⟩
    · show T.heap.size + R'.cells ≤ e.platform.maxCells
      omega
    · show T.slotsUsed + R'.slots ≤ e.platform.maxSlots
      omega
  · rw [State.stackLimits_setFrames]; rfl
  · rw [State.stackBytes_setFrames]; rfl
  · refine ⟨?_, Nat.le_refl _, Nat.le_refl _, ?_, ?_, fun a c9 h9 => ⟨c9, h9, rfl, rfl, fun _ _ => rfl⟩⟩
    · obtain ⟨t, ht, -⟩ := State.frames_cons hr
      show T.setVm s.vm = { ((T.setVm s.vm).setFrames (.invoking m args :: below)).setFrames (T.setVm s.vm).frames with heap := T.heap, slotsUsed := T.slotsUsed }
      rw [State.setFrames_setFrames, State.setFrames_self ht]
      rfl
    · show T.slotsUsed = T.slotsUsed + ((T.heap.toList.drop T.heap.size).map (·.slots.size)).sum
      rw [List.drop_eq_nil_of_le (Nat.le_of_eq Array.length_toList)]
      rfl
    · show ((T.heap.toList.drop T.heap.size).map (·.slots.size)).sum ≤ 0
      rw [List.drop_eq_nil_of_le (Nat.le_of_eq Array.length_toList)]
      exact Nat.le_refl _
/-- 'throw new E()': new; dup; invokespecial; athrow -/
theorem vx_throw0 {cc : ByteArray} {pc : Nat} (hexec : p.tables.exec = Jvm.exec) (hb : c.code = cc) (hl : l.stackTraces = false) {own cls : String} {names : List String} {ik ic mc ms : Nat} {A : Nat → Prop}
    (hown : s.vm.findClass own = some m.cls) (hcls : Bundle.fit cls = true) (hnames : ∀ n ∈ names, Bundle.fit n = true)
    (hk : (Cond.classLink own ik cls).before args s = true) (hini : (Cond.initialized cls).before args s = true) (hat : ∀ w ∈ vx_at0 own ic cls names, w.before args s = true)
    (hgood : ∀ w ∈ Cond.classLink own ik cls :: Cond.initialized cls :: vx_at0 own ic cls names, vx_ot w = true)
    (hU : vx_Zq Bundle.tN "UNASSIGNED_STACK" Bundle.steD A s s.heap) (hN : vx_Zq Bundle.tN "SUPPRESSED_SENTINEL" Bundle.listD A s s.heap) (hS : va_S A s.heap H locs) (hsize : ls.size = c.maxLocals)
    (d0 : decode cc pc = .ok (.new ik, 3)) (d3 : decode cc (pc + 3) = .ok (.dup, 1)) (d4 : decode cc (pc + 4) = .ok (.invokespecial ic, 3)) (d7 : decode cc (pc + 7) = .ok (.athrow, 1))
    (hout : ∀ x ∈ c.exceptionTable.toList, covers x (pc + 7) = false)
    (hRframes : names.length + 3 < R.frames) (hRlocals : (rest.map fun v => v.category).sum + (13 * (names.length + 1) + 42) ≤ R.locals) (hRcells : cells + 1 ≤ R.cells) (hRslots : slots + 6 ≤ R.slots) (hlocks : meth.locks = false)
    (hx : ∀ t : State, s.vm.Alike t.vm → H.size ≤ t.heap.size → (∀ q : Nat, q < H.size → t.heap[q]? = H[q]?) → XC cls s t)
    (hf : ∀ z ∈ locs, free z.base) (hc : cells + 1 ≤ mc) (hs : slots + 6 ≤ ms) :
    W p l e R s m args below meth c H locs cells slots (vx_MQ below Qc XC args s mc ms free) (F0 m pc ls rest) := by
  intro T hT X
  have htr : e.platform.stackTraces = false := (show e.platform.stackTraces = l.stackTraces by rw [X.admits.platform]).trans hl
  have Y := vx_rebase X (R' := { frames := R.frames, locals := R.locals, cells := 1, slots := 6 }) (Nat.le_refl _) (Nat.le_refl _) hRcells hRslots
  obtain ⟨s', hA⟩ : ∃ z, z = (T.setVm s.vm).setFrames (.invoking m args :: below) := ⟨_, rfl⟩
  rw [← hA] at Y
  have hvm : s'.vm = s.vm := by rw [hA]; rfl
  have hhp : s'.heap = H := by rw [hA]; exact hT
  have hW0 : s.WarmedH s'.vm := by rw [hvm]; exact State.WarmedH.refl s
  have hat' : ∀ w ∈ vx_at0 own ic cls names, w.before args s' = true := fun w hw => vx_ot_at hW0 hvm.symm (hgood w (List.mem_cons_of_mem _ (List.mem_cons_of_mem _ hw))) (hat w hw)
  have hk' : (Cond.classLink own ik cls).before args s' = true := vx_ot_at hW0 hvm.symm (hgood _ List.mem_cons_self) hk
  have hini' : (Cond.initialized cls).before args s' = true := vx_ot_at hW0 hvm.symm (hgood _ (List.mem_cons_of_mem _ List.mem_cons_self)) hini
  have hU' : vx_Zq Bundle.tN "UNASSIGNED_STACK" Bundle.steD A s' s'.heap := by rw [hhp]; exact vx_Zq.moved hW0.alike (hU.kept hS.2.1)
  have hN' : vx_Zq Bundle.tN "SUPPRESSED_SENTINEL" Bundle.listD A s' s'.heap := by rw [hhp]; exact vx_Zq.moved hW0.alike (hN.kept hS.2.1)
  have h : ∀ w ∈ Bundle.ownAtoms0 own ic cls names, w.before args s' = true := vx_own hat' (vx_isRefq hU'.1) (vx_isRefq hN'.1) hU'.2.word hN'.2.word
  have hown' : s'.vm.findClass own = some m.cls := by rw [hvm]; exact hown
  have hins : (Cond.instantiable cls 6).before args s' = true := h _ (by simp [Bundle.ownAtoms0])
  obtain ⟨vm₁, cX, kX, hfX, hkX, -, -, X₁, st1⟩ := Y.newCold hexec (own := own) (C := cls) (index := ik) (n := 6) hown' hk' hins hini'
    (g := F0 m pc ls rest) rfl (by rw [hb]; exact d0) (Nat.le_refl _) (Nat.le_refl _)
  generalize hT1 : (T.setVm vm₁).pushCell { cls := cX, slots := kX.instanceTypes.map defaultValue, vm := .none } = T1 at X₁ st1
  have hcat : (Value.ref T.heap.size).category = 1 := rfl
  have hcellA : T1.heap[T.heap.size]? = some (freshCell cX kX) := by rw [← hT1]; exact State.heap_pushCell_size _ _
  have d3' : decode c.code (pc + 3) = .ok (.dup, 1) := by rw [hb]; exact d3
  obtain ⟨U, hsteps, hrun, hend, hW, hsame, ce, hce, hO⟩ := X₁.ctorThrow0 hexec htr (own := own) (cls := cls) (names := names) (ic := ic) hown' hcls hnames h (fun x hx => nomatch hx) hfX hkX hcellA (by rw [hhp, hT]; exact Nat.le_refl _)
    (g := { method := m, pc := pc + 4, locals := ls, stack := .ref T.heap.size :: .ref T.heap.size :: rest, locked := none }) rfl hsize rfl rfl (rest := rest) rfl
    (by rw [hb]; exact d4) (by rw [hb]; exact d7) hout hRframes (by simp only [List.map_cons, List.sum_cons, hcat]; omega) hlocks
  obtain ⟨f1, f2⟩ := vx_frame hsame
  rw [hhp] at f1 f2
  have hWs : s.WarmedH U.vm := State.WarmedH.trans hW0 hW
  have hcl : s.vm.findClass cls = some ce.cls := by
    have h9 := hO.cls
    rw [hvm] at h9
    exact h9
  have hall : s.sameButNew ({ U with vm := s.vm } : State) locs mc ms := by
    subst hA
    obtain ⟨e1, e2⟩ := hsame
    rw [State.setFrames_setFrames] at e1
    have h2 : (T.setVm s.vm).sameButNew ({ U with vm := s.vm } : State) [] (0 + 1) (0 + 6) := ⟨e1, e2⟩
    have h3 := X.same.trans h2
    rw [List.append_nil] at h3
    exact h3.mono hc hs
  refine ⟨U, ?_, .threw T.heap.size, hrun, hend, Or.inr ⟨T.heap.size, rfl, cls, ce, locs, hx U hWs.alike f1 (fun q hq => f2 q hq (fun z hz => nomatch hz)), hce, hO.vm, hcl, hWs, hall, hf⟩⟩
  refine st1 _ ?_
  show Steps p.tables e below (T1.setTop { method := m, pc := pc + 3, locals := ls, stack := .ref T.heap.size :: rest, locked := none }) _
  jvm_step X₁.here [X₁.here.top, hexec, d3', Value.category]
  exact hsteps
/-- 'throw new E("text")': new; dup; ldc; invokespecial; athrow -/
theorem vx_throwS {cc : ByteArray} {pc : Nat} (hexec : p.tables.exec = Jvm.exec) (hb : c.code = cc) (hl : l.stackTraces = false) {own cls text : String} {names : List String} {ik is ic mc ms sa : Nat} {A : Nat → Prop}
    (hown : s.vm.findClass own = some m.cls) (hcls : Bundle.fit cls = true) (hnames : ∀ n ∈ names, Bundle.fit n = true)
    (hk : (Cond.classLink own ik cls).before args s = true) (hini : (Cond.initialized cls).before args s = true) (hstr : vk_R own is text sa s) (hat : ∀ w ∈ vx_atS own ic cls names, w.before args s = true)
    (hgood : ∀ w ∈ Cond.classLink own ik cls :: Cond.initialized cls :: vx_atS own ic cls names, vx_ot w = true)
    (hU : vx_Zq Bundle.tN "UNASSIGNED_STACK" Bundle.steD A s s.heap) (hN : vx_Zq Bundle.tN "SUPPRESSED_SENTINEL" Bundle.listD A s s.heap) (hS : va_S A s.heap H locs) (hsize : ls.size = c.maxLocals)
    (d0 : decode cc pc = .ok (.new ik, 3)) (d3 : decode cc (pc + 3) = .ok (.dup, 1)) (d4 : decode cc (pc + 4) = .ok (.ldc is, 2)) (d6 : decode cc (pc + 6) = .ok (.invokespecial ic, 3)) (d9 : decode cc (pc + 9) = .ok (.athrow, 1))
    (hout : ∀ x ∈ c.exceptionTable.toList, covers x (pc + 9) = false)
    (hRframes : names.length + 3 < R.frames) (hRlocals : (rest.map fun v => v.category).sum + (13 * (names.length + 1) + 43) ≤ R.locals) (hRcells : cells + 1 ≤ R.cells) (hRslots : slots + 6 ≤ R.slots) (hlocks : meth.locks = false)
    (hx : ∀ t : State, s.vm.Alike t.vm → H.size ≤ t.heap.size → (∀ q : Nat, q < H.size → t.heap[q]? = H[q]?) → XC cls s t)
    (hf : ∀ z ∈ locs, free z.base) (hc : cells + 1 ≤ mc) (hs : slots + 6 ≤ ms) :
    W p l e R s m args below meth c H locs cells slots (vx_MQ below Qc XC args s mc ms free) (F0 m pc ls rest) := by
  intro T hT X
  have htr : e.platform.stackTraces = false := (show e.platform.stackTraces = l.stackTraces by rw [X.admits.platform]).trans hl
  have Y := vx_rebase X (R' := { frames := R.frames, locals := R.locals, cells := 1, slots := 6 }) (Nat.le_refl _) (Nat.le_refl _) hRcells hRslots
  obtain ⟨s', hA⟩ : ∃ z, z = (T.setVm s.vm).setFrames (.invoking m args :: below) := ⟨_, rfl⟩
  rw [← hA] at Y
  have hvm : s'.vm = s.vm := by rw [hA]; rfl
  have hhp : s'.heap = H := by rw [hA]; exact hT
  have hW0 : s.WarmedH s'.vm := by rw [hvm]; exact State.WarmedH.refl s
  have hat' : ∀ w ∈ vx_atS own ic cls names, w.before args s' = true := fun w hw => vx_ot_at hW0 hvm.symm (hgood w (List.mem_cons_of_mem _ (List.mem_cons_of_mem _ hw))) (hat w hw)
  have hk' : (Cond.classLink own ik cls).before args s' = true := vx_ot_at hW0 hvm.symm (hgood _ List.mem_cons_self) hk
  have hini' : (Cond.initialized cls).before args s' = true := vx_ot_at hW0 hvm.symm (hgood _ (List.mem_cons_of_mem _ List.mem_cons_self)) hini
  have hU' : vx_Zq Bundle.tN "UNASSIGNED_STACK" Bundle.steD A s' s'.heap := by rw [hhp]; exact vx_Zq.moved hW0.alike (hU.kept hS.2.1)
  have hN' : vx_Zq Bundle.tN "SUPPRESSED_SENTINEL" Bundle.listD A s' s'.heap := by rw [hhp]; exact vx_Zq.moved hW0.alike (hN.kept hS.2.1)
  have h : ∀ w ∈ Bundle.ownAtoms own ic cls names, w.before args s' = true := vx_own hat' (vx_isRefq hU'.1) (vx_isRefq hN'.1) hU'.2.word hN'.2.word
  have hown' : s'.vm.findClass own = some m.cls := by rw [hvm]; exact hown
  have hins : (Cond.instantiable cls 6).before args s' = true := h _ (by simp [Bundle.ownAtoms])
  obtain ⟨vm₁, cX, kX, hfX, hkX, -, -, X₁, st1⟩ := Y.newCold hexec (own := own) (C := cls) (index := ik) (n := 6) hown' hk' hins hini'
    (g := F0 m pc ls rest) rfl (by rw [hb]; exact d0) (Nat.le_refl _) (Nat.le_refl _)
  generalize hT1 : (T.setVm vm₁).pushCell { cls := cX, slots := kX.instanceTypes.map defaultValue, vm := .none } = T1 at X₁ st1
  have hcat : (Value.ref T.heap.size).category = 1 := rfl
  have hcellA : T1.heap[T.heap.size]? = some (freshCell cX kX) := by rw [← hT1]; exact State.heap_pushCell_size _ _
  have d3' : decode c.code (pc + 3) = .ok (.dup, 1) := by rw [hb]; exact d3
  have d4' : decode c.code (pc + 4) = .ok (.ldc is, 2) := by rw [hb]; exact d4
  have hstr' : vk_R own is text sa s' := vk_R.warm hW0 hstr
  obtain ⟨U, hsteps, hrun, hend, hW, hsame, ce, hce, hO⟩ := X₁.ctorThrowS hexec htr (own := own) (cls := cls) (names := names) (ic := ic) hown' hcls hnames h (fun x hx => nomatch hx) hfX hkX hcellA (by rw [hhp, hT]; exact Nat.le_refl _) (msg := .ref sa) rfl
    (g := { method := m, pc := pc + 6, locals := ls, stack := .ref sa :: .ref T.heap.size :: .ref T.heap.size :: rest, locked := none }) rfl hsize rfl rfl (rest := rest) rfl
    (by rw [hb]; exact d6) (by rw [hb]; exact d9) hout hRframes (by simp only [List.map_cons, List.sum_cons, hcat]; omega) hlocks
  obtain ⟨f1, f2⟩ := vx_frame hsame
  rw [hhp] at f1 f2
  have hWs : s.WarmedH U.vm := State.WarmedH.trans hW0 hW
  have hcl : s.vm.findClass cls = some ce.cls := by
    have h9 := hO.cls
    rw [hvm] at h9
    exact h9
  have hall : s.sameButNew ({ U with vm := s.vm } : State) locs mc ms := by
    subst hA
    obtain ⟨e1, e2⟩ := hsame
    rw [State.setFrames_setFrames] at e1
    have h2 : (T.setVm s.vm).sameButNew ({ U with vm := s.vm } : State) [] (0 + 1) (0 + 6) := ⟨e1, e2⟩
    have h3 := X.same.trans h2
    rw [List.append_nil] at h3
    exact h3.mono hc hs
  refine ⟨U, ?_, .threw T.heap.size, hrun, hend, Or.inr ⟨T.heap.size, rfl, cls, ce, locs, hx U hWs.alike f1 (fun q hq => f2 q hq (fun z hz => nomatch hz)), hce, hO.vm, hcl, hWs, hall, hf⟩⟩
  refine st1 _ ?_
  show Steps p.tables e below (T1.setTop { method := m, pc := pc + 3, locals := ls, stack := .ref T.heap.size :: rest, locked := none }) _
  jvm_step X₁.here [X₁.here.top, hexec, d3', Value.category]
  exact X₁.ldcString hexec (own := own) (text := text) (index := is) (a := sa) hown' hstr'.1 hstr'.2
    (g := { method := m, pc := pc + 4, locals := ls, stack := .ref T.heap.size :: .ref T.heap.size :: rest, locked := none }) rfl d4' _ hsteps
/-- 'throw new E("text")', the text by a wide index -/
theorem vx_throwSW {cc : ByteArray} {pc : Nat} (hexec : p.tables.exec = Jvm.exec) (hb : c.code = cc) (hl : l.stackTraces = false) {own cls text : String} {names : List String} {ik is ic mc ms sa : Nat} {A : Nat → Prop}
    (hown : s.vm.findClass own = some m.cls) (hcls : Bundle.fit cls = true) (hnames : ∀ n ∈ names, Bundle.fit n = true)
    (hk : (Cond.classLink own ik cls).before args s = true) (hini : (Cond.initialized cls).before args s = true) (hstr : vk_R own is text sa s) (hat : ∀ w ∈ vx_atS own ic cls names, w.before args s = true)
    (hgood : ∀ w ∈ Cond.classLink own ik cls :: Cond.initialized cls :: vx_atS own ic cls names, vx_ot w = true)
    (hU : vx_Zq Bundle.tN "UNASSIGNED_STACK" Bundle.steD A s s.heap) (hN : vx_Zq Bundle.tN "SUPPRESSED_SENTINEL" Bundle.listD A s s.heap) (hS : va_S A s.heap H locs) (hsize : ls.size = c.maxLocals)
    (d0 : decode cc pc = .ok (.new ik, 3)) (d3 : decode cc (pc + 3) = .ok (.dup, 1)) (d4 : decode cc (pc + 4) = .ok (.ldc_w is, 3)) (d7 : decode cc (pc + 7) = .ok (.invokespecial ic, 3)) (d10 : decode cc (pc + 10) = .ok (.athrow, 1))
    (hout : ∀ x ∈ c.exceptionTable.toList, covers x (pc + 10) = false)
    (hRframes : names.length + 3 < R.frames) (hRlocals : (rest.map fun v => v.category).sum + (13 * (names.length + 1) + 43) ≤ R.locals) (hRcells : cells + 1 ≤ R.cells) (hRslots : slots + 6 ≤ R.slots) (hlocks : meth.locks = false)
    (hx : ∀ t : State, s.vm.Alike t.vm → H.size ≤ t.heap.size → (∀ q : Nat, q < H.size → t.heap[q]? = H[q]?) → XC cls s t)
    (hf : ∀ z ∈ locs, free z.base) (hc : cells + 1 ≤ mc) (hs : slots + 6 ≤ ms) :
    W p l e R s m args below meth c H locs cells slots (vx_MQ below Qc XC args s mc ms free) (F0 m pc ls rest) := by
  intro T hT X
  have htr : e.platform.stackTraces = false := (show e.platform.stackTraces = l.stackTraces by rw [X.admits.platform]).trans hl
  have Y := vx_rebase X (R' := { frames := R.frames, locals := R.locals, cells := 1, slots := 6 }) (Nat.le_refl _) (Nat.le_refl _) hRcells hRslots
  obtain ⟨s', hA⟩ : ∃ z, z = (T.setVm s.vm).setFrames (.invoking m args :: below) := ⟨_, rfl⟩
  rw [← hA] at Y
  have hvm : s'.vm = s.vm := by rw [hA]; rfl
  have hhp : s'.heap = H := by rw [hA]; exact hT
  have hW0 : s.WarmedH s'.vm := by rw [hvm]; exact State.WarmedH.refl s
  have hat' : ∀ w ∈ vx_atS own ic cls names, w.before args s' = true := fun w hw => vx_ot_at hW0 hvm.symm (hgood w (List.mem_cons_of_mem _ (List.mem_cons_of_mem _ hw))) (hat w hw)
  have hk' : (Cond.classLink own ik cls).before args s' = true := vx_ot_at hW0 hvm.symm (hgood _ List.mem_cons_self) hk
  have hini' : (Cond.initialized cls).before args s' = true := vx_ot_at hW0 hvm.symm (hgood _ (List.mem_cons_of_mem _ List.mem_cons_self)) hini
  have hU' : vx_Zq Bundle.tN "UNASSIGNED_STACK" Bundle.steD A s' s'.heap := by rw [hhp]; exact vx_Zq.moved hW0.alike (hU.kept hS.2.1)
  have hN' : vx_Zq Bundle.tN "SUPPRESSED_SENTINEL" Bundle.listD A s' s'.heap := by rw [hhp]; exact vx_Zq.moved hW0.alike (hN.kept hS.2.1)
  have h : ∀ w ∈ Bundle.ownAtoms own ic cls names, w.before args s' = true := vx_own hat' (vx_isRefq hU'.1) (vx_isRefq hN'.1) hU'.2.word hN'.2.word
  have hown' : s'.vm.findClass own = some m.cls := by rw [hvm]; exact hown
  have hins : (Cond.instantiable cls 6).before args s' = true := h _ (by simp [Bundle.ownAtoms])
  obtain ⟨vm₁, cX, kX, hfX, hkX, -, -, X₁, st1⟩ := Y.newCold hexec (own := own) (C := cls) (index := ik) (n := 6) hown' hk' hins hini'
    (g := F0 m pc ls rest) rfl (by rw [hb]; exact d0) (Nat.le_refl _) (Nat.le_refl _)
  generalize hT1 : (T.setVm vm₁).pushCell { cls := cX, slots := kX.instanceTypes.map defaultValue, vm := .none } = T1 at X₁ st1
  have hcat : (Value.ref T.heap.size).category = 1 := rfl
  have hcellA : T1.heap[T.heap.size]? = some (freshCell cX kX) := by rw [← hT1]; exact State.heap_pushCell_size _ _
  have d3' : decode c.code (pc + 3) = .ok (.dup, 1) := by rw [hb]; exact d3
  have d4' : decode c.code (pc + 4) = .ok (.ldc_w is, 3) := by rw [hb]; exact d4
  have hstr' : vk_R own is text sa s' := vk_R.warm hW0 hstr
  obtain ⟨U, hsteps, hrun, hend, hW, hsame, ce, hce, hO⟩ := X₁.ctorThrowS hexec htr (own := own) (cls := cls) (names := names) (ic := ic) hown' hcls hnames h (fun x hx => nomatch hx) hfX hkX hcellA (by rw [hhp, hT]; exact Nat.le_refl _) (msg := .ref sa) rfl
    (g := { method := m, pc := pc + 7, locals := ls, stack := .ref sa :: .ref T.heap.size :: .ref T.heap.size :: rest, locked := none }) rfl hsize rfl rfl (rest := rest) rfl
    (by rw [hb]; exact d7) (by rw [hb]; exact d10) hout hRframes (by simp only [List.map_cons, List.sum_cons, hcat]; omega) hlocks
  obtain ⟨f1, f2⟩ := vx_frame hsame
  rw [hhp] at f1 f2
  have hWs : s.WarmedH U.vm := State.WarmedH.trans hW0 hW
  have hcl : s.vm.findClass cls = some ce.cls := by
    have h9 := hO.cls
    rw [hvm] at h9
    exact h9
  have hall : s.sameButNew ({ U with vm := s.vm } : State) locs mc ms := by
    subst hA
    obtain ⟨e1, e2⟩ := hsame
    rw [State.setFrames_setFrames] at e1
    have h2 : (T.setVm s.vm).sameButNew ({ U with vm := s.vm } : State) [] (0 + 1) (0 + 6) := ⟨e1, e2⟩
    have h3 := X.same.trans h2
    rw [List.append_nil] at h3
    exact h3.mono hc hs
  refine ⟨U, ?_, .threw T.heap.size, hrun, hend, Or.inr ⟨T.heap.size, rfl, cls, ce, locs, hx U hWs.alike f1 (fun q hq => f2 q hq (fun z hz => nomatch hz)), hce, hO.vm, hcl, hWs, hall, hf⟩⟩
  refine st1 _ ?_
  show Steps p.tables e below (T1.setTop { method := m, pc := pc + 3, locals := ls, stack := .ref T.heap.size :: rest, locked := none }) _
  jvm_step X₁.here [X₁.here.top, hexec, d3', Value.category]
  exact X₁.ldcStringW hexec (own := own) (text := text) (index := is) (a := sa) hown' hstr'.1 hstr'.2
    (g := { method := m, pc := pc + 4, locals := ls, stack := .ref T.heap.size :: .ref T.heap.size :: rest, locked := none }) rfl d4' _ hsteps
end Ends
section Bodies
variable {l : Launch}
theorem vx_ofW {y : MethodName} {ws ws' : List Cond} {rm : Room} {Pc : Array Value → State → Prop} {Qc : Array Value → State → Outcome → State → Prop} {XC : String → State → State → Prop} {mc ms : Nat} {free : Addr → Prop} {cc : ByteArray} {maxL : Nat} {ret : Option FieldType}
    (hy : plainName y.cls = true) (hw : ws = Cond.code y cc maxL ret :: ws')
    (body : ∀ p e s m args below meth c s₁, BodyLoose p l y (headSpec ws rm) cc maxL ret e s m args below meth c s₁ → c.maxLocals = maxL → (∀ x ∈ c.exceptionTable.toList, False) → Pc args s →
      W p l e (headSpec ws rm).room s m args below meth c s.heap [] 0 0 (vx_MQ below Qc XC args s mc ms free) (entryFrame m args maxL)) : vx_Met l y ws rm Pc Qc XC mc ms free := by
  refine MetFree.of_bodyS (code := cc) (maxLocals := maxL) (ret := ret) hy ?_ ?_
  · intro args s m h hn
    obtain ⟨meth, c, h1, h2, h3, h4, h5, h6, -, -⟩ := Cond.code_spec hn (atoms_spec (ws := ws) h _ (by rw [hw]; exact List.mem_cons_self))
    exact ⟨meth, c, h1, h2, h3, h4, h5, h6⟩
  · intro p e s m args below meth c s₁ B hml hP _
    have hh0 : s₁.heap = s.heap := by rw [B.state]; rfl
    have ht : ∀ x ∈ c.exceptionTable.toList, False := by
      obtain ⟨meth9, c9, h1, h2, -, -, -, -, h7, -⟩ := Cond.code_spec B.named (atoms_spec (ws := ws) B.pre _ (by rw [hw]; exact List.mem_cons_self))
      cases Option.some.inj (h1.symm.trans B.method)
      cases Option.some.inj (h2.symm.trans (Stand.of_body B).code)
      intro x hx
      rw [Array.isEmpty_iff.mp h7] at hx
      cases hx
    obtain ⟨t, a1, o, b1, b2, b3⟩ := body p e s m args below meth c s₁ B hml ht hP s₁ hh0 (Stand.of_body B)
    exact ⟨t, o, a1, b1, b2, b3⟩
/-- the table of a body with handlers -/
theorem vx_table {p : Program} {x y : MethodName} {S : Spec} {cc bytes : ByteArray} {maxL maxL' : Nat} {ret ret' : Option FieldType} {e : Env} {s s₁ : State} {m : MethodId} {args : Array Value} {below : List Frame} {meth : Method} {c : Code} {hh : List (Nat × Nat × Nat × Nat)}
    (B : BodyLoose p l y S cc maxL ret e s m args below meth c s₁) (h : (Cond.codeWith y bytes maxL' ret' hh).before args s = true) : c.exceptionTable.toList = tableOf hh := by
  obtain ⟨m9, meth9, c9, hn9, h1, h2, -, -, h6, -⟩ := Cond.codeWith_spec h
  cases Option.some.inj (hn9.symm.trans B.named)
  cases Option.some.inj (h1.symm.trans B.method)
  cases Option.some.inj (h2.symm.trans (Stand.of_body B).code)
  rw [← h6, table_eq]
end Bodies
end VXA
/-! ===== END ===== -/
/-! ===== BEGIN a static call of a method with an exception table ===== -/
section VXS
variable {p : Program} {l : Launch} {e : Env} {R : Room} {s : State} {m : MethodId} {args : Array Value} {below : List Frame} {meth : Method} {c : Code} {T : State} {H : Heap} {locs : List Loc} {cells slots : Nat}
abbrev vx_CSW (R : Room) (s : State) (args : Array Value) (own : String) (index : Nat) (y : MethodName) (bytes : ByteArray) (maxL : Nat) (ret : Option FieldType) (hh : List (Nat × Nat × Nat × Nat)) (ws : List Cond) (rm : Room) (mc ms n : Nat) : Prop :=
  (rm.cells = mc ∧ rm.slots = ms ∧ rm.frames + 1 ≤ R.frames ∧ 8 + (maxL + 11) + rm.locals ≤ R.locals ∧ (∀ w ∈ ws, ∀ (a' : Array Value) (U : State), s.WarmedH U.vm → w.before a' U = true) ∧ Cond.codeWith y bytes maxL ret hh ∈ ws) ∧
  (Cond.codeWith y bytes maxL ret hh).before args s = true ∧ (Cond.initialized y.cls).before args s = true ∧ (y.cls ≠ "java/lang/invoke/MethodHandle" ∧ y.cls ≠ "java/lang/invoke/VarHandle") ∧
  (∀ sig, parseMethodDescriptor y.desc = some sig → n = sig.parameters.length) ∧ (Cond.methodLink own index y).before args s = true ∧ (Cond.static y).before args s = true
theorem vx_cwSW {own : String} {index maxL mc ms : Nat} {y : MethodName} {bytes : ByteArray} {ret : Option FieldType} {hh : List (Nat × Nat × Nat × Nat)} {Ts ws ws' : List Cond} {rm : Room} (n : Nat) (ht : ∀ w ∈ Ts, w.before args s = true) (hT : GoodIn Ts (va_wsS own index y ws)) (hw : ws = Cond.codeWith y bytes maxL ret hh :: ws') (hrc : rm.cells = mc) (hrs : rm.slots = ms)
    (hd : y.cls ≠ "java/lang/invoke/MethodHandle" ∧ y.cls ≠ "java/lang/invoke/VarHandle" ∧ (parseMethodDescriptor y.desc).map (fun d => d.parameters.length) = some n) (hR : rm.frames + 1 ≤ R.frames ∧ 8 + (maxL + 11) + rm.locals ≤ R.locals) :
    vx_CSW R s args own index y bytes maxL ret hh ws rm mc ms n := by
  have ok : ∀ w ∈ va_wsS own index y ws, w.before args s = true := fun w h => ht w (hT w h).1
  have hG : GoodIn Ts ws := fun w h => hT w (by unfold va_wsS; exact List.mem_append_right _ h)
  have hc : Cond.codeWith y bytes maxL ret hh ∈ ws := by rw [hw]; exact List.mem_cons_self
  refine ⟨⟨hrc, hrs, hR.1, hR.2, pay_in ht hG, hc⟩, ht _ (hG _ hc).1, ok _ (by simp [va_wsS]), ⟨hd.1, hd.2.1⟩, fun sig h => ?_, ok _ (by simp [va_wsS]), ok _ (by simp [va_wsS])⟩
  have h2 := hd.2.2
  rw [h] at h2
  exact (Option.some.inj h2).symm
theorem vx_callSW (X : Stand p l e R s m args below meth c T locs cells slots) (hexec : p.tables.exec = Jvm.exec) {own : String} {index : Nat} {y : MethodName} {bytes : ByteArray} {maxL : Nat} {ret : Option FieldType} {hh : List (Nat × Nat × Nat × Nat)}
    (hown : s.vm.findClass own = some m.cls) (hlink : (Cond.methodLink own index y).before args s = true) (hstat : (Cond.static y).before args s = true) (hinit : (Cond.initialized y.cls).before args s = true)
    (hcode : (Cond.codeWith y bytes maxL ret hh).before args s = true) (hy : y.cls ≠ "java/lang/invoke/MethodHandle" ∧ y.cls ≠ "java/lang/invoke/VarHandle")
    {W9 : Nat} {Pre : Pt → Array Value → Prop} {Post : Pt → Array Value → Option Value → Pt → Prop} (hK : Back l R p e below s args y 3 W9 Pre Post)
    {g : JFrame} (hg : g.method = m) (hsize : g.locals.size = c.maxLocals) {argsL rest : List Value} (hlen : ∀ sig, parseMethodDescriptor y.desc = some sig → argsL.length = sig.parameters.length)
    (hstack : g.stack = argsL.reverse ++ rest) (hW : 2 * g.monitorRoom + (rest.map fun v => v.category).sum ≤ W9) (hdg : decode c.code g.pc = .ok (.invokestatic index, 3))
    (hpre : ∀ vm₁, s.WarmedH vm₁ → Pre ⟨T.setVm vm₁, locs, cells, slots⟩ argsL.toArray) :
    ∃ (v : Option Value) (vm₁ : Vm) (B : Pt), s.WarmedH vm₁ ∧ Stand p l e R s m args below meth c B.U B.locs B.cells B.slots ∧ Post ⟨T.setVm vm₁, locs, cells, slots⟩ argsL.toArray v B ∧
      ∀ target, Steps p.tables e below (B.U.setTop { g with pc := g.pc + 3, stack := v.toList ++ rest }) target → Steps p.tables e below (T.setTop g) target := by
  obtain ⟨mk, methM, cM, hnamed, hmethM, -, -, -, -, -, -, hsigM⟩ := Cond.codeWith_spec hcode
  have hstatic : methM.isStatic = true := Cond.static_spec hnamed hmethM hstat
  obtain ⟨kP, hkP, -⟩ := className_of_methodNamed hnamed
  have hinitP : kP.init = .initialized := Cond.initialized_spec (findClass_of_methodNamed hnamed) hkP hinit
  obtain ⟨vm₁, X₁, hstep₁⟩ := X.invokestatic hexec hown hlink hnamed hmethM hstatic hkP hinitP hy (g := g) hg (argsL := argsL) (rest := rest) (hlen _ hsigM) hstack hdg
  obtain ⟨v, B, X', hpost, hsteps⟩ := hK m meth c ⟨T.setVm vm₁, locs, cells, slots⟩ { g with stack := rest } (.invokestatic index) mk argsL.toArray X₁ hg hsize hdg hW (X₁.named hnamed) (hpre vm₁ X₁.warmed)
  exact ⟨v, vm₁, B, X₁.warmed, X', hpost, fun target h => hstep₁ _ fun acts => by rw [doInvoke_state]; exact hsteps.trans h⟩
theorem vx_runSW {y : MethodName} {bytes cc : ByteArray} {maxL nL mc ms n index : Nat} {ret : Option FieldType} {hh : List (Nat × Nat × Nat × Nat)} {ws : List Cond} {rm : Room} {Pc : Array Value → State → Prop} {Qc : Array Value → State → Outcome → State → Prop} {free : Addr → Prop} {Ts : List Cond} {own : String} {As rest : List Value} {g : JFrame}
    (S : CallFix p m c cc nL s args Ts own) (hM : Met l y ws rm Pc Qc mc ms free) (cw : vx_CSW R s args own index y bytes maxL ret hh ws rm mc ms n) (hp : PreS s H Pc As)
    (hg : g.method = m) (hn : As.length = n) (hsize : g.locals.size = nL) (hstack : g.stack = As.reverse ++ rest) (hW : 2 * g.monitorRoom + (rest.map fun v => v.category).sum ≤ 8) (hdg : decode cc g.pc = .ok (.invokestatic index, 3)) (hf : cells + mc ≤ R.cells ∧ slots + ms ≤ R.slots) :
    va_Run p l e R s m args below meth c H locs cells slots mc ms g rest (Qc As.toArray) (free) := by
  obtain ⟨⟨hrc, hrs, hfr, hlo, hws, hcw⟩, hcode, hini, hy, hlen, hl, hstt⟩ := cw
  have hK : Back l R p e below s args y 3 8 (PreOf R mc ms Pc) (PostOf Qc mc ms free) := va_backW (hh := hh) (bytes := bytes) (maxL := maxL) (ret := ret) hM hp.1 hrc hrs hfr hlo hws hcw (fun a' U hW => word_at hW (Or.inl (by first | rfl | simp [Cond.onTables, Cond.keeps, Cond.steady])) hini)
  obtain ⟨hx, hb, hml, ho, -⟩ := S
  intro T hT X
  obtain ⟨v, vm₁, ⟨U', l2, c2, s2⟩, hW₁, X', ⟨g', mk, t, L, e1, e2, hq, h1, hL, h2, h3⟩, st⟩ := vx_callSW X hx (hh := hh) (bytes := bytes) (maxL := maxL) (ret := ret) ho hl hstt hini hcode hy hK hg (hsize.trans hml.symm) (argsL := As) (rest := rest) (fun sig h => hn.trans (hlen sig h)) hstack hW (by rw [hb]; exact hdg)
    (fun vm₁ hW₁ => ⟨hf.1, hf.2, hp.2 (T.setVm vm₁) hT hW₁⟩)
  dsimp only [Pt.U, Pt.locs, Pt.cells, Pt.slots] at X' e1 e2 h1 h2 h3 st
  subst h1; subst h2; subst h3
  exact ⟨v, (T.setVm vm₁).calling g' mk As.toArray, t, U', L, hT, X', hL, e1, e2, hq, st⟩
/-- not caught here, past rows that name other classes: it goes on to the caller -/
theorem vx_outP {p : Program} {l : Launch} {e : Env} {R : Room} {s : State} {m : MethodId} {args : Array Value} {below : List Frame} {meth : Method} {c : Code} {H : Heap} {locs : List Loc} {cells slots : Nat} {free : Addr → Prop} {ls : Array Slot} {rest : List Value} {Qc : Array Value → State → Outcome → State → Prop} {XC : String → State → State → Prop}
    {pc : Nat} {own E : String} {ce : Cell} {q : Addr} {mc ms : Nat} (hown : s.vm.findClass own = some m.cls) (hlocks : meth.locks = false)
    (hpass : ∀ z ∈ c.exceptionTable.toList, covers z pc = false ∨ (z.catchType ≠ 0 ∧ ∃ nm : String, (Cond.classLink own z.catchType nm).before args s = true ∧ va_Nc E nm s)) (hcell : H[q]? = some ce) (hv : ce.vm = .none) (hcl : s.vm.findClass E = some ce.cls)
    (hx : ∀ t : State, t.heap = H → s.vm.Alike t.vm → XC E s t) (hf : ∀ z ∈ locs, free z.base) (hc : cells ≤ mc) (hs : slots ≤ ms) :
    vx_W p l e R s m args below meth c H locs cells slots (vx_MQ below Qc XC args s mc ms free) (F0 m pc ls rest) q := by
  intro T hT X
  have hpl : e.platform.magicAccessors = ({} : Platform).magicAccessors := by rw [X.admits.platform]
  obtain ⟨vm', hW', X', st⟩ := X.outThrough hlocks q (g := F0 m pc ls rest) rfl rfl rfl (cell := ce) (by rw [hT]; exact hcell) (by rw [hv]; rfl)
    (by obtain ⟨k9, h9, -⟩ := Vm.findClass_spec hcl; exact ⟨k9, h9⟩) (fun z hz => by
      rcases hpass z hz with h | ⟨hz0, nm, hl1, hn1⟩
      · exact Or.inl h
      · obtain ⟨c6, hc6, hcl6⟩ := Cond.classLink_spec hown hl1 e.platform hpl
        obtain ⟨a8, b8, h1, h2, h3⟩ := hn1
        cases Option.some.inj (h1.symm.trans hcl)
        cases Option.some.inj (h2.symm.trans hc6)
        exact Or.inr ⟨hz0, _, hcl6, h3⟩)
  obtain ⟨g₀, hfr⟩ := X'.frames_eq
  have hcell9 : ((T.setVm vm').setFrames (.throwing q :: below)).heap[q]? = some ce := by
    show T.heap[q]? = some ce
    rw [hT]; exact hcell
  have hend : Ended ((T.setVm vm').setFrames (.throwing q :: below)) below (.threw q) := State.frames_setFrames _ (State.cur_lt_of_frames hfr)
  refine ⟨(T.setVm vm').setFrames (.throwing q :: below), ?_, .threw q, X'.here.running, hend, Or.inr ⟨q, rfl, E, ce, locs, hx _ hT (X'.ends _).1.alike, hcell9, hv, hcl, (X'.ends _).1, (X'.ends _).2.mono hc hs, hf⟩⟩
  rw [X.pushThrowing_eq]
  exact st
/-- a thing of a world lies in the heap -/
theorem vx_lt {D : va_G} {cl : List vw_C} {ws : va_W} {H1 : Heap} (h : va_P D cl ws H1) {k : Nat} {q : Nat × va_E} (hk : ws[k]? = some q) : q.1 < H1.size := (h k q hk).lt
end VXS
/-! ===== END ===== -/
/-! ===== BEGIN methods with a table of their own: called by a name, returning or throwing ===== -/
section VXH
/-! vx_backW, vx_callVX, vx_callSX, vx_callVW, vx_runVW, vx_runVX, vx_runSX, vx_ofWH follow the same proofs as their sisters above (Free/Laws.lean, Shelf42/LK1.lean); vx_outP calls Shelf42/NT130.lean (outThrough). -/
section
variable {l : Launch} {R : Room} {p : Program} {e : Env} {below : List Frame} {s : State} {sargs : Array Value} {y : MethodName} {len W9 : Nat}
theorem vx_backW {ws : List Cond} {rm : Room} {Pc : Array Value → State → Prop} {Qc : Array Value → State → Outcome → State → Prop} {XC : String → State → State → Prop} {mc ms : Nat} {free : Addr → Prop} {bytes : ByteArray} {maxL : Nat} {ret : Option FieldType} {hh : List (Nat × Nat × Nat × Nat)}
    (hM : vx_Met l y ws rm Pc Qc XC mc ms free) (hblind : FrameBlind Pc) (hrc : rm.cells = mc) (hrs : rm.slots = ms)
    (hframes : rm.frames + 1 ≤ R.frames) (hlocals : W9 + (maxL + 11) + rm.locals ≤ R.locals)
    (hws : ∀ w ∈ ws, ∀ a' U, s.WarmedH U.vm → w.before a' U = true) (hcode : Cond.codeWith y bytes maxL ret hh ∈ ws) (hinit : ∀ a' U, s.WarmedH U.vm → (Cond.initialized y.cls).before a' U = true) :
    vx_Back l R p e below s sargs y len W9 (PreOf R mc ms Pc) (PostOf Qc mc ms free) (vx_Post XC mc ms free) := by
  intro m meth c A g ig mk a X hg hsize hdg hW hn hp
  have h1 : (headSpec ws rm).pre.before a A.U = true := atoms_intro fun w hw => hws w hw _ _ X.warmed
  have h2 : (Cond.codeWith y bytes maxL ret hh).before a A.U = true := hws _ hcode _ _ X.warmed
  have h3 : (Cond.initialized y.cls).before a A.U = true := hinit _ _ X.warmed
  have h4 : A.cells + (headSpec ws rm).room.cells ≤ R.cells := by rw [show (headSpec ws rm).room.cells = mc from hrc]; exact hp.1
  have h5 : A.slots + (headSpec ws rm).room.slots ≤ R.slots := by rw [show (headSpec ws rm).room.slots = ms from hrs]; exact hp.2.1
  have hPc : Pc a (A.U.calling g mk a) := hblind _ _ _ _ hp.2.2
  obtain ⟨U, Ls, c0, s0⟩ := A
  dsimp only [Pt.U, Pt.locs, Pt.cells, Pt.slots] at h1 h2 h3 h4 h5 X hn hPc ⊢
  obtain ⟨m9, methY, cY, hn9, hmY, hcY, -, hlY, -⟩ := Cond.codeWith_spec h2
  cases Option.some.inj (hn9.symm.trans hn)
  obtain ⟨kY, hkY, -⟩ := className_of_methodNamed hn
  have hinitY : kY.init = .initialized := Cond.initialized_spec (findClass_of_methodNamed hn) hkY h3
  have h : At U g.method c below := by rw [hg]; exact X.here
  have hlocals9 : W9 + (maxL + 11) + (headSpec ws rm).room.locals ≤ R.locals := hlocals
  have happ : (headSpec ws rm).appliesLoose y e.platform (U.calling g mk a) = true :=
    Spec.appliesLoose_calling (g := g) h hdg hn hkY hinitY
      (X.room_calling (g := g) (R' := (headSpec ws rm).room) hsize hmY hcY hframes (by rw [hlY]; omega) h4 h5) h1
  obtain ⟨mid, hmid⟩ := h.above
  have hfr : (U.setTop g).frames = (.java g :: mid) ++ below := by rw [State.frames_setTop' g h.top, hmid]; rfl
  obtain ⟨o, s₂, hsteps, -, hend, hq⟩ := Steps.callFree hM p X.admits X.cas X.clock (acts := []) hfr happ hPc trivial
  have hq' : vx_Q Qc XC mc ms free a (U.calling g mk a) o s₂ := hq
  rw [State.frames_setTop' g h.top] at hend
  obtain ⟨g₀, hg0⟩ := Option.isSome_iff_exists.mp h.top
  obtain ⟨r, hr⟩ := State.topJava?_eq_some.mp hg0
  have hr' : (({ U with heap := s₂.heap, slotsUsed := s₂.slotsUsed } : State).setVm s₂.vm).frames = .java g₀ :: r := hr
  rcases hq' with ⟨hqc, L, hfe, hL⟩ | ⟨q, rfl, E, ce, L, hx, hce, hcv, hcl, hW₂, hsm, hL⟩
  · obtain ⟨⟨v, rfl⟩, hW₂, e2, q2, q3, q4, q5, q6⟩ := id hfe
    have e3 : s₂ = ({ (U.calling g mk a).setFrames s₂.frames with heap := s₂.heap, slotsUsed := s₂.slotsUsed } : State).setVm s₂.vm := by
      have : s₂ = ({ s₂ with vm := (U.calling g mk a).vm } : State).setVm s₂.vm := rfl
      rw [e2] at this
      exact this
    obtain ⟨c₂, i₂, len₂, hc₂, hd₂, hf₂⟩ := hend
    have hW' : U.WarmedH s₂.vm := hW₂
    have hcc : c₂ = c := by
      have h1 : s₂.code? g.method = U.code? g.method := by
        rw [State.code?_eq, State.code?_eq, hW'.alike.method?]
      exact Option.some.inj (hc₂.symm.trans (h1.trans h.code))
    subst hcc
    have hlen : len₂ = len := by rw [hdg] at hd₂; cases hd₂; rfl
    subst hlen
    have hs₂ : s₂ = (({ U with heap := s₂.heap, slotsUsed := s₂.slotsUsed } : State).setVm s₂.vm).setTop { g with pc := g.pc + len₂, stack := v.toList ++ g.stack } := by
      refine e3.trans ?_
      rw [hf₂, State.calling_eq h.top, State.setFrames_setFrames, State.setTop_of_frames _ hr', hr]
      rfl
    have hsame : U.sameButNew ({ U with heap := s₂.heap, slotsUsed := s₂.slotsUsed } : State) L mc ms := by
      refine ⟨?_, q2, q3, q4, q5, q6⟩
      obtain ⟨t, ht, -⟩ := State.frames_cons hr
      show ({ U with heap := s₂.heap, slotsUsed := s₂.slotsUsed } : State) = { U.setFrames U.frames with heap := s₂.heap, slotsUsed := s₂.slotsUsed }
      rw [State.setFrames_self ht]
    subst hg
    refine Or.inl ⟨v, ⟨(({ U with heap := s₂.heap, slotsUsed := s₂.slotsUsed } : State).setVm s₂.vm), Ls ++ L, c0 + mc, s0 + ms⟩,
      ⟨X.admits, X.cas, X.clock, X.frames, X.room, X.hears, X.method, X.code, (X.here.setHeapUsed s₂.heap s₂.slotsUsed).setVm hW'.alike, X.tail, State.WarmedH.trans X.warmed hW', X.limits, X.bytes, X.same.trans (hsame.setVm s.vm)⟩,
      ⟨g, mk, s₂, L, rfl, rfl, hqc, rfl, hL, rfl, rfl⟩, ?_⟩
    show Steps p.tables e below _ ((({ U with heap := s₂.heap, slotsUsed := s₂.slotsUsed } : State).setVm s₂.vm).setTop { g with pc := g.pc + len₂, stack := v.toList ++ g.stack })
    rw [← hs₂]
    exact hsteps
  · obtain ⟨e2, q2, q3, q4, q5, q6⟩ := id hsm
    have e3 : s₂ = ({ (U.calling g mk a).setFrames s₂.frames with heap := s₂.heap, slotsUsed := s₂.slotsUsed } : State).setVm s₂.vm := by
      have : s₂ = ({ s₂ with vm := (U.calling g mk a).vm } : State).setVm s₂.vm := rfl
      rw [e2] at this
      exact this
    have hf₂ : s₂.frames = .throwing q :: .java g :: U.frames.tail := hend
    have hW' : U.WarmedH s₂.vm := hW₂
    have hs₂ : s₂ = ((({ U with heap := s₂.heap, slotsUsed := s₂.slotsUsed } : State).setVm s₂.vm).setTop g).pushFrame (.throwing q) := by
      refine e3.trans ?_
      rw [hf₂, State.calling_eq h.top, State.setFrames_setFrames, State.pushFrame, State.frames_setTop _ hr', State.setTop_of_frames _ hr', State.setFrames_setFrames, hr]
      rfl
    have hsame : U.sameButNew ({ U with heap := s₂.heap, slotsUsed := s₂.slotsUsed } : State) L mc ms := by
      refine ⟨?_, q2, q3, q4, q5, q6⟩
      obtain ⟨t, ht, -⟩ := State.frames_cons hr
      show ({ U with heap := s₂.heap, slotsUsed := s₂.slotsUsed } : State) = { U.setFrames U.frames with heap := s₂.heap, slotsUsed := s₂.slotsUsed }
      rw [State.setFrames_self ht]
    subst hg
    refine Or.inr ⟨q, ⟨(({ U with heap := s₂.heap, slotsUsed := s₂.slotsUsed } : State).setVm s₂.vm), Ls ++ L, c0 + mc, s0 + ms⟩,
      ⟨X.admits, X.cas, X.clock, X.frames, X.room, X.hears, X.method, X.code, (X.here.setHeapUsed s₂.heap s₂.slotsUsed).setVm hW'.alike, X.tail, State.WarmedH.trans X.warmed hW', X.limits, X.bytes, X.same.trans (hsame.setVm s.vm)⟩,
      ⟨g, mk, s₂, L, E, ce, rfl, rfl, hx, hce, hcv, hcl, rfl, hL, rfl, rfl⟩, ?_⟩
    show Steps p.tables e below _ (((({ U with heap := s₂.heap, slotsUsed := s₂.slotsUsed } : State).setVm s₂.vm).setTop g).pushFrame (.throwing q))
    rw [← hs₂]
    exact hsteps
end
variable {p : Program} {l : Launch} {e : Env} {R : Room} {s : State} {m : MethodId} {args : Array Value} {below : List Frame} {meth : Method} {c : Code} {T : State} {H : Heap} {locs : List Loc} {cells slots : Nat}
theorem vx_callVX (X : Stand p l e R s m args below meth c T locs cells slots) (hexec : p.tables.exec = Jvm.exec) {own C : String} {index : Nat} {y : MethodName} {bytes : ByteArray} {maxL : Nat} {ret : Option FieldType} {hh : List (Nat × Nat × Nat × Nat)}
    (hown : s.vm.findClass own = some m.cls) (hlink : (Cond.methodLink own index y).before args s = true) (hinst : (Cond.instanceMethod y).before args s = true) (hsel : (Cond.selects C y y).before args s = true)
    (hcode : (Cond.codeWith y bytes maxL ret hh).before args s = true) (hy : y.cls ≠ "java/lang/invoke/MethodHandle" ∧ y.cls ≠ "java/lang/invoke/VarHandle")
    {W9 : Nat} {Pre : Pt → Array Value → Prop} {Post : Pt → Array Value → Option Value → Pt → Prop} {PostX : Pt → Array Value → Addr → Pt → Prop} (hK : vx_Back l R p e below s args y 3 W9 Pre Post PostX)
    {b : Addr} {cellB : Cell} (hcell : T.heap[b]? = some cellB) (hobj : cellB.vm.isStatics = false) (hcls : s.vm.findClass C = some cellB.cls)
    {g : JFrame} (hg : g.method = m) (hsize : g.locals.size = c.maxLocals) {argsL rest : List Value} (hlen : ∀ sig, parseMethodDescriptor y.desc = some sig → argsL.length = sig.parameters.length)
    (hstack : g.stack = argsL.reverse ++ .ref b :: rest) (hW : 2 * g.monitorRoom + (rest.map fun v => v.category).sum ≤ W9) (hdg : decode c.code g.pc = .ok (.invokevirtual index, 3))
    (hpre : ∀ vm₁, s.WarmedH vm₁ → Pre ⟨T.setVm vm₁, locs, cells, slots⟩ (Value.ref b :: argsL).toArray) :
    (∃ (v : Option Value) (vm₁ : Vm) (B : Pt), s.WarmedH vm₁ ∧ Stand p l e R s m args below meth c B.U B.locs B.cells B.slots ∧ Post ⟨T.setVm vm₁, locs, cells, slots⟩ (Value.ref b :: argsL).toArray v B ∧
      ∀ target, Steps p.tables e below (B.U.setTop { g with pc := g.pc + 3, stack := v.toList ++ rest }) target → Steps p.tables e below (T.setTop g) target) ∨
    (∃ (q : Addr) (vm₁ : Vm) (B : Pt), s.WarmedH vm₁ ∧ Stand p l e R s m args below meth c B.U B.locs B.cells B.slots ∧ PostX ⟨T.setVm vm₁, locs, cells, slots⟩ (Value.ref b :: argsL).toArray q B ∧
      Steps p.tables e below (T.setTop g) ((B.U.setTop { g with stack := rest }).pushFrame (.throwing q))) := by
  obtain ⟨mk, methM, hnamed, hmethM, hstM, habM⟩ := Cond.instanceMethod_spec hinst
  obtain ⟨m8, methM', cM, hn8, hmethM', -, -, -, -, -, -, hsigM⟩ := Cond.codeWith_spec hcode
  cases Option.some.inj (hn8.symm.trans hnamed)
  cases hmethM.symm.trans hmethM'
  obtain ⟨c2, r2, m2, q1, q2, q3, q4, kP, hkP, hkPi⟩ := Cond.selects_spec hsel
  cases hcls.symm.trans q1
  cases (State.methodFound?_of_named hnamed hy).symm.trans q2
  cases hnamed.symm.trans q3
  have hselP : selectMethod e.platform s.vm cellB.cls mk = .method mk := by rw [Launch.admits_selectMethod X.admits]; exact q4
  obtain ⟨vm₁, X₁, hstep₁⟩ := X.invokevirtual hexec hown hlink hnamed hmethM hstM hkP hkPi hy (a := b) (cell := cellB) hcell
    (fun z h => by rw [h] at hobj; cases hobj) hselP hmethM habM hkP hkPi (g := g) hg (argsL := argsL) (rest := rest) (hlen _ hsigM) hstack hdg
  rcases hK m meth c ⟨T.setVm vm₁, locs, cells, slots⟩ { g with stack := rest } (.invokevirtual index) mk (Value.ref b :: argsL).toArray X₁ hg hsize hdg hW (X₁.named hnamed) (hpre vm₁ X₁.warmed) with ⟨v, B, X', hpost, hsteps⟩ | ⟨q, B, X', hpost, hsteps⟩
  · exact Or.inl ⟨v, vm₁, B, X₁.warmed, X', hpost, fun target h => hstep₁ _ fun acts => by rw [doInvoke_state]; exact hsteps.trans h⟩
  · exact Or.inr ⟨q, vm₁, B, X₁.warmed, X', hpost, hstep₁ _ fun acts => by rw [doInvoke_state]; exact hsteps⟩
theorem vx_callSX (X : Stand p l e R s m args below meth c T locs cells slots) (hexec : p.tables.exec = Jvm.exec) {own : String} {index : Nat} {y : MethodName} {bytes : ByteArray} {maxL : Nat} {ret : Option FieldType} {hh : List (Nat × Nat × Nat × Nat)}
    (hown : s.vm.findClass own = some m.cls) (hlink : (Cond.methodLink own index y).before args s = true) (hstat : (Cond.static y).before args s = true) (hinit : (Cond.initialized y.cls).before args s = true)
    (hcode : (Cond.codeWith y bytes maxL ret hh).before args s = true) (hy : y.cls ≠ "java/lang/invoke/MethodHandle" ∧ y.cls ≠ "java/lang/invoke/VarHandle")
    {W9 : Nat} {Pre : Pt → Array Value → Prop} {Post : Pt → Array Value → Option Value → Pt → Prop} {PostX : Pt → Array Value → Addr → Pt → Prop} (hK : vx_Back l R p e below s args y 3 W9 Pre Post PostX)
    {g : JFrame} (hg : g.method = m) (hsize : g.locals.size = c.maxLocals) {argsL rest : List Value} (hlen : ∀ sig, parseMethodDescriptor y.desc = some sig → argsL.length = sig.parameters.length)
    (hstack : g.stack = argsL.reverse ++ rest) (hW : 2 * g.monitorRoom + (rest.map fun v => v.category).sum ≤ W9) (hdg : decode c.code g.pc = .ok (.invokestatic index, 3))
    (hpre : ∀ vm₁, s.WarmedH vm₁ → Pre ⟨T.setVm vm₁, locs, cells, slots⟩ argsL.toArray) :
    (∃ (v : Option Value) (vm₁ : Vm) (B : Pt), s.WarmedH vm₁ ∧ Stand p l e R s m args below meth c B.U B.locs B.cells B.slots ∧ Post ⟨T.setVm vm₁, locs, cells, slots⟩ argsL.toArray v B ∧
      ∀ target, Steps p.tables e below (B.U.setTop { g with pc := g.pc + 3, stack := v.toList ++ rest }) target → Steps p.tables e below (T.setTop g) target) ∨
    (∃ (q : Addr) (vm₁ : Vm) (B : Pt), s.WarmedH vm₁ ∧ Stand p l e R s m args below meth c B.U B.locs B.cells B.slots ∧ PostX ⟨T.setVm vm₁, locs, cells, slots⟩ argsL.toArray q B ∧
      Steps p.tables e below (T.setTop g) ((B.U.setTop { g with stack := rest }).pushFrame (.throwing q))) := by
  obtain ⟨mk, methM, cM, hnamed, hmethM, -, -, -, -, -, -, hsigM⟩ := Cond.codeWith_spec hcode
  have hstatic : methM.isStatic = true := Cond.static_spec hnamed hmethM hstat
  obtain ⟨kP, hkP, -⟩ := className_of_methodNamed hnamed
  have hinitP : kP.init = .initialized := Cond.initialized_spec (findClass_of_methodNamed hnamed) hkP hinit
  obtain ⟨vm₁, X₁, hstep₁⟩ := X.invokestatic hexec hown hlink hnamed hmethM hstatic hkP hinitP hy (g := g) hg (argsL := argsL) (rest := rest) (hlen _ hsigM) hstack hdg
  rcases hK m meth c ⟨T.setVm vm₁, locs, cells, slots⟩ { g with stack := rest } (.invokestatic index) mk argsL.toArray X₁ hg hsize hdg hW (X₁.named hnamed) (hpre vm₁ X₁.warmed) with ⟨v, B, X', hpost, hsteps⟩ | ⟨q, B, X', hpost, hsteps⟩
  · exact Or.inl ⟨v, vm₁, B, X₁.warmed, X', hpost, fun target h => hstep₁ _ fun acts => by rw [doInvoke_state]; exact hsteps.trans h⟩
  · exact Or.inr ⟨q, vm₁, B, X₁.warmed, X', hpost, hstep₁ _ fun acts => by rw [doInvoke_state]; exact hsteps⟩
theorem vx_callVW (X : Stand p l e R s m args below meth c T locs cells slots) (hexec : p.tables.exec = Jvm.exec) {own C : String} {index : Nat} {y : MethodName} {bytes : ByteArray} {maxL : Nat} {ret : Option FieldType} {hh : List (Nat × Nat × Nat × Nat)}
    (hown : s.vm.findClass own = some m.cls) (hlink : (Cond.methodLink own index y).before args s = true) (hinst : (Cond.instanceMethod y).before args s = true) (hsel : (Cond.selects C y y).before args s = true)
    (hcode : (Cond.codeWith y bytes maxL ret hh).before args s = true) (hy : y.cls ≠ "java/lang/invoke/MethodHandle" ∧ y.cls ≠ "java/lang/invoke/VarHandle")
    {W9 : Nat} {Pre : Pt → Array Value → Prop} {Post : Pt → Array Value → Option Value → Pt → Prop} (hK : Back l R p e below s args y 3 W9 Pre Post)
    {b : Addr} {cellB : Cell} (hcell : T.heap[b]? = some cellB) (hobj : cellB.vm.isStatics = false) (hcls : s.vm.findClass C = some cellB.cls)
    {g : JFrame} (hg : g.method = m) (hsize : g.locals.size = c.maxLocals) {argsL rest : List Value} (hlen : ∀ sig, parseMethodDescriptor y.desc = some sig → argsL.length = sig.parameters.length)
    (hstack : g.stack = argsL.reverse ++ .ref b :: rest) (hW : 2 * g.monitorRoom + (rest.map fun v => v.category).sum ≤ W9) (hdg : decode c.code g.pc = .ok (.invokevirtual index, 3))
    (hpre : ∀ vm₁, s.WarmedH vm₁ → Pre ⟨T.setVm vm₁, locs, cells, slots⟩ (Value.ref b :: argsL).toArray) :
    ∃ (v : Option Value) (vm₁ : Vm) (B : Pt), s.WarmedH vm₁ ∧ Stand p l e R s m args below meth c B.U B.locs B.cells B.slots ∧ Post ⟨T.setVm vm₁, locs, cells, slots⟩ (Value.ref b :: argsL).toArray v B ∧
      ∀ target, Steps p.tables e below (B.U.setTop { g with pc := g.pc + 3, stack := v.toList ++ rest }) target → Steps p.tables e below (T.setTop g) target := by
  obtain ⟨mk, methM, hnamed, hmethM, hstM, habM⟩ := Cond.instanceMethod_spec hinst
  obtain ⟨m8, methM', cM, hn8, hmethM', -, -, -, -, -, -, hsigM⟩ := Cond.codeWith_spec hcode
  cases Option.some.inj (hn8.symm.trans hnamed)
  cases hmethM.symm.trans hmethM'
  obtain ⟨c2, r2, m2, q1, q2, q3, q4, kP, hkP, hkPi⟩ := Cond.selects_spec hsel
  cases hcls.symm.trans q1
  cases (State.methodFound?_of_named hnamed hy).symm.trans q2
  cases hnamed.symm.trans q3
  have hselP : selectMethod e.platform s.vm cellB.cls mk = .method mk := by rw [Launch.admits_selectMethod X.admits]; exact q4
  obtain ⟨vm₁, X₁, hstep₁⟩ := X.invokevirtual hexec hown hlink hnamed hmethM hstM hkP hkPi hy (a := b) (cell := cellB) hcell
    (fun z h => by rw [h] at hobj; cases hobj) hselP hmethM habM hkP hkPi (g := g) hg (argsL := argsL) (rest := rest) (hlen _ hsigM) hstack hdg
  obtain ⟨v, B, X', hpost, hsteps⟩ := hK m meth c ⟨T.setVm vm₁, locs, cells, slots⟩ { g with stack := rest } (.invokevirtual index) mk (Value.ref b :: argsL).toArray X₁ hg hsize hdg hW (X₁.named hnamed) (hpre vm₁ X₁.warmed)
  exact ⟨v, vm₁, B, X₁.warmed, X', hpost, fun target h => hstep₁ _ fun acts => by rw [doInvoke_state]; exact hsteps.trans h⟩
abbrev vx_CVW (R : Room) (s : State) (args : Array Value) (own C : String) (index : Nat) (y : MethodName) (bytes : ByteArray) (maxL : Nat) (ret : Option FieldType) (hh : List (Nat × Nat × Nat × Nat)) (ws : List Cond) (rm : Room) (mc ms n : Nat) : Prop :=
  (rm.cells = mc ∧ rm.slots = ms ∧ rm.frames + 1 ≤ R.frames ∧ 8 + (maxL + 11) + rm.locals ≤ R.locals ∧ (∀ w ∈ ws, ∀ (a' : Array Value) (U : State), s.WarmedH U.vm → w.before a' U = true) ∧ Cond.codeWith y bytes maxL ret hh ∈ ws) ∧
  (Cond.codeWith y bytes maxL ret hh).before args s = true ∧ (Cond.initialized y.cls).before args s = true ∧ (y.cls ≠ "java/lang/invoke/MethodHandle" ∧ y.cls ≠ "java/lang/invoke/VarHandle") ∧
  (∀ sig, parseMethodDescriptor y.desc = some sig → n = sig.parameters.length) ∧ (Cond.methodLink own index y).before args s = true ∧ (Cond.instanceMethod y).before args s = true ∧ (Cond.selects C y y).before args s = true
theorem vx_cwVW {own C : String} {index maxL mc ms : Nat} {y : MethodName} {bytes : ByteArray} {ret : Option FieldType} {hh : List (Nat × Nat × Nat × Nat)} {Ts ws ws' : List Cond} {rm : Room} (n : Nat) (ht : ∀ w ∈ Ts, w.before args s = true) (hT : GoodIn Ts (wsV own index C y ws)) (hw : ws = Cond.codeWith y bytes maxL ret hh :: ws') (hrc : rm.cells = mc) (hrs : rm.slots = ms)
    (hd : y.cls = C ∧ y.cls ≠ "java/lang/invoke/MethodHandle" ∧ y.cls ≠ "java/lang/invoke/VarHandle" ∧ (parseMethodDescriptor y.desc).map (fun d => d.parameters.length) = some n) (hR : rm.frames + 1 ≤ R.frames ∧ 8 + (maxL + 11) + rm.locals ≤ R.locals) :
    vx_CVW R s args own C index y bytes maxL ret hh ws rm mc ms n := by
  obtain ⟨hC, hd⟩ := hd
  subst hC
  have ok : ∀ w ∈ wsV own index y.cls y ws, w.before args s = true := fun w h => ht w (hT w h).1
  have hG : GoodIn Ts ws := fun w h => hT w (by unfold wsV; exact List.mem_append_right _ h)
  have hc : Cond.codeWith y bytes maxL ret hh ∈ ws := by rw [hw]; exact List.mem_cons_self
  refine ⟨⟨hrc, hrs, hR.1, hR.2, pay_in ht hG, hc⟩, ht _ (hG _ hc).1, ok _ (by simp [wsV]), ⟨hd.1, hd.2.1⟩, fun sig h => ?_, ok _ (by simp [wsV]), ok _ (by simp [wsV]), ok _ (by simp [wsV])⟩
  have h2 := hd.2.2
  rw [h] at h2
  exact (Option.some.inj h2).symm
theorem vx_runVW {y : MethodName} {bytes cc : ByteArray} {maxL nL mc ms n index : Nat} {ret : Option FieldType} {hh : List (Nat × Nat × Nat × Nat)} {ws : List Cond} {rm : Room} {Pc : Array Value → State → Prop} {Qc : Array Value → State → Outcome → State → Prop} {free : Addr → Prop} {Ts : List Cond} {own C : String} {b : Addr} {As rest : List Value} {g : JFrame}
    (S : CallFix p m c cc nL s args Ts own) (hM : Met l y ws rm Pc Qc mc ms free) (cw : vx_CVW R s args own C index y bytes maxL ret hh ws rm mc ms n) (hp : PreV s H C b Pc As)
    (hg : g.method = m) (hn : As.length = n) (hsize : g.locals.size = nL) (hstack : g.stack = As.reverse ++ .ref b :: rest) (hW : 2 * g.monitorRoom + (rest.map fun v => v.category).sum ≤ 8) (hdg : decode cc g.pc = .ok (.invokevirtual index, 3)) (hf : cells + mc ≤ R.cells ∧ slots + ms ≤ R.slots) :
    va_Run p l e R s m args below meth c H locs cells slots mc ms g rest (Qc (Value.ref b :: As).toArray) free := by
  obtain ⟨⟨hrc, hrs, hfr, hlo, hws, hcw⟩, hcode, hini, hy, hlen, hl, hin, hse⟩ := cw
  have hK : Back l R p e below s args y 3 8 (PreOf R mc ms Pc) (PostOf Qc mc ms free) := va_backW (hh := hh) (bytes := bytes) (maxL := maxL) (ret := ret) hM hp.1 hrc hrs hfr hlo hws hcw (fun a' U hW => word_at hW (Or.inl (by first | rfl | simp [Cond.onTables, Cond.keeps, Cond.steady])) hini)
  obtain ⟨hx, hb, hml, ho, -⟩ := S
  obtain ⟨-, ⟨cellB, hcB, hoB, hclB⟩, hPc⟩ := hp
  intro T hT X
  obtain ⟨v, vm₁, ⟨U', l2, c2, s2⟩, hW₁, X', ⟨g', mk, t, L, e1, e2, hq, h1, hL, h2, h3⟩, st⟩ := vx_callVW X hx (C := C) (hh := hh) (bytes := bytes) (maxL := maxL) (ret := ret) ho hl hin hse hcode hy hK (by rw [hT]; exact hcB) hoB hclB hg (hsize.trans hml.symm) (argsL := As) (rest := rest) (fun sig h => hn.trans (hlen sig h)) hstack hW (by rw [hb]; exact hdg)
    (fun vm₁ hW₁ => ⟨hf.1, hf.2, hPc (T.setVm vm₁) hT hW₁⟩)
  dsimp only [Pt.U, Pt.locs, Pt.cells, Pt.slots] at X' e1 e2 h1 h2 h3 st
  subst h1; subst h2; subst h3
  exact ⟨v, (T.setVm vm₁).calling g' mk (Value.ref b :: As).toArray, t, U', L, hT, X', hL, e1, e2, hq, st⟩
section
variable {y : MethodName} {bytes cc : ByteArray} {maxL nL mc ms n index : Nat} {ret : Option FieldType} {ws : List Cond} {rm : Room} {Pc : Array Value → State → Prop} {Qc : Array Value → State → Outcome → State → Prop} {XC : String → State → State → Prop} {free : Addr → Prop} {Ts : List Cond} {own C : String} {b : Addr} {As rest : List Value} {g : JFrame}
theorem vx_runVX {hh : List (Nat × Nat × Nat × Nat)} (S : CallFix p m c cc nL s args Ts own) (hM : vx_Met l y ws rm Pc Qc XC mc ms free) (cw : vx_CVW R s args own C index y bytes maxL ret hh ws rm mc ms n) (hp : PreV s H C b Pc As)
    (hg : g.method = m) (hn : As.length = n) (hsize : g.locals.size = nL) (hstack : g.stack = As.reverse ++ .ref b :: rest) (hW : 2 * g.monitorRoom + (rest.map fun v => v.category).sum ≤ 8) (hdg : decode cc g.pc = .ok (.invokevirtual index, 3)) (hf : cells + mc ≤ R.cells ∧ slots + ms ≤ R.slots) :
    vx_Run p l e R s m args below meth c H locs cells slots mc ms g rest (Qc (Value.ref b :: As).toArray) XC free := by
  obtain ⟨⟨hrc, hrs, hfr, hlo, hws, hcw⟩, hcode, hini, hy, hlen, hl, hin, hse⟩ := cw
  have hK : vx_Back l R p e below s args y 3 8 (PreOf R mc ms Pc) (PostOf Qc mc ms free) (vx_Post XC mc ms free) := vx_backW (hh := hh) (bytes := bytes) (maxL := maxL) (ret := ret) hM hp.1 hrc hrs hfr hlo hws hcw (fun a' U hW => word_at hW (Or.inl (by first | rfl | simp [Cond.onTables, Cond.keeps, Cond.steady])) hini)
  obtain ⟨hx, hb, hml, ho, -⟩ := S
  obtain ⟨-, ⟨cellB, hcB, hoB, hclB⟩, hPc⟩ := hp
  intro T hT X
  rcases vx_callVX X hx (C := C) (hh := hh) (bytes := bytes) (maxL := maxL) (ret := ret) ho hl hin hse hcode hy hK (by rw [hT]; exact hcB) hoB hclB hg (hsize.trans hml.symm) (argsL := As) (rest := rest) (fun sig h => hn.trans (hlen sig h)) hstack hW (by rw [hb]; exact hdg)
    (fun vm₁ hW₁ => ⟨hf.1, hf.2, hPc (T.setVm vm₁) hT hW₁⟩) with ⟨v, vm₁, ⟨U', l2, c2, s2⟩, hW₁, X', ⟨g', mk, t, L, e1, e2, hq, h1, hL, h2, h3⟩, st⟩ | ⟨q, vm₁, ⟨U', l2, c2, s2⟩, hW₁, X', ⟨g', mk, t, L, E, ce, e1, e2, hq, hce, hcv, hcl, h1, hL, h2, h3⟩, st⟩
  · dsimp only [Pt.U, Pt.locs, Pt.cells, Pt.slots] at X' e1 e2 h1 h2 h3 st
    subst h1; subst h2; subst h3
    exact Or.inl ⟨v, (T.setVm vm₁).calling g' mk (Value.ref b :: As).toArray, t, U', L, hT, X', hL, e1, e2, hq, st⟩
  · dsimp only [Pt.U, Pt.locs, Pt.cells, Pt.slots] at X' e1 e2 h1 h2 h3 st hcl
    subst h1; subst h2; subst h3
    exact Or.inr ⟨q, (T.setVm vm₁).calling g' mk (Value.ref b :: As).toArray, t, U', L, E, ce, hT, X', hL, e1, e2, hq, hce, hcv, vx_cls hW₁ hcl, st⟩
theorem vx_runSX {hh : List (Nat × Nat × Nat × Nat)} (S : CallFix p m c cc nL s args Ts own) (hM : vx_Met l y ws rm Pc Qc XC mc ms free) (cw : vx_CSW R s args own index y bytes maxL ret hh ws rm mc ms n) (hp : PreS s H Pc As)
    (hg : g.method = m) (hn : As.length = n) (hsize : g.locals.size = nL) (hstack : g.stack = As.reverse ++ rest) (hW : 2 * g.monitorRoom + (rest.map fun v => v.category).sum ≤ 8) (hdg : decode cc g.pc = .ok (.invokestatic index, 3)) (hf : cells + mc ≤ R.cells ∧ slots + ms ≤ R.slots) :
    vx_Run p l e R s m args below meth c H locs cells slots mc ms g rest (Qc As.toArray) XC free := by
  obtain ⟨⟨hrc, hrs, hfr, hlo, hws, hcw⟩, hcode, hini, hy, hlen, hl, hstt⟩ := cw
  have hK : vx_Back l R p e below s args y 3 8 (PreOf R mc ms Pc) (PostOf Qc mc ms free) (vx_Post XC mc ms free) := vx_backW (hh := hh) (bytes := bytes) (maxL := maxL) (ret := ret) hM hp.1 hrc hrs hfr hlo hws hcw (fun a' U hW => word_at hW (Or.inl (by first | rfl | simp [Cond.onTables, Cond.keeps, Cond.steady])) hini)
  obtain ⟨hx, hb, hml, ho, -⟩ := S
  intro T hT X
  rcases vx_callSX X hx (hh := hh) (bytes := bytes) (maxL := maxL) (ret := ret) ho hl hstt hini hcode hy hK hg (hsize.trans hml.symm) (argsL := As) (rest := rest) (fun sig h => hn.trans (hlen sig h)) hstack hW (by rw [hb]; exact hdg)
    (fun vm₁ hW₁ => ⟨hf.1, hf.2, hp.2 (T.setVm vm₁) hT hW₁⟩) with ⟨v, vm₁, ⟨U', l2, c2, s2⟩, hW₁, X', ⟨g', mk, t, L, e1, e2, hq, h1, hL, h2, h3⟩, st⟩ | ⟨q, vm₁, ⟨U', l2, c2, s2⟩, hW₁, X', ⟨g', mk, t, L, E, ce, e1, e2, hq, hce, hcv, hcl, h1, hL, h2, h3⟩, st⟩
  · dsimp only [Pt.U, Pt.locs, Pt.cells, Pt.slots] at X' e1 e2 h1 h2 h3 st
    subst h1; subst h2; subst h3
    exact Or.inl ⟨v, (T.setVm vm₁).calling g' mk As.toArray, t, U', L, hT, X', hL, e1, e2, hq, st⟩
  · dsimp only [Pt.U, Pt.locs, Pt.cells, Pt.slots] at X' e1 e2 h1 h2 h3 st hcl
    subst h1; subst h2; subst h3
    exact Or.inr ⟨q, (T.setVm vm₁).calling g' mk As.toArray, t, U', L, E, ce, hT, X', hL, e1, e2, hq, hce, hcv, vx_cls hW₁ hcl, st⟩
end
end VXH
theorem vx_ofWH {l : Launch} {y : MethodName} {ws ws' : List Cond} {rm : Room} {Pc : Array Value → State → Prop} {Qc : Array Value → State → Outcome → State → Prop} {XC : String → State → State → Prop} {mc ms : Nat} {free : Addr → Prop} {cc : ByteArray} {maxL : Nat} {ret : Option FieldType} {hh : List (Nat × Nat × Nat × Nat)}
    (hy : plainName y.cls = true) (hw : ws = Cond.codeWith y cc maxL ret hh :: ws')
    (body : ∀ p e s m args below meth c s₁, BodyLoose p l y (headSpec ws rm) cc maxL ret e s m args below meth c s₁ → c.maxLocals = maxL → Pc args s →
      W p l e (headSpec ws rm).room s m args below meth c s.heap [] 0 0 (vx_MQ below Qc XC args s mc ms free) (entryFrame m args maxL)) : vx_Met l y ws rm Pc Qc XC mc ms free := by
  refine MetFree.of_bodyS (code := cc) (maxLocals := maxL) (ret := ret) hy ?_ ?_
  · intro args s m h hn
    obtain ⟨m9, meth, c, hn9, h1, h2, h3, h4, -, h5, h6, -⟩ := Cond.codeWith_spec (atoms_spec (ws := ws) h _ (by rw [hw]; exact List.mem_cons_self))
    cases hn.symm.trans hn9
    exact ⟨meth, c, h1, h2, h3, h4, h5, h6⟩
  · intro p e s m args below meth c s₁ B hml hP _
    have hh0 : s₁.heap = s.heap := by rw [B.state]; rfl
    obtain ⟨t, a1, o, b1, b2, b3⟩ := body p e s m args below meth c s₁ B hml hP s₁ hh0 (Stand.of_body B)
    exact ⟨t, o, a1, b1, b2, b3⟩
/-! ===== END ===== -/
end
section
/-! ===== BEGIN printed: names, fields, word lists, decode rows ===== -/
def RX0 : String := "CallSums$Giving"
def TX0 : u_T := fun k => match k with
  | 0 => ("CallSums$Giving", "from", "[I", true)
  | 1 => ("CallSums$Giving", "to", "[I", true)
  | 2 => ("CallSums$Giving", "weight", "[I", true)
  | 3 => ("CallSums$Giving", "car", "[I", true)
  | 4 => ("CallSums$Giving", "pick", "[I", true)
  | 5 => ("CallSums$Giving", "set", "[I", true)
  | 6 => ("CallSums$Giving", "burden", "[I", true)
  | 7 => ("CallSums$Giving", "count", "I", false)
  | 8 => ("CallSums$Giving", "number", "[I", true)
  | 9 => ("CallSums$Giving", "able", "[I", true)
  | 10 => ("CallSums$Giving", "begunBy", "[I", true)
  | 11 => ("CallSums$Giving", "row", "[I", true)
  | 12 => ("CallSums$Giving", "tried", "[I", true)
  | 13 => ("CallSums$Giving", "load", "[I", true)
  | _ => ("CallSums$Giving", "leastSum", "J", false)
def tyX0 : Nat → FieldType := fun k => match k with
  | 0 => .array .int
  | 1 => .array .int
  | 2 => .array .int
  | 3 => .array .int
  | 4 => .array .int
  | 5 => .array .int
  | 6 => .array .int
  | 7 => .int
  | 8 => .array .int
  | 9 => .array .int
  | 10 => .array .int
  | 11 => .array .int
  | 12 => .array .int
  | 13 => .array .int
  | _ => .long
abbrev wsX00 : List Cond := u_ws RX0 TX0 15
theorem nmX0 : ∀ a, a < 15 → ∀ b, b < 15 → a ≠ b → (TX0 a).2.1 ≠ (TX0 b).2.1 := by decide +kernel
theorem tyX0_ok : ∀ k, k < 15 → parseFieldDescriptor (TX0 k).2.2.1 = some (tyX0 k) := by decide +kernel
abbrev cX0_init : ByteArray := prog_2_method_1_code
def yX0_init : MethodName := ⟨RX0, "<init>", "()V"⟩
abbrev cX0_clearRows : ByteArray := prog_2_method_2_code
def yX0_clearRows : MethodName := ⟨RX0, "clearRows", "()V"⟩
abbrev cX0_clear : ByteArray := prog_2_method_3_code
def yX0_clear : MethodName := ⟨RX0, "clear", "()V"⟩
abbrev cX0_add : ByteArray := prog_2_method_4_code
def yX0_add : MethodName := ⟨RX0, "add", "(LCallSums$Ride;II)V"⟩
abbrev cX0_slotOf : ByteArray := prog_2_method_5_code
def yX0_slotOf : MethodName := ⟨RX0, "slotOf", "(I)I"⟩
abbrev cX0_inRow : ByteArray := prog_2_method_6_code
def yX0_inRow : MethodName := ⟨RX0, "inRow", "(II)I"⟩
abbrev cX0_begunSlot : ByteArray := prog_2_method_7_code
def yX0_begunSlot : MethodName := ⟨RX0, "begunSlot", "(I)I"⟩
abbrev cX0_slotsFor : ByteArray := prog_2_method_8_code
def yX0_slotsFor : MethodName := ⟨RX0, "slotsFor", "(I)I"⟩
abbrev cX0_make : ByteArray := prog_2_method_9_code
def yX0_make : MethodName := ⟨RX0, "make", "([LCallSums$Lift;I)J"⟩
abbrev cX0_weighSets : ByteArray := prog_2_method_10_code
def yX0_weighSets : MethodName := ⟨RX0, "weighSets", "()V"⟩
abbrev cX0_place : ByteArray := prog_2_method_11_code
def yX0_place : MethodName := ⟨RX0, "place", "(LCallSums$Giving;[LCallSums$Lift;IJ)V"⟩
abbrev cX0_keep : ByteArray := prog_2_method_12_code
def yX0_keep : MethodName := ⟨RX0, "keep", "(J)V"⟩
abbrev cX0_tell : ByteArray := prog_2_method_13_code
def yX0_tell : MethodName := ⟨RX0, "tell", "(LCallSums$Rows;I)V"⟩
def RX1 : String := "CallSums$Lift"
def TX1 : u_T := fun k => match k with
  | 0 => ("CallSums$Lift", "speed", "I", true)
  | 1 => ("CallSums$Lift", "floor", "I", false)
  | 2 => ("CallSums$Lift", "second", "I", false)
  | 3 => ("CallSums$Lift", "least", "I", false)
  | 4 => ("CallSums$Lift", "greatest", "I", false)
  | 5 => ("CallSums$Lift", "asleep", "Z", false)
  | _ => ("CallSums$Lift", "rows", "LCallSums$Rows;", true)
def tyX1 : Nat → FieldType := fun k => match k with
  | 0 => .int
  | 1 => .int
  | 2 => .int
  | 3 => .int
  | 4 => .int
  | 5 => .boolean
  | _ => .object "CallSums$Rows"
abbrev wsX10 : List Cond := u_ws RX1 TX1 7
theorem nmX1 : ∀ a, a < 7 → ∀ b, b < 7 → a ≠ b → (TX1 a).2.1 ≠ (TX1 b).2.1 := by decide +kernel
theorem tyX1_ok : ∀ k, k < 7 → parseFieldDescriptor (TX1 k).2.2.1 = some (tyX1 k) := by decide +kernel
abbrev cX1_init : ByteArray := prog_3_method_1_code
def yX1_init : MethodName := ⟨RX1, "<init>", "(III)V"⟩
abbrev cX1_reaches : ByteArray := prog_3_method_2_code
def yX1_reaches : MethodName := ⟨RX1, "reaches", "(LCallSums$Ride;)Z"⟩
abbrev cX1_within : ByteArray := prog_3_method_3_code
def yX1_within : MethodName := ⟨RX1, "within", "(I)Z"⟩
def RX2 : String := "CallSums$Ride"
def TX2 : u_T := fun k => match k with
  | 0 => ("CallSums$Ride", "number", "I", true)
  | 1 => ("CallSums$Ride", "from", "I", true)
  | 2 => ("CallSums$Ride", "to", "I", true)
  | 3 => ("CallSums$Ride", "since", "I", true)
  | 4 => ("CallSums$Ride", "urgent", "Z", false)
  | _ => ("CallSums$Ride", "begunBy", "I", false)
def tyX2 : Nat → FieldType := fun k => match k with
  | 0 => .int
  | 1 => .int
  | 2 => .int
  | 3 => .int
  | 4 => .boolean
  | _ => .int
abbrev wsX20 : List Cond := u_ws RX2 TX2 6
theorem nmX2 : ∀ a, a < 6 → ∀ b, b < 6 → a ≠ b → (TX2 a).2.1 ≠ (TX2 b).2.1 := by decide +kernel
theorem tyX2_ok : ∀ k, k < 6 → parseFieldDescriptor (TX2 k).2.2.1 = some (tyX2 k) := by decide +kernel
abbrev cX2_init : ByteArray := prog_4_method_1_code
def yX2_init : MethodName := ⟨RX2, "<init>", "(IIII)V"⟩
def RX3 : String := "CallSums$Rows"
def TX3 : u_T := fun k => match k with
  | 0 => ("CallSums$Rows", "speed", "I", false)
  | 1 => ("CallSums$Rows", "floor", "I", false)
  | 2 => ("CallSums$Rows", "delay", "I", false)
  | 3 => ("CallSums$Rows", "begun", "I", false)
  | 4 => ("CallSums$Rows", "cost", "[J", true)
  | _ => ("CallSums$Rows", "first", "[I", true)
def tyX3 : Nat → FieldType := fun k => match k with
  | 0 => .int
  | 1 => .int
  | 2 => .int
  | 3 => .int
  | 4 => .array .long
  | _ => .array .int
abbrev wsX30 : List Cond := u_ws RX3 TX3 6
theorem nmX3 : ∀ a, a < 6 → ∀ b, b < 6 → a ≠ b → (TX3 a).2.1 ≠ (TX3 b).2.1 := by decide +kernel
theorem tyX3_ok : ∀ k, k < 6 → parseFieldDescriptor (TX3 k).2.2.1 = some (tyX3 k) := by decide +kernel
abbrev cX3_init : ByteArray := prog_5_method_1_code
def yX3_init : MethodName := ⟨RX3, "<init>", "()V"⟩
abbrev cX3_cell : ByteArray := prog_5_method_2_code
def yX3_cell : MethodName := ⟨RX3, "cell", "(II)I"⟩
abbrev cX3_costOf : ByteArray := prog_5_method_3_code
def yX3_costOf : MethodName := ⟨RX3, "costOf", "(I)J"⟩
abbrev cX3_firstOf : ByteArray := prog_5_method_4_code
def yX3_firstOf : MethodName := ⟨RX3, "firstOf", "(II)I"⟩
abbrev cX3_weigh : ByteArray := prog_5_method_5_code
def yX3_weigh : MethodName := ⟨RX3, "weigh", "(LCallSums$Giving;LCallSums$Lift;II)V"⟩
abbrev cX3_firsts : ByteArray := prog_5_method_6_code
def yX3_firsts : MethodName := ⟨RX3, "firsts", "(I)I"⟩
abbrev cX3_choose : ByteArray := prog_5_method_7_code
def yX3_choose : MethodName := ⟨RX3, "choose", "(LCallSums$Giving;III)V"⟩
abbrev cX3_secondsTo : ByteArray := prog_5_method_8_code
def yX3_secondsTo : MethodName := ⟨RX3, "secondsTo", "(LCallSums$Giving;II)I"⟩
abbrev cX3_secondsWith : ByteArray := prog_5_method_9_code
def yX3_secondsWith : MethodName := ⟨RX3, "secondsWith", "(LCallSums$Giving;I)I"⟩
def RX4 : String := "CallSums"
def TX4 : u_T := fun k => match k with
  | 0 => ("CallSums", "floors", "I", true)
  | 1 => ("CallSums", "lifts", "[LCallSums$Lift;", true)
  | 2 => ("CallSums", "liftCount", "I", false)
  | 3 => ("CallSums", "openRides", "[LCallSums$Ride;", true)
  | 4 => ("CallSums", "openCount", "I", false)
  | 5 => ("CallSums", "callCount", "I", false)
  | 6 => ("CallSums", "time", "I", false)
  | _ => ("CallSums", "giving", "LCallSums$Giving;", true)
def tyX4 : Nat → FieldType := fun k => match k with
  | 0 => .int
  | 1 => .array (.object "CallSums$Lift")
  | 2 => .int
  | 3 => .array (.object "CallSums$Ride")
  | 4 => .int
  | 5 => .int
  | 6 => .int
  | _ => .object "CallSums$Giving"
abbrev wsX40 : List Cond := u_ws RX4 TX4 8
theorem nmX4 : ∀ a, a < 8 → ∀ b, b < 8 → a ≠ b → (TX4 a).2.1 ≠ (TX4 b).2.1 := by decide +kernel
theorem tyX4_ok : ∀ k, k < 8 → parseFieldDescriptor (TX4 k).2.2.1 = some (tyX4 k) := by decide +kernel
abbrev cX4_init : ByteArray := prog_1_method_1_code
def yX4_init : MethodName := ⟨RX4, "<init>", "(I)V"⟩
abbrev cX4_car : ByteArray := prog_1_method_2_code
def yX4_car : MethodName := ⟨RX4, "car", "(II)I"⟩
abbrev cX4_free : ByteArray := prog_1_method_3_code
def yX4_free : MethodName := ⟨RX4, "free", "(III)V"⟩
abbrev cX4_zone : ByteArray := prog_1_method_4_code
def yX4_zone : MethodName := ⟨RX4, "zone", "(III)V"⟩
abbrev cX4_sleep : ByteArray := prog_1_method_5_code
def yX4_sleep : MethodName := ⟨RX4, "sleep", "(IZ)Z"⟩
abbrev cX4_call : ByteArray := prog_1_method_6_code
def yX4_call : MethodName := ⟨RX4, "call", "(II)I"⟩
abbrev cX4_urgent : ByteArray := prog_1_method_7_code
def yX4_urgent : MethodName := ⟨RX4, "urgent", "(IZ)Z"⟩
abbrev cX4_begin : ByteArray := prog_1_method_8_code
def yX4_begin : MethodName := ⟨RX4, "begin", "(II)Z"⟩
abbrev cX4_done : ByteArray := prog_1_method_9_code
def yX4_done : MethodName := ⟨RX4, "done", "(I)V"⟩
abbrev cX4_pass : ByteArray := prog_1_method_10_code
def yX4_pass : MethodName := ⟨RX4, "pass", "(I)I"⟩
abbrev cX4_give : ByteArray := prog_1_method_11_code
def yX4_give : MethodName := ⟨RX4, "give", "()J"⟩
abbrev cX4_carOf : ByteArray := prog_1_method_12_code
def yX4_carOf : MethodName := ⟨RX4, "carOf", "(I)I"⟩
abbrev cX4_turn : ByteArray := prog_1_method_13_code
def yX4_turn : MethodName := ⟨RX4, "turn", "(II)I"⟩
abbrev cX4_told : ByteArray := prog_1_method_14_code
def yX4_told : MethodName := ⟨RX4, "told", "(II)I"⟩
abbrev cX4_left : ByteArray := prog_1_method_15_code
def yX4_left : MethodName := ⟨RX4, "left", "()I"⟩
abbrev cX4_cars : ByteArray := prog_1_method_16_code
def yX4_cars : MethodName := ⟨RX4, "cars", "(I)I"⟩
abbrev cX4_open : ByteArray := prog_1_method_17_code
def yX4_open : MethodName := ⟨RX4, "open", "()I"⟩
abbrev cX4_weight : ByteArray := prog_1_method_18_code
def yX4_weight : MethodName := ⟨RX4, "weight", "(I)I"⟩
abbrev cX4_isFloor : ByteArray := prog_1_method_19_code
def yX4_isFloor : MethodName := ⟨RX4, "isFloor", "(I)Z"⟩
abbrev cX4_wasCalled : ByteArray := prog_1_method_20_code
def yX4_wasCalled : MethodName := ⟨RX4, "wasCalled", "(I)Z"⟩
abbrev cX4_liftOf : ByteArray := prog_1_method_21_code
def yX4_liftOf : MethodName := ⟨RX4, "liftOf", "(I)LCallSums$Lift;"⟩
abbrev cX4_openRide : ByteArray := prog_1_method_22_code
def yX4_openRide : MethodName := ⟨RX4, "openRide", "(I)LCallSums$Ride;"⟩
abbrev cX4_dropRide : ByteArray := prog_1_method_23_code
def yX4_dropRide : MethodName := ⟨RX4, "dropRide", "(I)V"⟩
abbrev cX4_hasBegunAnother : ByteArray := prog_1_method_24_code
def yX4_hasBegunAnother : MethodName := ⟨RX4, "hasBegunAnother", "(ILCallSums$Ride;)Z"⟩
abbrev cX4_ableCars : ByteArray := prog_1_method_25_code
def yX4_ableCars : MethodName := ⟨RX4, "ableCars", "(LCallSums$Ride;)I"⟩
abbrev cX4_weightNow : ByteArray := prog_1_method_26_code
def yX4_weightNow : MethodName := ⟨RX4, "weightNow", "(LCallSums$Ride;)I"⟩
def RX5 : String := "CallSumsModel"
def TX5 : u_T := fun k => match k with
  | 0 => ("CallSumsModel", "code", "I", false)
  | 1 => ("CallSumsModel", "floors", "I", true)
  | 2 => ("CallSumsModel", "time", "I", false)
  | 3 => ("CallSumsModel", "cars", "I", false)
  | 4 => ("CallSumsModel", "speeds", "[I", true)
  | 5 => ("CallSumsModel", "places", "[I", true)
  | 6 => ("CallSumsModel", "seconds", "[I", true)
  | 7 => ("CallSumsModel", "leasts", "[I", true)
  | 8 => ("CallSumsModel", "greatests", "[I", true)
  | 9 => ("CallSumsModel", "sleeps", "[Z", true)
  | 10 => ("CallSumsModel", "calls", "I", false)
  | 11 => ("CallSumsModel", "froms", "[I", true)
  | 12 => ("CallSumsModel", "tos", "[I", true)
  | 13 => ("CallSumsModel", "since", "[I", true)
  | 14 => ("CallSumsModel", "isOpen", "[Z", true)
  | 15 => ("CallSumsModel", "isUrgent", "[Z", true)
  | 16 => ("CallSumsModel", "begun", "[I", true)
  | 17 => ("CallSumsModel", "opens", "I", false)
  | 18 => ("CallSumsModel", "givenCars", "[I", true)
  | 19 => ("CallSumsModel", "picks", "[I", true)
  | 20 => ("CallSumsModel", "sets", "[I", true)
  | 21 => ("CallSumsModel", "weights", "[I", true)
  | 22 => ("CallSumsModel", "rows", "[I", true)
  | 23 => ("CallSumsModel", "rowSizes", "[I", true)
  | 24 => ("CallSumsModel", "many", "I", false)
  | 25 => ("CallSumsModel", "list", "[I", true)
  | 26 => ("CallSumsModel", "may", "[I", true)
  | 27 => ("CallSumsModel", "best", "[J", true)
  | 28 => ("CallSumsModel", "bestRows", "[I", true)
  | 29 => ("CallSumsModel", "order", "[I", true)
  | _ => ("CallSumsModel", "dealt", "[I", true)
def tyX5 : Nat → FieldType := fun k => match k with
  | 0 => .int
  | 1 => .int
  | 2 => .int
  | 3 => .int
  | 4 => .array .int
  | 5 => .array .int
  | 6 => .array .int
  | 7 => .array .int
  | 8 => .array .int
  | 9 => .array .boolean
  | 10 => .int
  | 11 => .array .int
  | 12 => .array .int
  | 13 => .array .int
  | 14 => .array .boolean
  | 15 => .array .boolean
  | 16 => .array .int
  | 17 => .int
  | 18 => .array .int
  | 19 => .array .int
  | 20 => .array .int
  | 21 => .array .int
  | 22 => .array .int
  | 23 => .array .int
  | 24 => .int
  | 25 => .array .int
  | 26 => .array .int
  | 27 => .array .long
  | 28 => .array .int
  | 29 => .array .int
  | _ => .array .int
abbrev wsX50 : List Cond := u_ws RX5 TX5 31
theorem nmX5 : ∀ a, a < 31 → ∀ b, b < 31 → a ≠ b → (TX5 a).2.1 ≠ (TX5 b).2.1 := by decide +kernel
theorem tyX5_ok : ∀ k, k < 31 → parseFieldDescriptor (TX5 k).2.2.1 = some (tyX5 k) := by decide +kernel
abbrev cX5_init : ByteArray := prog_7_method_1_code
def yX5_init : MethodName := ⟨RX5, "<init>", "(I)V"⟩
abbrev cX5_thrown : ByteArray := prog_7_method_2_code
def yX5_thrown : MethodName := ⟨RX5, "thrown", "()I"⟩
abbrev cX5_isIn : ByteArray := prog_7_method_3_code
def yX5_isIn : MethodName := ⟨RX5, "isIn", "(III)Z"⟩
abbrev cX5_isFloor : ByteArray := prog_7_method_4_code
def yX5_isFloor : MethodName := ⟨RX5, "isFloor", "(I)Z"⟩
abbrev cX5_isCar : ByteArray := prog_7_method_5_code
def yX5_isCar : MethodName := ⟨RX5, "isCar", "(I)Z"⟩
abbrev cX5_isOpenCall : ByteArray := prog_7_method_6_code
def yX5_isOpenCall : MethodName := ⟨RX5, "isOpenCall", "(I)Z"⟩
abbrev cX5_car : ByteArray := prog_7_method_7_code
def yX5_car : MethodName := ⟨RX5, "car", "(II)I"⟩
abbrev cX5_free : ByteArray := prog_7_method_8_code
def yX5_free : MethodName := ⟨RX5, "free", "(III)V"⟩
abbrev cX5_zone : ByteArray := prog_7_method_9_code
def yX5_zone : MethodName := ⟨RX5, "zone", "(III)V"⟩
abbrev cX5_sleep : ByteArray := prog_7_method_10_code
def yX5_sleep : MethodName := ⟨RX5, "sleep", "(IZ)Z"⟩
abbrev cX5_call : ByteArray := prog_7_method_11_code
def yX5_call : MethodName := ⟨RX5, "call", "(II)I"⟩
abbrev cX5_urgent : ByteArray := prog_7_method_12_code
def yX5_urgent : MethodName := ⟨RX5, "urgent", "(IZ)Z"⟩
abbrev cX5_isWithin : ByteArray := prog_7_method_13_code
def yX5_isWithin : MethodName := ⟨RX5, "isWithin", "(II)Z"⟩
abbrev cX5_begin : ByteArray := prog_7_method_14_code
def yX5_begin : MethodName := ⟨RX5, "begin", "(II)Z"⟩
abbrev cX5_done : ByteArray := prog_7_method_15_code
def yX5_done : MethodName := ⟨RX5, "done", "(I)V"⟩
abbrev cX5_pass : ByteArray := prog_7_method_16_code
def yX5_pass : MethodName := ⟨RX5, "pass", "(I)I"⟩
abbrev cX5_weightOf : ByteArray := prog_7_method_17_code
def yX5_weightOf : MethodName := ⟨RX5, "weightOf", "(I)I"⟩
abbrev cX5_carsOf : ByteArray := prog_7_method_18_code
def yX5_carsOf : MethodName := ⟨RX5, "carsOf", "(I)I"⟩
abbrev cX5_way : ByteArray := prog_7_method_19_code
def yX5_way : MethodName := ⟨RX5, "way", "(II)I"⟩
abbrev cX5_sumOf : ByteArray := prog_7_method_20_code
def yX5_sumOf : MethodName := ⟨RX5, "sumOf", "(IIZ)J"⟩
abbrev cX5_nextOrder : ByteArray := prog_7_method_21_code
def yX5_nextOrder : MethodName := ⟨RX5, "nextOrder", "(I)Z"⟩
abbrev cX5_findRows : ByteArray := prog_7_method_22_code
def yX5_findRows : MethodName := ⟨RX5, "findRows", "(II)V"⟩
abbrev cX5_setOf : ByteArray := prog_7_method_23_code
def yX5_setOf : MethodName := ⟨RX5, "setOf", "(I)I"⟩
abbrev cX5_give : ByteArray := prog_7_method_24_code
def yX5_give : MethodName := ⟨RX5, "give", "()J"⟩
abbrev cX5_deal : ByteArray := prog_7_method_25_code
def yX5_deal : MethodName := ⟨RX5, "deal", "(I)V"⟩
abbrev cX5_wasCall : ByteArray := prog_7_method_26_code
def yX5_wasCall : MethodName := ⟨RX5, "wasCall", "(I)Z"⟩
abbrev cX5_carOf : ByteArray := prog_7_method_27_code
def yX5_carOf : MethodName := ⟨RX5, "carOf", "(I)I"⟩
abbrev cX5_turn : ByteArray := prog_7_method_28_code
def yX5_turn : MethodName := ⟨RX5, "turn", "(II)I"⟩
abbrev cX5_told : ByteArray := prog_7_method_29_code
def yX5_told : MethodName := ⟨RX5, "told", "(II)I"⟩
abbrev cX5_left : ByteArray := prog_7_method_30_code
def yX5_left : MethodName := ⟨RX5, "left", "()I"⟩
abbrev cX5_cars : ByteArray := prog_7_method_31_code
def yX5_cars : MethodName := ⟨RX5, "cars", "(I)I"⟩
abbrev cX5_open : ByteArray := prog_7_method_32_code
def yX5_open : MethodName := ⟨RX5, "open", "()I"⟩
abbrev cX5_weight : ByteArray := prog_7_method_33_code
def yX5_weight : MethodName := ⟨RX5, "weight", "(I)I"⟩
def RJ9 : String := "java/lang/Math"
def TJ9 : u_T := fun k => match k with
  | _ => ("", "", "", false)
def tyJ9 : Nat → FieldType := fun k => match k with
  | _ => .int
abbrev wsJ90 : List Cond := u_ws RJ9 TJ9 0
theorem nmJ9 : ∀ a, a < 0 → ∀ b, b < 0 → a ≠ b → (TJ9 a).2.1 ≠ (TJ9 b).2.1 := by decide +kernel
theorem tyJ9_ok : ∀ k, k < 0 → parseFieldDescriptor (TJ9 k).2.2.1 = some (tyJ9 k) := by decide +kernel
abbrev cJ9_abs_0f7a4 : ByteArray := prog_11_method_59_code
def yJ9_abs_0f7a4 : MethodName := ⟨RJ9, "abs", "(I)I"⟩
abbrev cJ9_max_7cf53 : ByteArray := prog_11_method_65_code
def yJ9_max_7cf53 : MethodName := ⟨RJ9, "max", "(II)I"⟩
abbrev cJ9_min_7cf53 : ByteArray := prog_11_method_69_code
def yJ9_min_7cf53 : MethodName := ⟨RJ9, "min", "(II)I"⟩
def RJ0 : String := "java/lang/String"
def TJ0 : u_T := fun k => match k with
  | _ => ("", "", "", false)
def tyJ0 : Nat → FieldType := fun k => match k with
  | _ => .int
abbrev wsJ00 : List Cond := u_ws RJ0 TJ0 0
theorem nmJ0 : ∀ a, a < 0 → ∀ b, b < 0 → a ≠ b → (TJ0 a).2.1 ≠ (TJ0 b).2.1 := by decide +kernel
theorem tyJ0_ok : ∀ k, k < 0 → parseFieldDescriptor (TJ0 k).2.2.1 = some (tyJ0 k) := by decide +kernel
def RJ10 : String := "java/lang/System"
def TJ10 : u_T := fun k => match k with
  | _ => ("", "", "", false)
def tyJ10 : Nat → FieldType := fun k => match k with
  | _ => .int
abbrev wsJ100 : List Cond := u_ws RJ10 TJ10 0
theorem nmJ10 : ∀ a, a < 0 → ∀ b, b < 0 → a ≠ b → (TJ10 a).2.1 ≠ (TJ10 b).2.1 := by decide +kernel
theorem tyJ10_ok : ∀ k, k < 0 → parseFieldDescriptor (TJ10 k).2.2.1 = some (tyJ10 k) := by decide +kernel
def RL : String := "CallSumsLaw"
abbrev cL_cell : ByteArray := method_2_code
def yL_cell : MethodName := ⟨RL, "cell", "([II)I"⟩
abbrev cL_car : ByteArray := method_3_code
def yL_car : MethodName := ⟨RL, "car", "(LCallSums;II[J)I"⟩
abbrev cL_free : ByteArray := method_4_code
def yL_free : MethodName := ⟨RL, "free", "(LCallSums;III)I"⟩
abbrev cL_zone : ByteArray := method_5_code
def yL_zone : MethodName := ⟨RL, "zone", "(LCallSums;III)I"⟩
abbrev cL_sleep : ByteArray := method_6_code
def yL_sleep : MethodName := ⟨RL, "sleep", "(LCallSums;IZ[J)I"⟩
abbrev cL_call : ByteArray := method_7_code
def yL_call : MethodName := ⟨RL, "call", "(LCallSums;II[J)I"⟩
abbrev cL_urgent : ByteArray := method_8_code
def yL_urgent : MethodName := ⟨RL, "urgent", "(LCallSums;IZ[J)I"⟩
abbrev cL_begin : ByteArray := method_9_code
def yL_begin : MethodName := ⟨RL, "begin", "(LCallSums;II[J)I"⟩
abbrev cL_done : ByteArray := method_10_code
def yL_done : MethodName := ⟨RL, "done", "(LCallSums;I)I"⟩
abbrev cL_pass : ByteArray := method_11_code
def yL_pass : MethodName := ⟨RL, "pass", "(LCallSums;I[J)I"⟩
abbrev cL_carOf : ByteArray := method_12_code
def yL_carOf : MethodName := ⟨RL, "carOf", "(LCallSums;I[J)I"⟩
abbrev cL_turn : ByteArray := method_13_code
def yL_turn : MethodName := ⟨RL, "turn", "(LCallSums;II[J)I"⟩
abbrev cL_told : ByteArray := method_14_code
def yL_told : MethodName := ⟨RL, "told", "(LCallSums;II[J)I"⟩
abbrev cL_cars : ByteArray := method_15_code
def yL_cars : MethodName := ⟨RL, "cars", "(LCallSums;I[J)I"⟩
abbrev cL_weight : ByteArray := method_16_code
def yL_weight : MethodName := ⟨RL, "weight", "(LCallSums;I[J)I"⟩
abbrev cL_law : ByteArray := code
def yL_law : MethodName := ⟨RL, "law", "([I)Z"⟩
abbrev vwCl : List vw_C := [(RX0, TX0, 15), (RX1, TX1, 7), (RX2, TX2, 6), (RX3, TX3, 6), (RX4, TX4, 8), (RX5, TX5, 31)]
/-- the tables' words that stay -/
def UW : List Cond := lw_tbl.filter goodWord
theorem uw_good : ∀ w ∈ UW, ((w.onTables && w.keeps) = true ∨ ∃ ty, w = .arrayClass ty) := fun w h => good_of_word (List.mem_filter.mp h).2
theorem uw_in : ∀ w ∈ UW, w ∈ lw_tbl := fun w h => (List.mem_filter.mp h).1
theorem mt1 {i : Nat} {w : Cond} (h : tables_1_1[i]? = some w) (hg : goodWord w = true) : w ∈ UW := List.mem_filter.mpr ⟨List.mem_append_right _ (List.mem_append_left _ (List.mem_of_getElem? h)), hg⟩
theorem mt2 {i : Nat} {w : Cond} (h : tables_1_2[i]? = some w) (hg : goodWord w = true) : w ∈ UW := List.mem_filter.mpr ⟨List.mem_append_right _ (List.mem_append_right _ (List.mem_append_left _ (List.mem_of_getElem? h))), hg⟩
theorem mt3 {i : Nat} {w : Cond} (h : tables_1_3[i]? = some w) (hg : goodWord w = true) : w ∈ UW := List.mem_filter.mpr ⟨List.mem_append_right _ (List.mem_append_right _ (List.mem_append_right _ (List.mem_append_left _ (List.mem_of_getElem? h)))), hg⟩
theorem mt4 {i : Nat} {w : Cond} (h : tables_1_4[i]? = some w) (hg : goodWord w = true) : w ∈ UW := List.mem_filter.mpr ⟨List.mem_append_right _ (List.mem_append_right _ (List.mem_append_right _ (List.mem_append_right _ (List.mem_of_getElem? h)))), hg⟩
theorem mp1 {i : Nat} {q : MethodName × Nat} (h : lw_privs_1[i]? = some q) : Cond.selects q.1.cls q.1 q.1 ∈ UW := List.mem_filter.mpr ⟨List.mem_append_left _ (List.mem_map.mpr ⟨q, List.mem_append_left _ (List.mem_of_getElem? h), rfl⟩), rfl⟩
theorem mp2 {i : Nat} {q : MethodName × Nat} (h : lw_privs_2[i]? = some q) : Cond.selects q.1.cls q.1 q.1 ∈ UW := List.mem_filter.mpr ⟨List.mem_append_left _ (List.mem_map.mpr ⟨q, List.mem_append_right _ (List.mem_of_getElem? h), rfl⟩), rfl⟩
abbrev Mi : Type := MethodName × ByteArray × Nat × Option FieldType
abbrev miX4_init : Mi := (yX4_init, cX4_init, 2, none)
abbrev miX0_init : Mi := (yX0_init, cX0_init, 1, none)
abbrev miX0_clearRows : Mi := (yX0_clearRows, cX0_clearRows, 2, none)
abbrev miJ9_min_7cf53 : Mi := (yJ9_min_7cf53, cJ9_min_7cf53, 2, (some .int))
abbrev miJ9_max_7cf53 : Mi := (yJ9_max_7cf53, cJ9_max_7cf53, 2, (some .int))
abbrev miX4_give : Mi := (yX4_give, cX4_give, 6, (some .long))
abbrev miX0_clear : Mi := (yX0_clear, cX0_clear, 1, none)
abbrev miX4_ableCars : Mi := (yX4_ableCars, cX4_ableCars, 6, (some .int))
abbrev miX1_reaches : Mi := (yX1_reaches, cX1_reaches, 2, (some .boolean))
abbrev miX1_within : Mi := (yX1_within, cX1_within, 2, (some .boolean))
abbrev miX4_weightNow : Mi := (yX4_weightNow, cX4_weightNow, 3, (some .int))
abbrev miX0_add : Mi := (yX0_add, cX0_add, 4, none)
abbrev miX0_make : Mi := (yX0_make, cX0_make, 5, (some .long))
abbrev miX0_weighSets : Mi := (yX0_weighSets, cX0_weighSets, 3, none)
abbrev miX3_weigh : Mi := (yX3_weigh, cX3_weigh, 8, none)
abbrev miX0_begunSlot : Mi := (yX0_begunSlot, cX0_begunSlot, 3, (some .int))
abbrev miX0_slotsFor : Mi := (yX0_slotsFor, cX0_slotsFor, 4, (some .int))
abbrev miX3_choose : Mi := (yX3_choose, cX3_choose, 12, none)
abbrev miX3_cell : Mi := (yX3_cell, cX3_cell, 2, (some .int))
abbrev miX3_secondsTo : Mi := (yX3_secondsTo, cX3_secondsTo, 4, (some .int))
abbrev miJ9_abs_0f7a4 : Mi := (yJ9_abs_0f7a4, cJ9_abs_0f7a4, 1, (some .int))
abbrev miX3_secondsWith : Mi := (yX3_secondsWith, cX3_secondsWith, 3, (some .int))
abbrev miX3_firsts : Mi := (yX3_firsts, cX3_firsts, 2, (some .int))
abbrev miX0_place : Mi := (yX0_place, cX0_place, 11, none)
abbrev miX0_keep : Mi := (yX0_keep, cX0_keep, 3, none)
abbrev miX3_costOf : Mi := (yX3_costOf, cX3_costOf, 2, (some .long))
abbrev miX0_tell : Mi := (yX0_tell, cX0_tell, 8, none)
abbrev miX3_firstOf : Mi := (yX3_firstOf, cX3_firstOf, 3, (some .int))
abbrev miX4_left : Mi := (yX4_left, cX4_left, 6, (some .int))
abbrev miX4_open : Mi := (yX4_open, cX4_open, 1, (some .int))
abbrev miL_cell : Mi := (yL_cell, cL_cell, 2, (some .int))
abbrev miX4_car : Mi := (yX4_car, cX4_car, 3, (some .int))
abbrev miX4_isFloor : Mi := (yX4_isFloor, cX4_isFloor, 2, (some .boolean))
abbrev miX1_init : Mi := (yX1_init, cX1_init, 4, none)
abbrev miX3_init : Mi := (yX3_init, cX3_init, 1, none)
abbrev miX4_free : Mi := (yX4_free, cX4_free, 5, none)
abbrev miX4_liftOf : Mi := (yX4_liftOf, cX4_liftOf, 2, (some (.object "CallSums$Lift")))
abbrev miX4_zone : Mi := (yX4_zone, cX4_zone, 5, none)
abbrev miX4_sleep : Mi := (yX4_sleep, cX4_sleep, 5, (some .boolean))
abbrev miX4_call : Mi := (yX4_call, cX4_call, 3, (some .int))
abbrev miX2_init : Mi := (yX2_init, cX2_init, 5, none)
abbrev miX4_urgent : Mi := (yX4_urgent, cX4_urgent, 5, (some .boolean))
abbrev miX4_openRide : Mi := (yX4_openRide, cX4_openRide, 6, (some (.object "CallSums$Ride")))
abbrev miX4_begin : Mi := (yX4_begin, cX4_begin, 5, (some .boolean))
abbrev miX4_hasBegunAnother : Mi := (yX4_hasBegunAnother, cX4_hasBegunAnother, 7, (some .boolean))
abbrev miX4_done : Mi := (yX4_done, cX4_done, 2, none)
abbrev miX4_dropRide : Mi := (yX4_dropRide, cX4_dropRide, 5, none)
abbrev miX4_pass : Mi := (yX4_pass, cX4_pass, 2, (some .int))
abbrev miX4_carOf : Mi := (yX4_carOf, cX4_carOf, 3, (some .int))
abbrev miX4_wasCalled : Mi := (yX4_wasCalled, cX4_wasCalled, 2, (some .boolean))
abbrev miX0_slotOf : Mi := (yX0_slotOf, cX0_slotOf, 3, (some .int))
abbrev miX4_turn : Mi := (yX4_turn, cX4_turn, 3, (some .int))
abbrev miX0_inRow : Mi := (yX0_inRow, cX0_inRow, 3, (some .int))
abbrev miX4_told : Mi := (yX4_told, cX4_told, 4, (some .int))
abbrev miX4_cars : Mi := (yX4_cars, cX4_cars, 3, (some .int))
abbrev miX4_weight : Mi := (yX4_weight, cX4_weight, 3, (some .int))
abbrev miX5_init : Mi := (yX5_init, cX5_init, 3, none)
abbrev miX5_thrown : Mi := (yX5_thrown, cX5_thrown, 1, (some .int))
abbrev miX5_car : Mi := (yX5_car, cX5_car, 3, (some .int))
abbrev miX5_isFloor : Mi := (yX5_isFloor, cX5_isFloor, 2, (some .boolean))
abbrev miX5_isIn : Mi := (yX5_isIn, cX5_isIn, 3, (some .boolean))
abbrev miX5_free : Mi := (yX5_free, cX5_free, 4, none)
abbrev miX5_isCar : Mi := (yX5_isCar, cX5_isCar, 2, (some .boolean))
abbrev miX5_zone : Mi := (yX5_zone, cX5_zone, 4, none)
abbrev miX5_sleep : Mi := (yX5_sleep, cX5_sleep, 4, (some .boolean))
abbrev miX5_call : Mi := (yX5_call, cX5_call, 3, (some .int))
abbrev miX5_urgent : Mi := (yX5_urgent, cX5_urgent, 4, (some .boolean))
abbrev miX5_isOpenCall : Mi := (yX5_isOpenCall, cX5_isOpenCall, 2, (some .boolean))
abbrev miX5_begin : Mi := (yX5_begin, cX5_begin, 5, (some .boolean))
abbrev miX5_isWithin : Mi := (yX5_isWithin, cX5_isWithin, 3, (some .boolean))
abbrev miX5_done : Mi := (yX5_done, cX5_done, 2, none)
abbrev miX5_pass : Mi := (yX5_pass, cX5_pass, 2, (some .int))
abbrev miX5_give : Mi := (yX5_give, cX5_give, 10, (some .long))
abbrev miX5_carsOf : Mi := (yX5_carsOf, cX5_carsOf, 5, (some .int))
abbrev miX5_findRows : Mi := (yX5_findRows, cX5_findRows, 10, none)
abbrev miX5_sumOf : Mi := (yX5_sumOf, cX5_sumOf, 12, (some .long))
abbrev miX5_way : Mi := (yX5_way, cX5_way, 2, (some .int))
abbrev miX5_weightOf : Mi := (yX5_weightOf, cX5_weightOf, 2, (some .int))
abbrev miX5_nextOrder : Mi := (yX5_nextOrder, cX5_nextOrder, 7, (some .boolean))
abbrev miX5_deal : Mi := (yX5_deal, cX5_deal, 4, none)
abbrev miX5_setOf : Mi := (yX5_setOf, cX5_setOf, 4, (some .int))
abbrev miX5_carOf : Mi := (yX5_carOf, cX5_carOf, 2, (some .int))
abbrev miX5_wasCall : Mi := (yX5_wasCall, cX5_wasCall, 2, (some .boolean))
abbrev miX5_turn : Mi := (yX5_turn, cX5_turn, 3, (some .int))
abbrev miX5_told : Mi := (yX5_told, cX5_told, 3, (some .int))
abbrev miX5_left : Mi := (yX5_left, cX5_left, 3, (some .int))
abbrev miX5_cars : Mi := (yX5_cars, cX5_cars, 2, (some .int))
abbrev miX5_open : Mi := (yX5_open, cX5_open, 1, (some .int))
abbrev miX5_weight : Mi := (yX5_weight, cX5_weight, 2, (some .int))
/-- the link of a field: own's pool entry idx is field kf of class ci, of type ty, final or not -/
def FL (own : String) (idx ci kf : Nat) (ty : FieldType) (fin : Bool) : Prop := ∃ (C : String) (T : u_T) (N : Nat), vwCl[ci]? = some (C, T, N) ∧ kf < N ∧ Cond.fieldLink own idx C (T kf).2.1 (T kf).2.2.1 ∈ UW ∧ parseFieldDescriptor (T kf).2.2.1 = some ty ∧ (T kf).2.2.2 = fin ∧ (T kf).1 = C
theorem fX0_9 : FL RX0 9 0 0 (.array .int) true := ⟨RX0, TX0, 15, rfl, by decide, mt1 (i := 36) rfl rfl, by decide +kernel, rfl, rfl⟩
theorem fX3_75 : FL RX3 75 0 0 (.array .int) true := ⟨RX0, TX0, 15, rfl, by decide, mt1 (i := 37) rfl rfl, by decide +kernel, rfl, rfl⟩
theorem fX0_15 : FL RX0 15 0 1 (.array .int) true := ⟨RX0, TX0, 15, rfl, by decide, mt1 (i := 38) rfl rfl, by decide +kernel, rfl, rfl⟩
theorem fX3_72 : FL RX3 72 0 1 (.array .int) true := ⟨RX0, TX0, 15, rfl, by decide, mt1 (i := 39) rfl rfl, by decide +kernel, rfl, rfl⟩
theorem fX0_18 : FL RX0 18 0 2 (.array .int) true := ⟨RX0, TX0, 15, rfl, by decide, mt1 (i := 40) rfl rfl, by decide +kernel, rfl, rfl⟩
theorem fX3_66 : FL RX3 66 0 2 (.array .int) true := ⟨RX0, TX0, 15, rfl, by decide, mt1 (i := 41) rfl rfl, by decide +kernel, rfl, rfl⟩
theorem fX4_178 : FL RX4 178 0 2 (.array .int) true := ⟨RX0, TX0, 15, rfl, by decide, mt1 (i := 42) rfl rfl, by decide +kernel, rfl, rfl⟩
theorem fX0_21 : FL RX0 21 0 3 (.array .int) true := ⟨RX0, TX0, 15, rfl, by decide, mt1 (i := 43) rfl rfl, by decide +kernel, rfl, rfl⟩
theorem fX4_161 : FL RX4 161 0 3 (.array .int) true := ⟨RX0, TX0, 15, rfl, by decide, mt1 (i := 44) rfl rfl, by decide +kernel, rfl, rfl⟩
theorem fX0_24 : FL RX0 24 0 4 (.array .int) true := ⟨RX0, TX0, 15, rfl, by decide, mt1 (i := 45) rfl rfl, by decide +kernel, rfl, rfl⟩
theorem fX4_172 : FL RX4 172 0 4 (.array .int) true := ⟨RX0, TX0, 15, rfl, by decide, mt1 (i := 46) rfl rfl, by decide +kernel, rfl, rfl⟩
theorem fX0_27 : FL RX0 27 0 5 (.array .int) true := ⟨RX0, TX0, 15, rfl, by decide, mt1 (i := 47) rfl rfl, by decide +kernel, rfl, rfl⟩
theorem fX4_175 : FL RX4 175 0 5 (.array .int) true := ⟨RX0, TX0, 15, rfl, by decide, mt1 (i := 48) rfl rfl, by decide +kernel, rfl, rfl⟩
theorem fX0_32 : FL RX0 32 0 6 (.array .int) true := ⟨RX0, TX0, 15, rfl, by decide, mt1 (i := 49) rfl rfl, by decide +kernel, rfl, rfl⟩
theorem fX3_69 : FL RX3 69 0 6 (.array .int) true := ⟨RX0, TX0, 15, rfl, by decide, mt1 (i := 50) rfl rfl, by decide +kernel, rfl, rfl⟩
theorem fX0_56 : FL RX0 56 0 7 (.int) false := ⟨RX0, TX0, 15, rfl, by decide, mt1 (i := 51) rfl rfl, by decide +kernel, rfl, rfl⟩
theorem fX0_35 : FL RX0 35 0 8 (.array .int) true := ⟨RX0, TX0, 15, rfl, by decide, mt1 (i := 52) rfl rfl, by decide +kernel, rfl, rfl⟩
theorem fX0_38 : FL RX0 38 0 9 (.array .int) true := ⟨RX0, TX0, 15, rfl, by decide, mt1 (i := 53) rfl rfl, by decide +kernel, rfl, rfl⟩
theorem fX0_41 : FL RX0 41 0 10 (.array .int) true := ⟨RX0, TX0, 15, rfl, by decide, mt1 (i := 54) rfl rfl, by decide +kernel, rfl, rfl⟩
theorem fX0_44 : FL RX0 44 0 11 (.array .int) true := ⟨RX0, TX0, 15, rfl, by decide, mt1 (i := 55) rfl rfl, by decide +kernel, rfl, rfl⟩
theorem fX0_47 : FL RX0 47 0 12 (.array .int) true := ⟨RX0, TX0, 15, rfl, by decide, mt1 (i := 56) rfl rfl, by decide +kernel, rfl, rfl⟩
theorem fX0_50 : FL RX0 50 0 13 (.array .int) true := ⟨RX0, TX0, 15, rfl, by decide, mt1 (i := 57) rfl rfl, by decide +kernel, rfl, rfl⟩
theorem fX0_94 : FL RX0 94 0 14 (.long) false := ⟨RX0, TX0, 15, rfl, by decide, mt1 (i := 58) rfl rfl, by decide +kernel, rfl, rfl⟩
theorem fX4_37 : FL RX4 37 4 0 (.int) true := ⟨RX4, TX4, 8, rfl, by decide, mt1 (i := 97) rfl rfl, by decide +kernel, rfl, rfl⟩
theorem fX4_11 : FL RX4 11 4 1 (.array (.object "CallSums$Lift")) true := ⟨RX4, TX4, 8, rfl, by decide, mt1 (i := 98) rfl rfl, by decide +kernel, rfl, rfl⟩
theorem fX4_52 : FL RX4 52 4 2 (.int) false := ⟨RX4, TX4, 8, rfl, by decide, mt1 (i := 99) rfl rfl, by decide +kernel, rfl, rfl⟩
theorem fX4_17 : FL RX4 17 4 3 (.array (.object "CallSums$Ride")) true := ⟨RX4, TX4, 8, rfl, by decide, mt1 (i := 100) rfl rfl, by decide +kernel, rfl, rfl⟩
theorem fX4_92 : FL RX4 92 4 4 (.int) false := ⟨RX4, TX4, 8, rfl, by decide, mt1 (i := 101) rfl rfl, by decide +kernel, rfl, rfl⟩
theorem fX4_95 : FL RX4 95 4 5 (.int) false := ⟨RX4, TX4, 8, rfl, by decide, mt1 (i := 102) rfl rfl, by decide +kernel, rfl, rfl⟩
theorem fX4_100 : FL RX4 100 4 6 (.int) false := ⟨RX4, TX4, 8, rfl, by decide, mt1 (i := 103) rfl rfl, by decide +kernel, rfl, rfl⟩
theorem fX4_24 : FL RX4 24 4 7 (.object "CallSums$Giving") true := ⟨RX4, TX4, 8, rfl, by decide, mt1 (i := 104) rfl rfl, by decide +kernel, rfl, rfl⟩
theorem fX3_29 : FL RX3 29 3 0 (.int) false := ⟨RX3, TX3, 6, rfl, by decide, mt2 (i := 97) rfl rfl, by decide +kernel, rfl, rfl⟩
theorem fX3_33 : FL RX3 33 3 1 (.int) false := ⟨RX3, TX3, 6, rfl, by decide, mt2 (i := 98) rfl rfl, by decide +kernel, rfl, rfl⟩
theorem fX3_34 : FL RX3 34 3 2 (.int) false := ⟨RX3, TX3, 6, rfl, by decide, mt2 (i := 99) rfl rfl, by decide +kernel, rfl, rfl⟩
theorem fX3_43 : FL RX3 43 3 3 (.int) false := ⟨RX3, TX3, 6, rfl, by decide, mt2 (i := 100) rfl rfl, by decide +kernel, rfl, rfl⟩
theorem fX3_11 : FL RX3 11 3 4 (.array .long) true := ⟨RX3, TX3, 6, rfl, by decide, mt2 (i := 101) rfl rfl, by decide +kernel, rfl, rfl⟩
theorem fX3_15 : FL RX3 15 3 5 (.array .int) true := ⟨RX3, TX3, 6, rfl, by decide, mt2 (i := 102) rfl rfl, by decide +kernel, rfl, rfl⟩
theorem fX1_16 : FL RX1 16 1 0 (.int) true := ⟨RX1, TX1, 7, rfl, by decide, mt2 (i := 117) rfl rfl, by decide +kernel, rfl, rfl⟩
theorem fX3_23 : FL RX3 23 1 0 (.int) true := ⟨RX1, TX1, 7, rfl, by decide, mt2 (i := 118) rfl rfl, by decide +kernel, rfl, rfl⟩
theorem fX1_20 : FL RX1 20 1 1 (.int) false := ⟨RX1, TX1, 7, rfl, by decide, mt2 (i := 119) rfl rfl, by decide +kernel, rfl, rfl⟩
theorem fX4_70 : FL RX4 70 1 1 (.int) false := ⟨RX1, TX1, 7, rfl, by decide, mt2 (i := 120) rfl rfl, by decide +kernel, rfl, rfl⟩
theorem fX3_30 : FL RX3 30 1 1 (.int) false := ⟨RX1, TX1, 7, rfl, by decide, mt2 (i := 121) rfl rfl, by decide +kernel, rfl, rfl⟩
theorem fX4_73 : FL RX4 73 1 2 (.int) false := ⟨RX1, TX1, 7, rfl, by decide, mt2 (i := 122) rfl rfl, by decide +kernel, rfl, rfl⟩
theorem fX0_79 : FL RX0 79 1 2 (.int) false := ⟨RX1, TX1, 7, rfl, by decide, mt2 (i := 123) rfl rfl, by decide +kernel, rfl, rfl⟩
theorem fX1_38 : FL RX1 38 1 3 (.int) false := ⟨RX1, TX1, 7, rfl, by decide, mt2 (i := 124) rfl rfl, by decide +kernel, rfl, rfl⟩
theorem fX4_78 : FL RX4 78 1 3 (.int) false := ⟨RX1, TX1, 7, rfl, by decide, mt2 (i := 125) rfl rfl, by decide +kernel, rfl, rfl⟩
theorem fX1_23 : FL RX1 23 1 4 (.int) false := ⟨RX1, TX1, 7, rfl, by decide, mt2 (i := 126) rfl rfl, by decide +kernel, rfl, rfl⟩
theorem fX4_81 : FL RX4 81 1 4 (.int) false := ⟨RX1, TX1, 7, rfl, by decide, mt2 (i := 127) rfl rfl, by decide +kernel, rfl, rfl⟩
theorem fX4_86 : FL RX4 86 1 5 (.boolean) false := ⟨RX1, TX1, 7, rfl, by decide, mt2 (i := 128) rfl rfl, by decide +kernel, rfl, rfl⟩
theorem fX1_10 : FL RX1 10 1 6 (.object "CallSums$Rows") true := ⟨RX1, TX1, 7, rfl, by decide, mt2 (i := 129) rfl rfl, by decide +kernel, rfl, rfl⟩
theorem fX0_73 : FL RX0 73 1 6 (.object "CallSums$Rows") true := ⟨RX1, TX1, 7, rfl, by decide, mt2 (i := 130) rfl rfl, by decide +kernel, rfl, rfl⟩
theorem fX2_15 : FL RX2 15 2 0 (.int) true := ⟨RX2, TX2, 6, rfl, by decide, mt2 (i := 189) rfl rfl, by decide +kernel, rfl, rfl⟩
theorem fX0_60 : FL RX0 60 2 0 (.int) true := ⟨RX2, TX2, 6, rfl, by decide, mt2 (i := 190) rfl rfl, by decide +kernel, rfl, rfl⟩
theorem fX4_181 : FL RX4 181 2 0 (.int) true := ⟨RX2, TX2, 6, rfl, by decide, mt2 (i := 191) rfl rfl, by decide +kernel, rfl, rfl⟩
theorem fX2_18 : FL RX2 18 2 1 (.int) true := ⟨RX2, TX2, 6, rfl, by decide, mt2 (i := 192) rfl rfl, by decide +kernel, rfl, rfl⟩
theorem fX1_26 : FL RX1 26 2 1 (.int) true := ⟨RX2, TX2, 6, rfl, by decide, mt2 (i := 193) rfl rfl, by decide +kernel, rfl, rfl⟩
theorem fX0_64 : FL RX0 64 2 1 (.int) true := ⟨RX2, TX2, 6, rfl, by decide, mt2 (i := 194) rfl rfl, by decide +kernel, rfl, rfl⟩
theorem fX2_21 : FL RX2 21 2 2 (.int) true := ⟨RX2, TX2, 6, rfl, by decide, mt2 (i := 195) rfl rfl, by decide +kernel, rfl, rfl⟩
theorem fX1_35 : FL RX1 35 2 2 (.int) true := ⟨RX2, TX2, 6, rfl, by decide, mt2 (i := 196) rfl rfl, by decide +kernel, rfl, rfl⟩
theorem fX0_66 : FL RX0 66 2 2 (.int) true := ⟨RX2, TX2, 6, rfl, by decide, mt2 (i := 197) rfl rfl, by decide +kernel, rfl, rfl⟩
theorem fX2_24 : FL RX2 24 2 3 (.int) true := ⟨RX2, TX2, 6, rfl, by decide, mt2 (i := 198) rfl rfl, by decide +kernel, rfl, rfl⟩
theorem fX4_184 : FL RX4 184 2 3 (.int) true := ⟨RX2, TX2, 6, rfl, by decide, mt2 (i := 199) rfl rfl, by decide +kernel, rfl, rfl⟩
theorem fX4_112 : FL RX4 112 2 4 (.boolean) false := ⟨RX2, TX2, 6, rfl, by decide, mt2 (i := 200) rfl rfl, by decide +kernel, rfl, rfl⟩
theorem fX2_9 : FL RX2 9 2 5 (.int) false := ⟨RX2, TX2, 6, rfl, by decide, mt2 (i := 201) rfl rfl, by decide +kernel, rfl, rfl⟩
theorem fX0_68 : FL RX0 68 2 5 (.int) false := ⟨RX2, TX2, 6, rfl, by decide, mt2 (i := 202) rfl rfl, by decide +kernel, rfl, rfl⟩
theorem fX4_125 : FL RX4 125 2 5 (.int) false := ⟨RX2, TX2, 6, rfl, by decide, mt2 (i := 203) rfl rfl, by decide +kernel, rfl, rfl⟩
theorem fX5_88 : FL RX5 88 5 0 (.int) false := ⟨RX5, TX5, 31, rfl, by decide, mt3 (i := 76) rfl rfl, by decide +kernel, rfl, rfl⟩
theorem fX5_84 : FL RX5 84 5 1 (.int) true := ⟨RX5, TX5, 31, rfl, by decide, mt3 (i := 77) rfl rfl, by decide +kernel, rfl, rfl⟩
theorem fX5_105 : FL RX5 105 5 2 (.int) false := ⟨RX5, TX5, 31, rfl, by decide, mt3 (i := 78) rfl rfl, by decide +kernel, rfl, rfl⟩
theorem fX5_95 : FL RX5 95 5 3 (.int) false := ⟨RX5, TX5, 31, rfl, by decide, mt3 (i := 79) rfl rfl, by decide +kernel, rfl, rfl⟩
theorem fX5_7 : FL RX5 7 5 4 (.array .int) true := ⟨RX5, TX5, 31, rfl, by decide, mt3 (i := 80) rfl rfl, by decide +kernel, rfl, rfl⟩
theorem fX5_13 : FL RX5 13 5 5 (.array .int) true := ⟨RX5, TX5, 31, rfl, by decide, mt3 (i := 81) rfl rfl, by decide +kernel, rfl, rfl⟩
theorem fX5_16 : FL RX5 16 5 6 (.array .int) true := ⟨RX5, TX5, 31, rfl, by decide, mt3 (i := 82) rfl rfl, by decide +kernel, rfl, rfl⟩
theorem fX5_19 : FL RX5 19 5 7 (.array .int) true := ⟨RX5, TX5, 31, rfl, by decide, mt3 (i := 83) rfl rfl, by decide +kernel, rfl, rfl⟩
theorem fX5_22 : FL RX5 22 5 8 (.array .int) true := ⟨RX5, TX5, 31, rfl, by decide, mt3 (i := 84) rfl rfl, by decide +kernel, rfl, rfl⟩
theorem fX5_25 : FL RX5 25 5 9 (.array .boolean) true := ⟨RX5, TX5, 31, rfl, by decide, mt3 (i := 85) rfl rfl, by decide +kernel, rfl, rfl⟩
theorem fX5_98 : FL RX5 98 5 10 (.int) false := ⟨RX5, TX5, 31, rfl, by decide, mt3 (i := 86) rfl rfl, by decide +kernel, rfl, rfl⟩
theorem fX5_29 : FL RX5 29 5 11 (.array .int) true := ⟨RX5, TX5, 31, rfl, by decide, mt3 (i := 87) rfl rfl, by decide +kernel, rfl, rfl⟩
theorem fX5_32 : FL RX5 32 5 12 (.array .int) true := ⟨RX5, TX5, 31, rfl, by decide, mt3 (i := 88) rfl rfl, by decide +kernel, rfl, rfl⟩
theorem fX5_35 : FL RX5 35 5 13 (.array .int) true := ⟨RX5, TX5, 31, rfl, by decide, mt3 (i := 89) rfl rfl, by decide +kernel, rfl, rfl⟩
theorem fX5_38 : FL RX5 38 5 14 (.array .boolean) true := ⟨RX5, TX5, 31, rfl, by decide, mt3 (i := 90) rfl rfl, by decide +kernel, rfl, rfl⟩
theorem fX5_41 : FL RX5 41 5 15 (.array .boolean) true := ⟨RX5, TX5, 31, rfl, by decide, mt3 (i := 91) rfl rfl, by decide +kernel, rfl, rfl⟩
theorem fX5_44 : FL RX5 44 5 16 (.array .int) true := ⟨RX5, TX5, 31, rfl, by decide, mt3 (i := 92) rfl rfl, by decide +kernel, rfl, rfl⟩
theorem fX5_112 : FL RX5 112 5 17 (.int) false := ⟨RX5, TX5, 31, rfl, by decide, mt3 (i := 93) rfl rfl, by decide +kernel, rfl, rfl⟩
theorem fX5_47 : FL RX5 47 5 18 (.array .int) true := ⟨RX5, TX5, 31, rfl, by decide, mt3 (i := 94) rfl rfl, by decide +kernel, rfl, rfl⟩
theorem fX5_50 : FL RX5 50 5 19 (.array .int) true := ⟨RX5, TX5, 31, rfl, by decide, mt3 (i := 95) rfl rfl, by decide +kernel, rfl, rfl⟩
theorem fX5_53 : FL RX5 53 5 20 (.array .int) true := ⟨RX5, TX5, 31, rfl, by decide, mt3 (i := 96) rfl rfl, by decide +kernel, rfl, rfl⟩
theorem fX5_56 : FL RX5 56 5 21 (.array .int) true := ⟨RX5, TX5, 31, rfl, by decide, mt3 (i := 97) rfl rfl, by decide +kernel, rfl, rfl⟩
theorem fX5_59 : FL RX5 59 5 22 (.array .int) true := ⟨RX5, TX5, 31, rfl, by decide, mt3 (i := 98) rfl rfl, by decide +kernel, rfl, rfl⟩
theorem fX5_62 : FL RX5 62 5 23 (.array .int) true := ⟨RX5, TX5, 31, rfl, by decide, mt3 (i := 99) rfl rfl, by decide +kernel, rfl, rfl⟩
theorem fX5_130 : FL RX5 130 5 24 (.int) false := ⟨RX5, TX5, 31, rfl, by decide, mt3 (i := 100) rfl rfl, by decide +kernel, rfl, rfl⟩
theorem fX5_65 : FL RX5 65 5 25 (.array .int) true := ⟨RX5, TX5, 31, rfl, by decide, mt3 (i := 101) rfl rfl, by decide +kernel, rfl, rfl⟩
theorem fX5_68 : FL RX5 68 5 26 (.array .int) true := ⟨RX5, TX5, 31, rfl, by decide, mt3 (i := 102) rfl rfl, by decide +kernel, rfl, rfl⟩
theorem fX5_71 : FL RX5 71 5 27 (.array .long) true := ⟨RX5, TX5, 31, rfl, by decide, mt3 (i := 103) rfl rfl, by decide +kernel, rfl, rfl⟩
theorem fX5_75 : FL RX5 75 5 28 (.array .int) true := ⟨RX5, TX5, 31, rfl, by decide, mt3 (i := 104) rfl rfl, by decide +kernel, rfl, rfl⟩
theorem fX5_78 : FL RX5 78 5 29 (.array .int) true := ⟨RX5, TX5, 31, rfl, by decide, mt3 (i := 105) rfl rfl, by decide +kernel, rfl, rfl⟩
theorem fX5_81 : FL RX5 81 5 30 (.array .int) true := ⟨RX5, TX5, 31, rfl, by decide, mt3 (i := 106) rfl rfl, by decide +kernel, rfl, rfl⟩
theorem inlX0 : ∀ w ∈ wsX00, w ∈ UW := List.forall_mem_cons.mpr ⟨mt1 (i := 59) rfl rfl, List.forall_mem_cons.mpr ⟨mt1 (i := 61) rfl rfl, List.forall_mem_cons.mpr ⟨mt1 (i := 63) rfl rfl, List.forall_mem_cons.mpr ⟨mt1 (i := 65) rfl rfl, List.forall_mem_cons.mpr ⟨mt1 (i := 67) rfl rfl, List.forall_mem_cons.mpr ⟨mt1 (i := 69) rfl rfl, List.forall_mem_cons.mpr ⟨mt1 (i := 71) rfl rfl, List.forall_mem_cons.mpr ⟨mt1 (i := 73) rfl rfl, List.forall_mem_cons.mpr ⟨mt1 (i := 75) rfl rfl, List.forall_mem_cons.mpr ⟨mt1 (i := 77) rfl rfl, List.forall_mem_cons.mpr ⟨mt1 (i := 79) rfl rfl, List.forall_mem_cons.mpr ⟨mt1 (i := 81) rfl rfl, List.forall_mem_cons.mpr ⟨mt1 (i := 83) rfl rfl, List.forall_mem_cons.mpr ⟨mt1 (i := 85) rfl rfl, List.forall_mem_cons.mpr ⟨mt1 (i := 87) rfl rfl, fun _ h => (List.not_mem_nil h).elim⟩⟩⟩⟩⟩⟩⟩⟩⟩⟩⟩⟩⟩⟩⟩
theorem inlX1 : ∀ w ∈ wsX10, w ∈ UW := List.forall_mem_cons.mpr ⟨mt2 (i := 131) rfl rfl, List.forall_mem_cons.mpr ⟨mt2 (i := 133) rfl rfl, List.forall_mem_cons.mpr ⟨mt2 (i := 135) rfl rfl, List.forall_mem_cons.mpr ⟨mt2 (i := 137) rfl rfl, List.forall_mem_cons.mpr ⟨mt2 (i := 139) rfl rfl, List.forall_mem_cons.mpr ⟨mt2 (i := 141) rfl rfl, List.forall_mem_cons.mpr ⟨mt2 (i := 143) rfl rfl, fun _ h => (List.not_mem_nil h).elim⟩⟩⟩⟩⟩⟩⟩
theorem inlX2 : ∀ w ∈ wsX20, w ∈ UW := List.forall_mem_cons.mpr ⟨mt2 (i := 204) rfl rfl, List.forall_mem_cons.mpr ⟨mt2 (i := 206) rfl rfl, List.forall_mem_cons.mpr ⟨mt2 (i := 208) rfl rfl, List.forall_mem_cons.mpr ⟨mt2 (i := 210) rfl rfl, List.forall_mem_cons.mpr ⟨mt2 (i := 212) rfl rfl, List.forall_mem_cons.mpr ⟨mt2 (i := 214) rfl rfl, fun _ h => (List.not_mem_nil h).elim⟩⟩⟩⟩⟩⟩
theorem inlX3 : ∀ w ∈ wsX30, w ∈ UW := List.forall_mem_cons.mpr ⟨mt2 (i := 103) rfl rfl, List.forall_mem_cons.mpr ⟨mt2 (i := 105) rfl rfl, List.forall_mem_cons.mpr ⟨mt2 (i := 107) rfl rfl, List.forall_mem_cons.mpr ⟨mt2 (i := 109) rfl rfl, List.forall_mem_cons.mpr ⟨mt2 (i := 111) rfl rfl, List.forall_mem_cons.mpr ⟨mt2 (i := 113) rfl rfl, fun _ h => (List.not_mem_nil h).elim⟩⟩⟩⟩⟩⟩
theorem inlX4 : ∀ w ∈ wsX40, w ∈ UW := List.forall_mem_cons.mpr ⟨mt1 (i := 105) rfl rfl, List.forall_mem_cons.mpr ⟨mt1 (i := 107) rfl rfl, List.forall_mem_cons.mpr ⟨mt1 (i := 109) rfl rfl, List.forall_mem_cons.mpr ⟨mt1 (i := 111) rfl rfl, List.forall_mem_cons.mpr ⟨mt1 (i := 113) rfl rfl, List.forall_mem_cons.mpr ⟨mt1 (i := 115) rfl rfl, List.forall_mem_cons.mpr ⟨mt1 (i := 117) rfl rfl, List.forall_mem_cons.mpr ⟨mt1 (i := 119) rfl rfl, fun _ h => (List.not_mem_nil h).elim⟩⟩⟩⟩⟩⟩⟩⟩
theorem inlX5 : ∀ w ∈ wsX50, w ∈ UW := List.forall_mem_cons.mpr ⟨mt3 (i := 107) rfl rfl, List.forall_mem_cons.mpr ⟨mt3 (i := 109) rfl rfl, List.forall_mem_cons.mpr ⟨mt3 (i := 111) rfl rfl, List.forall_mem_cons.mpr ⟨mt3 (i := 113) rfl rfl, List.forall_mem_cons.mpr ⟨mt3 (i := 115) rfl rfl, List.forall_mem_cons.mpr ⟨mt3 (i := 117) rfl rfl, List.forall_mem_cons.mpr ⟨mt3 (i := 119) rfl rfl, List.forall_mem_cons.mpr ⟨mt3 (i := 121) rfl rfl, List.forall_mem_cons.mpr ⟨mt3 (i := 123) rfl rfl, List.forall_mem_cons.mpr ⟨mt3 (i := 125) rfl rfl, List.forall_mem_cons.mpr ⟨mt3 (i := 127) rfl rfl, List.forall_mem_cons.mpr ⟨mt3 (i := 129) rfl rfl, List.forall_mem_cons.mpr ⟨mt3 (i := 131) rfl rfl, List.forall_mem_cons.mpr ⟨mt3 (i := 133) rfl rfl, List.forall_mem_cons.mpr ⟨mt3 (i := 135) rfl rfl, List.forall_mem_cons.mpr ⟨mt3 (i := 137) rfl rfl, List.forall_mem_cons.mpr ⟨mt3 (i := 139) rfl rfl, List.forall_mem_cons.mpr ⟨mt3 (i := 141) rfl rfl, List.forall_mem_cons.mpr ⟨mt3 (i := 143) rfl rfl, List.forall_mem_cons.mpr ⟨mt3 (i := 145) rfl rfl, List.forall_mem_cons.mpr ⟨mt3 (i := 147) rfl rfl, List.forall_mem_cons.mpr ⟨mt3 (i := 149) rfl rfl, List.forall_mem_cons.mpr ⟨mt3 (i := 151) rfl rfl, List.forall_mem_cons.mpr ⟨mt3 (i := 153) rfl rfl, List.forall_mem_cons.mpr ⟨mt3 (i := 155) rfl rfl, List.forall_mem_cons.mpr ⟨mt3 (i := 157) rfl rfl, List.forall_mem_cons.mpr ⟨mt3 (i := 159) rfl rfl, List.forall_mem_cons.mpr ⟨mt3 (i := 161) rfl rfl, List.forall_mem_cons.mpr ⟨mt3 (i := 163) rfl rfl, List.forall_mem_cons.mpr ⟨mt3 (i := 165) rfl rfl, List.forall_mem_cons.mpr ⟨mt3 (i := 167) rfl rfl, fun _ h => (List.not_mem_nil h).elim⟩⟩⟩⟩⟩⟩⟩⟩⟩⟩⟩⟩⟩⟩⟩⟩⟩⟩⟩⟩⟩⟩⟩⟩⟩⟩⟩⟩⟩⟩⟩
theorem cls_in : ∀ {ci : Nat} {C : String} {T : u_T} {N : Nat}, vwCl[ci]? = some (C, T, N) → ∀ w ∈ u_ws C T N, w ∈ UW
  | 0, _, _, _, h => by cases h; exact inlX0
  | 1, _, _, _, h => by cases h; exact inlX1
  | 2, _, _, _, h => by cases h; exact inlX2
  | 3, _, _, _, h => by cases h; exact inlX3
  | 4, _, _, _, h => by cases h; exact inlX4
  | 5, _, _, _, h => by cases h; exact inlX5
  | n + 6, _, _, _, h => by simp [vwCl] at h
theorem cls_nm : ∀ {ci : Nat} {C : String} {T : u_T} {N : Nat}, vwCl[ci]? = some (C, T, N) → ∀ a, a < N → ∀ b, b < N → a ≠ b → (T a).2.1 ≠ (T b).2.1
  | 0, _, _, _, h => by cases h; exact nmX0
  | 1, _, _, _, h => by cases h; exact nmX1
  | 2, _, _, _, h => by cases h; exact nmX2
  | 3, _, _, _, h => by cases h; exact nmX3
  | 4, _, _, _, h => by cases h; exact nmX4
  | 5, _, _, _, h => by cases h; exact nmX5
  | n + 6, _, _, _, h => by simp [vwCl] at h
theorem cls_ty : ∀ {ci : Nat} {C : String} {T : u_T} {N : Nat}, vwCl[ci]? = some (C, T, N) → ∃ ty : Nat → FieldType, ∀ k, k < N → parseFieldDescriptor (T k).2.2.1 = some (ty k)
  | 0, _, _, _, h => by cases h; exact ⟨tyX0, tyX0_ok⟩
  | 1, _, _, _, h => by cases h; exact ⟨tyX1, tyX1_ok⟩
  | 2, _, _, _, h => by cases h; exact ⟨tyX2, tyX2_ok⟩
  | 3, _, _, _, h => by cases h; exact ⟨tyX3, tyX3_ok⟩
  | 4, _, _, _, h => by cases h; exact ⟨tyX4, tyX4_ok⟩
  | 5, _, _, _, h => by cases h; exact ⟨tyX5, tyX5_ok⟩
  | n + 6, _, _, _, h => by simp [vwCl] at h
/-- the words of a call -/
def CV (own : String) (idx : Nat) (mi : Mi) (n : Nat) : Prop := Cond.methodLink own idx mi.1 ∈ UW ∧ Cond.instanceMethod mi.1 ∈ UW ∧ Cond.selects mi.1.cls mi.1 mi.1 ∈ UW ∧ Cond.initialized mi.1.cls ∈ UW ∧ Cond.code mi.1 mi.2.1 mi.2.2.1 mi.2.2.2 ∈ UW ∧ (mi.1.cls ≠ "java/lang/invoke/MethodHandle" ∧ mi.1.cls ≠ "java/lang/invoke/VarHandle") ∧ (parseMethodDescriptor mi.1.desc).map (fun d => d.parameters.length) = some n
def CSt (own : String) (idx : Nat) (mi : Mi) (n : Nat) : Prop := Cond.methodLink own idx mi.1 ∈ UW ∧ Cond.static mi.1 ∈ UW ∧ Cond.initialized mi.1.cls ∈ UW ∧ Cond.code mi.1 mi.2.1 mi.2.2.1 mi.2.2.2 ∈ UW ∧ (mi.1.cls ≠ "java/lang/invoke/MethodHandle" ∧ mi.1.cls ≠ "java/lang/invoke/VarHandle") ∧ (parseMethodDescriptor mi.1.desc).map (fun d => d.parameters.length) = some n
def CIn (own : String) (idx : Nat) (mi : Mi) (n : Nat) : Prop := Cond.methodLink own idx mi.1 ∈ UW ∧ Cond.instanceMethod mi.1 ∈ UW ∧ Cond.initialized mi.1.cls ∈ UW ∧ Cond.code mi.1 mi.2.1 mi.2.2.1 mi.2.2.2 ∈ UW ∧ (mi.1.cls ≠ "java/lang/invoke/MethodHandle" ∧ mi.1.cls ≠ "java/lang/invoke/VarHandle") ∧ (parseMethodDescriptor mi.1.desc).map (fun d => d.parameters.length) = some n
theorem kL_67 : CIn RL 67 miX4_init 1 := ⟨mt1 (i := 16) rfl rfl, mt1 (i := 17) rfl rfl, mt1 (i := 1) rfl rfl, mt1 (i := 18) rfl rfl, ⟨by decide +kernel, by decide +kernel⟩, by decide +kernel⟩
theorem kX4_23 : CIn RX4 23 miX0_init 0 := ⟨mt1 (i := 28) rfl rfl, mt1 (i := 29) rfl rfl, mt1 (i := 2) rfl rfl, mt1 (i := 30) rfl rfl, ⟨by decide +kernel, by decide +kernel⟩, by decide +kernel⟩
theorem kX0_53 : CV RX0 53 miX0_clearRows 0 := ⟨mt1 (i := 32) rfl rfl, mt1 (i := 34) rfl rfl, mp1 (i := 0) rfl, mt1 (i := 2) rfl rfl, mt1 (i := 35) rfl rfl, ⟨by decide +kernel, by decide +kernel⟩, by decide +kernel⟩
theorem kX4_28 : CSt RX4 28 miJ9_min_7cf53 2 := ⟨mt1 (i := 91) rfl rfl, mt1 (i := 92) rfl rfl, mt1 (i := 3) rfl rfl, mt1 (i := 93) rfl rfl, ⟨by decide +kernel, by decide +kernel⟩, by decide +kernel⟩
theorem kX4_34 : CSt RX4 34 miJ9_max_7cf53 2 := ⟨mt1 (i := 94) rfl rfl, mt1 (i := 95) rfl rfl, mt1 (i := 3) rfl rfl, mt1 (i := 96) rfl rfl, ⟨by decide +kernel, by decide +kernel⟩, by decide +kernel⟩
theorem kL_108 : CV RL 108 miX4_give 0 := ⟨mt1 (i := 122) rfl rfl, mt1 (i := 123) rfl rfl, mt1 (i := 124) rfl rfl, mt1 (i := 1) rfl rfl, mt1 (i := 125) rfl rfl, ⟨by decide +kernel, by decide +kernel⟩, by decide +kernel⟩
theorem kX4_134 : CV RX4 134 miX0_clear 0 := ⟨mt1 (i := 126) rfl rfl, mt1 (i := 127) rfl rfl, mt1 (i := 128) rfl rfl, mt1 (i := 2) rfl rfl, mt1 (i := 129) rfl rfl, ⟨by decide +kernel, by decide +kernel⟩, by decide +kernel⟩
theorem kX4_137 : CV RX4 137 miX4_ableCars 1 := ⟨mt1 (i := 130) rfl rfl, mt1 (i := 132) rfl rfl, mp1 (i := 1) rfl, mt1 (i := 1) rfl rfl, mt1 (i := 133) rfl rfl, ⟨by decide +kernel, by decide +kernel⟩, by decide +kernel⟩
theorem kX4_117 : CV RX4 117 miX1_reaches 1 := ⟨mt1 (i := 134) rfl rfl, mt1 (i := 135) rfl rfl, mt1 (i := 136) rfl rfl, mt1 (i := 10) rfl rfl, mt1 (i := 137) rfl rfl, ⟨by decide +kernel, by decide +kernel⟩, by decide +kernel⟩
theorem kX1_31 : CV RX1 31 miX1_within 1 := ⟨mt1 (i := 138) rfl rfl, mt1 (i := 140) rfl rfl, mp1 (i := 2) rfl, mt1 (i := 10) rfl rfl, mt1 (i := 142) rfl rfl, ⟨by decide +kernel, by decide +kernel⟩, by decide +kernel⟩
theorem kX4_141 : CV RX4 141 miX4_weightNow 1 := ⟨mt1 (i := 143) rfl rfl, mt1 (i := 145) rfl rfl, mp1 (i := 3) rfl, mt1 (i := 1) rfl rfl, mt1 (i := 146) rfl rfl, ⟨by decide +kernel, by decide +kernel⟩, by decide +kernel⟩
theorem kX4_144 : CV RX4 144 miX0_add 3 := ⟨mt1 (i := 147) rfl rfl, mt1 (i := 148) rfl rfl, mt1 (i := 149) rfl rfl, mt1 (i := 2) rfl rfl, mt1 (i := 150) rfl rfl, ⟨by decide +kernel, by decide +kernel⟩, by decide +kernel⟩
theorem kX4_148 : CV RX4 148 miX0_make 2 := ⟨mt1 (i := 151) rfl rfl, mt1 (i := 152) rfl rfl, mt1 (i := 153) rfl rfl, mt1 (i := 2) rfl rfl, mt1 (i := 154) rfl rfl, ⟨by decide +kernel, by decide +kernel⟩, by decide +kernel⟩
theorem kX0_70 : CV RX0 70 miX0_weighSets 0 := ⟨mt1 (i := 155) rfl rfl, mt1 (i := 157) rfl rfl, mp1 (i := 4) rfl, mt1 (i := 2) rfl rfl, mt1 (i := 158) rfl rfl, ⟨by decide +kernel, by decide +kernel⟩, by decide +kernel⟩
theorem kX0_82 : CSt RX0 82 miJ9_max_7cf53 2 := ⟨mt1 (i := 159) rfl rfl, mt1 (i := 95) rfl rfl, mt1 (i := 3) rfl rfl, mt1 (i := 96) rfl rfl, ⟨by decide +kernel, by decide +kernel⟩, by decide +kernel⟩
theorem kX0_88 : CV RX0 88 miX3_weigh 4 := ⟨mt1 (i := 160) rfl rfl, mt1 (i := 161) rfl rfl, mt1 (i := 162) rfl rfl, mt1 (i := 11) rfl rfl, mt1 (i := 163) rfl rfl, ⟨by decide +kernel, by decide +kernel⟩, by decide +kernel⟩
theorem kX3_37 : CV RX3 37 miX0_begunSlot 1 := ⟨mt1 (i := 164) rfl rfl, mt1 (i := 165) rfl rfl, mt1 (i := 166) rfl rfl, mt1 (i := 2) rfl rfl, mt1 (i := 167) rfl rfl, ⟨by decide +kernel, by decide +kernel⟩, by decide +kernel⟩
theorem kX3_46 : CV RX3 46 miX0_slotsFor 1 := ⟨mt1 (i := 168) rfl rfl, mt1 (i := 169) rfl rfl, mt1 (i := 170) rfl rfl, mt1 (i := 2) rfl rfl, mt1 (i := 171) rfl rfl, ⟨by decide +kernel, by decide +kernel⟩, by decide +kernel⟩
theorem kX3_49 : CV RX3 49 miX3_choose 4 := ⟨mt1 (i := 172) rfl rfl, mt1 (i := 174) rfl rfl, mp1 (i := 5) rfl, mt1 (i := 11) rfl rfl, mt1 (i := 176) rfl rfl, ⟨by decide +kernel, by decide +kernel⟩, by decide +kernel⟩
theorem kX3_19 : CSt RX3 19 miX3_cell 2 := ⟨mt1 (i := 177) rfl rfl, mt1 (i := 178) rfl rfl, mt1 (i := 11) rfl rfl, mt1 (i := 179) rfl rfl, ⟨by decide +kernel, by decide +kernel⟩, by decide +kernel⟩
theorem kX3_58 : CV RX3 58 miX3_secondsTo 3 := ⟨mt1 (i := 181) rfl rfl, mt1 (i := 182) rfl rfl, mt1 (i := 183) rfl rfl, mt1 (i := 11) rfl rfl, mt1 (i := 184) rfl rfl, ⟨by decide +kernel, by decide +kernel⟩, by decide +kernel⟩
theorem kX3_78 : CSt RX3 78 miJ9_abs_0f7a4 1 := ⟨mt1 (i := 185) rfl rfl, mt1 (i := 186) rfl rfl, mt1 (i := 3) rfl rfl, mt1 (i := 187) rfl rfl, ⟨by decide +kernel, by decide +kernel⟩, by decide +kernel⟩
theorem kX3_62 : CV RX3 62 miX3_secondsWith 2 := ⟨mt1 (i := 188) rfl rfl, mt1 (i := 189) rfl rfl, mt1 (i := 190) rfl rfl, mt1 (i := 11) rfl rfl, mt1 (i := 191) rfl rfl, ⟨by decide +kernel, by decide +kernel⟩, by decide +kernel⟩
theorem kX3_53 : CV RX3 53 miX3_firsts 1 := ⟨mt1 (i := 192) rfl rfl, mt1 (i := 194) rfl rfl, mp1 (i := 6) rfl, mt1 (i := 11) rfl rfl, mt1 (i := 195) rfl rfl, ⟨by decide +kernel, by decide +kernel⟩, by decide +kernel⟩
theorem kX0_98 : CSt RX0 98 miX0_place 4 := ⟨mt1 (i := 197) rfl rfl, mt1 (i := 198) rfl rfl, mt1 (i := 2) rfl rfl, mt1 (i := 199) rfl rfl, ⟨by decide +kernel, by decide +kernel⟩, by decide +kernel⟩
theorem kX0_106 : CV RX0 106 miX0_keep 1 := ⟨mt1 (i := 200) rfl rfl, mt1 (i := 202) rfl rfl, mp1 (i := 7) rfl, mt1 (i := 2) rfl rfl, mt1 (i := 203) rfl rfl, ⟨by decide +kernel, by decide +kernel⟩, by decide +kernel⟩
theorem kX0_110 : CV RX0 110 miX3_costOf 1 := ⟨mt1 (i := 207) rfl rfl, mt1 (i := 208) rfl rfl, mt1 (i := 209) rfl rfl, mt1 (i := 11) rfl rfl, mt1 (i := 210) rfl rfl, ⟨by decide +kernel, by decide +kernel⟩, by decide +kernel⟩
theorem kX0_102 : CV RX0 102 miX0_tell 2 := ⟨mt1 (i := 211) rfl rfl, mt1 (i := 213) rfl rfl, mp1 (i := 8) rfl, mt1 (i := 2) rfl rfl, mt1 (i := 214) rfl rfl, ⟨by decide +kernel, by decide +kernel⟩, by decide +kernel⟩
theorem kX0_120 : CV RX0 120 miX3_firstOf 2 := ⟨mt1 (i := 215) rfl rfl, mt1 (i := 216) rfl rfl, mt1 (i := 217) rfl rfl, mt1 (i := 11) rfl rfl, mt1 (i := 218) rfl rfl, ⟨by decide +kernel, by decide +kernel⟩, by decide +kernel⟩
theorem kX0_123 : CV RX0 123 miX3_secondsTo 3 := ⟨mt1 (i := 219) rfl rfl, mt1 (i := 182) rfl rfl, mt1 (i := 183) rfl rfl, mt1 (i := 11) rfl rfl, mt1 (i := 184) rfl rfl, ⟨by decide +kernel, by decide +kernel⟩, by decide +kernel⟩
theorem kX0_127 : CV RX0 127 miX3_secondsWith 2 := ⟨mt1 (i := 220) rfl rfl, mt1 (i := 189) rfl rfl, mt1 (i := 190) rfl rfl, mt1 (i := 11) rfl rfl, mt1 (i := 191) rfl rfl, ⟨by decide +kernel, by decide +kernel⟩, by decide +kernel⟩
theorem kL_122 : CV RL 122 miX4_left 0 := ⟨mt1 (i := 221) rfl rfl, mt1 (i := 222) rfl rfl, mt1 (i := 223) rfl rfl, mt1 (i := 1) rfl rfl, mt1 (i := 224) rfl rfl, ⟨by decide +kernel, by decide +kernel⟩, by decide +kernel⟩
theorem kL_129 : CV RL 129 miX4_open 0 := ⟨mt1 (i := 225) rfl rfl, mt1 (i := 226) rfl rfl, mt1 (i := 227) rfl rfl, mt1 (i := 1) rfl rfl, mt1 (i := 228) rfl rfl, ⟨by decide +kernel, by decide +kernel⟩, by decide +kernel⟩
theorem kL_61 : CSt RL 61 miL_cell 2 := ⟨mt1 (i := 229) rfl rfl, mt1 (i := 230) rfl rfl, mt1 (i := 0) rfl rfl, mt1 (i := 231) rfl rfl, ⟨by decide +kernel, by decide +kernel⟩, by decide +kernel⟩
theorem kL_7 : CV RL 7 miX4_car 2 := ⟨mt1 (i := 237) rfl rfl, mt1 (i := 238) rfl rfl, mt1 (i := 239) rfl rfl, mt1 (i := 1) rfl rfl, mt2 (i := 0) rfl rfl, ⟨by decide +kernel, by decide +kernel⟩, by decide +kernel⟩
theorem kX4_41 : CV RX4 41 miX4_isFloor 1 := ⟨mt2 (i := 1) rfl rfl, mt2 (i := 3) rfl rfl, mp1 (i := 9) rfl, mt1 (i := 1) rfl rfl, mt2 (i := 4) rfl rfl, ⟨by decide +kernel, by decide +kernel⟩, by decide +kernel⟩
theorem kX4_60 : CIn RX4 60 miX1_init 3 := ⟨mt2 (i := 88) rfl rfl, mt2 (i := 89) rfl rfl, mt1 (i := 10) rfl rfl, mt2 (i := 90) rfl rfl, ⟨by decide +kernel, by decide +kernel⟩, by decide +kernel⟩
theorem kL_17 : CV RL 17 miX4_free 3 := ⟨mt2 (i := 149) rfl rfl, mt2 (i := 150) rfl rfl, mt2 (i := 151) rfl rfl, mt1 (i := 1) rfl rfl, mt2 (i := 152) rfl rfl, ⟨by decide +kernel, by decide +kernel⟩, by decide +kernel⟩
theorem kX4_63 : CV RX4 63 miX4_liftOf 1 := ⟨mt2 (i := 153) rfl rfl, mt2 (i := 155) rfl rfl, mp1 (i := 11) rfl, mt1 (i := 1) rfl rfl, mt2 (i := 156) rfl rfl, ⟨by decide +kernel, by decide +kernel⟩, by decide +kernel⟩
theorem kL_21 : CV RL 21 miX4_zone 3 := ⟨mt2 (i := 162) rfl rfl, mt2 (i := 163) rfl rfl, mt2 (i := 164) rfl rfl, mt1 (i := 1) rfl rfl, mt2 (i := 165) rfl rfl, ⟨by decide +kernel, by decide +kernel⟩, by decide +kernel⟩
theorem kL_24 : CV RL 24 miX4_sleep 2 := ⟨mt2 (i := 170) rfl rfl, mt2 (i := 171) rfl rfl, mt2 (i := 172) rfl rfl, mt1 (i := 1) rfl rfl, mt2 (i := 173) rfl rfl, ⟨by decide +kernel, by decide +kernel⟩, by decide +kernel⟩
theorem kL_28 : CV RL 28 miX4_call 2 := ⟨mt2 (i := 178) rfl rfl, mt2 (i := 179) rfl rfl, mt2 (i := 180) rfl rfl, mt1 (i := 1) rfl rfl, mt2 (i := 181) rfl rfl, ⟨by decide +kernel, by decide +kernel⟩, by decide +kernel⟩
theorem kX4_103 : CIn RX4 103 miX2_init 4 := ⟨mt2 (i := 185) rfl rfl, mt2 (i := 186) rfl rfl, mt1 (i := 12) rfl rfl, mt2 (i := 187) rfl rfl, ⟨by decide +kernel, by decide +kernel⟩, by decide +kernel⟩
theorem kL_31 : CV RL 31 miX4_urgent 2 := ⟨mt2 (i := 220) rfl rfl, mt2 (i := 221) rfl rfl, mt2 (i := 222) rfl rfl, mt1 (i := 1) rfl rfl, mt2 (i := 223) rfl rfl, ⟨by decide +kernel, by decide +kernel⟩, by decide +kernel⟩
theorem kX4_106 : CV RX4 106 miX4_openRide 1 := ⟨mt2 (i := 224) rfl rfl, mt2 (i := 226) rfl rfl, mp1 (i := 12) rfl, mt1 (i := 1) rfl rfl, mt2 (i := 227) rfl rfl, ⟨by decide +kernel, by decide +kernel⟩, by decide +kernel⟩
theorem kL_34 : CV RL 34 miX4_begin 2 := ⟨mt2 (i := 232) rfl rfl, mt2 (i := 233) rfl rfl, mt2 (i := 234) rfl rfl, mt1 (i := 1) rfl rfl, mt2 (i := 235) rfl rfl, ⟨by decide +kernel, by decide +kernel⟩, by decide +kernel⟩
theorem kX4_121 : CV RX4 121 miX4_hasBegunAnother 2 := ⟨mt2 (i := 237) rfl rfl, mt2 (i := 239) rfl rfl, mp1 (i := 13) rfl, mt1 (i := 1) rfl rfl, mt3 (i := 0) rfl rfl, ⟨by decide +kernel, by decide +kernel⟩, by decide +kernel⟩
theorem kL_38 : CV RL 38 miX4_done 1 := ⟨mt3 (i := 4) rfl rfl, mt3 (i := 5) rfl rfl, mt3 (i := 6) rfl rfl, mt1 (i := 1) rfl rfl, mt3 (i := 7) rfl rfl, ⟨by decide +kernel, by decide +kernel⟩, by decide +kernel⟩
theorem kX4_128 : CV RX4 128 miX4_dropRide 1 := ⟨mt3 (i := 8) rfl rfl, mt3 (i := 10) rfl rfl, mp1 (i := 14) rfl, mt1 (i := 1) rfl rfl, mt3 (i := 11) rfl rfl, ⟨by decide +kernel, by decide +kernel⟩, by decide +kernel⟩
theorem kL_42 : CV RL 42 miX4_pass 1 := ⟨mt3 (i := 15) rfl rfl, mt3 (i := 16) rfl rfl, mt3 (i := 17) rfl rfl, mt1 (i := 1) rfl rfl, mt3 (i := 18) rfl rfl, ⟨by decide +kernel, by decide +kernel⟩, by decide +kernel⟩
theorem kL_46 : CV RL 46 miX4_carOf 1 := ⟨mt3 (i := 23) rfl rfl, mt3 (i := 24) rfl rfl, mt3 (i := 25) rfl rfl, mt1 (i := 1) rfl rfl, mt3 (i := 26) rfl rfl, ⟨by decide +kernel, by decide +kernel⟩, by decide +kernel⟩
theorem kX4_152 : CV RX4 152 miX4_wasCalled 1 := ⟨mt3 (i := 27) rfl rfl, mt3 (i := 29) rfl rfl, mp1 (i := 15) rfl, mt1 (i := 1) rfl rfl, mt3 (i := 30) rfl rfl, ⟨by decide +kernel, by decide +kernel⟩, by decide +kernel⟩
theorem kX4_157 : CV RX4 157 miX0_slotOf 1 := ⟨mt3 (i := 32) rfl rfl, mt3 (i := 33) rfl rfl, mt3 (i := 34) rfl rfl, mt1 (i := 2) rfl rfl, mt3 (i := 35) rfl rfl, ⟨by decide +kernel, by decide +kernel⟩, by decide +kernel⟩
theorem kL_49 : CV RL 49 miX4_turn 2 := ⟨mt3 (i := 39) rfl rfl, mt3 (i := 40) rfl rfl, mt3 (i := 41) rfl rfl, mt1 (i := 1) rfl rfl, mt3 (i := 42) rfl rfl, ⟨by decide +kernel, by decide +kernel⟩, by decide +kernel⟩
theorem kX4_167 : CV RX4 167 miX0_inRow 2 := ⟨mt3 (i := 44) rfl rfl, mt3 (i := 45) rfl rfl, mt3 (i := 46) rfl rfl, mt1 (i := 2) rfl rfl, mt3 (i := 47) rfl rfl, ⟨by decide +kernel, by decide +kernel⟩, by decide +kernel⟩
theorem kL_52 : CV RL 52 miX4_told 2 := ⟨mt3 (i := 51) rfl rfl, mt3 (i := 52) rfl rfl, mt3 (i := 53) rfl rfl, mt1 (i := 1) rfl rfl, mt3 (i := 54) rfl rfl, ⟨by decide +kernel, by decide +kernel⟩, by decide +kernel⟩
theorem kL_55 : CV RL 55 miX4_cars 1 := ⟨mt3 (i := 59) rfl rfl, mt3 (i := 60) rfl rfl, mt3 (i := 61) rfl rfl, mt1 (i := 1) rfl rfl, mt3 (i := 62) rfl rfl, ⟨by decide +kernel, by decide +kernel⟩, by decide +kernel⟩
theorem kL_58 : CV RL 58 miX4_weight 1 := ⟨mt3 (i := 66) rfl rfl, mt3 (i := 67) rfl rfl, mt3 (i := 68) rfl rfl, mt1 (i := 1) rfl rfl, mt3 (i := 69) rfl rfl, ⟨by decide +kernel, by decide +kernel⟩, by decide +kernel⟩
theorem kL_71 : CIn RL 71 miX5_init 1 := ⟨mt3 (i := 72) rfl rfl, mt3 (i := 73) rfl rfl, mt1 (i := 4) rfl rfl, mt3 (i := 74) rfl rfl, ⟨by decide +kernel, by decide +kernel⟩, by decide +kernel⟩
theorem kL_76 : CV RL 76 miX5_thrown 0 := ⟨mt3 (i := 171) rfl rfl, mt3 (i := 172) rfl rfl, mt3 (i := 173) rfl rfl, mt1 (i := 4) rfl rfl, mt3 (i := 174) rfl rfl, ⟨by decide +kernel, by decide +kernel⟩, by decide +kernel⟩
theorem kL_75 : CV RL 75 miX5_car 2 := ⟨mt3 (i := 175) rfl rfl, mt3 (i := 176) rfl rfl, mt3 (i := 177) rfl rfl, mt1 (i := 4) rfl rfl, mt3 (i := 178) rfl rfl, ⟨by decide +kernel, by decide +kernel⟩, by decide +kernel⟩
theorem kX5_101 : CV RX5 101 miX5_isFloor 1 := ⟨mt3 (i := 179) rfl rfl, mt3 (i := 181) rfl rfl, mp2 (i := 0) rfl, mt1 (i := 4) rfl rfl, mt3 (i := 182) rfl rfl, ⟨by decide +kernel, by decide +kernel⟩, by decide +kernel⟩
theorem kX5_91 : CSt RX5 91 miX5_isIn 3 := ⟨mt3 (i := 183) rfl rfl, mt3 (i := 184) rfl rfl, mt1 (i := 4) rfl rfl, mt3 (i := 185) rfl rfl, ⟨by decide +kernel, by decide +kernel⟩, by decide +kernel⟩
theorem kL_83 : CV RL 83 miX5_free 3 := ⟨mt3 (i := 186) rfl rfl, mt3 (i := 187) rfl rfl, mt3 (i := 188) rfl rfl, mt1 (i := 4) rfl rfl, mt3 (i := 189) rfl rfl, ⟨by decide +kernel, by decide +kernel⟩, by decide +kernel⟩
theorem kX5_108 : CV RX5 108 miX5_isCar 1 := ⟨mt3 (i := 190) rfl rfl, mt3 (i := 192) rfl rfl, mp2 (i := 1) rfl, mt1 (i := 4) rfl rfl, mt3 (i := 193) rfl rfl, ⟨by decide +kernel, by decide +kernel⟩, by decide +kernel⟩
theorem kL_86 : CV RL 86 miX5_zone 3 := ⟨mt3 (i := 195) rfl rfl, mt3 (i := 196) rfl rfl, mt3 (i := 197) rfl rfl, mt1 (i := 4) rfl rfl, mt3 (i := 198) rfl rfl, ⟨by decide +kernel, by decide +kernel⟩, by decide +kernel⟩
theorem kL_90 : CV RL 90 miX5_sleep 2 := ⟨mt3 (i := 199) rfl rfl, mt3 (i := 200) rfl rfl, mt3 (i := 201) rfl rfl, mt1 (i := 4) rfl rfl, mt3 (i := 202) rfl rfl, ⟨by decide +kernel, by decide +kernel⟩, by decide +kernel⟩
theorem kL_93 : CV RL 93 miX5_call 2 := ⟨mt3 (i := 203) rfl rfl, mt3 (i := 204) rfl rfl, mt3 (i := 205) rfl rfl, mt1 (i := 4) rfl rfl, mt3 (i := 206) rfl rfl, ⟨by decide +kernel, by decide +kernel⟩, by decide +kernel⟩
theorem kL_96 : CV RL 96 miX5_urgent 2 := ⟨mt3 (i := 207) rfl rfl, mt3 (i := 208) rfl rfl, mt3 (i := 209) rfl rfl, mt1 (i := 4) rfl rfl, mt3 (i := 210) rfl rfl, ⟨by decide +kernel, by decide +kernel⟩, by decide +kernel⟩
theorem kX5_115 : CV RX5 115 miX5_isOpenCall 1 := ⟨mt3 (i := 211) rfl rfl, mt3 (i := 213) rfl rfl, mp2 (i := 2) rfl, mt1 (i := 4) rfl rfl, mt3 (i := 214) rfl rfl, ⟨by decide +kernel, by decide +kernel⟩, by decide +kernel⟩
theorem kL_99 : CV RL 99 miX5_begin 2 := ⟨mt3 (i := 215) rfl rfl, mt3 (i := 216) rfl rfl, mt3 (i := 217) rfl rfl, mt1 (i := 4) rfl rfl, mt3 (i := 218) rfl rfl, ⟨by decide +kernel, by decide +kernel⟩, by decide +kernel⟩
theorem kX5_118 : CV RX5 118 miX5_isWithin 2 := ⟨mt3 (i := 219) rfl rfl, mt3 (i := 221) rfl rfl, mp2 (i := 3) rfl, mt1 (i := 4) rfl rfl, mt3 (i := 222) rfl rfl, ⟨by decide +kernel, by decide +kernel⟩, by decide +kernel⟩
theorem kL_103 : CV RL 103 miX5_done 1 := ⟨mt3 (i := 223) rfl rfl, mt3 (i := 224) rfl rfl, mt3 (i := 225) rfl rfl, mt1 (i := 4) rfl rfl, mt3 (i := 226) rfl rfl, ⟨by decide +kernel, by decide +kernel⟩, by decide +kernel⟩
theorem kL_107 : CV RL 107 miX5_pass 1 := ⟨mt3 (i := 227) rfl rfl, mt3 (i := 228) rfl rfl, mt3 (i := 229) rfl rfl, mt1 (i := 4) rfl rfl, mt3 (i := 230) rfl rfl, ⟨by decide +kernel, by decide +kernel⟩, by decide +kernel⟩
theorem kL_112 : CV RL 112 miX5_give 0 := ⟨mt3 (i := 231) rfl rfl, mt3 (i := 232) rfl rfl, mt3 (i := 233) rfl rfl, mt1 (i := 4) rfl rfl, mt3 (i := 234) rfl rfl, ⟨by decide +kernel, by decide +kernel⟩, by decide +kernel⟩
theorem kX5_142 : CV RX5 142 miX5_carsOf 1 := ⟨mt3 (i := 235) rfl rfl, mt3 (i := 237) rfl rfl, mp2 (i := 4) rfl, mt1 (i := 4) rfl rfl, mt3 (i := 238) rfl rfl, ⟨by decide +kernel, by decide +kernel⟩, by decide +kernel⟩
theorem kX5_145 : CV RX5 145 miX5_findRows 2 := ⟨mt3 (i := 239) rfl rfl, mt4 (i := 1) rfl rfl, mp2 (i := 5) rfl, mt1 (i := 4) rfl rfl, mt4 (i := 2) rfl rfl, ⟨by decide +kernel, by decide +kernel⟩, by decide +kernel⟩
theorem kX5_135 : CV RX5 135 miX5_sumOf 3 := ⟨mt4 (i := 4) rfl rfl, mt4 (i := 6) rfl rfl, mp2 (i := 6) rfl, mt1 (i := 4) rfl rfl, mt4 (i := 7) rfl rfl, ⟨by decide +kernel, by decide +kernel⟩, by decide +kernel⟩
theorem kX5_122 : CSt RX5 122 miX5_way 2 := ⟨mt4 (i := 8) rfl rfl, mt4 (i := 9) rfl rfl, mt1 (i := 4) rfl rfl, mt4 (i := 10) rfl rfl, ⟨by decide +kernel, by decide +kernel⟩, by decide +kernel⟩
theorem kX5_126 : CV RX5 126 miX5_weightOf 1 := ⟨mt4 (i := 11) rfl rfl, mt4 (i := 13) rfl rfl, mp2 (i := 7) rfl, mt1 (i := 4) rfl rfl, mt4 (i := 14) rfl rfl, ⟨by decide +kernel, by decide +kernel⟩, by decide +kernel⟩
theorem kX5_139 : CV RX5 139 miX5_nextOrder 1 := ⟨mt4 (i := 15) rfl rfl, mt4 (i := 17) rfl rfl, mp2 (i := 8) rfl, mt1 (i := 4) rfl rfl, mt4 (i := 18) rfl rfl, ⟨by decide +kernel, by decide +kernel⟩, by decide +kernel⟩
theorem kX5_149 : CV RX5 149 miX5_deal 1 := ⟨mt4 (i := 19) rfl rfl, mt4 (i := 21) rfl rfl, mp2 (i := 9) rfl, mt1 (i := 4) rfl rfl, mt4 (i := 22) rfl rfl, ⟨by decide +kernel, by decide +kernel⟩, by decide +kernel⟩
theorem kX5_153 : CV RX5 153 miX5_setOf 1 := ⟨mt4 (i := 23) rfl rfl, mt4 (i := 25) rfl rfl, mp2 (i := 10) rfl, mt1 (i := 4) rfl rfl, mt4 (i := 26) rfl rfl, ⟨by decide +kernel, by decide +kernel⟩, by decide +kernel⟩
theorem kL_115 : CV RL 115 miX5_carOf 1 := ⟨mt4 (i := 27) rfl rfl, mt4 (i := 28) rfl rfl, mt4 (i := 29) rfl rfl, mt1 (i := 4) rfl rfl, mt4 (i := 30) rfl rfl, ⟨by decide +kernel, by decide +kernel⟩, by decide +kernel⟩
theorem kX5_156 : CV RX5 156 miX5_wasCall 1 := ⟨mt4 (i := 31) rfl rfl, mt4 (i := 33) rfl rfl, mp2 (i := 11) rfl, mt1 (i := 4) rfl rfl, mt4 (i := 34) rfl rfl, ⟨by decide +kernel, by decide +kernel⟩, by decide +kernel⟩
theorem kL_118 : CV RL 118 miX5_turn 2 := ⟨mt4 (i := 35) rfl rfl, mt4 (i := 36) rfl rfl, mt4 (i := 37) rfl rfl, mt1 (i := 4) rfl rfl, mt4 (i := 38) rfl rfl, ⟨by decide +kernel, by decide +kernel⟩, by decide +kernel⟩
theorem kL_121 : CV RL 121 miX5_told 2 := ⟨mt4 (i := 39) rfl rfl, mt4 (i := 40) rfl rfl, mt4 (i := 41) rfl rfl, mt1 (i := 4) rfl rfl, mt4 (i := 42) rfl rfl, ⟨by decide +kernel, by decide +kernel⟩, by decide +kernel⟩
theorem kL_125 : CV RL 125 miX5_left 0 := ⟨mt4 (i := 43) rfl rfl, mt4 (i := 44) rfl rfl, mt4 (i := 45) rfl rfl, mt1 (i := 4) rfl rfl, mt4 (i := 46) rfl rfl, ⟨by decide +kernel, by decide +kernel⟩, by decide +kernel⟩
theorem kL_128 : CV RL 128 miX5_cars 1 := ⟨mt4 (i := 47) rfl rfl, mt4 (i := 48) rfl rfl, mt4 (i := 49) rfl rfl, mt1 (i := 4) rfl rfl, mt4 (i := 50) rfl rfl, ⟨by decide +kernel, by decide +kernel⟩, by decide +kernel⟩
theorem kL_132 : CV RL 132 miX5_open 0 := ⟨mt4 (i := 51) rfl rfl, mt4 (i := 52) rfl rfl, mt4 (i := 53) rfl rfl, mt1 (i := 4) rfl rfl, mt4 (i := 54) rfl rfl, ⟨by decide +kernel, by decide +kernel⟩, by decide +kernel⟩
theorem kL_135 : CV RL 135 miX5_weight 1 := ⟨mt4 (i := 55) rfl rfl, mt4 (i := 56) rfl rfl, mt4 (i := 57) rfl rfl, mt1 (i := 4) rfl rfl, mt4 (i := 58) rfl rfl, ⟨by decide +kernel, by decide +kernel⟩, by decide +kernel⟩
theorem nL_8 : Cond.classLink RL 8 RX4 ∈ UW ∧ Cond.instantiable RX4 8 ∈ UW ∧ Cond.initialized RX4 ∈ UW := ⟨mt1 (i := 14) rfl rfl, mt1 (i := 15) rfl rfl, mt1 (i := 1) rfl rfl⟩
theorem nX4_9 : Cond.classLink RX4 9 RX1 ∈ UW ∧ Cond.instantiable RX1 7 ∈ UW ∧ Cond.initialized RX1 ∈ UW := ⟨mt1 (i := 22) rfl rfl, mt1 (i := 141) rfl rfl, mt1 (i := 10) rfl rfl⟩
theorem nX4_15 : Cond.classLink RX4 15 RX2 ∈ UW ∧ Cond.instantiable RX2 6 ∈ UW ∧ Cond.initialized RX2 ∈ UW := ⟨mt1 (i := 24) rfl rfl, mt2 (i := 184) rfl rfl, mt1 (i := 12) rfl rfl⟩
theorem nX4_21 : Cond.classLink RX4 21 RX0 ∈ UW ∧ Cond.instantiable RX0 15 ∈ UW ∧ Cond.initialized RX0 ∈ UW := ⟨mt1 (i := 26) rfl rfl, mt1 (i := 27) rfl rfl, mt1 (i := 2) rfl rfl⟩
theorem arr_int : Cond.arrayClass .int ∈ UW := mt1 (i := 90) rfl rfl
theorem vX3_56 : Cond.constantLong RX3 56 (1152921504606846976) ∈ UW := mt1 (i := 180) rfl rfl
theorem vX0_92 : Cond.constantLong RX0 92 (1152921504606846976) ∈ UW := mt1 (i := 196) rfl rfl
theorem nL_13 : Cond.classLink RL 13 "java/lang/IllegalArgumentException" ∈ UW ∧ Cond.instantiable "java/lang/IllegalArgumentException" 6 ∈ UW ∧ Cond.initialized "java/lang/IllegalArgumentException" ∈ UW := ⟨mt1 (i := 235) rfl rfl, mt2 (i := 6) rfl rfl, mt1 (i := 8) rfl rfl⟩
theorem nL_15 : Cond.classLink RL 15 "java/lang/IllegalStateException" ∈ UW ∧ Cond.instantiable "java/lang/IllegalStateException" 6 ∈ UW ∧ Cond.initialized "java/lang/IllegalStateException" ∈ UW := ⟨mt1 (i := 236) rfl rfl, mt2 (i := 73) rfl rfl, mt1 (i := 9) rfl rfl⟩
theorem nX4_45 : Cond.classLink RX4 45 "java/lang/IllegalArgumentException" ∈ UW ∧ Cond.instantiable "java/lang/IllegalArgumentException" 6 ∈ UW ∧ Cond.initialized "java/lang/IllegalArgumentException" ∈ UW := ⟨mt2 (i := 5) rfl rfl, mt2 (i := 6) rfl rfl, mt1 (i := 8) rfl rfl⟩
theorem arr_byte : Cond.arrayClass .byte ∈ UW := mt2 (i := 71) rfl rfl
theorem nX4_55 : Cond.classLink RX4 55 "java/lang/IllegalStateException" ∈ UW ∧ Cond.instantiable "java/lang/IllegalStateException" 6 ∈ UW ∧ Cond.initialized "java/lang/IllegalStateException" ∈ UW := ⟨mt2 (i := 72) rfl rfl, mt2 (i := 73) rfl rfl, mt1 (i := 9) rfl rfl⟩
theorem nX1_7 : Cond.classLink RX1 7 RX3 ∈ UW ∧ Cond.instantiable RX3 6 ∈ UW ∧ Cond.initialized RX3 ∈ UW := ⟨mt2 (i := 92) rfl rfl, mt1 (i := 175) rfl rfl, mt1 (i := 11) rfl rfl⟩
theorem arr_long : Cond.arrayClass .long ∈ UW := mt2 (i := 116) rfl rfl
theorem vX4_67 : Cond.constant RX4 67 (100000) ∈ UW := mt2 (i := 157) rfl rfl
theorem nL_69 : Cond.classLink RL 69 RX5 ∈ UW ∧ Cond.instantiable RX5 31 ∈ UW ∧ Cond.initialized RX5 ∈ UW := ⟨mt3 (i := 70) rfl rfl, mt3 (i := 71) rfl rfl, mt1 (i := 4) rfl rfl⟩
theorem arr_boolean : Cond.arrayClass .boolean ∈ UW := mt3 (i := 170) rfl rfl
theorem vX5_111 : Cond.constant RX5 111 (100000) ∈ UW := mt3 (i := 194) rfl rfl
theorem vX5_133 : Cond.constantLong RX5 133 (-1) ∈ UW := mt4 (i := 3) rfl rfl
end
section
theorem dX0_init_0 : decode cX0_init 0 = .ok (.aload_n 0, 1) := by decide +kernel
theorem dX0_init_1 : decode cX0_init 1 = .ok (.invokespecial 3, 3) := by decide +kernel
theorem dX0_init_4 : decode cX0_init 4 = .ok (.aload_n 0, 1) := by decide +kernel
theorem dX0_init_5 : decode cX0_init 5 = .ok (.bipush 6, 2) := by decide +kernel
theorem dX0_init_7 : decode cX0_init 7 = .ok (.newarray .int, 2) := by decide +kernel
theorem dX0_init_9 : decode cX0_init 9 = .ok (.putfield 9, 3) := by decide +kernel
theorem dX0_init_12 : decode cX0_init 12 = .ok (.aload_n 0, 1) := by decide +kernel
theorem dX0_init_13 : decode cX0_init 13 = .ok (.bipush 6, 2) := by decide +kernel
theorem dX0_init_15 : decode cX0_init 15 = .ok (.newarray .int, 2) := by decide +kernel
theorem dX0_init_17 : decode cX0_init 17 = .ok (.putfield 15, 3) := by decide +kernel
theorem dX0_init_20 : decode cX0_init 20 = .ok (.aload_n 0, 1) := by decide +kernel
theorem dX0_init_21 : decode cX0_init 21 = .ok (.bipush 6, 2) := by decide +kernel
theorem dX0_init_23 : decode cX0_init 23 = .ok (.newarray .int, 2) := by decide +kernel
theorem dX0_init_25 : decode cX0_init 25 = .ok (.putfield 18, 3) := by decide +kernel
theorem dX0_init_28 : decode cX0_init 28 = .ok (.aload_n 0, 1) := by decide +kernel
theorem dX0_init_29 : decode cX0_init 29 = .ok (.bipush 6, 2) := by decide +kernel
theorem dX0_init_31 : decode cX0_init 31 = .ok (.newarray .int, 2) := by decide +kernel
theorem dX0_init_33 : decode cX0_init 33 = .ok (.putfield 21, 3) := by decide +kernel
theorem dX0_init_36 : decode cX0_init 36 = .ok (.aload_n 0, 1) := by decide +kernel
theorem dX0_init_37 : decode cX0_init 37 = .ok (.bipush 6, 2) := by decide +kernel
theorem dX0_init_39 : decode cX0_init 39 = .ok (.newarray .int, 2) := by decide +kernel
theorem dX0_init_41 : decode cX0_init 41 = .ok (.putfield 24, 3) := by decide +kernel
theorem dX0_init_44 : decode cX0_init 44 = .ok (.aload_n 0, 1) := by decide +kernel
theorem dX0_init_45 : decode cX0_init 45 = .ok (.bipush 6, 2) := by decide +kernel
theorem dX0_init_47 : decode cX0_init 47 = .ok (.newarray .int, 2) := by decide +kernel
theorem dX0_init_49 : decode cX0_init 49 = .ok (.putfield 27, 3) := by decide +kernel
theorem dX0_init_52 : decode cX0_init 52 = .ok (.aload_n 0, 1) := by decide +kernel
theorem dX0_init_53 : decode cX0_init 53 = .ok (.bipush 64, 2) := by decide +kernel
theorem dX0_init_55 : decode cX0_init 55 = .ok (.newarray .int, 2) := by decide +kernel
theorem dX0_init_57 : decode cX0_init 57 = .ok (.putfield 32, 3) := by decide +kernel
theorem dX0_init_60 : decode cX0_init 60 = .ok (.aload_n 0, 1) := by decide +kernel
theorem dX0_init_61 : decode cX0_init 61 = .ok (.bipush 6, 2) := by decide +kernel
theorem dX0_init_63 : decode cX0_init 63 = .ok (.newarray .int, 2) := by decide +kernel
theorem dX0_init_65 : decode cX0_init 65 = .ok (.putfield 35, 3) := by decide +kernel
theorem dX0_init_68 : decode cX0_init 68 = .ok (.aload_n 0, 1) := by decide +kernel
theorem dX0_init_69 : decode cX0_init 69 = .ok (.bipush 6, 2) := by decide +kernel
theorem dX0_init_71 : decode cX0_init 71 = .ok (.newarray .int, 2) := by decide +kernel
theorem dX0_init_73 : decode cX0_init 73 = .ok (.putfield 38, 3) := by decide +kernel
theorem dX0_init_76 : decode cX0_init 76 = .ok (.aload_n 0, 1) := by decide +kernel
theorem dX0_init_77 : decode cX0_init 77 = .ok (.bipush 6, 2) := by decide +kernel
theorem dX0_init_79 : decode cX0_init 79 = .ok (.newarray .int, 2) := by decide +kernel
theorem dX0_init_81 : decode cX0_init 81 = .ok (.putfield 41, 3) := by decide +kernel
theorem dX0_init_84 : decode cX0_init 84 = .ok (.aload_n 0, 1) := by decide +kernel
theorem dX0_init_85 : decode cX0_init 85 = .ok (.bipush 24, 2) := by decide +kernel
theorem dX0_init_87 : decode cX0_init 87 = .ok (.newarray .int, 2) := by decide +kernel
theorem dX0_init_89 : decode cX0_init 89 = .ok (.putfield 44, 3) := by decide +kernel
theorem dX0_init_92 : decode cX0_init 92 = .ok (.aload_n 0, 1) := by decide +kernel
theorem dX0_init_93 : decode cX0_init 93 = .ok (.bipush 6, 2) := by decide +kernel
theorem dX0_init_95 : decode cX0_init 95 = .ok (.newarray .int, 2) := by decide +kernel
theorem dX0_init_97 : decode cX0_init 97 = .ok (.putfield 47, 3) := by decide +kernel
theorem dX0_init_100 : decode cX0_init 100 = .ok (.aload_n 0, 1) := by decide +kernel
theorem dX0_init_101 : decode cX0_init 101 = .ok (.iconst 4, 1) := by decide +kernel
theorem dX0_init_102 : decode cX0_init 102 = .ok (.newarray .int, 2) := by decide +kernel
theorem dX0_init_104 : decode cX0_init 104 = .ok (.putfield 50, 3) := by decide +kernel
theorem dX0_init_107 : decode cX0_init 107 = .ok (.aload_n 0, 1) := by decide +kernel
theorem dX0_init_108 : decode cX0_init 108 = .ok (.invokevirtual 53, 3) := by decide +kernel
theorem dX0_init_111 : decode cX0_init 111 = .ok (.return_, 1) := by decide +kernel
theorem dX0_clearRows_0 : decode cX0_clearRows 0 = .ok (.iconst 0, 1) := by decide +kernel
theorem dX0_clearRows_1 : decode cX0_clearRows 1 = .ok (.istore_n 1, 1) := by decide +kernel
theorem dX0_clearRows_2 : decode cX0_clearRows 2 = .ok (.iload_n 1, 1) := by decide +kernel
theorem dX0_clearRows_3 : decode cX0_clearRows 3 = .ok (.aload_n 0, 1) := by decide +kernel
theorem dX0_clearRows_4 : decode cX0_clearRows 4 = .ok (.getfield 44, 3) := by decide +kernel
theorem dX0_clearRows_7 : decode cX0_clearRows 7 = .ok (.arraylength, 1) := by decide +kernel
theorem dX0_clearRows_8 : decode cX0_clearRows 8 = .ok (.if_icmp .ge 16, 3) := by decide +kernel
theorem dX0_clearRows_11 : decode cX0_clearRows 11 = .ok (.aload_n 0, 1) := by decide +kernel
theorem dX0_clearRows_12 : decode cX0_clearRows 12 = .ok (.getfield 44, 3) := by decide +kernel
theorem dX0_clearRows_15 : decode cX0_clearRows 15 = .ok (.iload_n 1, 1) := by decide +kernel
theorem dX0_clearRows_16 : decode cX0_clearRows 16 = .ok (.iconst (-1), 1) := by decide +kernel
theorem dX0_clearRows_17 : decode cX0_clearRows 17 = .ok (.iastore, 1) := by decide +kernel
theorem dX0_clearRows_18 : decode cX0_clearRows 18 = .ok (.iinc 1 1, 3) := by decide +kernel
theorem dX0_clearRows_21 : decode cX0_clearRows 21 = .ok (.goto (-19), 3) := by decide +kernel
theorem dX0_clearRows_24 : decode cX0_clearRows 24 = .ok (.return_, 1) := by decide +kernel
theorem dX0_clear_0 : decode cX0_clear 0 = .ok (.aload_n 0, 1) := by decide +kernel
theorem dX0_clear_1 : decode cX0_clear 1 = .ok (.iconst 0, 1) := by decide +kernel
theorem dX0_clear_2 : decode cX0_clear 2 = .ok (.putfield 56, 3) := by decide +kernel
theorem dX0_clear_5 : decode cX0_clear 5 = .ok (.aload_n 0, 1) := by decide +kernel
theorem dX0_clear_6 : decode cX0_clear 6 = .ok (.invokevirtual 53, 3) := by decide +kernel
theorem dX0_clear_9 : decode cX0_clear 9 = .ok (.return_, 1) := by decide +kernel
theorem dX0_add_0 : decode cX0_add 0 = .ok (.aload_n 0, 1) := by decide +kernel
theorem dX0_add_1 : decode cX0_add 1 = .ok (.getfield 56, 3) := by decide +kernel
theorem dX0_add_4 : decode cX0_add 4 = .ok (.bipush 6, 2) := by decide +kernel
theorem dX0_add_6 : decode cX0_add 6 = .ok (.if_icmp .ge 85, 3) := by decide +kernel
theorem dX0_add_9 : decode cX0_add 9 = .ok (.aload_n 0, 1) := by decide +kernel
theorem dX0_add_10 : decode cX0_add 10 = .ok (.getfield 35, 3) := by decide +kernel
theorem dX0_add_13 : decode cX0_add 13 = .ok (.aload_n 0, 1) := by decide +kernel
theorem dX0_add_14 : decode cX0_add 14 = .ok (.getfield 56, 3) := by decide +kernel
theorem dX0_add_17 : decode cX0_add 17 = .ok (.aload_n 1, 1) := by decide +kernel
theorem dX0_add_18 : decode cX0_add 18 = .ok (.getfield 60, 3) := by decide +kernel
theorem dX0_add_21 : decode cX0_add 21 = .ok (.iastore, 1) := by decide +kernel
theorem dX0_add_22 : decode cX0_add 22 = .ok (.aload_n 0, 1) := by decide +kernel
theorem dX0_add_23 : decode cX0_add 23 = .ok (.getfield 9, 3) := by decide +kernel
theorem dX0_add_26 : decode cX0_add 26 = .ok (.aload_n 0, 1) := by decide +kernel
theorem dX0_add_27 : decode cX0_add 27 = .ok (.getfield 56, 3) := by decide +kernel
theorem dX0_add_30 : decode cX0_add 30 = .ok (.aload_n 1, 1) := by decide +kernel
theorem dX0_add_31 : decode cX0_add 31 = .ok (.getfield 64, 3) := by decide +kernel
theorem dX0_add_34 : decode cX0_add 34 = .ok (.iastore, 1) := by decide +kernel
theorem dX0_add_35 : decode cX0_add 35 = .ok (.aload_n 0, 1) := by decide +kernel
theorem dX0_add_36 : decode cX0_add 36 = .ok (.getfield 15, 3) := by decide +kernel
theorem dX0_add_39 : decode cX0_add 39 = .ok (.aload_n 0, 1) := by decide +kernel
theorem dX0_add_40 : decode cX0_add 40 = .ok (.getfield 56, 3) := by decide +kernel
theorem dX0_add_43 : decode cX0_add 43 = .ok (.aload_n 1, 1) := by decide +kernel
theorem dX0_add_44 : decode cX0_add 44 = .ok (.getfield 66, 3) := by decide +kernel
theorem dX0_add_47 : decode cX0_add 47 = .ok (.iastore, 1) := by decide +kernel
theorem dX0_add_48 : decode cX0_add 48 = .ok (.aload_n 0, 1) := by decide +kernel
theorem dX0_add_49 : decode cX0_add 49 = .ok (.getfield 18, 3) := by decide +kernel
theorem dX0_add_52 : decode cX0_add 52 = .ok (.aload_n 0, 1) := by decide +kernel
theorem dX0_add_53 : decode cX0_add 53 = .ok (.getfield 56, 3) := by decide +kernel
theorem dX0_add_56 : decode cX0_add 56 = .ok (.iload_n 2, 1) := by decide +kernel
theorem dX0_add_57 : decode cX0_add 57 = .ok (.iastore, 1) := by decide +kernel
theorem dX0_add_58 : decode cX0_add 58 = .ok (.aload_n 0, 1) := by decide +kernel
theorem dX0_add_59 : decode cX0_add 59 = .ok (.getfield 38, 3) := by decide +kernel
theorem dX0_add_62 : decode cX0_add 62 = .ok (.aload_n 0, 1) := by decide +kernel
theorem dX0_add_63 : decode cX0_add 63 = .ok (.getfield 56, 3) := by decide +kernel
theorem dX0_add_66 : decode cX0_add 66 = .ok (.iload_n 3, 1) := by decide +kernel
theorem dX0_add_67 : decode cX0_add 67 = .ok (.iastore, 1) := by decide +kernel
theorem dX0_add_68 : decode cX0_add 68 = .ok (.aload_n 0, 1) := by decide +kernel
theorem dX0_add_69 : decode cX0_add 69 = .ok (.getfield 41, 3) := by decide +kernel
theorem dX0_add_72 : decode cX0_add 72 = .ok (.aload_n 0, 1) := by decide +kernel
theorem dX0_add_73 : decode cX0_add 73 = .ok (.getfield 56, 3) := by decide +kernel
theorem dX0_add_76 : decode cX0_add 76 = .ok (.aload_n 1, 1) := by decide +kernel
theorem dX0_add_77 : decode cX0_add 77 = .ok (.getfield 68, 3) := by decide +kernel
theorem dX0_add_80 : decode cX0_add 80 = .ok (.iastore, 1) := by decide +kernel
theorem dX0_add_81 : decode cX0_add 81 = .ok (.aload_n 0, 1) := by decide +kernel
theorem dX0_add_82 : decode cX0_add 82 = .ok (.dup, 1) := by decide +kernel
theorem dX0_add_83 : decode cX0_add 83 = .ok (.getfield 56, 3) := by decide +kernel
theorem dX0_add_86 : decode cX0_add 86 = .ok (.iconst 1, 1) := by decide +kernel
theorem dX0_add_87 : decode cX0_add 87 = .ok (.iadd, 1) := by decide +kernel
theorem dX0_add_88 : decode cX0_add 88 = .ok (.putfield 56, 3) := by decide +kernel
theorem dX0_add_91 : decode cX0_add 91 = .ok (.return_, 1) := by decide +kernel
theorem dX0_slotOf_0 : decode cX0_slotOf 0 = .ok (.iconst 0, 1) := by decide +kernel
theorem dX0_slotOf_1 : decode cX0_slotOf 1 = .ok (.istore_n 2, 1) := by decide +kernel
theorem dX0_slotOf_2 : decode cX0_slotOf 2 = .ok (.iload_n 2, 1) := by decide +kernel
theorem dX0_slotOf_3 : decode cX0_slotOf 3 = .ok (.aload_n 0, 1) := by decide +kernel
theorem dX0_slotOf_4 : decode cX0_slotOf 4 = .ok (.getfield 56, 3) := by decide +kernel
theorem dX0_slotOf_7 : decode cX0_slotOf 7 = .ok (.if_icmp .ge 21, 3) := by decide +kernel
theorem dX0_slotOf_10 : decode cX0_slotOf 10 = .ok (.aload_n 0, 1) := by decide +kernel
theorem dX0_slotOf_11 : decode cX0_slotOf 11 = .ok (.getfield 35, 3) := by decide +kernel
theorem dX0_slotOf_14 : decode cX0_slotOf 14 = .ok (.iload_n 2, 1) := by decide +kernel
theorem dX0_slotOf_15 : decode cX0_slotOf 15 = .ok (.iaload, 1) := by decide +kernel
theorem dX0_slotOf_16 : decode cX0_slotOf 16 = .ok (.iload_n 1, 1) := by decide +kernel
theorem dX0_slotOf_17 : decode cX0_slotOf 17 = .ok (.if_icmp .ne 5, 3) := by decide +kernel
theorem dX0_slotOf_20 : decode cX0_slotOf 20 = .ok (.iload_n 2, 1) := by decide +kernel
theorem dX0_slotOf_21 : decode cX0_slotOf 21 = .ok (.ireturn, 1) := by decide +kernel
theorem dX0_slotOf_22 : decode cX0_slotOf 22 = .ok (.iinc 2 1, 3) := by decide +kernel
theorem dX0_slotOf_25 : decode cX0_slotOf 25 = .ok (.goto (-23), 3) := by decide +kernel
theorem dX0_slotOf_28 : decode cX0_slotOf 28 = .ok (.iconst (-1), 1) := by decide +kernel
theorem dX0_slotOf_29 : decode cX0_slotOf 29 = .ok (.ireturn, 1) := by decide +kernel
theorem dX0_inRow_0 : decode cX0_inRow 0 = .ok (.iload_n 1, 1) := by decide +kernel
theorem dX0_inRow_1 : decode cX0_inRow 1 = .ok (.ifCond .lt 32, 3) := by decide +kernel
theorem dX0_inRow_4 : decode cX0_inRow 4 = .ok (.iload_n 1, 1) := by decide +kernel
theorem dX0_inRow_5 : decode cX0_inRow 5 = .ok (.iconst 4, 1) := by decide +kernel
theorem dX0_inRow_6 : decode cX0_inRow 6 = .ok (.if_icmp .ge 27, 3) := by decide +kernel
theorem dX0_inRow_9 : decode cX0_inRow 9 = .ok (.iload_n 2, 1) := by decide +kernel
theorem dX0_inRow_10 : decode cX0_inRow 10 = .ok (.ifCond .lt 23, 3) := by decide +kernel
theorem dX0_inRow_13 : decode cX0_inRow 13 = .ok (.iload_n 2, 1) := by decide +kernel
theorem dX0_inRow_14 : decode cX0_inRow 14 = .ok (.bipush 6, 2) := by decide +kernel
theorem dX0_inRow_16 : decode cX0_inRow 16 = .ok (.if_icmp .ge 17, 3) := by decide +kernel
theorem dX0_inRow_19 : decode cX0_inRow 19 = .ok (.aload_n 0, 1) := by decide +kernel
theorem dX0_inRow_20 : decode cX0_inRow 20 = .ok (.getfield 44, 3) := by decide +kernel
theorem dX0_inRow_23 : decode cX0_inRow 23 = .ok (.iload_n 1, 1) := by decide +kernel
theorem dX0_inRow_24 : decode cX0_inRow 24 = .ok (.bipush 6, 2) := by decide +kernel
theorem dX0_inRow_26 : decode cX0_inRow 26 = .ok (.imul, 1) := by decide +kernel
theorem dX0_inRow_27 : decode cX0_inRow 27 = .ok (.iload_n 2, 1) := by decide +kernel
theorem dX0_inRow_28 : decode cX0_inRow 28 = .ok (.iadd, 1) := by decide +kernel
theorem dX0_inRow_29 : decode cX0_inRow 29 = .ok (.iaload, 1) := by decide +kernel
theorem dX0_inRow_30 : decode cX0_inRow 30 = .ok (.goto 4, 3) := by decide +kernel
theorem dX0_inRow_33 : decode cX0_inRow 33 = .ok (.iconst (-1), 1) := by decide +kernel
theorem dX0_inRow_34 : decode cX0_inRow 34 = .ok (.ireturn, 1) := by decide +kernel
theorem dX0_begunSlot_0 : decode cX0_begunSlot 0 = .ok (.iconst 0, 1) := by decide +kernel
theorem dX0_begunSlot_1 : decode cX0_begunSlot 1 = .ok (.istore_n 2, 1) := by decide +kernel
theorem dX0_begunSlot_2 : decode cX0_begunSlot 2 = .ok (.iload_n 2, 1) := by decide +kernel
theorem dX0_begunSlot_3 : decode cX0_begunSlot 3 = .ok (.aload_n 0, 1) := by decide +kernel
theorem dX0_begunSlot_4 : decode cX0_begunSlot 4 = .ok (.getfield 56, 3) := by decide +kernel
theorem dX0_begunSlot_7 : decode cX0_begunSlot 7 = .ok (.if_icmp .ge 21, 3) := by decide +kernel
theorem dX0_begunSlot_10 : decode cX0_begunSlot 10 = .ok (.aload_n 0, 1) := by decide +kernel
theorem dX0_begunSlot_11 : decode cX0_begunSlot 11 = .ok (.getfield 41, 3) := by decide +kernel
theorem dX0_begunSlot_14 : decode cX0_begunSlot 14 = .ok (.iload_n 2, 1) := by decide +kernel
theorem dX0_begunSlot_15 : decode cX0_begunSlot 15 = .ok (.iaload, 1) := by decide +kernel
theorem dX0_begunSlot_16 : decode cX0_begunSlot 16 = .ok (.iload_n 1, 1) := by decide +kernel
theorem dX0_begunSlot_17 : decode cX0_begunSlot 17 = .ok (.if_icmp .ne 5, 3) := by decide +kernel
theorem dX0_begunSlot_20 : decode cX0_begunSlot 20 = .ok (.iload_n 2, 1) := by decide +kernel
theorem dX0_begunSlot_21 : decode cX0_begunSlot 21 = .ok (.ireturn, 1) := by decide +kernel
theorem dX0_begunSlot_22 : decode cX0_begunSlot 22 = .ok (.iinc 2 1, 3) := by decide +kernel
theorem dX0_begunSlot_25 : decode cX0_begunSlot 25 = .ok (.goto (-23), 3) := by decide +kernel
theorem dX0_begunSlot_28 : decode cX0_begunSlot 28 = .ok (.iconst (-1), 1) := by decide +kernel
theorem dX0_begunSlot_29 : decode cX0_begunSlot 29 = .ok (.ireturn, 1) := by decide +kernel
theorem dX0_slotsFor_0 : decode cX0_slotsFor 0 = .ok (.iconst 0, 1) := by decide +kernel
theorem dX0_slotsFor_1 : decode cX0_slotsFor 1 = .ok (.istore_n 2, 1) := by decide +kernel
theorem dX0_slotsFor_2 : decode cX0_slotsFor 2 = .ok (.iconst 0, 1) := by decide +kernel
theorem dX0_slotsFor_3 : decode cX0_slotsFor 3 = .ok (.istore_n 3, 1) := by decide +kernel
theorem dX0_slotsFor_4 : decode cX0_slotsFor 4 = .ok (.iload_n 3, 1) := by decide +kernel
theorem dX0_slotsFor_5 : decode cX0_slotsFor 5 = .ok (.aload_n 0, 1) := by decide +kernel
theorem dX0_slotsFor_6 : decode cX0_slotsFor 6 = .ok (.getfield 56, 3) := by decide +kernel
theorem dX0_slotsFor_9 : decode cX0_slotsFor 9 = .ok (.if_icmp .ge 28, 3) := by decide +kernel
theorem dX0_slotsFor_12 : decode cX0_slotsFor 12 = .ok (.aload_n 0, 1) := by decide +kernel
theorem dX0_slotsFor_13 : decode cX0_slotsFor 13 = .ok (.getfield 38, 3) := by decide +kernel
theorem dX0_slotsFor_16 : decode cX0_slotsFor 16 = .ok (.iload_n 3, 1) := by decide +kernel
theorem dX0_slotsFor_17 : decode cX0_slotsFor 17 = .ok (.iaload, 1) := by decide +kernel
theorem dX0_slotsFor_18 : decode cX0_slotsFor 18 = .ok (.iload_n 1, 1) := by decide +kernel
theorem dX0_slotsFor_19 : decode cX0_slotsFor 19 = .ok (.ishr, 1) := by decide +kernel
theorem dX0_slotsFor_20 : decode cX0_slotsFor 20 = .ok (.iconst 1, 1) := by decide +kernel
theorem dX0_slotsFor_21 : decode cX0_slotsFor 21 = .ok (.iand, 1) := by decide +kernel
theorem dX0_slotsFor_22 : decode cX0_slotsFor 22 = .ok (.ifCond .eq 9, 3) := by decide +kernel
theorem dX0_slotsFor_25 : decode cX0_slotsFor 25 = .ok (.iload_n 2, 1) := by decide +kernel
theorem dX0_slotsFor_26 : decode cX0_slotsFor 26 = .ok (.iconst 1, 1) := by decide +kernel
theorem dX0_slotsFor_27 : decode cX0_slotsFor 27 = .ok (.iload_n 3, 1) := by decide +kernel
theorem dX0_slotsFor_28 : decode cX0_slotsFor 28 = .ok (.ishl, 1) := by decide +kernel
theorem dX0_slotsFor_29 : decode cX0_slotsFor 29 = .ok (.ior, 1) := by decide +kernel
theorem dX0_slotsFor_30 : decode cX0_slotsFor 30 = .ok (.istore_n 2, 1) := by decide +kernel
theorem dX0_slotsFor_31 : decode cX0_slotsFor 31 = .ok (.iinc 3 1, 3) := by decide +kernel
theorem dX0_slotsFor_34 : decode cX0_slotsFor 34 = .ok (.goto (-30), 3) := by decide +kernel
theorem dX0_slotsFor_37 : decode cX0_slotsFor 37 = .ok (.iload_n 2, 1) := by decide +kernel
theorem dX0_slotsFor_38 : decode cX0_slotsFor 38 = .ok (.ireturn, 1) := by decide +kernel
theorem dX0_make_0 : decode cX0_make 0 = .ok (.aload_n 0, 1) := by decide +kernel
theorem dX0_make_1 : decode cX0_make 1 = .ok (.invokevirtual 70, 3) := by decide +kernel
theorem dX0_make_4 : decode cX0_make 4 = .ok (.iconst 0, 1) := by decide +kernel
theorem dX0_make_5 : decode cX0_make 5 = .ok (.istore_n 3, 1) := by decide +kernel
theorem dX0_make_6 : decode cX0_make 6 = .ok (.iload_n 3, 1) := by decide +kernel
theorem dX0_make_7 : decode cX0_make 7 = .ok (.iconst 4, 1) := by decide +kernel
theorem dX0_make_8 : decode cX0_make 8 = .ok (.if_icmp .ge 55, 3) := by decide +kernel
theorem dX0_make_11 : decode cX0_make 11 = .ok (.iload_n 3, 1) := by decide +kernel
theorem dX0_make_12 : decode cX0_make 12 = .ok (.aload_n 1, 1) := by decide +kernel
theorem dX0_make_13 : decode cX0_make 13 = .ok (.arraylength, 1) := by decide +kernel
theorem dX0_make_14 : decode cX0_make 14 = .ok (.if_icmp .ge 49, 3) := by decide +kernel
theorem dX0_make_17 : decode cX0_make 17 = .ok (.aload_n 1, 1) := by decide +kernel
theorem dX0_make_18 : decode cX0_make 18 = .ok (.iload_n 3, 1) := by decide +kernel
theorem dX0_make_19 : decode cX0_make 19 = .ok (.aaload, 1) := by decide +kernel
theorem dX0_make_20 : decode cX0_make 20 = .ok (.astore 4, 2) := by decide +kernel
theorem dX0_make_22 : decode cX0_make 22 = .ok (.aload_n 0, 1) := by decide +kernel
theorem dX0_make_23 : decode cX0_make 23 = .ok (.getfield 50, 3) := by decide +kernel
theorem dX0_make_26 : decode cX0_make 26 = .ok (.iload_n 3, 1) := by decide +kernel
theorem dX0_make_27 : decode cX0_make 27 = .ok (.iconst 0, 1) := by decide +kernel
theorem dX0_make_28 : decode cX0_make 28 = .ok (.iastore, 1) := by decide +kernel
theorem dX0_make_29 : decode cX0_make 29 = .ok (.aload 4, 2) := by decide +kernel
theorem dX0_make_31 : decode cX0_make 31 = .ok (.ifnull 26, 3) := by decide +kernel
theorem dX0_make_34 : decode cX0_make 34 = .ok (.aload 4, 2) := by decide +kernel
theorem dX0_make_36 : decode cX0_make 36 = .ok (.getfield 73, 3) := by decide +kernel
theorem dX0_make_39 : decode cX0_make 39 = .ok (.aload_n 0, 1) := by decide +kernel
theorem dX0_make_40 : decode cX0_make 40 = .ok (.aload 4, 2) := by decide +kernel
theorem dX0_make_42 : decode cX0_make 42 = .ok (.iload_n 3, 1) := by decide +kernel
theorem dX0_make_43 : decode cX0_make 43 = .ok (.iconst 0, 1) := by decide +kernel
theorem dX0_make_44 : decode cX0_make 44 = .ok (.aload 4, 2) := by decide +kernel
theorem dX0_make_46 : decode cX0_make 46 = .ok (.getfield 79, 3) := by decide +kernel
theorem dX0_make_49 : decode cX0_make 49 = .ok (.iload_n 2, 1) := by decide +kernel
theorem dX0_make_50 : decode cX0_make 50 = .ok (.isub, 1) := by decide +kernel
theorem dX0_make_51 : decode cX0_make 51 = .ok (.invokestatic 82, 3) := by decide +kernel
theorem dX0_make_54 : decode cX0_make 54 = .ok (.invokevirtual 88, 3) := by decide +kernel
theorem dX0_make_57 : decode cX0_make 57 = .ok (.iinc 3 1, 3) := by decide +kernel
theorem dX0_make_60 : decode cX0_make 60 = .ok (.goto (-54), 3) := by decide +kernel
theorem dX0_make_63 : decode cX0_make 63 = .ok (.aload_n 0, 1) := by decide +kernel
theorem dX0_make_64 : decode cX0_make 64 = .ok (.ldc2_w 92, 3) := by decide +kernel
theorem dX0_make_67 : decode cX0_make 67 = .ok (.putfield 94, 3) := by decide +kernel
theorem dX0_make_70 : decode cX0_make 70 = .ok (.aload_n 0, 1) := by decide +kernel
theorem dX0_make_71 : decode cX0_make 71 = .ok (.aload_n 1, 1) := by decide +kernel
theorem dX0_make_72 : decode cX0_make 72 = .ok (.iconst 0, 1) := by decide +kernel
theorem dX0_make_73 : decode cX0_make 73 = .ok (.lconst 0, 1) := by decide +kernel
theorem dX0_make_74 : decode cX0_make 74 = .ok (.invokestatic 98, 3) := by decide +kernel
theorem dX0_make_77 : decode cX0_make 77 = .ok (.iconst 0, 1) := by decide +kernel
theorem dX0_make_78 : decode cX0_make 78 = .ok (.istore_n 3, 1) := by decide +kernel
theorem dX0_make_79 : decode cX0_make 79 = .ok (.iload_n 3, 1) := by decide +kernel
theorem dX0_make_80 : decode cX0_make 80 = .ok (.iconst 4, 1) := by decide +kernel
theorem dX0_make_81 : decode cX0_make 81 = .ok (.if_icmp .ge 35, 3) := by decide +kernel
theorem dX0_make_84 : decode cX0_make 84 = .ok (.iload_n 3, 1) := by decide +kernel
theorem dX0_make_85 : decode cX0_make 85 = .ok (.aload_n 1, 1) := by decide +kernel
theorem dX0_make_86 : decode cX0_make 86 = .ok (.arraylength, 1) := by decide +kernel
theorem dX0_make_87 : decode cX0_make 87 = .ok (.if_icmp .ge 29, 3) := by decide +kernel
theorem dX0_make_90 : decode cX0_make 90 = .ok (.aload_n 1, 1) := by decide +kernel
theorem dX0_make_91 : decode cX0_make 91 = .ok (.iload_n 3, 1) := by decide +kernel
theorem dX0_make_92 : decode cX0_make 92 = .ok (.aaload, 1) := by decide +kernel
theorem dX0_make_93 : decode cX0_make 93 = .ok (.astore 4, 2) := by decide +kernel
theorem dX0_make_95 : decode cX0_make 95 = .ok (.aload 4, 2) := by decide +kernel
theorem dX0_make_97 : decode cX0_make 97 = .ok (.ifnull 13, 3) := by decide +kernel
theorem dX0_make_100 : decode cX0_make 100 = .ok (.aload_n 0, 1) := by decide +kernel
theorem dX0_make_101 : decode cX0_make 101 = .ok (.aload 4, 2) := by decide +kernel
theorem dX0_make_103 : decode cX0_make 103 = .ok (.getfield 73, 3) := by decide +kernel
theorem dX0_make_106 : decode cX0_make 106 = .ok (.iload_n 3, 1) := by decide +kernel
theorem dX0_make_107 : decode cX0_make 107 = .ok (.invokevirtual 102, 3) := by decide +kernel
theorem dX0_make_110 : decode cX0_make 110 = .ok (.iinc 3 1, 3) := by decide +kernel
theorem dX0_make_113 : decode cX0_make 113 = .ok (.goto (-34), 3) := by decide +kernel
theorem dX0_make_116 : decode cX0_make 116 = .ok (.aload_n 0, 1) := by decide +kernel
theorem dX0_make_117 : decode cX0_make 117 = .ok (.getfield 94, 3) := by decide +kernel
theorem dX0_make_120 : decode cX0_make 120 = .ok (.lreturn, 1) := by decide +kernel
theorem dX0_weighSets_0 : decode cX0_weighSets 0 = .ok (.iconst 1, 1) := by decide +kernel
theorem dX0_weighSets_1 : decode cX0_weighSets 1 = .ok (.istore_n 1, 1) := by decide +kernel
theorem dX0_weighSets_2 : decode cX0_weighSets 2 = .ok (.iload_n 1, 1) := by decide +kernel
theorem dX0_weighSets_3 : decode cX0_weighSets 3 = .ok (.iconst 1, 1) := by decide +kernel
theorem dX0_weighSets_4 : decode cX0_weighSets 4 = .ok (.aload_n 0, 1) := by decide +kernel
theorem dX0_weighSets_5 : decode cX0_weighSets 5 = .ok (.getfield 56, 3) := by decide +kernel
theorem dX0_weighSets_8 : decode cX0_weighSets 8 = .ok (.ishl, 1) := by decide +kernel
theorem dX0_weighSets_9 : decode cX0_weighSets 9 = .ok (.if_icmp .ge 57, 3) := by decide +kernel
theorem dX0_weighSets_12 : decode cX0_weighSets 12 = .ok (.aload_n 0, 1) := by decide +kernel
theorem dX0_weighSets_13 : decode cX0_weighSets 13 = .ok (.getfield 32, 3) := by decide +kernel
theorem dX0_weighSets_16 : decode cX0_weighSets 16 = .ok (.iload_n 1, 1) := by decide +kernel
theorem dX0_weighSets_17 : decode cX0_weighSets 17 = .ok (.iconst 0, 1) := by decide +kernel
theorem dX0_weighSets_18 : decode cX0_weighSets 18 = .ok (.iastore, 1) := by decide +kernel
theorem dX0_weighSets_19 : decode cX0_weighSets 19 = .ok (.iconst 0, 1) := by decide +kernel
theorem dX0_weighSets_20 : decode cX0_weighSets 20 = .ok (.istore_n 2, 1) := by decide +kernel
theorem dX0_weighSets_21 : decode cX0_weighSets 21 = .ok (.iload_n 2, 1) := by decide +kernel
theorem dX0_weighSets_22 : decode cX0_weighSets 22 = .ok (.aload_n 0, 1) := by decide +kernel
theorem dX0_weighSets_23 : decode cX0_weighSets 23 = .ok (.getfield 56, 3) := by decide +kernel
theorem dX0_weighSets_26 : decode cX0_weighSets 26 = .ok (.if_icmp .ge 34, 3) := by decide +kernel
theorem dX0_weighSets_29 : decode cX0_weighSets 29 = .ok (.iload_n 1, 1) := by decide +kernel
theorem dX0_weighSets_30 : decode cX0_weighSets 30 = .ok (.iload_n 2, 1) := by decide +kernel
theorem dX0_weighSets_31 : decode cX0_weighSets 31 = .ok (.ishr, 1) := by decide +kernel
theorem dX0_weighSets_32 : decode cX0_weighSets 32 = .ok (.iconst 1, 1) := by decide +kernel
theorem dX0_weighSets_33 : decode cX0_weighSets 33 = .ok (.iand, 1) := by decide +kernel
theorem dX0_weighSets_34 : decode cX0_weighSets 34 = .ok (.ifCond .eq 20, 3) := by decide +kernel
theorem dX0_weighSets_37 : decode cX0_weighSets 37 = .ok (.aload_n 0, 1) := by decide +kernel
theorem dX0_weighSets_38 : decode cX0_weighSets 38 = .ok (.getfield 32, 3) := by decide +kernel
theorem dX0_weighSets_41 : decode cX0_weighSets 41 = .ok (.iload_n 1, 1) := by decide +kernel
theorem dX0_weighSets_42 : decode cX0_weighSets 42 = .ok (.dup2, 1) := by decide +kernel
theorem dX0_weighSets_43 : decode cX0_weighSets 43 = .ok (.iaload, 1) := by decide +kernel
theorem dX0_weighSets_44 : decode cX0_weighSets 44 = .ok (.aload_n 0, 1) := by decide +kernel
theorem dX0_weighSets_45 : decode cX0_weighSets 45 = .ok (.getfield 18, 3) := by decide +kernel
theorem dX0_weighSets_48 : decode cX0_weighSets 48 = .ok (.iload_n 2, 1) := by decide +kernel
theorem dX0_weighSets_49 : decode cX0_weighSets 49 = .ok (.iaload, 1) := by decide +kernel
theorem dX0_weighSets_50 : decode cX0_weighSets 50 = .ok (.iconst 1, 1) := by decide +kernel
theorem dX0_weighSets_51 : decode cX0_weighSets 51 = .ok (.iadd, 1) := by decide +kernel
theorem dX0_weighSets_52 : decode cX0_weighSets 52 = .ok (.iadd, 1) := by decide +kernel
theorem dX0_weighSets_53 : decode cX0_weighSets 53 = .ok (.iastore, 1) := by decide +kernel
theorem dX0_weighSets_54 : decode cX0_weighSets 54 = .ok (.iinc 2 1, 3) := by decide +kernel
theorem dX0_weighSets_57 : decode cX0_weighSets 57 = .ok (.goto (-36), 3) := by decide +kernel
theorem dX0_weighSets_60 : decode cX0_weighSets 60 = .ok (.iinc 1 1, 3) := by decide +kernel
theorem dX0_weighSets_63 : decode cX0_weighSets 63 = .ok (.goto (-61), 3) := by decide +kernel
theorem dX0_weighSets_66 : decode cX0_weighSets 66 = .ok (.return_, 1) := by decide +kernel
theorem dX0_place_0 : decode cX0_place 0 = .ok (.iload_n 2, 1) := by decide +kernel
theorem dX0_place_1 : decode cX0_place 1 = .ok (.aload_n 0, 1) := by decide +kernel
theorem dX0_place_2 : decode cX0_place 2 = .ok (.getfield 56, 3) := by decide +kernel
theorem dX0_place_5 : decode cX0_place 5 = .ok (.if_icmp .ge 9, 3) := by decide +kernel
theorem dX0_place_8 : decode cX0_place 8 = .ok (.iload_n 2, 1) := by decide +kernel
theorem dX0_place_9 : decode cX0_place 9 = .ok (.bipush 6, 2) := by decide +kernel
theorem dX0_place_11 : decode cX0_place 11 = .ok (.if_icmp .lt 9, 3) := by decide +kernel
theorem dX0_place_14 : decode cX0_place 14 = .ok (.aload_n 0, 1) := by decide +kernel
theorem dX0_place_15 : decode cX0_place 15 = .ok (.lload_n 3, 1) := by decide +kernel
theorem dX0_place_16 : decode cX0_place 16 = .ok (.invokevirtual 106, 3) := by decide +kernel
theorem dX0_place_19 : decode cX0_place 19 = .ok (.return_, 1) := by decide +kernel
theorem dX0_place_20 : decode cX0_place 20 = .ok (.iconst 0, 1) := by decide +kernel
theorem dX0_place_21 : decode cX0_place 21 = .ok (.istore 5, 2) := by decide +kernel
theorem dX0_place_23 : decode cX0_place 23 = .ok (.iload 5, 2) := by decide +kernel
theorem dX0_place_25 : decode cX0_place 25 = .ok (.iconst 4, 1) := by decide +kernel
theorem dX0_place_26 : decode cX0_place 26 = .ok (.if_icmp .ge 129, 3) := by decide +kernel
theorem dX0_place_29 : decode cX0_place 29 = .ok (.iload 5, 2) := by decide +kernel
theorem dX0_place_31 : decode cX0_place 31 = .ok (.aload_n 1, 1) := by decide +kernel
theorem dX0_place_32 : decode cX0_place 32 = .ok (.arraylength, 1) := by decide +kernel
theorem dX0_place_33 : decode cX0_place 33 = .ok (.if_icmp .ge 122, 3) := by decide +kernel
theorem dX0_place_36 : decode cX0_place 36 = .ok (.aload_n 1, 1) := by decide +kernel
theorem dX0_place_37 : decode cX0_place 37 = .ok (.iload 5, 2) := by decide +kernel
theorem dX0_place_39 : decode cX0_place 39 = .ok (.aaload, 1) := by decide +kernel
theorem dX0_place_40 : decode cX0_place 40 = .ok (.astore 6, 2) := by decide +kernel
theorem dX0_place_42 : decode cX0_place 42 = .ok (.aload 6, 2) := by decide +kernel
theorem dX0_place_44 : decode cX0_place 44 = .ok (.ifnull 105, 3) := by decide +kernel
theorem dX0_place_47 : decode cX0_place 47 = .ok (.aload_n 0, 1) := by decide +kernel
theorem dX0_place_48 : decode cX0_place 48 = .ok (.getfield 38, 3) := by decide +kernel
theorem dX0_place_51 : decode cX0_place 51 = .ok (.iload_n 2, 1) := by decide +kernel
theorem dX0_place_52 : decode cX0_place 52 = .ok (.iaload, 1) := by decide +kernel
theorem dX0_place_53 : decode cX0_place 53 = .ok (.iload 5, 2) := by decide +kernel
theorem dX0_place_55 : decode cX0_place 55 = .ok (.ishr, 1) := by decide +kernel
theorem dX0_place_56 : decode cX0_place 56 = .ok (.iconst 1, 1) := by decide +kernel
theorem dX0_place_57 : decode cX0_place 57 = .ok (.iand, 1) := by decide +kernel
theorem dX0_place_58 : decode cX0_place 58 = .ok (.ifCond .eq 91, 3) := by decide +kernel
theorem dX0_place_61 : decode cX0_place 61 = .ok (.aload_n 0, 1) := by decide +kernel
theorem dX0_place_62 : decode cX0_place 62 = .ok (.getfield 50, 3) := by decide +kernel
theorem dX0_place_65 : decode cX0_place 65 = .ok (.iload 5, 2) := by decide +kernel
theorem dX0_place_67 : decode cX0_place 67 = .ok (.iaload, 1) := by decide +kernel
theorem dX0_place_68 : decode cX0_place 68 = .ok (.istore 7, 2) := by decide +kernel
theorem dX0_place_70 : decode cX0_place 70 = .ok (.iload 7, 2) := by decide +kernel
theorem dX0_place_72 : decode cX0_place 72 = .ok (.iconst 1, 1) := by decide +kernel
theorem dX0_place_73 : decode cX0_place 73 = .ok (.iload_n 2, 1) := by decide +kernel
theorem dX0_place_74 : decode cX0_place 74 = .ok (.ishl, 1) := by decide +kernel
theorem dX0_place_75 : decode cX0_place 75 = .ok (.ior, 1) := by decide +kernel
theorem dX0_place_76 : decode cX0_place 76 = .ok (.istore 8, 2) := by decide +kernel
theorem dX0_place_78 : decode cX0_place 78 = .ok (.lload_n 3, 1) := by decide +kernel
theorem dX0_place_79 : decode cX0_place 79 = .ok (.aload 6, 2) := by decide +kernel
theorem dX0_place_81 : decode cX0_place 81 = .ok (.getfield 73, 3) := by decide +kernel
theorem dX0_place_84 : decode cX0_place 84 = .ok (.iload 7, 2) := by decide +kernel
theorem dX0_place_86 : decode cX0_place 86 = .ok (.invokevirtual 110, 3) := by decide +kernel
theorem dX0_place_89 : decode cX0_place 89 = .ok (.lsub, 1) := by decide +kernel
theorem dX0_place_90 : decode cX0_place 90 = .ok (.aload 6, 2) := by decide +kernel
theorem dX0_place_92 : decode cX0_place 92 = .ok (.getfield 73, 3) := by decide +kernel
theorem dX0_place_95 : decode cX0_place 95 = .ok (.iload 8, 2) := by decide +kernel
theorem dX0_place_97 : decode cX0_place 97 = .ok (.invokevirtual 110, 3) := by decide +kernel
theorem dX0_place_100 : decode cX0_place 100 = .ok (.ladd, 1) := by decide +kernel
theorem dX0_place_101 : decode cX0_place 101 = .ok (.lstore 9, 2) := by decide +kernel
theorem dX0_place_103 : decode cX0_place 103 = .ok (.lload 9, 2) := by decide +kernel
theorem dX0_place_105 : decode cX0_place 105 = .ok (.aload_n 0, 1) := by decide +kernel
theorem dX0_place_106 : decode cX0_place 106 = .ok (.getfield 94, 3) := by decide +kernel
theorem dX0_place_109 : decode cX0_place 109 = .ok (.lcmp, 1) := by decide +kernel
theorem dX0_place_110 : decode cX0_place 110 = .ok (.ifCond .ge 39, 3) := by decide +kernel
theorem dX0_place_113 : decode cX0_place 113 = .ok (.aload_n 0, 1) := by decide +kernel
theorem dX0_place_114 : decode cX0_place 114 = .ok (.getfield 50, 3) := by decide +kernel
theorem dX0_place_117 : decode cX0_place 117 = .ok (.iload 5, 2) := by decide +kernel
theorem dX0_place_119 : decode cX0_place 119 = .ok (.iload 8, 2) := by decide +kernel
theorem dX0_place_121 : decode cX0_place 121 = .ok (.iastore, 1) := by decide +kernel
theorem dX0_place_122 : decode cX0_place 122 = .ok (.aload_n 0, 1) := by decide +kernel
theorem dX0_place_123 : decode cX0_place 123 = .ok (.getfield 47, 3) := by decide +kernel
theorem dX0_place_126 : decode cX0_place 126 = .ok (.iload_n 2, 1) := by decide +kernel
theorem dX0_place_127 : decode cX0_place 127 = .ok (.iload 5, 2) := by decide +kernel
theorem dX0_place_129 : decode cX0_place 129 = .ok (.iastore, 1) := by decide +kernel
theorem dX0_place_130 : decode cX0_place 130 = .ok (.aload_n 0, 1) := by decide +kernel
theorem dX0_place_131 : decode cX0_place 131 = .ok (.aload_n 1, 1) := by decide +kernel
theorem dX0_place_132 : decode cX0_place 132 = .ok (.iload_n 2, 1) := by decide +kernel
theorem dX0_place_133 : decode cX0_place 133 = .ok (.iconst 1, 1) := by decide +kernel
theorem dX0_place_134 : decode cX0_place 134 = .ok (.iadd, 1) := by decide +kernel
theorem dX0_place_135 : decode cX0_place 135 = .ok (.lload 9, 2) := by decide +kernel
theorem dX0_place_137 : decode cX0_place 137 = .ok (.invokestatic 98, 3) := by decide +kernel
theorem dX0_place_140 : decode cX0_place 140 = .ok (.aload_n 0, 1) := by decide +kernel
theorem dX0_place_141 : decode cX0_place 141 = .ok (.getfield 50, 3) := by decide +kernel
theorem dX0_place_144 : decode cX0_place 144 = .ok (.iload 5, 2) := by decide +kernel
theorem dX0_place_146 : decode cX0_place 146 = .ok (.iload 7, 2) := by decide +kernel
theorem dX0_place_148 : decode cX0_place 148 = .ok (.iastore, 1) := by decide +kernel
theorem dX0_place_149 : decode cX0_place 149 = .ok (.iinc 5 1, 3) := by decide +kernel
theorem dX0_place_152 : decode cX0_place 152 = .ok (.goto (-129), 3) := by decide +kernel
theorem dX0_place_155 : decode cX0_place 155 = .ok (.return_, 1) := by decide +kernel
theorem dX0_keep_0 : decode cX0_keep 0 = .ok (.aload_n 0, 1) := by decide +kernel
theorem dX0_keep_1 : decode cX0_keep 1 = .ok (.lload_n 1, 1) := by decide +kernel
theorem dX0_keep_2 : decode cX0_keep 2 = .ok (.putfield 94, 3) := by decide +kernel
theorem dX0_keep_5 : decode cX0_keep 5 = .ok (.aload_n 0, 1) := by decide +kernel
theorem dX0_keep_6 : decode cX0_keep 6 = .ok (.getfield 47, 3) := by decide +kernel
theorem dX0_keep_9 : decode cX0_keep 9 = .ok (.iconst 0, 1) := by decide +kernel
theorem dX0_keep_10 : decode cX0_keep 10 = .ok (.aload_n 0, 1) := by decide +kernel
theorem dX0_keep_11 : decode cX0_keep 11 = .ok (.getfield 21, 3) := by decide +kernel
theorem dX0_keep_14 : decode cX0_keep 14 = .ok (.iconst 0, 1) := by decide +kernel
theorem dX0_keep_15 : decode cX0_keep 15 = .ok (.bipush 6, 2) := by decide +kernel
theorem dX0_keep_17 : decode cX0_keep 17 = .ok (.invokestatic 114, 3) := by decide +kernel
theorem dX0_keep_20 : decode cX0_keep 20 = .ok (.return_, 1) := by decide +kernel
theorem dX0_tell_0 : decode cX0_tell 0 = .ok (.iconst 0, 1) := by decide +kernel
theorem dX0_tell_1 : decode cX0_tell 1 = .ok (.istore_n 3, 1) := by decide +kernel
theorem dX0_tell_2 : decode cX0_tell 2 = .ok (.iconst 0, 1) := by decide +kernel
theorem dX0_tell_3 : decode cX0_tell 3 = .ok (.istore 4, 2) := by decide +kernel
theorem dX0_tell_5 : decode cX0_tell 5 = .ok (.iload 4, 2) := by decide +kernel
theorem dX0_tell_7 : decode cX0_tell 7 = .ok (.aload_n 0, 1) := by decide +kernel
theorem dX0_tell_8 : decode cX0_tell 8 = .ok (.getfield 56, 3) := by decide +kernel
theorem dX0_tell_11 : decode cX0_tell 11 = .ok (.if_icmp .ge 27, 3) := by decide +kernel
theorem dX0_tell_14 : decode cX0_tell 14 = .ok (.aload_n 0, 1) := by decide +kernel
theorem dX0_tell_15 : decode cX0_tell 15 = .ok (.getfield 21, 3) := by decide +kernel
theorem dX0_tell_18 : decode cX0_tell 18 = .ok (.iload 4, 2) := by decide +kernel
theorem dX0_tell_20 : decode cX0_tell 20 = .ok (.iaload, 1) := by decide +kernel
theorem dX0_tell_21 : decode cX0_tell 21 = .ok (.iload_n 2, 1) := by decide +kernel
theorem dX0_tell_22 : decode cX0_tell 22 = .ok (.if_icmp .ne 10, 3) := by decide +kernel
theorem dX0_tell_25 : decode cX0_tell 25 = .ok (.iload_n 3, 1) := by decide +kernel
theorem dX0_tell_26 : decode cX0_tell 26 = .ok (.iconst 1, 1) := by decide +kernel
theorem dX0_tell_27 : decode cX0_tell 27 = .ok (.iload 4, 2) := by decide +kernel
theorem dX0_tell_29 : decode cX0_tell 29 = .ok (.ishl, 1) := by decide +kernel
theorem dX0_tell_30 : decode cX0_tell 30 = .ok (.ior, 1) := by decide +kernel
theorem dX0_tell_31 : decode cX0_tell 31 = .ok (.istore_n 3, 1) := by decide +kernel
theorem dX0_tell_32 : decode cX0_tell 32 = .ok (.iinc 4 1, 3) := by decide +kernel
theorem dX0_tell_35 : decode cX0_tell 35 = .ok (.goto (-30), 3) := by decide +kernel
theorem dX0_tell_38 : decode cX0_tell 38 = .ok (.bipush 6, 2) := by decide +kernel
theorem dX0_tell_40 : decode cX0_tell 40 = .ok (.istore 4, 2) := by decide +kernel
theorem dX0_tell_42 : decode cX0_tell 42 = .ok (.iconst 0, 1) := by decide +kernel
theorem dX0_tell_43 : decode cX0_tell 43 = .ok (.istore 5, 2) := by decide +kernel
theorem dX0_tell_45 : decode cX0_tell 45 = .ok (.iconst 0, 1) := by decide +kernel
theorem dX0_tell_46 : decode cX0_tell 46 = .ok (.istore 6, 2) := by decide +kernel
theorem dX0_tell_48 : decode cX0_tell 48 = .ok (.iload 6, 2) := by decide +kernel
theorem dX0_tell_50 : decode cX0_tell 50 = .ok (.bipush 6, 2) := by decide +kernel
theorem dX0_tell_52 : decode cX0_tell 52 = .ok (.if_icmp .ge 106, 3) := by decide +kernel
theorem dX0_tell_55 : decode cX0_tell 55 = .ok (.iload_n 3, 1) := by decide +kernel
theorem dX0_tell_56 : decode cX0_tell 56 = .ok (.ifCond .eq 102, 3) := by decide +kernel
theorem dX0_tell_59 : decode cX0_tell 59 = .ok (.aload_n 1, 1) := by decide +kernel
theorem dX0_tell_60 : decode cX0_tell 60 = .ok (.iload_n 3, 1) := by decide +kernel
theorem dX0_tell_61 : decode cX0_tell 61 = .ok (.iload 4, 2) := by decide +kernel
theorem dX0_tell_63 : decode cX0_tell 63 = .ok (.invokevirtual 120, 3) := by decide +kernel
theorem dX0_tell_66 : decode cX0_tell 66 = .ok (.istore 7, 2) := by decide +kernel
theorem dX0_tell_68 : decode cX0_tell 68 = .ok (.aload_n 0, 1) := by decide +kernel
theorem dX0_tell_69 : decode cX0_tell 69 = .ok (.getfield 24, 3) := by decide +kernel
theorem dX0_tell_72 : decode cX0_tell 72 = .ok (.iload 7, 2) := by decide +kernel
theorem dX0_tell_74 : decode cX0_tell 74 = .ok (.iload 5, 2) := by decide +kernel
theorem dX0_tell_76 : decode cX0_tell 76 = .ok (.aload_n 1, 1) := by decide +kernel
theorem dX0_tell_77 : decode cX0_tell 77 = .ok (.aload_n 0, 1) := by decide +kernel
theorem dX0_tell_78 : decode cX0_tell 78 = .ok (.iload 4, 2) := by decide +kernel
theorem dX0_tell_80 : decode cX0_tell 80 = .ok (.iload 7, 2) := by decide +kernel
theorem dX0_tell_82 : decode cX0_tell 82 = .ok (.invokevirtual 123, 3) := by decide +kernel
theorem dX0_tell_85 : decode cX0_tell 85 = .ok (.iadd, 1) := by decide +kernel
theorem dX0_tell_86 : decode cX0_tell 86 = .ok (.iastore, 1) := by decide +kernel
theorem dX0_tell_87 : decode cX0_tell 87 = .ok (.aload_n 0, 1) := by decide +kernel
theorem dX0_tell_88 : decode cX0_tell 88 = .ok (.getfield 27, 3) := by decide +kernel
theorem dX0_tell_91 : decode cX0_tell 91 = .ok (.iload 7, 2) := by decide +kernel
theorem dX0_tell_93 : decode cX0_tell 93 = .ok (.aload_n 0, 1) := by decide +kernel
theorem dX0_tell_94 : decode cX0_tell 94 = .ok (.getfield 24, 3) := by decide +kernel
theorem dX0_tell_97 : decode cX0_tell 97 = .ok (.iload 7, 2) := by decide +kernel
theorem dX0_tell_99 : decode cX0_tell 99 = .ok (.iaload, 1) := by decide +kernel
theorem dX0_tell_100 : decode cX0_tell 100 = .ok (.aload_n 1, 1) := by decide +kernel
theorem dX0_tell_101 : decode cX0_tell 101 = .ok (.aload_n 0, 1) := by decide +kernel
theorem dX0_tell_102 : decode cX0_tell 102 = .ok (.iload 7, 2) := by decide +kernel
theorem dX0_tell_104 : decode cX0_tell 104 = .ok (.invokevirtual 127, 3) := by decide +kernel
theorem dX0_tell_107 : decode cX0_tell 107 = .ok (.iadd, 1) := by decide +kernel
theorem dX0_tell_108 : decode cX0_tell 108 = .ok (.iastore, 1) := by decide +kernel
theorem dX0_tell_109 : decode cX0_tell 109 = .ok (.aload_n 0, 1) := by decide +kernel
theorem dX0_tell_110 : decode cX0_tell 110 = .ok (.getfield 44, 3) := by decide +kernel
theorem dX0_tell_113 : decode cX0_tell 113 = .ok (.iload_n 2, 1) := by decide +kernel
theorem dX0_tell_114 : decode cX0_tell 114 = .ok (.bipush 6, 2) := by decide +kernel
theorem dX0_tell_116 : decode cX0_tell 116 = .ok (.imul, 1) := by decide +kernel
theorem dX0_tell_117 : decode cX0_tell 117 = .ok (.iload 6, 2) := by decide +kernel
theorem dX0_tell_119 : decode cX0_tell 119 = .ok (.iadd, 1) := by decide +kernel
theorem dX0_tell_120 : decode cX0_tell 120 = .ok (.aload_n 0, 1) := by decide +kernel
theorem dX0_tell_121 : decode cX0_tell 121 = .ok (.getfield 35, 3) := by decide +kernel
theorem dX0_tell_124 : decode cX0_tell 124 = .ok (.iload 7, 2) := by decide +kernel
theorem dX0_tell_126 : decode cX0_tell 126 = .ok (.iaload, 1) := by decide +kernel
theorem dX0_tell_127 : decode cX0_tell 127 = .ok (.iastore, 1) := by decide +kernel
theorem dX0_tell_128 : decode cX0_tell 128 = .ok (.aload_n 0, 1) := by decide +kernel
theorem dX0_tell_129 : decode cX0_tell 129 = .ok (.getfield 27, 3) := by decide +kernel
theorem dX0_tell_132 : decode cX0_tell 132 = .ok (.iload 7, 2) := by decide +kernel
theorem dX0_tell_134 : decode cX0_tell 134 = .ok (.iaload, 1) := by decide +kernel
theorem dX0_tell_135 : decode cX0_tell 135 = .ok (.iconst 3, 1) := by decide +kernel
theorem dX0_tell_136 : decode cX0_tell 136 = .ok (.iadd, 1) := by decide +kernel
theorem dX0_tell_137 : decode cX0_tell 137 = .ok (.istore 5, 2) := by decide +kernel
theorem dX0_tell_139 : decode cX0_tell 139 = .ok (.iload 7, 2) := by decide +kernel
theorem dX0_tell_141 : decode cX0_tell 141 = .ok (.istore 4, 2) := by decide +kernel
theorem dX0_tell_143 : decode cX0_tell 143 = .ok (.iload_n 3, 1) := by decide +kernel
theorem dX0_tell_144 : decode cX0_tell 144 = .ok (.iconst 1, 1) := by decide +kernel
theorem dX0_tell_145 : decode cX0_tell 145 = .ok (.iload 7, 2) := by decide +kernel
theorem dX0_tell_147 : decode cX0_tell 147 = .ok (.ishl, 1) := by decide +kernel
theorem dX0_tell_148 : decode cX0_tell 148 = .ok (.iconst (-1), 1) := by decide +kernel
theorem dX0_tell_149 : decode cX0_tell 149 = .ok (.ixor, 1) := by decide +kernel
theorem dX0_tell_150 : decode cX0_tell 150 = .ok (.iand, 1) := by decide +kernel
theorem dX0_tell_151 : decode cX0_tell 151 = .ok (.istore_n 3, 1) := by decide +kernel
theorem dX0_tell_152 : decode cX0_tell 152 = .ok (.iinc 6 1, 3) := by decide +kernel
theorem dX0_tell_155 : decode cX0_tell 155 = .ok (.goto (-107), 3) := by decide +kernel
theorem dX0_tell_158 : decode cX0_tell 158 = .ok (.return_, 1) := by decide +kernel
end
section
theorem dX1_init_0 : decode cX1_init 0 = .ok (.aload_n 0, 1) := by decide +kernel
theorem dX1_init_1 : decode cX1_init 1 = .ok (.invokespecial 1, 3) := by decide +kernel
theorem dX1_init_4 : decode cX1_init 4 = .ok (.aload_n 0, 1) := by decide +kernel
theorem dX1_init_5 : decode cX1_init 5 = .ok (.new 7, 3) := by decide +kernel
theorem dX1_init_8 : decode cX1_init 8 = .ok (.dup, 1) := by decide +kernel
theorem dX1_init_9 : decode cX1_init 9 = .ok (.invokespecial 9, 3) := by decide +kernel
theorem dX1_init_12 : decode cX1_init 12 = .ok (.putfield 10, 3) := by decide +kernel
theorem dX1_init_15 : decode cX1_init 15 = .ok (.aload_n 0, 1) := by decide +kernel
theorem dX1_init_16 : decode cX1_init 16 = .ok (.iload_n 1, 1) := by decide +kernel
theorem dX1_init_17 : decode cX1_init 17 = .ok (.putfield 16, 3) := by decide +kernel
theorem dX1_init_20 : decode cX1_init 20 = .ok (.aload_n 0, 1) := by decide +kernel
theorem dX1_init_21 : decode cX1_init 21 = .ok (.iload_n 2, 1) := by decide +kernel
theorem dX1_init_22 : decode cX1_init 22 = .ok (.putfield 20, 3) := by decide +kernel
theorem dX1_init_25 : decode cX1_init 25 = .ok (.aload_n 0, 1) := by decide +kernel
theorem dX1_init_26 : decode cX1_init 26 = .ok (.iload_n 3, 1) := by decide +kernel
theorem dX1_init_27 : decode cX1_init 27 = .ok (.putfield 23, 3) := by decide +kernel
theorem dX1_init_30 : decode cX1_init 30 = .ok (.return_, 1) := by decide +kernel
theorem dX1_reaches_0 : decode cX1_reaches 0 = .ok (.aload_n 0, 1) := by decide +kernel
theorem dX1_reaches_1 : decode cX1_reaches 1 = .ok (.aload_n 1, 1) := by decide +kernel
theorem dX1_reaches_2 : decode cX1_reaches 2 = .ok (.getfield 26, 3) := by decide +kernel
theorem dX1_reaches_5 : decode cX1_reaches 5 = .ok (.invokevirtual 31, 3) := by decide +kernel
theorem dX1_reaches_8 : decode cX1_reaches 8 = .ok (.ifCond .eq 18, 3) := by decide +kernel
theorem dX1_reaches_11 : decode cX1_reaches 11 = .ok (.aload_n 0, 1) := by decide +kernel
theorem dX1_reaches_12 : decode cX1_reaches 12 = .ok (.aload_n 1, 1) := by decide +kernel
theorem dX1_reaches_13 : decode cX1_reaches 13 = .ok (.getfield 35, 3) := by decide +kernel
theorem dX1_reaches_16 : decode cX1_reaches 16 = .ok (.invokevirtual 31, 3) := by decide +kernel
theorem dX1_reaches_19 : decode cX1_reaches 19 = .ok (.ifCond .eq 7, 3) := by decide +kernel
theorem dX1_reaches_22 : decode cX1_reaches 22 = .ok (.iconst 1, 1) := by decide +kernel
theorem dX1_reaches_23 : decode cX1_reaches 23 = .ok (.goto 4, 3) := by decide +kernel
theorem dX1_reaches_26 : decode cX1_reaches 26 = .ok (.iconst 0, 1) := by decide +kernel
theorem dX1_reaches_27 : decode cX1_reaches 27 = .ok (.ireturn, 1) := by decide +kernel
theorem dX1_within_0 : decode cX1_within 0 = .ok (.iload_n 1, 1) := by decide +kernel
theorem dX1_within_1 : decode cX1_within 1 = .ok (.aload_n 0, 1) := by decide +kernel
theorem dX1_within_2 : decode cX1_within 2 = .ok (.getfield 38, 3) := by decide +kernel
theorem dX1_within_5 : decode cX1_within 5 = .ok (.if_icmp .lt 15, 3) := by decide +kernel
theorem dX1_within_8 : decode cX1_within 8 = .ok (.iload_n 1, 1) := by decide +kernel
theorem dX1_within_9 : decode cX1_within 9 = .ok (.aload_n 0, 1) := by decide +kernel
theorem dX1_within_10 : decode cX1_within 10 = .ok (.getfield 23, 3) := by decide +kernel
theorem dX1_within_13 : decode cX1_within 13 = .ok (.if_icmp .gt 7, 3) := by decide +kernel
theorem dX1_within_16 : decode cX1_within 16 = .ok (.iconst 1, 1) := by decide +kernel
theorem dX1_within_17 : decode cX1_within 17 = .ok (.goto 4, 3) := by decide +kernel
theorem dX1_within_20 : decode cX1_within 20 = .ok (.iconst 0, 1) := by decide +kernel
theorem dX1_within_21 : decode cX1_within 21 = .ok (.ireturn, 1) := by decide +kernel
theorem dX2_init_0 : decode cX2_init 0 = .ok (.aload_n 0, 1) := by decide +kernel
theorem dX2_init_1 : decode cX2_init 1 = .ok (.invokespecial 3, 3) := by decide +kernel
theorem dX2_init_4 : decode cX2_init 4 = .ok (.aload_n 0, 1) := by decide +kernel
theorem dX2_init_5 : decode cX2_init 5 = .ok (.iconst (-1), 1) := by decide +kernel
theorem dX2_init_6 : decode cX2_init 6 = .ok (.putfield 9, 3) := by decide +kernel
theorem dX2_init_9 : decode cX2_init 9 = .ok (.aload_n 0, 1) := by decide +kernel
theorem dX2_init_10 : decode cX2_init 10 = .ok (.iload_n 1, 1) := by decide +kernel
theorem dX2_init_11 : decode cX2_init 11 = .ok (.putfield 15, 3) := by decide +kernel
theorem dX2_init_14 : decode cX2_init 14 = .ok (.aload_n 0, 1) := by decide +kernel
theorem dX2_init_15 : decode cX2_init 15 = .ok (.iload_n 2, 1) := by decide +kernel
theorem dX2_init_16 : decode cX2_init 16 = .ok (.putfield 18, 3) := by decide +kernel
theorem dX2_init_19 : decode cX2_init 19 = .ok (.aload_n 0, 1) := by decide +kernel
theorem dX2_init_20 : decode cX2_init 20 = .ok (.iload_n 3, 1) := by decide +kernel
theorem dX2_init_21 : decode cX2_init 21 = .ok (.putfield 21, 3) := by decide +kernel
theorem dX2_init_24 : decode cX2_init 24 = .ok (.aload_n 0, 1) := by decide +kernel
theorem dX2_init_25 : decode cX2_init 25 = .ok (.iload 4, 2) := by decide +kernel
theorem dX2_init_27 : decode cX2_init 27 = .ok (.putfield 24, 3) := by decide +kernel
theorem dX2_init_30 : decode cX2_init 30 = .ok (.return_, 1) := by decide +kernel
theorem dX3_init_0 : decode cX3_init 0 = .ok (.aload_n 0, 1) := by decide +kernel
theorem dX3_init_1 : decode cX3_init 1 = .ok (.invokespecial 3, 3) := by decide +kernel
theorem dX3_init_4 : decode cX3_init 4 = .ok (.aload_n 0, 1) := by decide +kernel
theorem dX3_init_5 : decode cX3_init 5 = .ok (.sipush 448, 3) := by decide +kernel
theorem dX3_init_8 : decode cX3_init 8 = .ok (.newarray .long, 2) := by decide +kernel
theorem dX3_init_10 : decode cX3_init 10 = .ok (.putfield 11, 3) := by decide +kernel
theorem dX3_init_13 : decode cX3_init 13 = .ok (.aload_n 0, 1) := by decide +kernel
theorem dX3_init_14 : decode cX3_init 14 = .ok (.sipush 448, 3) := by decide +kernel
theorem dX3_init_17 : decode cX3_init 17 = .ok (.newarray .int, 2) := by decide +kernel
theorem dX3_init_19 : decode cX3_init 19 = .ok (.putfield 15, 3) := by decide +kernel
theorem dX3_init_22 : decode cX3_init 22 = .ok (.return_, 1) := by decide +kernel
theorem dX3_cell_0 : decode cX3_cell 0 = .ok (.iload_n 0, 1) := by decide +kernel
theorem dX3_cell_1 : decode cX3_cell 1 = .ok (.ifCond .lt 28, 3) := by decide +kernel
theorem dX3_cell_4 : decode cX3_cell 4 = .ok (.iload_n 0, 1) := by decide +kernel
theorem dX3_cell_5 : decode cX3_cell 5 = .ok (.bipush 64, 2) := by decide +kernel
theorem dX3_cell_7 : decode cX3_cell 7 = .ok (.if_icmp .ge 22, 3) := by decide +kernel
theorem dX3_cell_10 : decode cX3_cell 10 = .ok (.iload_n 1, 1) := by decide +kernel
theorem dX3_cell_11 : decode cX3_cell 11 = .ok (.ifCond .lt 18, 3) := by decide +kernel
theorem dX3_cell_14 : decode cX3_cell 14 = .ok (.iload_n 1, 1) := by decide +kernel
theorem dX3_cell_15 : decode cX3_cell 15 = .ok (.bipush 7, 2) := by decide +kernel
theorem dX3_cell_17 : decode cX3_cell 17 = .ok (.if_icmp .ge 12, 3) := by decide +kernel
theorem dX3_cell_20 : decode cX3_cell 20 = .ok (.iload_n 0, 1) := by decide +kernel
theorem dX3_cell_21 : decode cX3_cell 21 = .ok (.bipush 7, 2) := by decide +kernel
theorem dX3_cell_23 : decode cX3_cell 23 = .ok (.imul, 1) := by decide +kernel
theorem dX3_cell_24 : decode cX3_cell 24 = .ok (.iload_n 1, 1) := by decide +kernel
theorem dX3_cell_25 : decode cX3_cell 25 = .ok (.iadd, 1) := by decide +kernel
theorem dX3_cell_26 : decode cX3_cell 26 = .ok (.goto 4, 3) := by decide +kernel
theorem dX3_cell_29 : decode cX3_cell 29 = .ok (.iconst 0, 1) := by decide +kernel
theorem dX3_cell_30 : decode cX3_cell 30 = .ok (.ireturn, 1) := by decide +kernel
theorem dX3_costOf_0 : decode cX3_costOf 0 = .ok (.aload_n 0, 1) := by decide +kernel
theorem dX3_costOf_1 : decode cX3_costOf 1 = .ok (.getfield 11, 3) := by decide +kernel
theorem dX3_costOf_4 : decode cX3_costOf 4 = .ok (.iload_n 1, 1) := by decide +kernel
theorem dX3_costOf_5 : decode cX3_costOf 5 = .ok (.bipush 6, 2) := by decide +kernel
theorem dX3_costOf_7 : decode cX3_costOf 7 = .ok (.invokestatic 19, 3) := by decide +kernel
theorem dX3_costOf_10 : decode cX3_costOf 10 = .ok (.laload, 1) := by decide +kernel
theorem dX3_costOf_11 : decode cX3_costOf 11 = .ok (.lreturn, 1) := by decide +kernel
theorem dX3_firstOf_0 : decode cX3_firstOf 0 = .ok (.aload_n 0, 1) := by decide +kernel
theorem dX3_firstOf_1 : decode cX3_firstOf 1 = .ok (.getfield 15, 3) := by decide +kernel
theorem dX3_firstOf_4 : decode cX3_firstOf 4 = .ok (.iload_n 1, 1) := by decide +kernel
theorem dX3_firstOf_5 : decode cX3_firstOf 5 = .ok (.iload_n 2, 1) := by decide +kernel
theorem dX3_firstOf_6 : decode cX3_firstOf 6 = .ok (.invokestatic 19, 3) := by decide +kernel
theorem dX3_firstOf_9 : decode cX3_firstOf 9 = .ok (.iaload, 1) := by decide +kernel
theorem dX3_firstOf_10 : decode cX3_firstOf 10 = .ok (.ireturn, 1) := by decide +kernel
theorem dX3_weigh_0 : decode cX3_weigh 0 = .ok (.aload_n 0, 1) := by decide +kernel
theorem dX3_weigh_1 : decode cX3_weigh 1 = .ok (.aload_n 2, 1) := by decide +kernel
theorem dX3_weigh_2 : decode cX3_weigh 2 = .ok (.getfield 23, 3) := by decide +kernel
theorem dX3_weigh_5 : decode cX3_weigh 5 = .ok (.putfield 29, 3) := by decide +kernel
theorem dX3_weigh_8 : decode cX3_weigh 8 = .ok (.aload_n 0, 1) := by decide +kernel
theorem dX3_weigh_9 : decode cX3_weigh 9 = .ok (.aload_n 2, 1) := by decide +kernel
theorem dX3_weigh_10 : decode cX3_weigh 10 = .ok (.getfield 30, 3) := by decide +kernel
theorem dX3_weigh_13 : decode cX3_weigh 13 = .ok (.putfield 33, 3) := by decide +kernel
theorem dX3_weigh_16 : decode cX3_weigh 16 = .ok (.aload_n 0, 1) := by decide +kernel
theorem dX3_weigh_17 : decode cX3_weigh 17 = .ok (.iload 4, 2) := by decide +kernel
theorem dX3_weigh_19 : decode cX3_weigh 19 = .ok (.putfield 34, 3) := by decide +kernel
theorem dX3_weigh_22 : decode cX3_weigh 22 = .ok (.aload_n 0, 1) := by decide +kernel
theorem dX3_weigh_23 : decode cX3_weigh 23 = .ok (.aload_n 1, 1) := by decide +kernel
theorem dX3_weigh_24 : decode cX3_weigh 24 = .ok (.iload_n 3, 1) := by decide +kernel
theorem dX3_weigh_25 : decode cX3_weigh 25 = .ok (.invokevirtual 37, 3) := by decide +kernel
theorem dX3_weigh_28 : decode cX3_weigh 28 = .ok (.putfield 43, 3) := by decide +kernel
theorem dX3_weigh_31 : decode cX3_weigh 31 = .ok (.aload_n 1, 1) := by decide +kernel
theorem dX3_weigh_32 : decode cX3_weigh 32 = .ok (.iload_n 3, 1) := by decide +kernel
theorem dX3_weigh_33 : decode cX3_weigh 33 = .ok (.invokevirtual 46, 3) := by decide +kernel
theorem dX3_weigh_36 : decode cX3_weigh 36 = .ok (.istore 5, 2) := by decide +kernel
theorem dX3_weigh_38 : decode cX3_weigh 38 = .ok (.iconst 1, 1) := by decide +kernel
theorem dX3_weigh_39 : decode cX3_weigh 39 = .ok (.istore 6, 2) := by decide +kernel
theorem dX3_weigh_41 : decode cX3_weigh 41 = .ok (.iload 6, 2) := by decide +kernel
theorem dX3_weigh_43 : decode cX3_weigh 43 = .ok (.bipush 64, 2) := by decide +kernel
theorem dX3_weigh_45 : decode cX3_weigh 45 = .ok (.if_icmp .ge 81, 3) := by decide +kernel
theorem dX3_weigh_48 : decode cX3_weigh 48 = .ok (.iload 6, 2) := by decide +kernel
theorem dX3_weigh_50 : decode cX3_weigh 50 = .ok (.iload 5, 2) := by decide +kernel
theorem dX3_weigh_52 : decode cX3_weigh 52 = .ok (.iconst (-1), 1) := by decide +kernel
theorem dX3_weigh_53 : decode cX3_weigh 53 = .ok (.ixor, 1) := by decide +kernel
theorem dX3_weigh_54 : decode cX3_weigh 54 = .ok (.iand, 1) := by decide +kernel
theorem dX3_weigh_55 : decode cX3_weigh 55 = .ok (.ifCond .ne 65, 3) := by decide +kernel
theorem dX3_weigh_58 : decode cX3_weigh 58 = .ok (.iconst 0, 1) := by decide +kernel
theorem dX3_weigh_59 : decode cX3_weigh 59 = .ok (.istore 7, 2) := by decide +kernel
theorem dX3_weigh_61 : decode cX3_weigh 61 = .ok (.iload 7, 2) := by decide +kernel
theorem dX3_weigh_63 : decode cX3_weigh 63 = .ok (.bipush 6, 2) := by decide +kernel
theorem dX3_weigh_65 : decode cX3_weigh 65 = .ok (.if_icmp .ge 40, 3) := by decide +kernel
theorem dX3_weigh_68 : decode cX3_weigh 68 = .ok (.iload 5, 2) := by decide +kernel
theorem dX3_weigh_70 : decode cX3_weigh 70 = .ok (.iload 7, 2) := by decide +kernel
theorem dX3_weigh_72 : decode cX3_weigh 72 = .ok (.ishr, 1) := by decide +kernel
theorem dX3_weigh_73 : decode cX3_weigh 73 = .ok (.iconst 1, 1) := by decide +kernel
theorem dX3_weigh_74 : decode cX3_weigh 74 = .ok (.iand, 1) := by decide +kernel
theorem dX3_weigh_75 : decode cX3_weigh 75 = .ok (.ifCond .eq 24, 3) := by decide +kernel
theorem dX3_weigh_78 : decode cX3_weigh 78 = .ok (.iload 6, 2) := by decide +kernel
theorem dX3_weigh_80 : decode cX3_weigh 80 = .ok (.iload 7, 2) := by decide +kernel
theorem dX3_weigh_82 : decode cX3_weigh 82 = .ok (.ishr, 1) := by decide +kernel
theorem dX3_weigh_83 : decode cX3_weigh 83 = .ok (.iconst 1, 1) := by decide +kernel
theorem dX3_weigh_84 : decode cX3_weigh 84 = .ok (.iand, 1) := by decide +kernel
theorem dX3_weigh_85 : decode cX3_weigh 85 = .ok (.ifCond .ne 14, 3) := by decide +kernel
theorem dX3_weigh_88 : decode cX3_weigh 88 = .ok (.aload_n 0, 1) := by decide +kernel
theorem dX3_weigh_89 : decode cX3_weigh 89 = .ok (.aload_n 1, 1) := by decide +kernel
theorem dX3_weigh_90 : decode cX3_weigh 90 = .ok (.iload 6, 2) := by decide +kernel
theorem dX3_weigh_92 : decode cX3_weigh 92 = .ok (.iload 7, 2) := by decide +kernel
theorem dX3_weigh_94 : decode cX3_weigh 94 = .ok (.iload 6, 2) := by decide +kernel
theorem dX3_weigh_96 : decode cX3_weigh 96 = .ok (.invokevirtual 49, 3) := by decide +kernel
theorem dX3_weigh_99 : decode cX3_weigh 99 = .ok (.iinc 7 1, 3) := by decide +kernel
theorem dX3_weigh_102 : decode cX3_weigh 102 = .ok (.goto (-41), 3) := by decide +kernel
theorem dX3_weigh_105 : decode cX3_weigh 105 = .ok (.aload_n 0, 1) := by decide +kernel
theorem dX3_weigh_106 : decode cX3_weigh 106 = .ok (.aload_n 1, 1) := by decide +kernel
theorem dX3_weigh_107 : decode cX3_weigh 107 = .ok (.iload 6, 2) := by decide +kernel
theorem dX3_weigh_109 : decode cX3_weigh 109 = .ok (.bipush 6, 2) := by decide +kernel
theorem dX3_weigh_111 : decode cX3_weigh 111 = .ok (.aload_n 0, 1) := by decide +kernel
theorem dX3_weigh_112 : decode cX3_weigh 112 = .ok (.iload 6, 2) := by decide +kernel
theorem dX3_weigh_114 : decode cX3_weigh 114 = .ok (.invokevirtual 53, 3) := by decide +kernel
theorem dX3_weigh_117 : decode cX3_weigh 117 = .ok (.invokevirtual 49, 3) := by decide +kernel
theorem dX3_weigh_120 : decode cX3_weigh 120 = .ok (.iinc 6 1, 3) := by decide +kernel
theorem dX3_weigh_123 : decode cX3_weigh 123 = .ok (.goto (-82), 3) := by decide +kernel
theorem dX3_weigh_126 : decode cX3_weigh 126 = .ok (.return_, 1) := by decide +kernel
theorem dX3_firsts_0 : decode cX3_firsts 0 = .ok (.aload_n 0, 1) := by decide +kernel
theorem dX3_firsts_1 : decode cX3_firsts 1 = .ok (.getfield 43, 3) := by decide +kernel
theorem dX3_firsts_4 : decode cX3_firsts 4 = .ok (.iconst (-1), 1) := by decide +kernel
theorem dX3_firsts_5 : decode cX3_firsts 5 = .ok (.if_icmp .eq 23, 3) := by decide +kernel
theorem dX3_firsts_8 : decode cX3_firsts 8 = .ok (.iload_n 1, 1) := by decide +kernel
theorem dX3_firsts_9 : decode cX3_firsts 9 = .ok (.aload_n 0, 1) := by decide +kernel
theorem dX3_firsts_10 : decode cX3_firsts 10 = .ok (.getfield 43, 3) := by decide +kernel
theorem dX3_firsts_13 : decode cX3_firsts 13 = .ok (.ishr, 1) := by decide +kernel
theorem dX3_firsts_14 : decode cX3_firsts 14 = .ok (.iconst 1, 1) := by decide +kernel
theorem dX3_firsts_15 : decode cX3_firsts 15 = .ok (.iand, 1) := by decide +kernel
theorem dX3_firsts_16 : decode cX3_firsts 16 = .ok (.ifCond .eq 12, 3) := by decide +kernel
theorem dX3_firsts_19 : decode cX3_firsts 19 = .ok (.iconst 1, 1) := by decide +kernel
theorem dX3_firsts_20 : decode cX3_firsts 20 = .ok (.aload_n 0, 1) := by decide +kernel
theorem dX3_firsts_21 : decode cX3_firsts 21 = .ok (.getfield 43, 3) := by decide +kernel
theorem dX3_firsts_24 : decode cX3_firsts 24 = .ok (.ishl, 1) := by decide +kernel
theorem dX3_firsts_25 : decode cX3_firsts 25 = .ok (.goto 4, 3) := by decide +kernel
theorem dX3_firsts_28 : decode cX3_firsts 28 = .ok (.iload_n 1, 1) := by decide +kernel
theorem dX3_firsts_29 : decode cX3_firsts 29 = .ok (.ireturn, 1) := by decide +kernel
theorem dX3_choose_0 : decode cX3_choose 0 = .ok (.iload_n 2, 1) := by decide +kernel
theorem dX3_choose_1 : decode cX3_choose 1 = .ok (.iload_n 3, 1) := by decide +kernel
theorem dX3_choose_2 : decode cX3_choose 2 = .ok (.invokestatic 19, 3) := by decide +kernel
theorem dX3_choose_5 : decode cX3_choose 5 = .ok (.istore 5, 2) := by decide +kernel
theorem dX3_choose_7 : decode cX3_choose 7 = .ok (.aload_n 0, 1) := by decide +kernel
theorem dX3_choose_8 : decode cX3_choose 8 = .ok (.getfield 11, 3) := by decide +kernel
theorem dX3_choose_11 : decode cX3_choose 11 = .ok (.iload 5, 2) := by decide +kernel
theorem dX3_choose_13 : decode cX3_choose 13 = .ok (.ldc2_w 56, 3) := by decide +kernel
theorem dX3_choose_16 : decode cX3_choose 16 = .ok (.lastore, 1) := by decide +kernel
theorem dX3_choose_17 : decode cX3_choose 17 = .ok (.iconst 0, 1) := by decide +kernel
theorem dX3_choose_18 : decode cX3_choose 18 = .ok (.istore 6, 2) := by decide +kernel
theorem dX3_choose_20 : decode cX3_choose 20 = .ok (.iload 6, 2) := by decide +kernel
theorem dX3_choose_22 : decode cX3_choose 22 = .ok (.bipush 6, 2) := by decide +kernel
theorem dX3_choose_24 : decode cX3_choose 24 = .ok (.if_icmp .ge 128, 3) := by decide +kernel
theorem dX3_choose_27 : decode cX3_choose 27 = .ok (.iload 4, 2) := by decide +kernel
theorem dX3_choose_29 : decode cX3_choose 29 = .ok (.iload 6, 2) := by decide +kernel
theorem dX3_choose_31 : decode cX3_choose 31 = .ok (.ishr, 1) := by decide +kernel
theorem dX3_choose_32 : decode cX3_choose 32 = .ok (.iconst 1, 1) := by decide +kernel
theorem dX3_choose_33 : decode cX3_choose 33 = .ok (.iand, 1) := by decide +kernel
theorem dX3_choose_34 : decode cX3_choose 34 = .ok (.ifCond .eq 112, 3) := by decide +kernel
theorem dX3_choose_37 : decode cX3_choose 37 = .ok (.aload_n 0, 1) := by decide +kernel
theorem dX3_choose_38 : decode cX3_choose 38 = .ok (.aload_n 1, 1) := by decide +kernel
theorem dX3_choose_39 : decode cX3_choose 39 = .ok (.iload_n 3, 1) := by decide +kernel
theorem dX3_choose_40 : decode cX3_choose 40 = .ok (.iload 6, 2) := by decide +kernel
theorem dX3_choose_42 : decode cX3_choose 42 = .ok (.invokevirtual 58, 3) := by decide +kernel
theorem dX3_choose_45 : decode cX3_choose 45 = .ok (.istore 7, 2) := by decide +kernel
theorem dX3_choose_47 : decode cX3_choose 47 = .ok (.iload 7, 2) := by decide +kernel
theorem dX3_choose_49 : decode cX3_choose 49 = .ok (.aload_n 0, 1) := by decide +kernel
theorem dX3_choose_50 : decode cX3_choose 50 = .ok (.aload_n 1, 1) := by decide +kernel
theorem dX3_choose_51 : decode cX3_choose 51 = .ok (.iload 6, 2) := by decide +kernel
theorem dX3_choose_53 : decode cX3_choose 53 = .ok (.invokevirtual 62, 3) := by decide +kernel
theorem dX3_choose_56 : decode cX3_choose 56 = .ok (.iadd, 1) := by decide +kernel
theorem dX3_choose_57 : decode cX3_choose 57 = .ok (.istore 8, 2) := by decide +kernel
theorem dX3_choose_59 : decode cX3_choose 59 = .ok (.iload_n 2, 1) := by decide +kernel
theorem dX3_choose_60 : decode cX3_choose 60 = .ok (.iconst 1, 1) := by decide +kernel
theorem dX3_choose_61 : decode cX3_choose 61 = .ok (.iload 6, 2) := by decide +kernel
theorem dX3_choose_63 : decode cX3_choose 63 = .ok (.ishl, 1) := by decide +kernel
theorem dX3_choose_64 : decode cX3_choose 64 = .ok (.iconst (-1), 1) := by decide +kernel
theorem dX3_choose_65 : decode cX3_choose 65 = .ok (.ixor, 1) := by decide +kernel
theorem dX3_choose_66 : decode cX3_choose 66 = .ok (.iand, 1) := by decide +kernel
theorem dX3_choose_67 : decode cX3_choose 67 = .ok (.istore 9, 2) := by decide +kernel
theorem dX3_choose_69 : decode cX3_choose 69 = .ok (.aload_n 1, 1) := by decide +kernel
theorem dX3_choose_70 : decode cX3_choose 70 = .ok (.getfield 66, 3) := by decide +kernel
theorem dX3_choose_73 : decode cX3_choose 73 = .ok (.iload 6, 2) := by decide +kernel
theorem dX3_choose_75 : decode cX3_choose 75 = .ok (.iaload, 1) := by decide +kernel
theorem dX3_choose_76 : decode cX3_choose 76 = .ok (.i2l, 1) := by decide +kernel
theorem dX3_choose_77 : decode cX3_choose 77 = .ok (.iload 7, 2) := by decide +kernel
theorem dX3_choose_79 : decode cX3_choose 79 = .ok (.i2l, 1) := by decide +kernel
theorem dX3_choose_80 : decode cX3_choose 80 = .ok (.lmul, 1) := by decide +kernel
theorem dX3_choose_81 : decode cX3_choose 81 = .ok (.iload 8, 2) := by decide +kernel
theorem dX3_choose_83 : decode cX3_choose 83 = .ok (.i2l, 1) := by decide +kernel
theorem dX3_choose_84 : decode cX3_choose 84 = .ok (.ladd, 1) := by decide +kernel
theorem dX3_choose_85 : decode cX3_choose 85 = .ok (.iload 8, 2) := by decide +kernel
theorem dX3_choose_87 : decode cX3_choose 87 = .ok (.iconst 3, 1) := by decide +kernel
theorem dX3_choose_88 : decode cX3_choose 88 = .ok (.iadd, 1) := by decide +kernel
theorem dX3_choose_89 : decode cX3_choose 89 = .ok (.i2l, 1) := by decide +kernel
theorem dX3_choose_90 : decode cX3_choose 90 = .ok (.aload_n 1, 1) := by decide +kernel
theorem dX3_choose_91 : decode cX3_choose 91 = .ok (.getfield 69, 3) := by decide +kernel
theorem dX3_choose_94 : decode cX3_choose 94 = .ok (.iload 9, 2) := by decide +kernel
theorem dX3_choose_96 : decode cX3_choose 96 = .ok (.iaload, 1) := by decide +kernel
theorem dX3_choose_97 : decode cX3_choose 97 = .ok (.i2l, 1) := by decide +kernel
theorem dX3_choose_98 : decode cX3_choose 98 = .ok (.lmul, 1) := by decide +kernel
theorem dX3_choose_99 : decode cX3_choose 99 = .ok (.ladd, 1) := by decide +kernel
theorem dX3_choose_100 : decode cX3_choose 100 = .ok (.aload_n 0, 1) := by decide +kernel
theorem dX3_choose_101 : decode cX3_choose 101 = .ok (.getfield 11, 3) := by decide +kernel
theorem dX3_choose_104 : decode cX3_choose 104 = .ok (.iload 9, 2) := by decide +kernel
theorem dX3_choose_106 : decode cX3_choose 106 = .ok (.iload 6, 2) := by decide +kernel
theorem dX3_choose_108 : decode cX3_choose 108 = .ok (.invokestatic 19, 3) := by decide +kernel
theorem dX3_choose_111 : decode cX3_choose 111 = .ok (.laload, 1) := by decide +kernel
theorem dX3_choose_112 : decode cX3_choose 112 = .ok (.ladd, 1) := by decide +kernel
theorem dX3_choose_113 : decode cX3_choose 113 = .ok (.lstore 10, 2) := by decide +kernel
theorem dX3_choose_115 : decode cX3_choose 115 = .ok (.lload 10, 2) := by decide +kernel
theorem dX3_choose_117 : decode cX3_choose 117 = .ok (.aload_n 0, 1) := by decide +kernel
theorem dX3_choose_118 : decode cX3_choose 118 = .ok (.getfield 11, 3) := by decide +kernel
theorem dX3_choose_121 : decode cX3_choose 121 = .ok (.iload 5, 2) := by decide +kernel
theorem dX3_choose_123 : decode cX3_choose 123 = .ok (.laload, 1) := by decide +kernel
theorem dX3_choose_124 : decode cX3_choose 124 = .ok (.lcmp, 1) := by decide +kernel
theorem dX3_choose_125 : decode cX3_choose 125 = .ok (.ifCond .ge 21, 3) := by decide +kernel
theorem dX3_choose_128 : decode cX3_choose 128 = .ok (.aload_n 0, 1) := by decide +kernel
theorem dX3_choose_129 : decode cX3_choose 129 = .ok (.getfield 11, 3) := by decide +kernel
theorem dX3_choose_132 : decode cX3_choose 132 = .ok (.iload 5, 2) := by decide +kernel
theorem dX3_choose_134 : decode cX3_choose 134 = .ok (.lload 10, 2) := by decide +kernel
theorem dX3_choose_136 : decode cX3_choose 136 = .ok (.lastore, 1) := by decide +kernel
theorem dX3_choose_137 : decode cX3_choose 137 = .ok (.aload_n 0, 1) := by decide +kernel
theorem dX3_choose_138 : decode cX3_choose 138 = .ok (.getfield 15, 3) := by decide +kernel
theorem dX3_choose_141 : decode cX3_choose 141 = .ok (.iload 5, 2) := by decide +kernel
theorem dX3_choose_143 : decode cX3_choose 143 = .ok (.iload 6, 2) := by decide +kernel
theorem dX3_choose_145 : decode cX3_choose 145 = .ok (.iastore, 1) := by decide +kernel
theorem dX3_choose_146 : decode cX3_choose 146 = .ok (.iinc 6 1, 3) := by decide +kernel
theorem dX3_choose_149 : decode cX3_choose 149 = .ok (.goto (-129), 3) := by decide +kernel
theorem dX3_choose_152 : decode cX3_choose 152 = .ok (.return_, 1) := by decide +kernel
theorem dX3_secondsTo_0 : decode cX3_secondsTo 0 = .ok (.iload_n 2, 1) := by decide +kernel
theorem dX3_secondsTo_1 : decode cX3_secondsTo 1 = .ok (.ifCond .lt 31, 3) := by decide +kernel
theorem dX3_secondsTo_4 : decode cX3_secondsTo 4 = .ok (.iload_n 2, 1) := by decide +kernel
theorem dX3_secondsTo_5 : decode cX3_secondsTo 5 = .ok (.bipush 6, 2) := by decide +kernel
theorem dX3_secondsTo_7 : decode cX3_secondsTo 7 = .ok (.if_icmp .ge 25, 3) := by decide +kernel
theorem dX3_secondsTo_10 : decode cX3_secondsTo 10 = .ok (.aload_n 0, 1) := by decide +kernel
theorem dX3_secondsTo_11 : decode cX3_secondsTo 11 = .ok (.getfield 29, 3) := by decide +kernel
theorem dX3_secondsTo_14 : decode cX3_secondsTo 14 = .ok (.aload_n 1, 1) := by decide +kernel
theorem dX3_secondsTo_15 : decode cX3_secondsTo 15 = .ok (.getfield 72, 3) := by decide +kernel
theorem dX3_secondsTo_18 : decode cX3_secondsTo 18 = .ok (.iload_n 2, 1) := by decide +kernel
theorem dX3_secondsTo_19 : decode cX3_secondsTo 19 = .ok (.iaload, 1) := by decide +kernel
theorem dX3_secondsTo_20 : decode cX3_secondsTo 20 = .ok (.aload_n 1, 1) := by decide +kernel
theorem dX3_secondsTo_21 : decode cX3_secondsTo 21 = .ok (.getfield 75, 3) := by decide +kernel
theorem dX3_secondsTo_24 : decode cX3_secondsTo 24 = .ok (.iload_n 3, 1) := by decide +kernel
theorem dX3_secondsTo_25 : decode cX3_secondsTo 25 = .ok (.iaload, 1) := by decide +kernel
theorem dX3_secondsTo_26 : decode cX3_secondsTo 26 = .ok (.isub, 1) := by decide +kernel
theorem dX3_secondsTo_27 : decode cX3_secondsTo 27 = .ok (.invokestatic 78, 3) := by decide +kernel
theorem dX3_secondsTo_30 : decode cX3_secondsTo 30 = .ok (.imul, 1) := by decide +kernel
theorem dX3_secondsTo_31 : decode cX3_secondsTo 31 = .ok (.ireturn, 1) := by decide +kernel
theorem dX3_secondsTo_32 : decode cX3_secondsTo 32 = .ok (.aload_n 0, 1) := by decide +kernel
theorem dX3_secondsTo_33 : decode cX3_secondsTo 33 = .ok (.getfield 34, 3) := by decide +kernel
theorem dX3_secondsTo_36 : decode cX3_secondsTo 36 = .ok (.aload_n 0, 1) := by decide +kernel
theorem dX3_secondsTo_37 : decode cX3_secondsTo 37 = .ok (.getfield 29, 3) := by decide +kernel
theorem dX3_secondsTo_40 : decode cX3_secondsTo 40 = .ok (.aload_n 0, 1) := by decide +kernel
theorem dX3_secondsTo_41 : decode cX3_secondsTo 41 = .ok (.getfield 33, 3) := by decide +kernel
theorem dX3_secondsTo_44 : decode cX3_secondsTo 44 = .ok (.aload_n 1, 1) := by decide +kernel
theorem dX3_secondsTo_45 : decode cX3_secondsTo 45 = .ok (.getfield 75, 3) := by decide +kernel
theorem dX3_secondsTo_48 : decode cX3_secondsTo 48 = .ok (.iload_n 3, 1) := by decide +kernel
theorem dX3_secondsTo_49 : decode cX3_secondsTo 49 = .ok (.iaload, 1) := by decide +kernel
theorem dX3_secondsTo_50 : decode cX3_secondsTo 50 = .ok (.isub, 1) := by decide +kernel
theorem dX3_secondsTo_51 : decode cX3_secondsTo 51 = .ok (.invokestatic 78, 3) := by decide +kernel
theorem dX3_secondsTo_54 : decode cX3_secondsTo 54 = .ok (.imul, 1) := by decide +kernel
theorem dX3_secondsTo_55 : decode cX3_secondsTo 55 = .ok (.iadd, 1) := by decide +kernel
theorem dX3_secondsTo_56 : decode cX3_secondsTo 56 = .ok (.ireturn, 1) := by decide +kernel
theorem dX3_secondsWith_0 : decode cX3_secondsWith 0 = .ok (.iconst 3, 1) := by decide +kernel
theorem dX3_secondsWith_1 : decode cX3_secondsWith 1 = .ok (.aload_n 0, 1) := by decide +kernel
theorem dX3_secondsWith_2 : decode cX3_secondsWith 2 = .ok (.getfield 29, 3) := by decide +kernel
theorem dX3_secondsWith_5 : decode cX3_secondsWith 5 = .ok (.aload_n 1, 1) := by decide +kernel
theorem dX3_secondsWith_6 : decode cX3_secondsWith 6 = .ok (.getfield 75, 3) := by decide +kernel
theorem dX3_secondsWith_9 : decode cX3_secondsWith 9 = .ok (.iload_n 2, 1) := by decide +kernel
theorem dX3_secondsWith_10 : decode cX3_secondsWith 10 = .ok (.iaload, 1) := by decide +kernel
theorem dX3_secondsWith_11 : decode cX3_secondsWith 11 = .ok (.aload_n 1, 1) := by decide +kernel
theorem dX3_secondsWith_12 : decode cX3_secondsWith 12 = .ok (.getfield 72, 3) := by decide +kernel
theorem dX3_secondsWith_15 : decode cX3_secondsWith 15 = .ok (.iload_n 2, 1) := by decide +kernel
theorem dX3_secondsWith_16 : decode cX3_secondsWith 16 = .ok (.iaload, 1) := by decide +kernel
theorem dX3_secondsWith_17 : decode cX3_secondsWith 17 = .ok (.isub, 1) := by decide +kernel
theorem dX3_secondsWith_18 : decode cX3_secondsWith 18 = .ok (.invokestatic 78, 3) := by decide +kernel
theorem dX3_secondsWith_21 : decode cX3_secondsWith 21 = .ok (.imul, 1) := by decide +kernel
theorem dX3_secondsWith_22 : decode cX3_secondsWith 22 = .ok (.iadd, 1) := by decide +kernel
theorem dX3_secondsWith_23 : decode cX3_secondsWith 23 = .ok (.ireturn, 1) := by decide +kernel
end
section
theorem dX4_init_0 : decode cX4_init 0 = .ok (.aload_n 0, 1) := by decide +kernel
theorem dX4_init_1 : decode cX4_init 1 = .ok (.invokespecial 1, 3) := by decide +kernel
theorem dX4_init_4 : decode cX4_init 4 = .ok (.aload_n 0, 1) := by decide +kernel
theorem dX4_init_5 : decode cX4_init 5 = .ok (.iconst 4, 1) := by decide +kernel
theorem dX4_init_6 : decode cX4_init 6 = .ok (.anewarray 9, 3) := by decide +kernel
theorem dX4_init_9 : decode cX4_init 9 = .ok (.putfield 11, 3) := by decide +kernel
theorem dX4_init_12 : decode cX4_init 12 = .ok (.aload_n 0, 1) := by decide +kernel
theorem dX4_init_13 : decode cX4_init 13 = .ok (.bipush 6, 2) := by decide +kernel
theorem dX4_init_15 : decode cX4_init 15 = .ok (.anewarray 15, 3) := by decide +kernel
theorem dX4_init_18 : decode cX4_init 18 = .ok (.putfield 17, 3) := by decide +kernel
theorem dX4_init_21 : decode cX4_init 21 = .ok (.aload_n 0, 1) := by decide +kernel
theorem dX4_init_22 : decode cX4_init 22 = .ok (.new 21, 3) := by decide +kernel
theorem dX4_init_25 : decode cX4_init 25 = .ok (.dup, 1) := by decide +kernel
theorem dX4_init_26 : decode cX4_init 26 = .ok (.invokespecial 23, 3) := by decide +kernel
theorem dX4_init_29 : decode cX4_init 29 = .ok (.putfield 24, 3) := by decide +kernel
theorem dX4_init_32 : decode cX4_init 32 = .ok (.aload_n 0, 1) := by decide +kernel
theorem dX4_init_33 : decode cX4_init 33 = .ok (.iconst 2, 1) := by decide +kernel
theorem dX4_init_34 : decode cX4_init 34 = .ok (.bipush 60, 2) := by decide +kernel
theorem dX4_init_36 : decode cX4_init 36 = .ok (.iload_n 1, 1) := by decide +kernel
theorem dX4_init_37 : decode cX4_init 37 = .ok (.invokestatic 28, 3) := by decide +kernel
theorem dX4_init_40 : decode cX4_init 40 = .ok (.invokestatic 34, 3) := by decide +kernel
theorem dX4_init_43 : decode cX4_init 43 = .ok (.putfield 37, 3) := by decide +kernel
theorem dX4_init_46 : decode cX4_init 46 = .ok (.return_, 1) := by decide +kernel
theorem dX4_car_0 : decode cX4_car 0 = .ok (.aload_n 0, 1) := by decide +kernel
theorem dX4_car_1 : decode cX4_car 1 = .ok (.iload_n 1, 1) := by decide +kernel
theorem dX4_car_2 : decode cX4_car 2 = .ok (.invokevirtual 41, 3) := by decide +kernel
theorem dX4_car_5 : decode cX4_car 5 = .ok (.ifCond .eq 13, 3) := by decide +kernel
theorem dX4_car_8 : decode cX4_car 8 = .ok (.iload_n 2, 1) := by decide +kernel
theorem dX4_car_9 : decode cX4_car 9 = .ok (.iconst 1, 1) := by decide +kernel
theorem dX4_car_10 : decode cX4_car 10 = .ok (.if_icmp .lt 8, 3) := by decide +kernel
theorem dX4_car_13 : decode cX4_car 13 = .ok (.iload_n 2, 1) := by decide +kernel
theorem dX4_car_14 : decode cX4_car 14 = .ok (.iconst 5, 1) := by decide +kernel
theorem dX4_car_15 : decode cX4_car 15 = .ok (.if_icmp .le 13, 3) := by decide +kernel
theorem dX4_car_18 : decode cX4_car 18 = .ok (.new 45, 3) := by decide +kernel
theorem dX4_car_21 : decode cX4_car 21 = .ok (.dup, 1) := by decide +kernel
theorem dX4_car_22 : decode cX4_car 22 = .ok (.ldc 47, 2) := by decide +kernel
theorem dX4_car_24 : decode cX4_car 24 = .ok (.invokespecial 49, 3) := by decide +kernel
theorem dX4_car_27 : decode cX4_car 27 = .ok (.athrow, 1) := by decide +kernel
theorem dX4_car_28 : decode cX4_car 28 = .ok (.aload_n 0, 1) := by decide +kernel
theorem dX4_car_29 : decode cX4_car 29 = .ok (.getfield 52, 3) := by decide +kernel
theorem dX4_car_32 : decode cX4_car 32 = .ok (.aload_n 0, 1) := by decide +kernel
theorem dX4_car_33 : decode cX4_car 33 = .ok (.getfield 11, 3) := by decide +kernel
theorem dX4_car_36 : decode cX4_car 36 = .ok (.arraylength, 1) := by decide +kernel
theorem dX4_car_37 : decode cX4_car 37 = .ok (.if_icmp .lt 13, 3) := by decide +kernel
theorem dX4_car_40 : decode cX4_car 40 = .ok (.new 55, 3) := by decide +kernel
theorem dX4_car_43 : decode cX4_car 43 = .ok (.dup, 1) := by decide +kernel
theorem dX4_car_44 : decode cX4_car 44 = .ok (.ldc 57, 2) := by decide +kernel
theorem dX4_car_46 : decode cX4_car 46 = .ok (.invokespecial 59, 3) := by decide +kernel
theorem dX4_car_49 : decode cX4_car 49 = .ok (.athrow, 1) := by decide +kernel
theorem dX4_car_50 : decode cX4_car 50 = .ok (.aload_n 0, 1) := by decide +kernel
theorem dX4_car_51 : decode cX4_car 51 = .ok (.getfield 11, 3) := by decide +kernel
theorem dX4_car_54 : decode cX4_car 54 = .ok (.aload_n 0, 1) := by decide +kernel
theorem dX4_car_55 : decode cX4_car 55 = .ok (.getfield 52, 3) := by decide +kernel
theorem dX4_car_58 : decode cX4_car 58 = .ok (.new 9, 3) := by decide +kernel
theorem dX4_car_61 : decode cX4_car 61 = .ok (.dup, 1) := by decide +kernel
theorem dX4_car_62 : decode cX4_car 62 = .ok (.iload_n 2, 1) := by decide +kernel
theorem dX4_car_63 : decode cX4_car 63 = .ok (.iload_n 1, 1) := by decide +kernel
theorem dX4_car_64 : decode cX4_car 64 = .ok (.aload_n 0, 1) := by decide +kernel
theorem dX4_car_65 : decode cX4_car 65 = .ok (.getfield 37, 3) := by decide +kernel
theorem dX4_car_68 : decode cX4_car 68 = .ok (.iconst 1, 1) := by decide +kernel
theorem dX4_car_69 : decode cX4_car 69 = .ok (.isub, 1) := by decide +kernel
theorem dX4_car_70 : decode cX4_car 70 = .ok (.invokespecial 60, 3) := by decide +kernel
theorem dX4_car_73 : decode cX4_car 73 = .ok (.aastore, 1) := by decide +kernel
theorem dX4_car_74 : decode cX4_car 74 = .ok (.aload_n 0, 1) := by decide +kernel
theorem dX4_car_75 : decode cX4_car 75 = .ok (.dup, 1) := by decide +kernel
theorem dX4_car_76 : decode cX4_car 76 = .ok (.getfield 52, 3) := by decide +kernel
theorem dX4_car_79 : decode cX4_car 79 = .ok (.iconst 1, 1) := by decide +kernel
theorem dX4_car_80 : decode cX4_car 80 = .ok (.iadd, 1) := by decide +kernel
theorem dX4_car_81 : decode cX4_car 81 = .ok (.putfield 52, 3) := by decide +kernel
theorem dX4_car_84 : decode cX4_car 84 = .ok (.aload_n 0, 1) := by decide +kernel
theorem dX4_car_85 : decode cX4_car 85 = .ok (.getfield 52, 3) := by decide +kernel
theorem dX4_car_88 : decode cX4_car 88 = .ok (.iconst 1, 1) := by decide +kernel
theorem dX4_car_89 : decode cX4_car 89 = .ok (.isub, 1) := by decide +kernel
theorem dX4_car_90 : decode cX4_car 90 = .ok (.ireturn, 1) := by decide +kernel
theorem dX4_free_0 : decode cX4_free 0 = .ok (.aload_n 0, 1) := by decide +kernel
theorem dX4_free_1 : decode cX4_free 1 = .ok (.iload_n 1, 1) := by decide +kernel
theorem dX4_free_2 : decode cX4_free 2 = .ok (.invokevirtual 63, 3) := by decide +kernel
theorem dX4_free_5 : decode cX4_free 5 = .ok (.astore 4, 2) := by decide +kernel
theorem dX4_free_7 : decode cX4_free 7 = .ok (.aload 4, 2) := by decide +kernel
theorem dX4_free_9 : decode cX4_free 9 = .ok (.ifnull 21, 3) := by decide +kernel
theorem dX4_free_12 : decode cX4_free 12 = .ok (.aload_n 0, 1) := by decide +kernel
theorem dX4_free_13 : decode cX4_free 13 = .ok (.iload_n 2, 1) := by decide +kernel
theorem dX4_free_14 : decode cX4_free 14 = .ok (.invokevirtual 41, 3) := by decide +kernel
theorem dX4_free_17 : decode cX4_free 17 = .ok (.ifCond .eq 13, 3) := by decide +kernel
theorem dX4_free_20 : decode cX4_free 20 = .ok (.iload_n 3, 1) := by decide +kernel
theorem dX4_free_21 : decode cX4_free 21 = .ok (.ifCond .lt 9, 3) := by decide +kernel
theorem dX4_free_24 : decode cX4_free 24 = .ok (.iload_n 3, 1) := by decide +kernel
theorem dX4_free_25 : decode cX4_free 25 = .ok (.ldc 67, 2) := by decide +kernel
theorem dX4_free_27 : decode cX4_free 27 = .ok (.if_icmp .le 13, 3) := by decide +kernel
theorem dX4_free_30 : decode cX4_free 30 = .ok (.new 45, 3) := by decide +kernel
theorem dX4_free_33 : decode cX4_free 33 = .ok (.dup, 1) := by decide +kernel
theorem dX4_free_34 : decode cX4_free 34 = .ok (.ldc 68, 2) := by decide +kernel
theorem dX4_free_36 : decode cX4_free 36 = .ok (.invokespecial 49, 3) := by decide +kernel
theorem dX4_free_39 : decode cX4_free 39 = .ok (.athrow, 1) := by decide +kernel
theorem dX4_free_40 : decode cX4_free 40 = .ok (.aload 4, 2) := by decide +kernel
theorem dX4_free_42 : decode cX4_free 42 = .ok (.iload_n 2, 1) := by decide +kernel
theorem dX4_free_43 : decode cX4_free 43 = .ok (.putfield 70, 3) := by decide +kernel
theorem dX4_free_46 : decode cX4_free 46 = .ok (.aload 4, 2) := by decide +kernel
theorem dX4_free_48 : decode cX4_free 48 = .ok (.iload_n 3, 1) := by decide +kernel
theorem dX4_free_49 : decode cX4_free 49 = .ok (.putfield 73, 3) := by decide +kernel
theorem dX4_free_52 : decode cX4_free 52 = .ok (.return_, 1) := by decide +kernel
theorem dX4_zone_0 : decode cX4_zone 0 = .ok (.aload_n 0, 1) := by decide +kernel
theorem dX4_zone_1 : decode cX4_zone 1 = .ok (.iload_n 1, 1) := by decide +kernel
theorem dX4_zone_2 : decode cX4_zone 2 = .ok (.invokevirtual 63, 3) := by decide +kernel
theorem dX4_zone_5 : decode cX4_zone 5 = .ok (.astore 4, 2) := by decide +kernel
theorem dX4_zone_7 : decode cX4_zone 7 = .ok (.aload 4, 2) := by decide +kernel
theorem dX4_zone_9 : decode cX4_zone 9 = .ok (.ifnull 24, 3) := by decide +kernel
theorem dX4_zone_12 : decode cX4_zone 12 = .ok (.aload_n 0, 1) := by decide +kernel
theorem dX4_zone_13 : decode cX4_zone 13 = .ok (.iload_n 2, 1) := by decide +kernel
theorem dX4_zone_14 : decode cX4_zone 14 = .ok (.invokevirtual 41, 3) := by decide +kernel
theorem dX4_zone_17 : decode cX4_zone 17 = .ok (.ifCond .eq 16, 3) := by decide +kernel
theorem dX4_zone_20 : decode cX4_zone 20 = .ok (.aload_n 0, 1) := by decide +kernel
theorem dX4_zone_21 : decode cX4_zone 21 = .ok (.iload_n 3, 1) := by decide +kernel
theorem dX4_zone_22 : decode cX4_zone 22 = .ok (.invokevirtual 41, 3) := by decide +kernel
theorem dX4_zone_25 : decode cX4_zone 25 = .ok (.ifCond .eq 8, 3) := by decide +kernel
theorem dX4_zone_28 : decode cX4_zone 28 = .ok (.iload_n 2, 1) := by decide +kernel
theorem dX4_zone_29 : decode cX4_zone 29 = .ok (.iload_n 3, 1) := by decide +kernel
theorem dX4_zone_30 : decode cX4_zone 30 = .ok (.if_icmp .le 13, 3) := by decide +kernel
theorem dX4_zone_33 : decode cX4_zone 33 = .ok (.new 45, 3) := by decide +kernel
theorem dX4_zone_36 : decode cX4_zone 36 = .ok (.dup, 1) := by decide +kernel
theorem dX4_zone_37 : decode cX4_zone 37 = .ok (.ldc 76, 2) := by decide +kernel
theorem dX4_zone_39 : decode cX4_zone 39 = .ok (.invokespecial 49, 3) := by decide +kernel
theorem dX4_zone_42 : decode cX4_zone 42 = .ok (.athrow, 1) := by decide +kernel
theorem dX4_zone_43 : decode cX4_zone 43 = .ok (.aload 4, 2) := by decide +kernel
theorem dX4_zone_45 : decode cX4_zone 45 = .ok (.iload_n 2, 1) := by decide +kernel
theorem dX4_zone_46 : decode cX4_zone 46 = .ok (.putfield 78, 3) := by decide +kernel
theorem dX4_zone_49 : decode cX4_zone 49 = .ok (.aload 4, 2) := by decide +kernel
theorem dX4_zone_51 : decode cX4_zone 51 = .ok (.iload_n 3, 1) := by decide +kernel
theorem dX4_zone_52 : decode cX4_zone 52 = .ok (.putfield 81, 3) := by decide +kernel
theorem dX4_zone_55 : decode cX4_zone 55 = .ok (.return_, 1) := by decide +kernel
theorem dX4_sleep_0 : decode cX4_sleep 0 = .ok (.aload_n 0, 1) := by decide +kernel
theorem dX4_sleep_1 : decode cX4_sleep 1 = .ok (.iload_n 1, 1) := by decide +kernel
theorem dX4_sleep_2 : decode cX4_sleep 2 = .ok (.invokevirtual 63, 3) := by decide +kernel
theorem dX4_sleep_5 : decode cX4_sleep 5 = .ok (.astore_n 3, 1) := by decide +kernel
theorem dX4_sleep_6 : decode cX4_sleep 6 = .ok (.aload_n 3, 1) := by decide +kernel
theorem dX4_sleep_7 : decode cX4_sleep 7 = .ok (.ifnonnull 13, 3) := by decide +kernel
theorem dX4_sleep_10 : decode cX4_sleep 10 = .ok (.new 45, 3) := by decide +kernel
theorem dX4_sleep_13 : decode cX4_sleep 13 = .ok (.dup, 1) := by decide +kernel
theorem dX4_sleep_14 : decode cX4_sleep 14 = .ok (.ldc 84, 2) := by decide +kernel
theorem dX4_sleep_16 : decode cX4_sleep 16 = .ok (.invokespecial 49, 3) := by decide +kernel
theorem dX4_sleep_19 : decode cX4_sleep 19 = .ok (.athrow, 1) := by decide +kernel
theorem dX4_sleep_20 : decode cX4_sleep 20 = .ok (.aload_n 3, 1) := by decide +kernel
theorem dX4_sleep_21 : decode cX4_sleep 21 = .ok (.getfield 86, 3) := by decide +kernel
theorem dX4_sleep_24 : decode cX4_sleep 24 = .ok (.istore 4, 2) := by decide +kernel
theorem dX4_sleep_26 : decode cX4_sleep 26 = .ok (.aload_n 3, 1) := by decide +kernel
theorem dX4_sleep_27 : decode cX4_sleep 27 = .ok (.iload_n 2, 1) := by decide +kernel
theorem dX4_sleep_28 : decode cX4_sleep 28 = .ok (.putfield 86, 3) := by decide +kernel
theorem dX4_sleep_31 : decode cX4_sleep 31 = .ok (.iload 4, 2) := by decide +kernel
theorem dX4_sleep_33 : decode cX4_sleep 33 = .ok (.ireturn, 1) := by decide +kernel
theorem dX4_call_0 : decode cX4_call 0 = .ok (.aload_n 0, 1) := by decide +kernel
theorem dX4_call_1 : decode cX4_call 1 = .ok (.iload_n 1, 1) := by decide +kernel
theorem dX4_call_2 : decode cX4_call 2 = .ok (.invokevirtual 41, 3) := by decide +kernel
theorem dX4_call_5 : decode cX4_call 5 = .ok (.ifCond .eq 16, 3) := by decide +kernel
theorem dX4_call_8 : decode cX4_call 8 = .ok (.aload_n 0, 1) := by decide +kernel
theorem dX4_call_9 : decode cX4_call 9 = .ok (.iload_n 2, 1) := by decide +kernel
theorem dX4_call_10 : decode cX4_call 10 = .ok (.invokevirtual 41, 3) := by decide +kernel
theorem dX4_call_13 : decode cX4_call 13 = .ok (.ifCond .eq 8, 3) := by decide +kernel
theorem dX4_call_16 : decode cX4_call 16 = .ok (.iload_n 1, 1) := by decide +kernel
theorem dX4_call_17 : decode cX4_call 17 = .ok (.iload_n 2, 1) := by decide +kernel
theorem dX4_call_18 : decode cX4_call 18 = .ok (.if_icmp .ne 13, 3) := by decide +kernel
theorem dX4_call_21 : decode cX4_call 21 = .ok (.new 45, 3) := by decide +kernel
theorem dX4_call_24 : decode cX4_call 24 = .ok (.dup, 1) := by decide +kernel
theorem dX4_call_25 : decode cX4_call 25 = .ok (.ldc 90, 2) := by decide +kernel
theorem dX4_call_27 : decode cX4_call 27 = .ok (.invokespecial 49, 3) := by decide +kernel
theorem dX4_call_30 : decode cX4_call 30 = .ok (.athrow, 1) := by decide +kernel
theorem dX4_call_31 : decode cX4_call 31 = .ok (.aload_n 0, 1) := by decide +kernel
theorem dX4_call_32 : decode cX4_call 32 = .ok (.getfield 92, 3) := by decide +kernel
theorem dX4_call_35 : decode cX4_call 35 = .ok (.aload_n 0, 1) := by decide +kernel
theorem dX4_call_36 : decode cX4_call 36 = .ok (.getfield 17, 3) := by decide +kernel
theorem dX4_call_39 : decode cX4_call 39 = .ok (.arraylength, 1) := by decide +kernel
theorem dX4_call_40 : decode cX4_call 40 = .ok (.if_icmp .ge 13, 3) := by decide +kernel
theorem dX4_call_43 : decode cX4_call 43 = .ok (.aload_n 0, 1) := by decide +kernel
theorem dX4_call_44 : decode cX4_call 44 = .ok (.getfield 95, 3) := by decide +kernel
theorem dX4_call_47 : decode cX4_call 47 = .ok (.sipush 400, 3) := by decide +kernel
theorem dX4_call_50 : decode cX4_call 50 = .ok (.if_icmp .lt 13, 3) := by decide +kernel
theorem dX4_call_53 : decode cX4_call 53 = .ok (.new 55, 3) := by decide +kernel
theorem dX4_call_56 : decode cX4_call 56 = .ok (.dup, 1) := by decide +kernel
theorem dX4_call_57 : decode cX4_call 57 = .ok (.ldc 98, 2) := by decide +kernel
theorem dX4_call_59 : decode cX4_call 59 = .ok (.invokespecial 59, 3) := by decide +kernel
theorem dX4_call_62 : decode cX4_call 62 = .ok (.athrow, 1) := by decide +kernel
theorem dX4_call_63 : decode cX4_call 63 = .ok (.aload_n 0, 1) := by decide +kernel
theorem dX4_call_64 : decode cX4_call 64 = .ok (.getfield 17, 3) := by decide +kernel
theorem dX4_call_67 : decode cX4_call 67 = .ok (.aload_n 0, 1) := by decide +kernel
theorem dX4_call_68 : decode cX4_call 68 = .ok (.getfield 92, 3) := by decide +kernel
theorem dX4_call_71 : decode cX4_call 71 = .ok (.new 15, 3) := by decide +kernel
theorem dX4_call_74 : decode cX4_call 74 = .ok (.dup, 1) := by decide +kernel
theorem dX4_call_75 : decode cX4_call 75 = .ok (.aload_n 0, 1) := by decide +kernel
theorem dX4_call_76 : decode cX4_call 76 = .ok (.getfield 95, 3) := by decide +kernel
theorem dX4_call_79 : decode cX4_call 79 = .ok (.iload_n 1, 1) := by decide +kernel
theorem dX4_call_80 : decode cX4_call 80 = .ok (.iload_n 2, 1) := by decide +kernel
theorem dX4_call_81 : decode cX4_call 81 = .ok (.aload_n 0, 1) := by decide +kernel
theorem dX4_call_82 : decode cX4_call 82 = .ok (.getfield 100, 3) := by decide +kernel
theorem dX4_call_85 : decode cX4_call 85 = .ok (.invokespecial 103, 3) := by decide +kernel
theorem dX4_call_88 : decode cX4_call 88 = .ok (.aastore, 1) := by decide +kernel
theorem dX4_call_89 : decode cX4_call 89 = .ok (.aload_n 0, 1) := by decide +kernel
theorem dX4_call_90 : decode cX4_call 90 = .ok (.dup, 1) := by decide +kernel
theorem dX4_call_91 : decode cX4_call 91 = .ok (.getfield 92, 3) := by decide +kernel
theorem dX4_call_94 : decode cX4_call 94 = .ok (.iconst 1, 1) := by decide +kernel
theorem dX4_call_95 : decode cX4_call 95 = .ok (.iadd, 1) := by decide +kernel
theorem dX4_call_96 : decode cX4_call 96 = .ok (.putfield 92, 3) := by decide +kernel
theorem dX4_call_99 : decode cX4_call 99 = .ok (.aload_n 0, 1) := by decide +kernel
theorem dX4_call_100 : decode cX4_call 100 = .ok (.dup, 1) := by decide +kernel
theorem dX4_call_101 : decode cX4_call 101 = .ok (.getfield 95, 3) := by decide +kernel
theorem dX4_call_104 : decode cX4_call 104 = .ok (.iconst 1, 1) := by decide +kernel
theorem dX4_call_105 : decode cX4_call 105 = .ok (.iadd, 1) := by decide +kernel
theorem dX4_call_106 : decode cX4_call 106 = .ok (.putfield 95, 3) := by decide +kernel
theorem dX4_call_109 : decode cX4_call 109 = .ok (.aload_n 0, 1) := by decide +kernel
theorem dX4_call_110 : decode cX4_call 110 = .ok (.getfield 95, 3) := by decide +kernel
theorem dX4_call_113 : decode cX4_call 113 = .ok (.iconst 1, 1) := by decide +kernel
theorem dX4_call_114 : decode cX4_call 114 = .ok (.isub, 1) := by decide +kernel
theorem dX4_call_115 : decode cX4_call 115 = .ok (.ireturn, 1) := by decide +kernel
theorem dX4_urgent_0 : decode cX4_urgent 0 = .ok (.aload_n 0, 1) := by decide +kernel
theorem dX4_urgent_1 : decode cX4_urgent 1 = .ok (.iload_n 1, 1) := by decide +kernel
theorem dX4_urgent_2 : decode cX4_urgent 2 = .ok (.invokevirtual 106, 3) := by decide +kernel
theorem dX4_urgent_5 : decode cX4_urgent 5 = .ok (.astore_n 3, 1) := by decide +kernel
theorem dX4_urgent_6 : decode cX4_urgent 6 = .ok (.aload_n 3, 1) := by decide +kernel
theorem dX4_urgent_7 : decode cX4_urgent 7 = .ok (.ifnonnull 13, 3) := by decide +kernel
theorem dX4_urgent_10 : decode cX4_urgent 10 = .ok (.new 45, 3) := by decide +kernel
theorem dX4_urgent_13 : decode cX4_urgent 13 = .ok (.dup, 1) := by decide +kernel
theorem dX4_urgent_14 : decode cX4_urgent 14 = .ok (.ldc 110, 2) := by decide +kernel
theorem dX4_urgent_16 : decode cX4_urgent 16 = .ok (.invokespecial 49, 3) := by decide +kernel
theorem dX4_urgent_19 : decode cX4_urgent 19 = .ok (.athrow, 1) := by decide +kernel
theorem dX4_urgent_20 : decode cX4_urgent 20 = .ok (.aload_n 3, 1) := by decide +kernel
theorem dX4_urgent_21 : decode cX4_urgent 21 = .ok (.getfield 112, 3) := by decide +kernel
theorem dX4_urgent_24 : decode cX4_urgent 24 = .ok (.istore 4, 2) := by decide +kernel
theorem dX4_urgent_26 : decode cX4_urgent 26 = .ok (.aload_n 3, 1) := by decide +kernel
theorem dX4_urgent_27 : decode cX4_urgent 27 = .ok (.iload_n 2, 1) := by decide +kernel
theorem dX4_urgent_28 : decode cX4_urgent 28 = .ok (.putfield 112, 3) := by decide +kernel
theorem dX4_urgent_31 : decode cX4_urgent 31 = .ok (.iload 4, 2) := by decide +kernel
theorem dX4_urgent_33 : decode cX4_urgent 33 = .ok (.ireturn, 1) := by decide +kernel
theorem dX4_begin_0 : decode cX4_begin 0 = .ok (.aload_n 0, 1) := by decide +kernel
theorem dX4_begin_1 : decode cX4_begin 1 = .ok (.iload_n 1, 1) := by decide +kernel
theorem dX4_begin_2 : decode cX4_begin 2 = .ok (.invokevirtual 106, 3) := by decide +kernel
theorem dX4_begin_5 : decode cX4_begin 5 = .ok (.astore_n 3, 1) := by decide +kernel
theorem dX4_begin_6 : decode cX4_begin 6 = .ok (.aload_n 0, 1) := by decide +kernel
theorem dX4_begin_7 : decode cX4_begin 7 = .ok (.iload_n 2, 1) := by decide +kernel
theorem dX4_begin_8 : decode cX4_begin 8 = .ok (.invokevirtual 63, 3) := by decide +kernel
theorem dX4_begin_11 : decode cX4_begin 11 = .ok (.astore 4, 2) := by decide +kernel
theorem dX4_begin_13 : decode cX4_begin 13 = .ok (.aload_n 3, 1) := by decide +kernel
theorem dX4_begin_14 : decode cX4_begin 14 = .ok (.ifnull 13, 3) := by decide +kernel
theorem dX4_begin_17 : decode cX4_begin 17 = .ok (.aload 4, 2) := by decide +kernel
theorem dX4_begin_19 : decode cX4_begin 19 = .ok (.ifnonnull 18, 3) := by decide +kernel
theorem dX4_begin_22 : decode cX4_begin 22 = .ok (.iload_n 2, 1) := by decide +kernel
theorem dX4_begin_23 : decode cX4_begin 23 = .ok (.iconst (-1), 1) := by decide +kernel
theorem dX4_begin_24 : decode cX4_begin 24 = .ok (.if_icmp .eq 13, 3) := by decide +kernel
theorem dX4_begin_27 : decode cX4_begin 27 = .ok (.new 45, 3) := by decide +kernel
theorem dX4_begin_30 : decode cX4_begin 30 = .ok (.dup, 1) := by decide +kernel
theorem dX4_begin_31 : decode cX4_begin 31 = .ok (.ldc 115, 2) := by decide +kernel
theorem dX4_begin_33 : decode cX4_begin 33 = .ok (.invokespecial 49, 3) := by decide +kernel
theorem dX4_begin_36 : decode cX4_begin 36 = .ok (.athrow, 1) := by decide +kernel
theorem dX4_begin_37 : decode cX4_begin 37 = .ok (.aload 4, 2) := by decide +kernel
theorem dX4_begin_39 : decode cX4_begin 39 = .ok (.ifnull 23, 3) := by decide +kernel
theorem dX4_begin_42 : decode cX4_begin 42 = .ok (.aload 4, 2) := by decide +kernel
theorem dX4_begin_44 : decode cX4_begin 44 = .ok (.aload_n 3, 1) := by decide +kernel
theorem dX4_begin_45 : decode cX4_begin 45 = .ok (.invokevirtual 117, 3) := by decide +kernel
theorem dX4_begin_48 : decode cX4_begin 48 = .ok (.ifCond .eq 12, 3) := by decide +kernel
theorem dX4_begin_51 : decode cX4_begin 51 = .ok (.aload_n 0, 1) := by decide +kernel
theorem dX4_begin_52 : decode cX4_begin 52 = .ok (.iload_n 2, 1) := by decide +kernel
theorem dX4_begin_53 : decode cX4_begin 53 = .ok (.aload_n 3, 1) := by decide +kernel
theorem dX4_begin_54 : decode cX4_begin 54 = .ok (.invokevirtual 121, 3) := by decide +kernel
theorem dX4_begin_57 : decode cX4_begin 57 = .ok (.ifCond .eq 5, 3) := by decide +kernel
theorem dX4_begin_60 : decode cX4_begin 60 = .ok (.iconst 0, 1) := by decide +kernel
theorem dX4_begin_61 : decode cX4_begin 61 = .ok (.ireturn, 1) := by decide +kernel
theorem dX4_begin_62 : decode cX4_begin 62 = .ok (.aload_n 3, 1) := by decide +kernel
theorem dX4_begin_63 : decode cX4_begin 63 = .ok (.iload_n 2, 1) := by decide +kernel
theorem dX4_begin_64 : decode cX4_begin 64 = .ok (.putfield 125, 3) := by decide +kernel
theorem dX4_begin_67 : decode cX4_begin 67 = .ok (.iconst 1, 1) := by decide +kernel
theorem dX4_begin_68 : decode cX4_begin 68 = .ok (.ireturn, 1) := by decide +kernel
theorem dX4_done_0 : decode cX4_done 0 = .ok (.aload_n 0, 1) := by decide +kernel
theorem dX4_done_1 : decode cX4_done 1 = .ok (.iload_n 1, 1) := by decide +kernel
theorem dX4_done_2 : decode cX4_done 2 = .ok (.invokevirtual 106, 3) := by decide +kernel
theorem dX4_done_5 : decode cX4_done 5 = .ok (.ifnonnull 13, 3) := by decide +kernel
theorem dX4_done_8 : decode cX4_done 8 = .ok (.new 45, 3) := by decide +kernel
theorem dX4_done_11 : decode cX4_done 11 = .ok (.dup, 1) := by decide +kernel
theorem dX4_done_12 : decode cX4_done 12 = .ok (.ldc 110, 2) := by decide +kernel
theorem dX4_done_14 : decode cX4_done 14 = .ok (.invokespecial 49, 3) := by decide +kernel
theorem dX4_done_17 : decode cX4_done 17 = .ok (.athrow, 1) := by decide +kernel
theorem dX4_done_18 : decode cX4_done 18 = .ok (.aload_n 0, 1) := by decide +kernel
theorem dX4_done_19 : decode cX4_done 19 = .ok (.iload_n 1, 1) := by decide +kernel
theorem dX4_done_20 : decode cX4_done 20 = .ok (.invokevirtual 128, 3) := by decide +kernel
theorem dX4_done_23 : decode cX4_done 23 = .ok (.return_, 1) := by decide +kernel
theorem dX4_pass_0 : decode cX4_pass 0 = .ok (.iload_n 1, 1) := by decide +kernel
theorem dX4_pass_1 : decode cX4_pass 1 = .ok (.iconst 1, 1) := by decide +kernel
theorem dX4_pass_2 : decode cX4_pass 2 = .ok (.if_icmp .lt 21, 3) := by decide +kernel
theorem dX4_pass_5 : decode cX4_pass 5 = .ok (.iload_n 1, 1) := by decide +kernel
theorem dX4_pass_6 : decode cX4_pass 6 = .ok (.sipush 1000, 3) := by decide +kernel
theorem dX4_pass_9 : decode cX4_pass 9 = .ok (.if_icmp .gt 14, 3) := by decide +kernel
theorem dX4_pass_12 : decode cX4_pass 12 = .ok (.aload_n 0, 1) := by decide +kernel
theorem dX4_pass_13 : decode cX4_pass 13 = .ok (.getfield 100, 3) := by decide +kernel
theorem dX4_pass_16 : decode cX4_pass 16 = .ok (.iload_n 1, 1) := by decide +kernel
theorem dX4_pass_17 : decode cX4_pass 17 = .ok (.iadd, 1) := by decide +kernel
theorem dX4_pass_18 : decode cX4_pass 18 = .ok (.ldc 67, 2) := by decide +kernel
theorem dX4_pass_20 : decode cX4_pass 20 = .ok (.if_icmp .le 13, 3) := by decide +kernel
theorem dX4_pass_23 : decode cX4_pass 23 = .ok (.new 45, 3) := by decide +kernel
theorem dX4_pass_26 : decode cX4_pass 26 = .ok (.dup, 1) := by decide +kernel
theorem dX4_pass_27 : decode cX4_pass 27 = .ok (.ldc 132, 2) := by decide +kernel
theorem dX4_pass_29 : decode cX4_pass 29 = .ok (.invokespecial 49, 3) := by decide +kernel
theorem dX4_pass_32 : decode cX4_pass 32 = .ok (.athrow, 1) := by decide +kernel
theorem dX4_pass_33 : decode cX4_pass 33 = .ok (.aload_n 0, 1) := by decide +kernel
theorem dX4_pass_34 : decode cX4_pass 34 = .ok (.dup, 1) := by decide +kernel
theorem dX4_pass_35 : decode cX4_pass 35 = .ok (.getfield 100, 3) := by decide +kernel
theorem dX4_pass_38 : decode cX4_pass 38 = .ok (.iload_n 1, 1) := by decide +kernel
theorem dX4_pass_39 : decode cX4_pass 39 = .ok (.iadd, 1) := by decide +kernel
theorem dX4_pass_40 : decode cX4_pass 40 = .ok (.putfield 100, 3) := by decide +kernel
theorem dX4_pass_43 : decode cX4_pass 43 = .ok (.aload_n 0, 1) := by decide +kernel
theorem dX4_pass_44 : decode cX4_pass 44 = .ok (.getfield 100, 3) := by decide +kernel
theorem dX4_pass_47 : decode cX4_pass 47 = .ok (.ireturn, 1) := by decide +kernel
theorem dX4_give_0 : decode cX4_give 0 = .ok (.aload_n 0, 1) := by decide +kernel
theorem dX4_give_1 : decode cX4_give 1 = .ok (.getfield 24, 3) := by decide +kernel
theorem dX4_give_4 : decode cX4_give 4 = .ok (.invokevirtual 134, 3) := by decide +kernel
theorem dX4_give_7 : decode cX4_give 7 = .ok (.aload_n 0, 1) := by decide +kernel
theorem dX4_give_8 : decode cX4_give 8 = .ok (.getfield 17, 3) := by decide +kernel
theorem dX4_give_11 : decode cX4_give 11 = .ok (.astore_n 1, 1) := by decide +kernel
theorem dX4_give_12 : decode cX4_give 12 = .ok (.aload_n 1, 1) := by decide +kernel
theorem dX4_give_13 : decode cX4_give 13 = .ok (.arraylength, 1) := by decide +kernel
theorem dX4_give_14 : decode cX4_give 14 = .ok (.istore_n 2, 1) := by decide +kernel
theorem dX4_give_15 : decode cX4_give 15 = .ok (.iconst 0, 1) := by decide +kernel
theorem dX4_give_16 : decode cX4_give 16 = .ok (.istore_n 3, 1) := by decide +kernel
theorem dX4_give_17 : decode cX4_give 17 = .ok (.iload_n 3, 1) := by decide +kernel
theorem dX4_give_18 : decode cX4_give 18 = .ok (.iload_n 2, 1) := by decide +kernel
theorem dX4_give_19 : decode cX4_give 19 = .ok (.if_icmp .ge 49, 3) := by decide +kernel
theorem dX4_give_22 : decode cX4_give 22 = .ok (.aload_n 1, 1) := by decide +kernel
theorem dX4_give_23 : decode cX4_give 23 = .ok (.iload_n 3, 1) := by decide +kernel
theorem dX4_give_24 : decode cX4_give 24 = .ok (.aaload, 1) := by decide +kernel
theorem dX4_give_25 : decode cX4_give 25 = .ok (.astore 4, 2) := by decide +kernel
theorem dX4_give_27 : decode cX4_give 27 = .ok (.aload 4, 2) := by decide +kernel
theorem dX4_give_29 : decode cX4_give 29 = .ok (.ifnull 33, 3) := by decide +kernel
theorem dX4_give_32 : decode cX4_give 32 = .ok (.aload_n 0, 1) := by decide +kernel
theorem dX4_give_33 : decode cX4_give 33 = .ok (.aload 4, 2) := by decide +kernel
theorem dX4_give_35 : decode cX4_give 35 = .ok (.invokevirtual 137, 3) := by decide +kernel
theorem dX4_give_38 : decode cX4_give 38 = .ok (.istore 5, 2) := by decide +kernel
theorem dX4_give_40 : decode cX4_give 40 = .ok (.iload 5, 2) := by decide +kernel
theorem dX4_give_42 : decode cX4_give 42 = .ok (.ifCond .eq 20, 3) := by decide +kernel
theorem dX4_give_45 : decode cX4_give 45 = .ok (.aload_n 0, 1) := by decide +kernel
theorem dX4_give_46 : decode cX4_give 46 = .ok (.getfield 24, 3) := by decide +kernel
theorem dX4_give_49 : decode cX4_give 49 = .ok (.aload 4, 2) := by decide +kernel
theorem dX4_give_51 : decode cX4_give 51 = .ok (.aload_n 0, 1) := by decide +kernel
theorem dX4_give_52 : decode cX4_give 52 = .ok (.aload 4, 2) := by decide +kernel
theorem dX4_give_54 : decode cX4_give 54 = .ok (.invokevirtual 141, 3) := by decide +kernel
theorem dX4_give_57 : decode cX4_give 57 = .ok (.iload 5, 2) := by decide +kernel
theorem dX4_give_59 : decode cX4_give 59 = .ok (.invokevirtual 144, 3) := by decide +kernel
theorem dX4_give_62 : decode cX4_give 62 = .ok (.iinc 3 1, 3) := by decide +kernel
theorem dX4_give_65 : decode cX4_give 65 = .ok (.goto (-48), 3) := by decide +kernel
theorem dX4_give_68 : decode cX4_give 68 = .ok (.aload_n 0, 1) := by decide +kernel
theorem dX4_give_69 : decode cX4_give 69 = .ok (.getfield 24, 3) := by decide +kernel
theorem dX4_give_72 : decode cX4_give 72 = .ok (.aload_n 0, 1) := by decide +kernel
theorem dX4_give_73 : decode cX4_give 73 = .ok (.getfield 11, 3) := by decide +kernel
theorem dX4_give_76 : decode cX4_give 76 = .ok (.aload_n 0, 1) := by decide +kernel
theorem dX4_give_77 : decode cX4_give 77 = .ok (.getfield 100, 3) := by decide +kernel
theorem dX4_give_80 : decode cX4_give 80 = .ok (.invokevirtual 148, 3) := by decide +kernel
theorem dX4_give_83 : decode cX4_give 83 = .ok (.lreturn, 1) := by decide +kernel
theorem dX4_carOf_0 : decode cX4_carOf 0 = .ok (.aload_n 0, 1) := by decide +kernel
theorem dX4_carOf_1 : decode cX4_carOf 1 = .ok (.iload_n 1, 1) := by decide +kernel
theorem dX4_carOf_2 : decode cX4_carOf 2 = .ok (.invokevirtual 152, 3) := by decide +kernel
theorem dX4_carOf_5 : decode cX4_carOf 5 = .ok (.ifCond .ne 13, 3) := by decide +kernel
theorem dX4_carOf_8 : decode cX4_carOf 8 = .ok (.new 45, 3) := by decide +kernel
theorem dX4_carOf_11 : decode cX4_carOf 11 = .ok (.dup, 1) := by decide +kernel
theorem dX4_carOf_12 : decode cX4_carOf 12 = .ok (.ldc 155, 2) := by decide +kernel
theorem dX4_carOf_14 : decode cX4_carOf 14 = .ok (.invokespecial 49, 3) := by decide +kernel
theorem dX4_carOf_17 : decode cX4_carOf 17 = .ok (.athrow, 1) := by decide +kernel
theorem dX4_carOf_18 : decode cX4_carOf 18 = .ok (.aload_n 0, 1) := by decide +kernel
theorem dX4_carOf_19 : decode cX4_carOf 19 = .ok (.getfield 24, 3) := by decide +kernel
theorem dX4_carOf_22 : decode cX4_carOf 22 = .ok (.iload_n 1, 1) := by decide +kernel
theorem dX4_carOf_23 : decode cX4_carOf 23 = .ok (.invokevirtual 157, 3) := by decide +kernel
theorem dX4_carOf_26 : decode cX4_carOf 26 = .ok (.istore_n 2, 1) := by decide +kernel
theorem dX4_carOf_27 : decode cX4_carOf 27 = .ok (.iload_n 2, 1) := by decide +kernel
theorem dX4_carOf_28 : decode cX4_carOf 28 = .ok (.iconst (-1), 1) := by decide +kernel
theorem dX4_carOf_29 : decode cX4_carOf 29 = .ok (.if_icmp .ne 7, 3) := by decide +kernel
theorem dX4_carOf_32 : decode cX4_carOf 32 = .ok (.iconst (-1), 1) := by decide +kernel
theorem dX4_carOf_33 : decode cX4_carOf 33 = .ok (.goto 12, 3) := by decide +kernel
theorem dX4_carOf_36 : decode cX4_carOf 36 = .ok (.aload_n 0, 1) := by decide +kernel
theorem dX4_carOf_37 : decode cX4_carOf 37 = .ok (.getfield 24, 3) := by decide +kernel
theorem dX4_carOf_40 : decode cX4_carOf 40 = .ok (.getfield 161, 3) := by decide +kernel
theorem dX4_carOf_43 : decode cX4_carOf 43 = .ok (.iload_n 2, 1) := by decide +kernel
theorem dX4_carOf_44 : decode cX4_carOf 44 = .ok (.iaload, 1) := by decide +kernel
theorem dX4_carOf_45 : decode cX4_carOf 45 = .ok (.ireturn, 1) := by decide +kernel
theorem dX4_turn_0 : decode cX4_turn 0 = .ok (.aload_n 0, 1) := by decide +kernel
theorem dX4_turn_1 : decode cX4_turn 1 = .ok (.iload_n 1, 1) := by decide +kernel
theorem dX4_turn_2 : decode cX4_turn 2 = .ok (.invokevirtual 63, 3) := by decide +kernel
theorem dX4_turn_5 : decode cX4_turn 5 = .ok (.ifnull 7, 3) := by decide +kernel
theorem dX4_turn_8 : decode cX4_turn 8 = .ok (.iload_n 2, 1) := by decide +kernel
theorem dX4_turn_9 : decode cX4_turn 9 = .ok (.ifCond .ge 13, 3) := by decide +kernel
theorem dX4_turn_12 : decode cX4_turn 12 = .ok (.new 45, 3) := by decide +kernel
theorem dX4_turn_15 : decode cX4_turn 15 = .ok (.dup, 1) := by decide +kernel
theorem dX4_turn_16 : decode cX4_turn 16 = .ok (.ldc 165, 2) := by decide +kernel
theorem dX4_turn_18 : decode cX4_turn 18 = .ok (.invokespecial 49, 3) := by decide +kernel
theorem dX4_turn_21 : decode cX4_turn 21 = .ok (.athrow, 1) := by decide +kernel
theorem dX4_turn_22 : decode cX4_turn 22 = .ok (.aload_n 0, 1) := by decide +kernel
theorem dX4_turn_23 : decode cX4_turn 23 = .ok (.getfield 24, 3) := by decide +kernel
theorem dX4_turn_26 : decode cX4_turn 26 = .ok (.iload_n 1, 1) := by decide +kernel
theorem dX4_turn_27 : decode cX4_turn 27 = .ok (.iload_n 2, 1) := by decide +kernel
theorem dX4_turn_28 : decode cX4_turn 28 = .ok (.invokevirtual 167, 3) := by decide +kernel
theorem dX4_turn_31 : decode cX4_turn 31 = .ok (.ireturn, 1) := by decide +kernel
theorem dX4_told_0 : decode cX4_told 0 = .ok (.aload_n 0, 1) := by decide +kernel
theorem dX4_told_1 : decode cX4_told 1 = .ok (.iload_n 1, 1) := by decide +kernel
theorem dX4_told_2 : decode cX4_told 2 = .ok (.invokevirtual 152, 3) := by decide +kernel
theorem dX4_told_5 : decode cX4_told 5 = .ok (.ifCond .eq 12, 3) := by decide +kernel
theorem dX4_told_8 : decode cX4_told 8 = .ok (.iload_n 2, 1) := by decide +kernel
theorem dX4_told_9 : decode cX4_told 9 = .ok (.ifCond .lt 8, 3) := by decide +kernel
theorem dX4_told_12 : decode cX4_told 12 = .ok (.iload_n 2, 1) := by decide +kernel
theorem dX4_told_13 : decode cX4_told 13 = .ok (.iconst 2, 1) := by decide +kernel
theorem dX4_told_14 : decode cX4_told 14 = .ok (.if_icmp .le 13, 3) := by decide +kernel
theorem dX4_told_17 : decode cX4_told 17 = .ok (.new 45, 3) := by decide +kernel
theorem dX4_told_20 : decode cX4_told 20 = .ok (.dup, 1) := by decide +kernel
theorem dX4_told_21 : decode cX4_told 21 = .ok (.ldc 170, 2) := by decide +kernel
theorem dX4_told_23 : decode cX4_told 23 = .ok (.invokespecial 49, 3) := by decide +kernel
theorem dX4_told_26 : decode cX4_told 26 = .ok (.athrow, 1) := by decide +kernel
theorem dX4_told_27 : decode cX4_told 27 = .ok (.aload_n 0, 1) := by decide +kernel
theorem dX4_told_28 : decode cX4_told 28 = .ok (.getfield 24, 3) := by decide +kernel
theorem dX4_told_31 : decode cX4_told 31 = .ok (.iload_n 1, 1) := by decide +kernel
theorem dX4_told_32 : decode cX4_told 32 = .ok (.invokevirtual 157, 3) := by decide +kernel
theorem dX4_told_35 : decode cX4_told 35 = .ok (.istore_n 3, 1) := by decide +kernel
theorem dX4_told_36 : decode cX4_told 36 = .ok (.iload_n 3, 1) := by decide +kernel
theorem dX4_told_37 : decode cX4_told 37 = .ok (.iconst (-1), 1) := by decide +kernel
theorem dX4_told_38 : decode cX4_told 38 = .ok (.if_icmp .ne 5, 3) := by decide +kernel
theorem dX4_told_41 : decode cX4_told 41 = .ok (.iconst (-1), 1) := by decide +kernel
theorem dX4_told_42 : decode cX4_told 42 = .ok (.ireturn, 1) := by decide +kernel
theorem dX4_told_43 : decode cX4_told 43 = .ok (.iload_n 2, 1) := by decide +kernel
theorem dX4_told_44 : decode cX4_told 44 = .ok (.ifCond .ne 13, 3) := by decide +kernel
theorem dX4_told_47 : decode cX4_told 47 = .ok (.aload_n 0, 1) := by decide +kernel
theorem dX4_told_48 : decode cX4_told 48 = .ok (.getfield 24, 3) := by decide +kernel
theorem dX4_told_51 : decode cX4_told 51 = .ok (.getfield 172, 3) := by decide +kernel
theorem dX4_told_54 : decode cX4_told 54 = .ok (.iload_n 3, 1) := by decide +kernel
theorem dX4_told_55 : decode cX4_told 55 = .ok (.iaload, 1) := by decide +kernel
theorem dX4_told_56 : decode cX4_told 56 = .ok (.ireturn, 1) := by decide +kernel
theorem dX4_told_57 : decode cX4_told 57 = .ok (.iload_n 2, 1) := by decide +kernel
theorem dX4_told_58 : decode cX4_told 58 = .ok (.iconst 1, 1) := by decide +kernel
theorem dX4_told_59 : decode cX4_told 59 = .ok (.if_icmp .ne 15, 3) := by decide +kernel
theorem dX4_told_62 : decode cX4_told 62 = .ok (.aload_n 0, 1) := by decide +kernel
theorem dX4_told_63 : decode cX4_told 63 = .ok (.getfield 24, 3) := by decide +kernel
theorem dX4_told_66 : decode cX4_told 66 = .ok (.getfield 175, 3) := by decide +kernel
theorem dX4_told_69 : decode cX4_told 69 = .ok (.iload_n 3, 1) := by decide +kernel
theorem dX4_told_70 : decode cX4_told 70 = .ok (.iaload, 1) := by decide +kernel
theorem dX4_told_71 : decode cX4_told 71 = .ok (.goto 12, 3) := by decide +kernel
theorem dX4_told_74 : decode cX4_told 74 = .ok (.aload_n 0, 1) := by decide +kernel
theorem dX4_told_75 : decode cX4_told 75 = .ok (.getfield 24, 3) := by decide +kernel
theorem dX4_told_78 : decode cX4_told 78 = .ok (.getfield 178, 3) := by decide +kernel
theorem dX4_told_81 : decode cX4_told 81 = .ok (.iload_n 3, 1) := by decide +kernel
theorem dX4_told_82 : decode cX4_told 82 = .ok (.iaload, 1) := by decide +kernel
theorem dX4_told_83 : decode cX4_told 83 = .ok (.ireturn, 1) := by decide +kernel
theorem dX4_left_0 : decode cX4_left 0 = .ok (.iconst 0, 1) := by decide +kernel
theorem dX4_left_1 : decode cX4_left 1 = .ok (.istore_n 1, 1) := by decide +kernel
theorem dX4_left_2 : decode cX4_left 2 = .ok (.aload_n 0, 1) := by decide +kernel
theorem dX4_left_3 : decode cX4_left 3 = .ok (.getfield 17, 3) := by decide +kernel
theorem dX4_left_6 : decode cX4_left 6 = .ok (.astore_n 2, 1) := by decide +kernel
theorem dX4_left_7 : decode cX4_left 7 = .ok (.aload_n 2, 1) := by decide +kernel
theorem dX4_left_8 : decode cX4_left 8 = .ok (.arraylength, 1) := by decide +kernel
theorem dX4_left_9 : decode cX4_left 9 = .ok (.istore_n 3, 1) := by decide +kernel
theorem dX4_left_10 : decode cX4_left 10 = .ok (.iconst 0, 1) := by decide +kernel
theorem dX4_left_11 : decode cX4_left 11 = .ok (.istore 4, 2) := by decide +kernel
theorem dX4_left_13 : decode cX4_left 13 = .ok (.iload 4, 2) := by decide +kernel
theorem dX4_left_15 : decode cX4_left 15 = .ok (.iload_n 3, 1) := by decide +kernel
theorem dX4_left_16 : decode cX4_left 16 = .ok (.if_icmp .ge 32, 3) := by decide +kernel
theorem dX4_left_19 : decode cX4_left 19 = .ok (.aload_n 2, 1) := by decide +kernel
theorem dX4_left_20 : decode cX4_left 20 = .ok (.iload 4, 2) := by decide +kernel
theorem dX4_left_22 : decode cX4_left 22 = .ok (.aaload, 1) := by decide +kernel
theorem dX4_left_23 : decode cX4_left 23 = .ok (.astore 5, 2) := by decide +kernel
theorem dX4_left_25 : decode cX4_left 25 = .ok (.aload 5, 2) := by decide +kernel
theorem dX4_left_27 : decode cX4_left 27 = .ok (.ifnull 15, 3) := by decide +kernel
theorem dX4_left_30 : decode cX4_left 30 = .ok (.aload_n 0, 1) := by decide +kernel
theorem dX4_left_31 : decode cX4_left 31 = .ok (.aload 5, 2) := by decide +kernel
theorem dX4_left_33 : decode cX4_left 33 = .ok (.invokevirtual 137, 3) := by decide +kernel
theorem dX4_left_36 : decode cX4_left 36 = .ok (.ifCond .ne 6, 3) := by decide +kernel
theorem dX4_left_39 : decode cX4_left 39 = .ok (.iinc 1 1, 3) := by decide +kernel
theorem dX4_left_42 : decode cX4_left 42 = .ok (.iinc 4 1, 3) := by decide +kernel
theorem dX4_left_45 : decode cX4_left 45 = .ok (.goto (-32), 3) := by decide +kernel
theorem dX4_left_48 : decode cX4_left 48 = .ok (.iload_n 1, 1) := by decide +kernel
theorem dX4_left_49 : decode cX4_left 49 = .ok (.ireturn, 1) := by decide +kernel
theorem dX4_cars_0 : decode cX4_cars 0 = .ok (.aload_n 0, 1) := by decide +kernel
theorem dX4_cars_1 : decode cX4_cars 1 = .ok (.iload_n 1, 1) := by decide +kernel
theorem dX4_cars_2 : decode cX4_cars 2 = .ok (.invokevirtual 106, 3) := by decide +kernel
theorem dX4_cars_5 : decode cX4_cars 5 = .ok (.astore_n 2, 1) := by decide +kernel
theorem dX4_cars_6 : decode cX4_cars 6 = .ok (.aload_n 2, 1) := by decide +kernel
theorem dX4_cars_7 : decode cX4_cars 7 = .ok (.ifnonnull 13, 3) := by decide +kernel
theorem dX4_cars_10 : decode cX4_cars 10 = .ok (.new 45, 3) := by decide +kernel
theorem dX4_cars_13 : decode cX4_cars 13 = .ok (.dup, 1) := by decide +kernel
theorem dX4_cars_14 : decode cX4_cars 14 = .ok (.ldc 110, 2) := by decide +kernel
theorem dX4_cars_16 : decode cX4_cars 16 = .ok (.invokespecial 49, 3) := by decide +kernel
theorem dX4_cars_19 : decode cX4_cars 19 = .ok (.athrow, 1) := by decide +kernel
theorem dX4_cars_20 : decode cX4_cars 20 = .ok (.aload_n 0, 1) := by decide +kernel
theorem dX4_cars_21 : decode cX4_cars 21 = .ok (.aload_n 2, 1) := by decide +kernel
theorem dX4_cars_22 : decode cX4_cars 22 = .ok (.invokevirtual 137, 3) := by decide +kernel
theorem dX4_cars_25 : decode cX4_cars 25 = .ok (.ireturn, 1) := by decide +kernel
theorem dX4_open_0 : decode cX4_open 0 = .ok (.aload_n 0, 1) := by decide +kernel
theorem dX4_open_1 : decode cX4_open 1 = .ok (.getfield 92, 3) := by decide +kernel
theorem dX4_open_4 : decode cX4_open 4 = .ok (.ireturn, 1) := by decide +kernel
theorem dX4_weight_0 : decode cX4_weight 0 = .ok (.aload_n 0, 1) := by decide +kernel
theorem dX4_weight_1 : decode cX4_weight 1 = .ok (.iload_n 1, 1) := by decide +kernel
theorem dX4_weight_2 : decode cX4_weight 2 = .ok (.invokevirtual 106, 3) := by decide +kernel
theorem dX4_weight_5 : decode cX4_weight 5 = .ok (.astore_n 2, 1) := by decide +kernel
theorem dX4_weight_6 : decode cX4_weight 6 = .ok (.aload_n 2, 1) := by decide +kernel
theorem dX4_weight_7 : decode cX4_weight 7 = .ok (.ifnonnull 13, 3) := by decide +kernel
theorem dX4_weight_10 : decode cX4_weight 10 = .ok (.new 45, 3) := by decide +kernel
theorem dX4_weight_13 : decode cX4_weight 13 = .ok (.dup, 1) := by decide +kernel
theorem dX4_weight_14 : decode cX4_weight 14 = .ok (.ldc 110, 2) := by decide +kernel
theorem dX4_weight_16 : decode cX4_weight 16 = .ok (.invokespecial 49, 3) := by decide +kernel
theorem dX4_weight_19 : decode cX4_weight 19 = .ok (.athrow, 1) := by decide +kernel
theorem dX4_weight_20 : decode cX4_weight 20 = .ok (.aload_n 0, 1) := by decide +kernel
theorem dX4_weight_21 : decode cX4_weight 21 = .ok (.aload_n 2, 1) := by decide +kernel
theorem dX4_weight_22 : decode cX4_weight 22 = .ok (.invokevirtual 141, 3) := by decide +kernel
theorem dX4_weight_25 : decode cX4_weight 25 = .ok (.ireturn, 1) := by decide +kernel
theorem dX4_isFloor_0 : decode cX4_isFloor 0 = .ok (.iload_n 1, 1) := by decide +kernel
theorem dX4_isFloor_1 : decode cX4_isFloor 1 = .ok (.ifCond .lt 15, 3) := by decide +kernel
theorem dX4_isFloor_4 : decode cX4_isFloor 4 = .ok (.iload_n 1, 1) := by decide +kernel
theorem dX4_isFloor_5 : decode cX4_isFloor 5 = .ok (.aload_n 0, 1) := by decide +kernel
theorem dX4_isFloor_6 : decode cX4_isFloor 6 = .ok (.getfield 37, 3) := by decide +kernel
theorem dX4_isFloor_9 : decode cX4_isFloor 9 = .ok (.if_icmp .ge 7, 3) := by decide +kernel
theorem dX4_isFloor_12 : decode cX4_isFloor 12 = .ok (.iconst 1, 1) := by decide +kernel
theorem dX4_isFloor_13 : decode cX4_isFloor 13 = .ok (.goto 4, 3) := by decide +kernel
theorem dX4_isFloor_16 : decode cX4_isFloor 16 = .ok (.iconst 0, 1) := by decide +kernel
theorem dX4_isFloor_17 : decode cX4_isFloor 17 = .ok (.ireturn, 1) := by decide +kernel
theorem dX4_wasCalled_0 : decode cX4_wasCalled 0 = .ok (.iload_n 1, 1) := by decide +kernel
theorem dX4_wasCalled_1 : decode cX4_wasCalled 1 = .ok (.ifCond .lt 15, 3) := by decide +kernel
theorem dX4_wasCalled_4 : decode cX4_wasCalled 4 = .ok (.iload_n 1, 1) := by decide +kernel
theorem dX4_wasCalled_5 : decode cX4_wasCalled 5 = .ok (.aload_n 0, 1) := by decide +kernel
theorem dX4_wasCalled_6 : decode cX4_wasCalled 6 = .ok (.getfield 95, 3) := by decide +kernel
theorem dX4_wasCalled_9 : decode cX4_wasCalled 9 = .ok (.if_icmp .ge 7, 3) := by decide +kernel
theorem dX4_wasCalled_12 : decode cX4_wasCalled 12 = .ok (.iconst 1, 1) := by decide +kernel
theorem dX4_wasCalled_13 : decode cX4_wasCalled 13 = .ok (.goto 4, 3) := by decide +kernel
theorem dX4_wasCalled_16 : decode cX4_wasCalled 16 = .ok (.iconst 0, 1) := by decide +kernel
theorem dX4_wasCalled_17 : decode cX4_wasCalled 17 = .ok (.ireturn, 1) := by decide +kernel
theorem dX4_liftOf_0 : decode cX4_liftOf 0 = .ok (.iload_n 1, 1) := by decide +kernel
theorem dX4_liftOf_1 : decode cX4_liftOf 1 = .ok (.ifCond .lt 21, 3) := by decide +kernel
theorem dX4_liftOf_4 : decode cX4_liftOf 4 = .ok (.iload_n 1, 1) := by decide +kernel
theorem dX4_liftOf_5 : decode cX4_liftOf 5 = .ok (.aload_n 0, 1) := by decide +kernel
theorem dX4_liftOf_6 : decode cX4_liftOf 6 = .ok (.getfield 11, 3) := by decide +kernel
theorem dX4_liftOf_9 : decode cX4_liftOf 9 = .ok (.arraylength, 1) := by decide +kernel
theorem dX4_liftOf_10 : decode cX4_liftOf 10 = .ok (.if_icmp .ge 12, 3) := by decide +kernel
theorem dX4_liftOf_13 : decode cX4_liftOf 13 = .ok (.aload_n 0, 1) := by decide +kernel
theorem dX4_liftOf_14 : decode cX4_liftOf 14 = .ok (.getfield 11, 3) := by decide +kernel
theorem dX4_liftOf_17 : decode cX4_liftOf 17 = .ok (.iload_n 1, 1) := by decide +kernel
theorem dX4_liftOf_18 : decode cX4_liftOf 18 = .ok (.aaload, 1) := by decide +kernel
theorem dX4_liftOf_19 : decode cX4_liftOf 19 = .ok (.goto 4, 3) := by decide +kernel
theorem dX4_liftOf_22 : decode cX4_liftOf 22 = .ok (.aconst_null, 1) := by decide +kernel
theorem dX4_liftOf_23 : decode cX4_liftOf 23 = .ok (.areturn, 1) := by decide +kernel
theorem dX4_openRide_0 : decode cX4_openRide 0 = .ok (.aload_n 0, 1) := by decide +kernel
theorem dX4_openRide_1 : decode cX4_openRide 1 = .ok (.getfield 17, 3) := by decide +kernel
theorem dX4_openRide_4 : decode cX4_openRide 4 = .ok (.astore_n 2, 1) := by decide +kernel
theorem dX4_openRide_5 : decode cX4_openRide 5 = .ok (.aload_n 2, 1) := by decide +kernel
theorem dX4_openRide_6 : decode cX4_openRide 6 = .ok (.arraylength, 1) := by decide +kernel
theorem dX4_openRide_7 : decode cX4_openRide 7 = .ok (.istore_n 3, 1) := by decide +kernel
theorem dX4_openRide_8 : decode cX4_openRide 8 = .ok (.iconst 0, 1) := by decide +kernel
theorem dX4_openRide_9 : decode cX4_openRide 9 = .ok (.istore 4, 2) := by decide +kernel
theorem dX4_openRide_11 : decode cX4_openRide 11 = .ok (.iload 4, 2) := by decide +kernel
theorem dX4_openRide_13 : decode cX4_openRide 13 = .ok (.iload_n 3, 1) := by decide +kernel
theorem dX4_openRide_14 : decode cX4_openRide 14 = .ok (.if_icmp .ge 32, 3) := by decide +kernel
theorem dX4_openRide_17 : decode cX4_openRide 17 = .ok (.aload_n 2, 1) := by decide +kernel
theorem dX4_openRide_18 : decode cX4_openRide 18 = .ok (.iload 4, 2) := by decide +kernel
theorem dX4_openRide_20 : decode cX4_openRide 20 = .ok (.aaload, 1) := by decide +kernel
theorem dX4_openRide_21 : decode cX4_openRide 21 = .ok (.astore 5, 2) := by decide +kernel
theorem dX4_openRide_23 : decode cX4_openRide 23 = .ok (.aload 5, 2) := by decide +kernel
theorem dX4_openRide_25 : decode cX4_openRide 25 = .ok (.ifnull 15, 3) := by decide +kernel
theorem dX4_openRide_28 : decode cX4_openRide 28 = .ok (.aload 5, 2) := by decide +kernel
theorem dX4_openRide_30 : decode cX4_openRide 30 = .ok (.getfield 181, 3) := by decide +kernel
theorem dX4_openRide_33 : decode cX4_openRide 33 = .ok (.iload_n 1, 1) := by decide +kernel
theorem dX4_openRide_34 : decode cX4_openRide 34 = .ok (.if_icmp .ne 6, 3) := by decide +kernel
theorem dX4_openRide_37 : decode cX4_openRide 37 = .ok (.aload 5, 2) := by decide +kernel
theorem dX4_openRide_39 : decode cX4_openRide 39 = .ok (.areturn, 1) := by decide +kernel
theorem dX4_openRide_40 : decode cX4_openRide 40 = .ok (.iinc 4 1, 3) := by decide +kernel
theorem dX4_openRide_43 : decode cX4_openRide 43 = .ok (.goto (-32), 3) := by decide +kernel
theorem dX4_openRide_46 : decode cX4_openRide 46 = .ok (.aconst_null, 1) := by decide +kernel
theorem dX4_openRide_47 : decode cX4_openRide 47 = .ok (.areturn, 1) := by decide +kernel
theorem dX4_dropRide_0 : decode cX4_dropRide 0 = .ok (.iconst 0, 1) := by decide +kernel
theorem dX4_dropRide_1 : decode cX4_dropRide 1 = .ok (.istore_n 2, 1) := by decide +kernel
theorem dX4_dropRide_2 : decode cX4_dropRide 2 = .ok (.iconst 0, 1) := by decide +kernel
theorem dX4_dropRide_3 : decode cX4_dropRide 3 = .ok (.istore_n 3, 1) := by decide +kernel
theorem dX4_dropRide_4 : decode cX4_dropRide 4 = .ok (.iload_n 3, 1) := by decide +kernel
theorem dX4_dropRide_5 : decode cX4_dropRide 5 = .ok (.aload_n 0, 1) := by decide +kernel
theorem dX4_dropRide_6 : decode cX4_dropRide 6 = .ok (.getfield 17, 3) := by decide +kernel
theorem dX4_dropRide_9 : decode cX4_dropRide 9 = .ok (.arraylength, 1) := by decide +kernel
theorem dX4_dropRide_10 : decode cX4_dropRide 10 = .ok (.if_icmp .ge 49, 3) := by decide +kernel
theorem dX4_dropRide_13 : decode cX4_dropRide 13 = .ok (.aload_n 0, 1) := by decide +kernel
theorem dX4_dropRide_14 : decode cX4_dropRide 14 = .ok (.getfield 17, 3) := by decide +kernel
theorem dX4_dropRide_17 : decode cX4_dropRide 17 = .ok (.iload_n 3, 1) := by decide +kernel
theorem dX4_dropRide_18 : decode cX4_dropRide 18 = .ok (.aaload, 1) := by decide +kernel
theorem dX4_dropRide_19 : decode cX4_dropRide 19 = .ok (.astore 4, 2) := by decide +kernel
theorem dX4_dropRide_21 : decode cX4_dropRide 21 = .ok (.aload_n 0, 1) := by decide +kernel
theorem dX4_dropRide_22 : decode cX4_dropRide 22 = .ok (.getfield 17, 3) := by decide +kernel
theorem dX4_dropRide_25 : decode cX4_dropRide 25 = .ok (.iload_n 3, 1) := by decide +kernel
theorem dX4_dropRide_26 : decode cX4_dropRide 26 = .ok (.aconst_null, 1) := by decide +kernel
theorem dX4_dropRide_27 : decode cX4_dropRide 27 = .ok (.aastore, 1) := by decide +kernel
theorem dX4_dropRide_28 : decode cX4_dropRide 28 = .ok (.aload 4, 2) := by decide +kernel
theorem dX4_dropRide_30 : decode cX4_dropRide 30 = .ok (.ifnull 23, 3) := by decide +kernel
theorem dX4_dropRide_33 : decode cX4_dropRide 33 = .ok (.aload 4, 2) := by decide +kernel
theorem dX4_dropRide_35 : decode cX4_dropRide 35 = .ok (.getfield 181, 3) := by decide +kernel
theorem dX4_dropRide_38 : decode cX4_dropRide 38 = .ok (.iload_n 1, 1) := by decide +kernel
theorem dX4_dropRide_39 : decode cX4_dropRide 39 = .ok (.if_icmp .eq 14, 3) := by decide +kernel
theorem dX4_dropRide_42 : decode cX4_dropRide 42 = .ok (.aload_n 0, 1) := by decide +kernel
theorem dX4_dropRide_43 : decode cX4_dropRide 43 = .ok (.getfield 17, 3) := by decide +kernel
theorem dX4_dropRide_46 : decode cX4_dropRide 46 = .ok (.iload_n 2, 1) := by decide +kernel
theorem dX4_dropRide_47 : decode cX4_dropRide 47 = .ok (.aload 4, 2) := by decide +kernel
theorem dX4_dropRide_49 : decode cX4_dropRide 49 = .ok (.aastore, 1) := by decide +kernel
theorem dX4_dropRide_50 : decode cX4_dropRide 50 = .ok (.iinc 2 1, 3) := by decide +kernel
theorem dX4_dropRide_53 : decode cX4_dropRide 53 = .ok (.iinc 3 1, 3) := by decide +kernel
theorem dX4_dropRide_56 : decode cX4_dropRide 56 = .ok (.goto (-52), 3) := by decide +kernel
theorem dX4_dropRide_59 : decode cX4_dropRide 59 = .ok (.aload_n 0, 1) := by decide +kernel
theorem dX4_dropRide_60 : decode cX4_dropRide 60 = .ok (.iload_n 2, 1) := by decide +kernel
theorem dX4_dropRide_61 : decode cX4_dropRide 61 = .ok (.putfield 92, 3) := by decide +kernel
theorem dX4_dropRide_64 : decode cX4_dropRide 64 = .ok (.return_, 1) := by decide +kernel
theorem dX4_hasBegunAnother_0 : decode cX4_hasBegunAnother 0 = .ok (.aload_n 0, 1) := by decide +kernel
theorem dX4_hasBegunAnother_1 : decode cX4_hasBegunAnother 1 = .ok (.getfield 17, 3) := by decide +kernel
theorem dX4_hasBegunAnother_4 : decode cX4_hasBegunAnother 4 = .ok (.astore_n 3, 1) := by decide +kernel
theorem dX4_hasBegunAnother_5 : decode cX4_hasBegunAnother 5 = .ok (.aload_n 3, 1) := by decide +kernel
theorem dX4_hasBegunAnother_6 : decode cX4_hasBegunAnother 6 = .ok (.arraylength, 1) := by decide +kernel
theorem dX4_hasBegunAnother_7 : decode cX4_hasBegunAnother 7 = .ok (.istore 4, 2) := by decide +kernel
theorem dX4_hasBegunAnother_9 : decode cX4_hasBegunAnother 9 = .ok (.iconst 0, 1) := by decide +kernel
theorem dX4_hasBegunAnother_10 : decode cX4_hasBegunAnother 10 = .ok (.istore 5, 2) := by decide +kernel
theorem dX4_hasBegunAnother_12 : decode cX4_hasBegunAnother 12 = .ok (.iload 5, 2) := by decide +kernel
theorem dX4_hasBegunAnother_14 : decode cX4_hasBegunAnother 14 = .ok (.iload 4, 2) := by decide +kernel
theorem dX4_hasBegunAnother_16 : decode cX4_hasBegunAnother 16 = .ok (.if_icmp .ge 37, 3) := by decide +kernel
theorem dX4_hasBegunAnother_19 : decode cX4_hasBegunAnother 19 = .ok (.aload_n 3, 1) := by decide +kernel
theorem dX4_hasBegunAnother_20 : decode cX4_hasBegunAnother 20 = .ok (.iload 5, 2) := by decide +kernel
theorem dX4_hasBegunAnother_22 : decode cX4_hasBegunAnother 22 = .ok (.aaload, 1) := by decide +kernel
theorem dX4_hasBegunAnother_23 : decode cX4_hasBegunAnother 23 = .ok (.astore 6, 2) := by decide +kernel
theorem dX4_hasBegunAnother_25 : decode cX4_hasBegunAnother 25 = .ok (.aload 6, 2) := by decide +kernel
theorem dX4_hasBegunAnother_27 : decode cX4_hasBegunAnother 27 = .ok (.ifnull 20, 3) := by decide +kernel
theorem dX4_hasBegunAnother_30 : decode cX4_hasBegunAnother 30 = .ok (.aload 6, 2) := by decide +kernel
theorem dX4_hasBegunAnother_32 : decode cX4_hasBegunAnother 32 = .ok (.aload_n 2, 1) := by decide +kernel
theorem dX4_hasBegunAnother_33 : decode cX4_hasBegunAnother 33 = .ok (.if_acmp .eq 14, 3) := by decide +kernel
theorem dX4_hasBegunAnother_36 : decode cX4_hasBegunAnother 36 = .ok (.aload 6, 2) := by decide +kernel
theorem dX4_hasBegunAnother_38 : decode cX4_hasBegunAnother 38 = .ok (.getfield 125, 3) := by decide +kernel
theorem dX4_hasBegunAnother_41 : decode cX4_hasBegunAnother 41 = .ok (.iload_n 1, 1) := by decide +kernel
theorem dX4_hasBegunAnother_42 : decode cX4_hasBegunAnother 42 = .ok (.if_icmp .ne 5, 3) := by decide +kernel
theorem dX4_hasBegunAnother_45 : decode cX4_hasBegunAnother 45 = .ok (.iconst 1, 1) := by decide +kernel
theorem dX4_hasBegunAnother_46 : decode cX4_hasBegunAnother 46 = .ok (.ireturn, 1) := by decide +kernel
theorem dX4_hasBegunAnother_47 : decode cX4_hasBegunAnother 47 = .ok (.iinc 5 1, 3) := by decide +kernel
theorem dX4_hasBegunAnother_50 : decode cX4_hasBegunAnother 50 = .ok (.goto (-38), 3) := by decide +kernel
theorem dX4_hasBegunAnother_53 : decode cX4_hasBegunAnother 53 = .ok (.iconst 0, 1) := by decide +kernel
theorem dX4_hasBegunAnother_54 : decode cX4_hasBegunAnother 54 = .ok (.ireturn, 1) := by decide +kernel
theorem dX4_ableCars_0 : decode cX4_ableCars 0 = .ok (.iconst 0, 1) := by decide +kernel
theorem dX4_ableCars_1 : decode cX4_ableCars 1 = .ok (.istore_n 2, 1) := by decide +kernel
theorem dX4_ableCars_2 : decode cX4_ableCars 2 = .ok (.iconst 0, 1) := by decide +kernel
theorem dX4_ableCars_3 : decode cX4_ableCars 3 = .ok (.istore_n 3, 1) := by decide +kernel
theorem dX4_ableCars_4 : decode cX4_ableCars 4 = .ok (.iconst 0, 1) := by decide +kernel
theorem dX4_ableCars_5 : decode cX4_ableCars 5 = .ok (.istore 4, 2) := by decide +kernel
theorem dX4_ableCars_7 : decode cX4_ableCars 7 = .ok (.iload 4, 2) := by decide +kernel
theorem dX4_ableCars_9 : decode cX4_ableCars 9 = .ok (.aload_n 0, 1) := by decide +kernel
theorem dX4_ableCars_10 : decode cX4_ableCars 10 = .ok (.getfield 11, 3) := by decide +kernel
theorem dX4_ableCars_13 : decode cX4_ableCars 13 = .ok (.arraylength, 1) := by decide +kernel
theorem dX4_ableCars_14 : decode cX4_ableCars 14 = .ok (.if_icmp .ge 74, 3) := by decide +kernel
theorem dX4_ableCars_17 : decode cX4_ableCars 17 = .ok (.aload_n 0, 1) := by decide +kernel
theorem dX4_ableCars_18 : decode cX4_ableCars 18 = .ok (.getfield 11, 3) := by decide +kernel
theorem dX4_ableCars_21 : decode cX4_ableCars 21 = .ok (.iload 4, 2) := by decide +kernel
theorem dX4_ableCars_23 : decode cX4_ableCars 23 = .ok (.aaload, 1) := by decide +kernel
theorem dX4_ableCars_24 : decode cX4_ableCars 24 = .ok (.astore 5, 2) := by decide +kernel
theorem dX4_ableCars_26 : decode cX4_ableCars 26 = .ok (.aload 5, 2) := by decide +kernel
theorem dX4_ableCars_28 : decode cX4_ableCars 28 = .ok (.ifnull 54, 3) := by decide +kernel
theorem dX4_ableCars_31 : decode cX4_ableCars 31 = .ok (.aload 5, 2) := by decide +kernel
theorem dX4_ableCars_33 : decode cX4_ableCars 33 = .ok (.aload_n 1, 1) := by decide +kernel
theorem dX4_ableCars_34 : decode cX4_ableCars 34 = .ok (.invokevirtual 117, 3) := by decide +kernel
theorem dX4_ableCars_37 : decode cX4_ableCars 37 = .ok (.ifCond .eq 45, 3) := by decide +kernel
theorem dX4_ableCars_40 : decode cX4_ableCars 40 = .ok (.aload_n 1, 1) := by decide +kernel
theorem dX4_ableCars_41 : decode cX4_ableCars 41 = .ok (.getfield 125, 3) := by decide +kernel
theorem dX4_ableCars_44 : decode cX4_ableCars 44 = .ok (.iconst (-1), 1) := by decide +kernel
theorem dX4_ableCars_45 : decode cX4_ableCars 45 = .ok (.if_icmp .eq 12, 3) := by decide +kernel
theorem dX4_ableCars_48 : decode cX4_ableCars 48 = .ok (.aload_n 1, 1) := by decide +kernel
theorem dX4_ableCars_49 : decode cX4_ableCars 49 = .ok (.getfield 125, 3) := by decide +kernel
theorem dX4_ableCars_52 : decode cX4_ableCars 52 = .ok (.iload 4, 2) := by decide +kernel
theorem dX4_ableCars_54 : decode cX4_ableCars 54 = .ok (.if_icmp .ne 28, 3) := by decide +kernel
theorem dX4_ableCars_57 : decode cX4_ableCars 57 = .ok (.aload 5, 2) := by decide +kernel
theorem dX4_ableCars_59 : decode cX4_ableCars 59 = .ok (.getfield 86, 3) := by decide +kernel
theorem dX4_ableCars_62 : decode cX4_ableCars 62 = .ok (.ifCond .eq 13, 3) := by decide +kernel
theorem dX4_ableCars_65 : decode cX4_ableCars 65 = .ok (.iload_n 3, 1) := by decide +kernel
theorem dX4_ableCars_66 : decode cX4_ableCars 66 = .ok (.iconst 1, 1) := by decide +kernel
theorem dX4_ableCars_67 : decode cX4_ableCars 67 = .ok (.iload 4, 2) := by decide +kernel
theorem dX4_ableCars_69 : decode cX4_ableCars 69 = .ok (.ishl, 1) := by decide +kernel
theorem dX4_ableCars_70 : decode cX4_ableCars 70 = .ok (.ior, 1) := by decide +kernel
theorem dX4_ableCars_71 : decode cX4_ableCars 71 = .ok (.istore_n 3, 1) := by decide +kernel
theorem dX4_ableCars_72 : decode cX4_ableCars 72 = .ok (.goto 10, 3) := by decide +kernel
theorem dX4_ableCars_75 : decode cX4_ableCars 75 = .ok (.iload_n 2, 1) := by decide +kernel
theorem dX4_ableCars_76 : decode cX4_ableCars 76 = .ok (.iconst 1, 1) := by decide +kernel
theorem dX4_ableCars_77 : decode cX4_ableCars 77 = .ok (.iload 4, 2) := by decide +kernel
theorem dX4_ableCars_79 : decode cX4_ableCars 79 = .ok (.ishl, 1) := by decide +kernel
theorem dX4_ableCars_80 : decode cX4_ableCars 80 = .ok (.ior, 1) := by decide +kernel
theorem dX4_ableCars_81 : decode cX4_ableCars 81 = .ok (.istore_n 2, 1) := by decide +kernel
theorem dX4_ableCars_82 : decode cX4_ableCars 82 = .ok (.iinc 4 1, 3) := by decide +kernel
theorem dX4_ableCars_85 : decode cX4_ableCars 85 = .ok (.goto (-78), 3) := by decide +kernel
theorem dX4_ableCars_88 : decode cX4_ableCars 88 = .ok (.iload_n 2, 1) := by decide +kernel
theorem dX4_ableCars_89 : decode cX4_ableCars 89 = .ok (.ifCond .eq 7, 3) := by decide +kernel
theorem dX4_ableCars_92 : decode cX4_ableCars 92 = .ok (.iload_n 2, 1) := by decide +kernel
theorem dX4_ableCars_93 : decode cX4_ableCars 93 = .ok (.goto 4, 3) := by decide +kernel
theorem dX4_ableCars_96 : decode cX4_ableCars 96 = .ok (.iload_n 3, 1) := by decide +kernel
theorem dX4_ableCars_97 : decode cX4_ableCars 97 = .ok (.ireturn, 1) := by decide +kernel
theorem dX4_weightNow_0 : decode cX4_weightNow 0 = .ok (.iconst 1, 1) := by decide +kernel
theorem dX4_weightNow_1 : decode cX4_weightNow 1 = .ok (.aload_n 0, 1) := by decide +kernel
theorem dX4_weightNow_2 : decode cX4_weightNow 2 = .ok (.getfield 100, 3) := by decide +kernel
theorem dX4_weightNow_5 : decode cX4_weightNow 5 = .ok (.aload_n 1, 1) := by decide +kernel
theorem dX4_weightNow_6 : decode cX4_weightNow 6 = .ok (.getfield 184, 3) := by decide +kernel
theorem dX4_weightNow_9 : decode cX4_weightNow 9 = .ok (.isub, 1) := by decide +kernel
theorem dX4_weightNow_10 : decode cX4_weightNow 10 = .ok (.bipush 30, 2) := by decide +kernel
theorem dX4_weightNow_12 : decode cX4_weightNow 12 = .ok (.idiv, 1) := by decide +kernel
theorem dX4_weightNow_13 : decode cX4_weightNow 13 = .ok (.iadd, 1) := by decide +kernel
theorem dX4_weightNow_14 : decode cX4_weightNow 14 = .ok (.istore_n 2, 1) := by decide +kernel
theorem dX4_weightNow_15 : decode cX4_weightNow 15 = .ok (.aload_n 1, 1) := by decide +kernel
theorem dX4_weightNow_16 : decode cX4_weightNow 16 = .ok (.getfield 112, 3) := by decide +kernel
theorem dX4_weightNow_19 : decode cX4_weightNow 19 = .ok (.ifCond .eq 9, 3) := by decide +kernel
theorem dX4_weightNow_22 : decode cX4_weightNow 22 = .ok (.iconst 4, 1) := by decide +kernel
theorem dX4_weightNow_23 : decode cX4_weightNow 23 = .ok (.iload_n 2, 1) := by decide +kernel
theorem dX4_weightNow_24 : decode cX4_weightNow 24 = .ok (.imul, 1) := by decide +kernel
theorem dX4_weightNow_25 : decode cX4_weightNow 25 = .ok (.goto 4, 3) := by decide +kernel
theorem dX4_weightNow_28 : decode cX4_weightNow 28 = .ok (.iload_n 2, 1) := by decide +kernel
theorem dX4_weightNow_29 : decode cX4_weightNow 29 = .ok (.ireturn, 1) := by decide +kernel
end
section
theorem dX5_init_0 : decode cX5_init 0 = .ok (.aload_n 0, 1) := by decide +kernel
theorem dX5_init_1 : decode cX5_init 1 = .ok (.invokespecial 1, 3) := by decide +kernel
theorem dX5_init_4 : decode cX5_init 4 = .ok (.aload_n 0, 1) := by decide +kernel
theorem dX5_init_5 : decode cX5_init 5 = .ok (.iconst 4, 1) := by decide +kernel
theorem dX5_init_6 : decode cX5_init 6 = .ok (.newarray .int, 2) := by decide +kernel
theorem dX5_init_8 : decode cX5_init 8 = .ok (.putfield 7, 3) := by decide +kernel
theorem dX5_init_11 : decode cX5_init 11 = .ok (.aload_n 0, 1) := by decide +kernel
theorem dX5_init_12 : decode cX5_init 12 = .ok (.iconst 4, 1) := by decide +kernel
theorem dX5_init_13 : decode cX5_init 13 = .ok (.newarray .int, 2) := by decide +kernel
theorem dX5_init_15 : decode cX5_init 15 = .ok (.putfield 13, 3) := by decide +kernel
theorem dX5_init_18 : decode cX5_init 18 = .ok (.aload_n 0, 1) := by decide +kernel
theorem dX5_init_19 : decode cX5_init 19 = .ok (.iconst 4, 1) := by decide +kernel
theorem dX5_init_20 : decode cX5_init 20 = .ok (.newarray .int, 2) := by decide +kernel
theorem dX5_init_22 : decode cX5_init 22 = .ok (.putfield 16, 3) := by decide +kernel
theorem dX5_init_25 : decode cX5_init 25 = .ok (.aload_n 0, 1) := by decide +kernel
theorem dX5_init_26 : decode cX5_init 26 = .ok (.iconst 4, 1) := by decide +kernel
theorem dX5_init_27 : decode cX5_init 27 = .ok (.newarray .int, 2) := by decide +kernel
theorem dX5_init_29 : decode cX5_init 29 = .ok (.putfield 19, 3) := by decide +kernel
theorem dX5_init_32 : decode cX5_init 32 = .ok (.aload_n 0, 1) := by decide +kernel
theorem dX5_init_33 : decode cX5_init 33 = .ok (.iconst 4, 1) := by decide +kernel
theorem dX5_init_34 : decode cX5_init 34 = .ok (.newarray .int, 2) := by decide +kernel
theorem dX5_init_36 : decode cX5_init 36 = .ok (.putfield 22, 3) := by decide +kernel
theorem dX5_init_39 : decode cX5_init 39 = .ok (.aload_n 0, 1) := by decide +kernel
theorem dX5_init_40 : decode cX5_init 40 = .ok (.iconst 4, 1) := by decide +kernel
theorem dX5_init_41 : decode cX5_init 41 = .ok (.newarray .boolean, 2) := by decide +kernel
theorem dX5_init_43 : decode cX5_init 43 = .ok (.putfield 25, 3) := by decide +kernel
theorem dX5_init_46 : decode cX5_init 46 = .ok (.aload_n 0, 1) := by decide +kernel
theorem dX5_init_47 : decode cX5_init 47 = .ok (.sipush 400, 3) := by decide +kernel
theorem dX5_init_50 : decode cX5_init 50 = .ok (.newarray .int, 2) := by decide +kernel
theorem dX5_init_52 : decode cX5_init 52 = .ok (.putfield 29, 3) := by decide +kernel
theorem dX5_init_55 : decode cX5_init 55 = .ok (.aload_n 0, 1) := by decide +kernel
theorem dX5_init_56 : decode cX5_init 56 = .ok (.sipush 400, 3) := by decide +kernel
theorem dX5_init_59 : decode cX5_init 59 = .ok (.newarray .int, 2) := by decide +kernel
theorem dX5_init_61 : decode cX5_init 61 = .ok (.putfield 32, 3) := by decide +kernel
theorem dX5_init_64 : decode cX5_init 64 = .ok (.aload_n 0, 1) := by decide +kernel
theorem dX5_init_65 : decode cX5_init 65 = .ok (.sipush 400, 3) := by decide +kernel
theorem dX5_init_68 : decode cX5_init 68 = .ok (.newarray .int, 2) := by decide +kernel
theorem dX5_init_70 : decode cX5_init 70 = .ok (.putfield 35, 3) := by decide +kernel
theorem dX5_init_73 : decode cX5_init 73 = .ok (.aload_n 0, 1) := by decide +kernel
theorem dX5_init_74 : decode cX5_init 74 = .ok (.sipush 400, 3) := by decide +kernel
theorem dX5_init_77 : decode cX5_init 77 = .ok (.newarray .boolean, 2) := by decide +kernel
theorem dX5_init_79 : decode cX5_init 79 = .ok (.putfield 38, 3) := by decide +kernel
theorem dX5_init_82 : decode cX5_init 82 = .ok (.aload_n 0, 1) := by decide +kernel
theorem dX5_init_83 : decode cX5_init 83 = .ok (.sipush 400, 3) := by decide +kernel
theorem dX5_init_86 : decode cX5_init 86 = .ok (.newarray .boolean, 2) := by decide +kernel
theorem dX5_init_88 : decode cX5_init 88 = .ok (.putfield 41, 3) := by decide +kernel
theorem dX5_init_91 : decode cX5_init 91 = .ok (.aload_n 0, 1) := by decide +kernel
theorem dX5_init_92 : decode cX5_init 92 = .ok (.sipush 400, 3) := by decide +kernel
theorem dX5_init_95 : decode cX5_init 95 = .ok (.newarray .int, 2) := by decide +kernel
theorem dX5_init_97 : decode cX5_init 97 = .ok (.putfield 44, 3) := by decide +kernel
theorem dX5_init_100 : decode cX5_init 100 = .ok (.aload_n 0, 1) := by decide +kernel
theorem dX5_init_101 : decode cX5_init 101 = .ok (.sipush 400, 3) := by decide +kernel
theorem dX5_init_104 : decode cX5_init 104 = .ok (.newarray .int, 2) := by decide +kernel
theorem dX5_init_106 : decode cX5_init 106 = .ok (.putfield 47, 3) := by decide +kernel
theorem dX5_init_109 : decode cX5_init 109 = .ok (.aload_n 0, 1) := by decide +kernel
theorem dX5_init_110 : decode cX5_init 110 = .ok (.sipush 400, 3) := by decide +kernel
theorem dX5_init_113 : decode cX5_init 113 = .ok (.newarray .int, 2) := by decide +kernel
theorem dX5_init_115 : decode cX5_init 115 = .ok (.putfield 50, 3) := by decide +kernel
theorem dX5_init_118 : decode cX5_init 118 = .ok (.aload_n 0, 1) := by decide +kernel
theorem dX5_init_119 : decode cX5_init 119 = .ok (.sipush 400, 3) := by decide +kernel
theorem dX5_init_122 : decode cX5_init 122 = .ok (.newarray .int, 2) := by decide +kernel
theorem dX5_init_124 : decode cX5_init 124 = .ok (.putfield 53, 3) := by decide +kernel
theorem dX5_init_127 : decode cX5_init 127 = .ok (.aload_n 0, 1) := by decide +kernel
theorem dX5_init_128 : decode cX5_init 128 = .ok (.sipush 400, 3) := by decide +kernel
theorem dX5_init_131 : decode cX5_init 131 = .ok (.newarray .int, 2) := by decide +kernel
theorem dX5_init_133 : decode cX5_init 133 = .ok (.putfield 56, 3) := by decide +kernel
theorem dX5_init_136 : decode cX5_init 136 = .ok (.aload_n 0, 1) := by decide +kernel
theorem dX5_init_137 : decode cX5_init 137 = .ok (.bipush 24, 2) := by decide +kernel
theorem dX5_init_139 : decode cX5_init 139 = .ok (.newarray .int, 2) := by decide +kernel
theorem dX5_init_141 : decode cX5_init 141 = .ok (.putfield 59, 3) := by decide +kernel
theorem dX5_init_144 : decode cX5_init 144 = .ok (.aload_n 0, 1) := by decide +kernel
theorem dX5_init_145 : decode cX5_init 145 = .ok (.iconst 4, 1) := by decide +kernel
theorem dX5_init_146 : decode cX5_init 146 = .ok (.newarray .int, 2) := by decide +kernel
theorem dX5_init_148 : decode cX5_init 148 = .ok (.putfield 62, 3) := by decide +kernel
theorem dX5_init_151 : decode cX5_init 151 = .ok (.aload_n 0, 1) := by decide +kernel
theorem dX5_init_152 : decode cX5_init 152 = .ok (.bipush 6, 2) := by decide +kernel
theorem dX5_init_154 : decode cX5_init 154 = .ok (.newarray .int, 2) := by decide +kernel
theorem dX5_init_156 : decode cX5_init 156 = .ok (.putfield 65, 3) := by decide +kernel
theorem dX5_init_159 : decode cX5_init 159 = .ok (.aload_n 0, 1) := by decide +kernel
theorem dX5_init_160 : decode cX5_init 160 = .ok (.bipush 6, 2) := by decide +kernel
theorem dX5_init_162 : decode cX5_init 162 = .ok (.newarray .int, 2) := by decide +kernel
theorem dX5_init_164 : decode cX5_init 164 = .ok (.putfield 68, 3) := by decide +kernel
theorem dX5_init_167 : decode cX5_init 167 = .ok (.aload_n 0, 1) := by decide +kernel
theorem dX5_init_168 : decode cX5_init 168 = .ok (.sipush 256, 3) := by decide +kernel
theorem dX5_init_171 : decode cX5_init 171 = .ok (.newarray .long, 2) := by decide +kernel
theorem dX5_init_173 : decode cX5_init 173 = .ok (.putfield 71, 3) := by decide +kernel
theorem dX5_init_176 : decode cX5_init 176 = .ok (.aload_n 0, 1) := by decide +kernel
theorem dX5_init_177 : decode cX5_init 177 = .ok (.sipush 1536, 3) := by decide +kernel
theorem dX5_init_180 : decode cX5_init 180 = .ok (.newarray .int, 2) := by decide +kernel
theorem dX5_init_182 : decode cX5_init 182 = .ok (.putfield 75, 3) := by decide +kernel
theorem dX5_init_185 : decode cX5_init 185 = .ok (.aload_n 0, 1) := by decide +kernel
theorem dX5_init_186 : decode cX5_init 186 = .ok (.bipush 6, 2) := by decide +kernel
theorem dX5_init_188 : decode cX5_init 188 = .ok (.newarray .int, 2) := by decide +kernel
theorem dX5_init_190 : decode cX5_init 190 = .ok (.putfield 78, 3) := by decide +kernel
theorem dX5_init_193 : decode cX5_init 193 = .ok (.aload_n 0, 1) := by decide +kernel
theorem dX5_init_194 : decode cX5_init 194 = .ok (.bipush 6, 2) := by decide +kernel
theorem dX5_init_196 : decode cX5_init 196 = .ok (.newarray .int, 2) := by decide +kernel
theorem dX5_init_198 : decode cX5_init 198 = .ok (.putfield 81, 3) := by decide +kernel
theorem dX5_init_201 : decode cX5_init 201 = .ok (.aload_n 0, 1) := by decide +kernel
theorem dX5_init_202 : decode cX5_init 202 = .ok (.iload_n 1, 1) := by decide +kernel
theorem dX5_init_203 : decode cX5_init 203 = .ok (.iconst 2, 1) := by decide +kernel
theorem dX5_init_204 : decode cX5_init 204 = .ok (.if_icmp .ge 7, 3) := by decide +kernel
theorem dX5_init_207 : decode cX5_init 207 = .ok (.iconst 2, 1) := by decide +kernel
theorem dX5_init_208 : decode cX5_init 208 = .ok (.goto 15, 3) := by decide +kernel
theorem dX5_init_211 : decode cX5_init 211 = .ok (.iload_n 1, 1) := by decide +kernel
theorem dX5_init_212 : decode cX5_init 212 = .ok (.bipush 60, 2) := by decide +kernel
theorem dX5_init_214 : decode cX5_init 214 = .ok (.if_icmp .le 8, 3) := by decide +kernel
theorem dX5_init_217 : decode cX5_init 217 = .ok (.bipush 60, 2) := by decide +kernel
theorem dX5_init_219 : decode cX5_init 219 = .ok (.goto 4, 3) := by decide +kernel
theorem dX5_init_222 : decode cX5_init 222 = .ok (.iload_n 1, 1) := by decide +kernel
theorem dX5_init_223 : decode cX5_init 223 = .ok (.putfield 84, 3) := by decide +kernel
theorem dX5_init_226 : decode cX5_init 226 = .ok (.iconst 0, 1) := by decide +kernel
theorem dX5_init_227 : decode cX5_init 227 = .ok (.istore_n 2, 1) := by decide +kernel
theorem dX5_init_228 : decode cX5_init 228 = .ok (.iload_n 2, 1) := by decide +kernel
theorem dX5_init_229 : decode cX5_init 229 = .ok (.sipush 400, 3) := by decide +kernel
theorem dX5_init_232 : decode cX5_init 232 = .ok (.if_icmp .ge 16, 3) := by decide +kernel
theorem dX5_init_235 : decode cX5_init 235 = .ok (.aload_n 0, 1) := by decide +kernel
theorem dX5_init_236 : decode cX5_init 236 = .ok (.getfield 47, 3) := by decide +kernel
theorem dX5_init_239 : decode cX5_init 239 = .ok (.iload_n 2, 1) := by decide +kernel
theorem dX5_init_240 : decode cX5_init 240 = .ok (.iconst (-1), 1) := by decide +kernel
theorem dX5_init_241 : decode cX5_init 241 = .ok (.iastore, 1) := by decide +kernel
theorem dX5_init_242 : decode cX5_init 242 = .ok (.iinc 2 1, 3) := by decide +kernel
theorem dX5_init_245 : decode cX5_init 245 = .ok (.goto (-17), 3) := by decide +kernel
theorem dX5_init_248 : decode cX5_init 248 = .ok (.return_, 1) := by decide +kernel
theorem dX5_thrown_0 : decode cX5_thrown 0 = .ok (.aload_n 0, 1) := by decide +kernel
theorem dX5_thrown_1 : decode cX5_thrown 1 = .ok (.getfield 88, 3) := by decide +kernel
theorem dX5_thrown_4 : decode cX5_thrown 4 = .ok (.ireturn, 1) := by decide +kernel
theorem dX5_isIn_0 : decode cX5_isIn 0 = .ok (.iload_n 0, 1) := by decide +kernel
theorem dX5_isIn_1 : decode cX5_isIn 1 = .ok (.iload_n 1, 1) := by decide +kernel
theorem dX5_isIn_2 : decode cX5_isIn 2 = .ok (.if_icmp .lt 12, 3) := by decide +kernel
theorem dX5_isIn_5 : decode cX5_isIn 5 = .ok (.iload_n 0, 1) := by decide +kernel
theorem dX5_isIn_6 : decode cX5_isIn 6 = .ok (.iload_n 2, 1) := by decide +kernel
theorem dX5_isIn_7 : decode cX5_isIn 7 = .ok (.if_icmp .gt 7, 3) := by decide +kernel
theorem dX5_isIn_10 : decode cX5_isIn 10 = .ok (.iconst 1, 1) := by decide +kernel
theorem dX5_isIn_11 : decode cX5_isIn 11 = .ok (.goto 4, 3) := by decide +kernel
theorem dX5_isIn_14 : decode cX5_isIn 14 = .ok (.iconst 0, 1) := by decide +kernel
theorem dX5_isIn_15 : decode cX5_isIn 15 = .ok (.ireturn, 1) := by decide +kernel
theorem dX5_isFloor_0 : decode cX5_isFloor 0 = .ok (.iload_n 1, 1) := by decide +kernel
theorem dX5_isFloor_1 : decode cX5_isFloor 1 = .ok (.iconst 0, 1) := by decide +kernel
theorem dX5_isFloor_2 : decode cX5_isFloor 2 = .ok (.aload_n 0, 1) := by decide +kernel
theorem dX5_isFloor_3 : decode cX5_isFloor 3 = .ok (.getfield 84, 3) := by decide +kernel
theorem dX5_isFloor_6 : decode cX5_isFloor 6 = .ok (.iconst 1, 1) := by decide +kernel
theorem dX5_isFloor_7 : decode cX5_isFloor 7 = .ok (.isub, 1) := by decide +kernel
theorem dX5_isFloor_8 : decode cX5_isFloor 8 = .ok (.invokestatic 91, 3) := by decide +kernel
theorem dX5_isFloor_11 : decode cX5_isFloor 11 = .ok (.ireturn, 1) := by decide +kernel
theorem dX5_isCar_0 : decode cX5_isCar 0 = .ok (.iload_n 1, 1) := by decide +kernel
theorem dX5_isCar_1 : decode cX5_isCar 1 = .ok (.iconst 0, 1) := by decide +kernel
theorem dX5_isCar_2 : decode cX5_isCar 2 = .ok (.aload_n 0, 1) := by decide +kernel
theorem dX5_isCar_3 : decode cX5_isCar 3 = .ok (.getfield 95, 3) := by decide +kernel
theorem dX5_isCar_6 : decode cX5_isCar 6 = .ok (.iconst 1, 1) := by decide +kernel
theorem dX5_isCar_7 : decode cX5_isCar 7 = .ok (.isub, 1) := by decide +kernel
theorem dX5_isCar_8 : decode cX5_isCar 8 = .ok (.invokestatic 91, 3) := by decide +kernel
theorem dX5_isCar_11 : decode cX5_isCar 11 = .ok (.ireturn, 1) := by decide +kernel
theorem dX5_isOpenCall_0 : decode cX5_isOpenCall 0 = .ok (.iload_n 1, 1) := by decide +kernel
theorem dX5_isOpenCall_1 : decode cX5_isOpenCall 1 = .ok (.iconst 0, 1) := by decide +kernel
theorem dX5_isOpenCall_2 : decode cX5_isOpenCall 2 = .ok (.aload_n 0, 1) := by decide +kernel
theorem dX5_isOpenCall_3 : decode cX5_isOpenCall 3 = .ok (.getfield 98, 3) := by decide +kernel
theorem dX5_isOpenCall_6 : decode cX5_isOpenCall 6 = .ok (.iconst 1, 1) := by decide +kernel
theorem dX5_isOpenCall_7 : decode cX5_isOpenCall 7 = .ok (.isub, 1) := by decide +kernel
theorem dX5_isOpenCall_8 : decode cX5_isOpenCall 8 = .ok (.invokestatic 91, 3) := by decide +kernel
theorem dX5_isOpenCall_11 : decode cX5_isOpenCall 11 = .ok (.ifCond .eq 16, 3) := by decide +kernel
theorem dX5_isOpenCall_14 : decode cX5_isOpenCall 14 = .ok (.aload_n 0, 1) := by decide +kernel
theorem dX5_isOpenCall_15 : decode cX5_isOpenCall 15 = .ok (.getfield 38, 3) := by decide +kernel
theorem dX5_isOpenCall_18 : decode cX5_isOpenCall 18 = .ok (.iload_n 1, 1) := by decide +kernel
theorem dX5_isOpenCall_19 : decode cX5_isOpenCall 19 = .ok (.baload, 1) := by decide +kernel
theorem dX5_isOpenCall_20 : decode cX5_isOpenCall 20 = .ok (.ifCond .eq 7, 3) := by decide +kernel
theorem dX5_isOpenCall_23 : decode cX5_isOpenCall 23 = .ok (.iconst 1, 1) := by decide +kernel
theorem dX5_isOpenCall_24 : decode cX5_isOpenCall 24 = .ok (.goto 4, 3) := by decide +kernel
theorem dX5_isOpenCall_27 : decode cX5_isOpenCall 27 = .ok (.iconst 0, 1) := by decide +kernel
theorem dX5_isOpenCall_28 : decode cX5_isOpenCall 28 = .ok (.ireturn, 1) := by decide +kernel
theorem dX5_car_0 : decode cX5_car 0 = .ok (.aload_n 0, 1) := by decide +kernel
theorem dX5_car_1 : decode cX5_car 1 = .ok (.aload_n 0, 1) := by decide +kernel
theorem dX5_car_2 : decode cX5_car 2 = .ok (.iload_n 1, 1) := by decide +kernel
theorem dX5_car_3 : decode cX5_car 3 = .ok (.invokevirtual 101, 3) := by decide +kernel
theorem dX5_car_6 : decode cX5_car 6 = .ok (.ifCond .eq 12, 3) := by decide +kernel
theorem dX5_car_9 : decode cX5_car 9 = .ok (.iload_n 2, 1) := by decide +kernel
theorem dX5_car_10 : decode cX5_car 10 = .ok (.iconst 1, 1) := by decide +kernel
theorem dX5_car_11 : decode cX5_car 11 = .ok (.iconst 5, 1) := by decide +kernel
theorem dX5_car_12 : decode cX5_car 12 = .ok (.invokestatic 91, 3) := by decide +kernel
theorem dX5_car_15 : decode cX5_car 15 = .ok (.ifCond .ne 7, 3) := by decide +kernel
theorem dX5_car_18 : decode cX5_car 18 = .ok (.iconst 1, 1) := by decide +kernel
theorem dX5_car_19 : decode cX5_car 19 = .ok (.goto 16, 3) := by decide +kernel
theorem dX5_car_22 : decode cX5_car 22 = .ok (.aload_n 0, 1) := by decide +kernel
theorem dX5_car_23 : decode cX5_car 23 = .ok (.getfield 95, 3) := by decide +kernel
theorem dX5_car_26 : decode cX5_car 26 = .ok (.iconst 4, 1) := by decide +kernel
theorem dX5_car_27 : decode cX5_car 27 = .ok (.if_icmp .ne 7, 3) := by decide +kernel
theorem dX5_car_30 : decode cX5_car 30 = .ok (.iconst 2, 1) := by decide +kernel
theorem dX5_car_31 : decode cX5_car 31 = .ok (.goto 4, 3) := by decide +kernel
theorem dX5_car_34 : decode cX5_car 34 = .ok (.iconst 0, 1) := by decide +kernel
theorem dX5_car_35 : decode cX5_car 35 = .ok (.putfield 88, 3) := by decide +kernel
theorem dX5_car_38 : decode cX5_car 38 = .ok (.aload_n 0, 1) := by decide +kernel
theorem dX5_car_39 : decode cX5_car 39 = .ok (.getfield 88, 3) := by decide +kernel
theorem dX5_car_42 : decode cX5_car 42 = .ok (.ifCond .le 5, 3) := by decide +kernel
theorem dX5_car_45 : decode cX5_car 45 = .ok (.iconst 0, 1) := by decide +kernel
theorem dX5_car_46 : decode cX5_car 46 = .ok (.ireturn, 1) := by decide +kernel
theorem dX5_car_47 : decode cX5_car 47 = .ok (.aload_n 0, 1) := by decide +kernel
theorem dX5_car_48 : decode cX5_car 48 = .ok (.getfield 7, 3) := by decide +kernel
theorem dX5_car_51 : decode cX5_car 51 = .ok (.aload_n 0, 1) := by decide +kernel
theorem dX5_car_52 : decode cX5_car 52 = .ok (.getfield 95, 3) := by decide +kernel
theorem dX5_car_55 : decode cX5_car 55 = .ok (.iload_n 2, 1) := by decide +kernel
theorem dX5_car_56 : decode cX5_car 56 = .ok (.iastore, 1) := by decide +kernel
theorem dX5_car_57 : decode cX5_car 57 = .ok (.aload_n 0, 1) := by decide +kernel
theorem dX5_car_58 : decode cX5_car 58 = .ok (.getfield 13, 3) := by decide +kernel
theorem dX5_car_61 : decode cX5_car 61 = .ok (.aload_n 0, 1) := by decide +kernel
theorem dX5_car_62 : decode cX5_car 62 = .ok (.getfield 95, 3) := by decide +kernel
theorem dX5_car_65 : decode cX5_car 65 = .ok (.iload_n 1, 1) := by decide +kernel
theorem dX5_car_66 : decode cX5_car 66 = .ok (.iastore, 1) := by decide +kernel
theorem dX5_car_67 : decode cX5_car 67 = .ok (.aload_n 0, 1) := by decide +kernel
theorem dX5_car_68 : decode cX5_car 68 = .ok (.getfield 16, 3) := by decide +kernel
theorem dX5_car_71 : decode cX5_car 71 = .ok (.aload_n 0, 1) := by decide +kernel
theorem dX5_car_72 : decode cX5_car 72 = .ok (.getfield 95, 3) := by decide +kernel
theorem dX5_car_75 : decode cX5_car 75 = .ok (.aload_n 0, 1) := by decide +kernel
theorem dX5_car_76 : decode cX5_car 76 = .ok (.getfield 105, 3) := by decide +kernel
theorem dX5_car_79 : decode cX5_car 79 = .ok (.iastore, 1) := by decide +kernel
theorem dX5_car_80 : decode cX5_car 80 = .ok (.aload_n 0, 1) := by decide +kernel
theorem dX5_car_81 : decode cX5_car 81 = .ok (.getfield 19, 3) := by decide +kernel
theorem dX5_car_84 : decode cX5_car 84 = .ok (.aload_n 0, 1) := by decide +kernel
theorem dX5_car_85 : decode cX5_car 85 = .ok (.getfield 95, 3) := by decide +kernel
theorem dX5_car_88 : decode cX5_car 88 = .ok (.iconst 0, 1) := by decide +kernel
theorem dX5_car_89 : decode cX5_car 89 = .ok (.iastore, 1) := by decide +kernel
theorem dX5_car_90 : decode cX5_car 90 = .ok (.aload_n 0, 1) := by decide +kernel
theorem dX5_car_91 : decode cX5_car 91 = .ok (.getfield 22, 3) := by decide +kernel
theorem dX5_car_94 : decode cX5_car 94 = .ok (.aload_n 0, 1) := by decide +kernel
theorem dX5_car_95 : decode cX5_car 95 = .ok (.getfield 95, 3) := by decide +kernel
theorem dX5_car_98 : decode cX5_car 98 = .ok (.aload_n 0, 1) := by decide +kernel
theorem dX5_car_99 : decode cX5_car 99 = .ok (.getfield 84, 3) := by decide +kernel
theorem dX5_car_102 : decode cX5_car 102 = .ok (.iconst 1, 1) := by decide +kernel
theorem dX5_car_103 : decode cX5_car 103 = .ok (.isub, 1) := by decide +kernel
theorem dX5_car_104 : decode cX5_car 104 = .ok (.iastore, 1) := by decide +kernel
theorem dX5_car_105 : decode cX5_car 105 = .ok (.aload_n 0, 1) := by decide +kernel
theorem dX5_car_106 : decode cX5_car 106 = .ok (.getfield 25, 3) := by decide +kernel
theorem dX5_car_109 : decode cX5_car 109 = .ok (.aload_n 0, 1) := by decide +kernel
theorem dX5_car_110 : decode cX5_car 110 = .ok (.getfield 95, 3) := by decide +kernel
theorem dX5_car_113 : decode cX5_car 113 = .ok (.iconst 0, 1) := by decide +kernel
theorem dX5_car_114 : decode cX5_car 114 = .ok (.bastore, 1) := by decide +kernel
theorem dX5_car_115 : decode cX5_car 115 = .ok (.aload_n 0, 1) := by decide +kernel
theorem dX5_car_116 : decode cX5_car 116 = .ok (.dup, 1) := by decide +kernel
theorem dX5_car_117 : decode cX5_car 117 = .ok (.getfield 95, 3) := by decide +kernel
theorem dX5_car_120 : decode cX5_car 120 = .ok (.iconst 1, 1) := by decide +kernel
theorem dX5_car_121 : decode cX5_car 121 = .ok (.iadd, 1) := by decide +kernel
theorem dX5_car_122 : decode cX5_car 122 = .ok (.putfield 95, 3) := by decide +kernel
theorem dX5_car_125 : decode cX5_car 125 = .ok (.aload_n 0, 1) := by decide +kernel
theorem dX5_car_126 : decode cX5_car 126 = .ok (.getfield 95, 3) := by decide +kernel
theorem dX5_car_129 : decode cX5_car 129 = .ok (.iconst 1, 1) := by decide +kernel
theorem dX5_car_130 : decode cX5_car 130 = .ok (.isub, 1) := by decide +kernel
theorem dX5_car_131 : decode cX5_car 131 = .ok (.ireturn, 1) := by decide +kernel
theorem dX5_free_0 : decode cX5_free 0 = .ok (.aload_n 0, 1) := by decide +kernel
theorem dX5_free_1 : decode cX5_free 1 = .ok (.aload_n 0, 1) := by decide +kernel
theorem dX5_free_2 : decode cX5_free 2 = .ok (.iload_n 1, 1) := by decide +kernel
theorem dX5_free_3 : decode cX5_free 3 = .ok (.invokevirtual 108, 3) := by decide +kernel
theorem dX5_free_6 : decode cX5_free 6 = .ok (.ifCond .eq 21, 3) := by decide +kernel
theorem dX5_free_9 : decode cX5_free 9 = .ok (.aload_n 0, 1) := by decide +kernel
theorem dX5_free_10 : decode cX5_free 10 = .ok (.iload_n 2, 1) := by decide +kernel
theorem dX5_free_11 : decode cX5_free 11 = .ok (.invokevirtual 101, 3) := by decide +kernel
theorem dX5_free_14 : decode cX5_free 14 = .ok (.ifCond .eq 13, 3) := by decide +kernel
theorem dX5_free_17 : decode cX5_free 17 = .ok (.iload_n 3, 1) := by decide +kernel
theorem dX5_free_18 : decode cX5_free 18 = .ok (.iconst 0, 1) := by decide +kernel
theorem dX5_free_19 : decode cX5_free 19 = .ok (.ldc 111, 2) := by decide +kernel
theorem dX5_free_21 : decode cX5_free 21 = .ok (.invokestatic 91, 3) := by decide +kernel
theorem dX5_free_24 : decode cX5_free 24 = .ok (.ifCond .ne 7, 3) := by decide +kernel
theorem dX5_free_27 : decode cX5_free 27 = .ok (.iconst 1, 1) := by decide +kernel
theorem dX5_free_28 : decode cX5_free 28 = .ok (.goto 4, 3) := by decide +kernel
theorem dX5_free_31 : decode cX5_free 31 = .ok (.iconst 0, 1) := by decide +kernel
theorem dX5_free_32 : decode cX5_free 32 = .ok (.putfield 88, 3) := by decide +kernel
theorem dX5_free_35 : decode cX5_free 35 = .ok (.aload_n 0, 1) := by decide +kernel
theorem dX5_free_36 : decode cX5_free 36 = .ok (.getfield 88, 3) := by decide +kernel
theorem dX5_free_39 : decode cX5_free 39 = .ok (.ifCond .ne 17, 3) := by decide +kernel
theorem dX5_free_42 : decode cX5_free 42 = .ok (.aload_n 0, 1) := by decide +kernel
theorem dX5_free_43 : decode cX5_free 43 = .ok (.getfield 13, 3) := by decide +kernel
theorem dX5_free_46 : decode cX5_free 46 = .ok (.iload_n 1, 1) := by decide +kernel
theorem dX5_free_47 : decode cX5_free 47 = .ok (.iload_n 2, 1) := by decide +kernel
theorem dX5_free_48 : decode cX5_free 48 = .ok (.iastore, 1) := by decide +kernel
theorem dX5_free_49 : decode cX5_free 49 = .ok (.aload_n 0, 1) := by decide +kernel
theorem dX5_free_50 : decode cX5_free 50 = .ok (.getfield 16, 3) := by decide +kernel
theorem dX5_free_53 : decode cX5_free 53 = .ok (.iload_n 1, 1) := by decide +kernel
theorem dX5_free_54 : decode cX5_free 54 = .ok (.iload_n 3, 1) := by decide +kernel
theorem dX5_free_55 : decode cX5_free 55 = .ok (.iastore, 1) := by decide +kernel
theorem dX5_free_56 : decode cX5_free 56 = .ok (.return_, 1) := by decide +kernel
theorem dX5_zone_0 : decode cX5_zone 0 = .ok (.aload_n 0, 1) := by decide +kernel
theorem dX5_zone_1 : decode cX5_zone 1 = .ok (.aload_n 0, 1) := by decide +kernel
theorem dX5_zone_2 : decode cX5_zone 2 = .ok (.iload_n 1, 1) := by decide +kernel
theorem dX5_zone_3 : decode cX5_zone 3 = .ok (.invokevirtual 108, 3) := by decide +kernel
theorem dX5_zone_6 : decode cX5_zone 6 = .ok (.ifCond .eq 24, 3) := by decide +kernel
theorem dX5_zone_9 : decode cX5_zone 9 = .ok (.aload_n 0, 1) := by decide +kernel
theorem dX5_zone_10 : decode cX5_zone 10 = .ok (.iload_n 2, 1) := by decide +kernel
theorem dX5_zone_11 : decode cX5_zone 11 = .ok (.invokevirtual 101, 3) := by decide +kernel
theorem dX5_zone_14 : decode cX5_zone 14 = .ok (.ifCond .eq 16, 3) := by decide +kernel
theorem dX5_zone_17 : decode cX5_zone 17 = .ok (.aload_n 0, 1) := by decide +kernel
theorem dX5_zone_18 : decode cX5_zone 18 = .ok (.iload_n 3, 1) := by decide +kernel
theorem dX5_zone_19 : decode cX5_zone 19 = .ok (.invokevirtual 101, 3) := by decide +kernel
theorem dX5_zone_22 : decode cX5_zone 22 = .ok (.ifCond .eq 8, 3) := by decide +kernel
theorem dX5_zone_25 : decode cX5_zone 25 = .ok (.iload_n 2, 1) := by decide +kernel
theorem dX5_zone_26 : decode cX5_zone 26 = .ok (.iload_n 3, 1) := by decide +kernel
theorem dX5_zone_27 : decode cX5_zone 27 = .ok (.if_icmp .le 7, 3) := by decide +kernel
theorem dX5_zone_30 : decode cX5_zone 30 = .ok (.iconst 1, 1) := by decide +kernel
theorem dX5_zone_31 : decode cX5_zone 31 = .ok (.goto 4, 3) := by decide +kernel
theorem dX5_zone_34 : decode cX5_zone 34 = .ok (.iconst 0, 1) := by decide +kernel
theorem dX5_zone_35 : decode cX5_zone 35 = .ok (.putfield 88, 3) := by decide +kernel
theorem dX5_zone_38 : decode cX5_zone 38 = .ok (.aload_n 0, 1) := by decide +kernel
theorem dX5_zone_39 : decode cX5_zone 39 = .ok (.getfield 88, 3) := by decide +kernel
theorem dX5_zone_42 : decode cX5_zone 42 = .ok (.ifCond .ne 17, 3) := by decide +kernel
theorem dX5_zone_45 : decode cX5_zone 45 = .ok (.aload_n 0, 1) := by decide +kernel
theorem dX5_zone_46 : decode cX5_zone 46 = .ok (.getfield 19, 3) := by decide +kernel
theorem dX5_zone_49 : decode cX5_zone 49 = .ok (.iload_n 1, 1) := by decide +kernel
theorem dX5_zone_50 : decode cX5_zone 50 = .ok (.iload_n 2, 1) := by decide +kernel
theorem dX5_zone_51 : decode cX5_zone 51 = .ok (.iastore, 1) := by decide +kernel
theorem dX5_zone_52 : decode cX5_zone 52 = .ok (.aload_n 0, 1) := by decide +kernel
theorem dX5_zone_53 : decode cX5_zone 53 = .ok (.getfield 22, 3) := by decide +kernel
theorem dX5_zone_56 : decode cX5_zone 56 = .ok (.iload_n 1, 1) := by decide +kernel
theorem dX5_zone_57 : decode cX5_zone 57 = .ok (.iload_n 3, 1) := by decide +kernel
theorem dX5_zone_58 : decode cX5_zone 58 = .ok (.iastore, 1) := by decide +kernel
theorem dX5_zone_59 : decode cX5_zone 59 = .ok (.return_, 1) := by decide +kernel
theorem dX5_sleep_0 : decode cX5_sleep 0 = .ok (.aload_n 0, 1) := by decide +kernel
theorem dX5_sleep_1 : decode cX5_sleep 1 = .ok (.aload_n 0, 1) := by decide +kernel
theorem dX5_sleep_2 : decode cX5_sleep 2 = .ok (.iload_n 1, 1) := by decide +kernel
theorem dX5_sleep_3 : decode cX5_sleep 3 = .ok (.invokevirtual 108, 3) := by decide +kernel
theorem dX5_sleep_6 : decode cX5_sleep 6 = .ok (.ifCond .eq 7, 3) := by decide +kernel
theorem dX5_sleep_9 : decode cX5_sleep 9 = .ok (.iconst 0, 1) := by decide +kernel
theorem dX5_sleep_10 : decode cX5_sleep 10 = .ok (.goto 4, 3) := by decide +kernel
theorem dX5_sleep_13 : decode cX5_sleep 13 = .ok (.iconst 1, 1) := by decide +kernel
theorem dX5_sleep_14 : decode cX5_sleep 14 = .ok (.putfield 88, 3) := by decide +kernel
theorem dX5_sleep_17 : decode cX5_sleep 17 = .ok (.aload_n 0, 1) := by decide +kernel
theorem dX5_sleep_18 : decode cX5_sleep 18 = .ok (.getfield 88, 3) := by decide +kernel
theorem dX5_sleep_21 : decode cX5_sleep 21 = .ok (.ifCond .le 5, 3) := by decide +kernel
theorem dX5_sleep_24 : decode cX5_sleep 24 = .ok (.iconst 0, 1) := by decide +kernel
theorem dX5_sleep_25 : decode cX5_sleep 25 = .ok (.ireturn, 1) := by decide +kernel
theorem dX5_sleep_26 : decode cX5_sleep 26 = .ok (.aload_n 0, 1) := by decide +kernel
theorem dX5_sleep_27 : decode cX5_sleep 27 = .ok (.getfield 25, 3) := by decide +kernel
theorem dX5_sleep_30 : decode cX5_sleep 30 = .ok (.iload_n 1, 1) := by decide +kernel
theorem dX5_sleep_31 : decode cX5_sleep 31 = .ok (.baload, 1) := by decide +kernel
theorem dX5_sleep_32 : decode cX5_sleep 32 = .ok (.istore_n 3, 1) := by decide +kernel
theorem dX5_sleep_33 : decode cX5_sleep 33 = .ok (.aload_n 0, 1) := by decide +kernel
theorem dX5_sleep_34 : decode cX5_sleep 34 = .ok (.getfield 25, 3) := by decide +kernel
theorem dX5_sleep_37 : decode cX5_sleep 37 = .ok (.iload_n 1, 1) := by decide +kernel
theorem dX5_sleep_38 : decode cX5_sleep 38 = .ok (.iload_n 2, 1) := by decide +kernel
theorem dX5_sleep_39 : decode cX5_sleep 39 = .ok (.bastore, 1) := by decide +kernel
theorem dX5_sleep_40 : decode cX5_sleep 40 = .ok (.iload_n 3, 1) := by decide +kernel
theorem dX5_sleep_41 : decode cX5_sleep 41 = .ok (.ireturn, 1) := by decide +kernel
theorem dX5_call_0 : decode cX5_call 0 = .ok (.aload_n 0, 1) := by decide +kernel
theorem dX5_call_1 : decode cX5_call 1 = .ok (.aload_n 0, 1) := by decide +kernel
theorem dX5_call_2 : decode cX5_call 2 = .ok (.iload_n 1, 1) := by decide +kernel
theorem dX5_call_3 : decode cX5_call 3 = .ok (.invokevirtual 101, 3) := by decide +kernel
theorem dX5_call_6 : decode cX5_call 6 = .ok (.ifCond .eq 16, 3) := by decide +kernel
theorem dX5_call_9 : decode cX5_call 9 = .ok (.aload_n 0, 1) := by decide +kernel
theorem dX5_call_10 : decode cX5_call 10 = .ok (.iload_n 2, 1) := by decide +kernel
theorem dX5_call_11 : decode cX5_call 11 = .ok (.invokevirtual 101, 3) := by decide +kernel
theorem dX5_call_14 : decode cX5_call 14 = .ok (.ifCond .eq 8, 3) := by decide +kernel
theorem dX5_call_17 : decode cX5_call 17 = .ok (.iload_n 1, 1) := by decide +kernel
theorem dX5_call_18 : decode cX5_call 18 = .ok (.iload_n 2, 1) := by decide +kernel
theorem dX5_call_19 : decode cX5_call 19 = .ok (.if_icmp .ne 7, 3) := by decide +kernel
theorem dX5_call_22 : decode cX5_call 22 = .ok (.iconst 1, 1) := by decide +kernel
theorem dX5_call_23 : decode cX5_call 23 = .ok (.goto 27, 3) := by decide +kernel
theorem dX5_call_26 : decode cX5_call 26 = .ok (.aload_n 0, 1) := by decide +kernel
theorem dX5_call_27 : decode cX5_call 27 = .ok (.getfield 112, 3) := by decide +kernel
theorem dX5_call_30 : decode cX5_call 30 = .ok (.bipush 6, 2) := by decide +kernel
theorem dX5_call_32 : decode cX5_call 32 = .ok (.if_icmp .eq 13, 3) := by decide +kernel
theorem dX5_call_35 : decode cX5_call 35 = .ok (.aload_n 0, 1) := by decide +kernel
theorem dX5_call_36 : decode cX5_call 36 = .ok (.getfield 98, 3) := by decide +kernel
theorem dX5_call_39 : decode cX5_call 39 = .ok (.sipush 400, 3) := by decide +kernel
theorem dX5_call_42 : decode cX5_call 42 = .ok (.if_icmp .ne 7, 3) := by decide +kernel
theorem dX5_call_45 : decode cX5_call 45 = .ok (.iconst 2, 1) := by decide +kernel
theorem dX5_call_46 : decode cX5_call 46 = .ok (.goto 4, 3) := by decide +kernel
theorem dX5_call_49 : decode cX5_call 49 = .ok (.iconst 0, 1) := by decide +kernel
theorem dX5_call_50 : decode cX5_call 50 = .ok (.putfield 88, 3) := by decide +kernel
theorem dX5_call_53 : decode cX5_call 53 = .ok (.aload_n 0, 1) := by decide +kernel
theorem dX5_call_54 : decode cX5_call 54 = .ok (.getfield 88, 3) := by decide +kernel
theorem dX5_call_57 : decode cX5_call 57 = .ok (.ifCond .le 5, 3) := by decide +kernel
theorem dX5_call_60 : decode cX5_call 60 = .ok (.iconst 0, 1) := by decide +kernel
theorem dX5_call_61 : decode cX5_call 61 = .ok (.ireturn, 1) := by decide +kernel
theorem dX5_call_62 : decode cX5_call 62 = .ok (.aload_n 0, 1) := by decide +kernel
theorem dX5_call_63 : decode cX5_call 63 = .ok (.getfield 29, 3) := by decide +kernel
theorem dX5_call_66 : decode cX5_call 66 = .ok (.aload_n 0, 1) := by decide +kernel
theorem dX5_call_67 : decode cX5_call 67 = .ok (.getfield 98, 3) := by decide +kernel
theorem dX5_call_70 : decode cX5_call 70 = .ok (.iload_n 1, 1) := by decide +kernel
theorem dX5_call_71 : decode cX5_call 71 = .ok (.iastore, 1) := by decide +kernel
theorem dX5_call_72 : decode cX5_call 72 = .ok (.aload_n 0, 1) := by decide +kernel
theorem dX5_call_73 : decode cX5_call 73 = .ok (.getfield 32, 3) := by decide +kernel
theorem dX5_call_76 : decode cX5_call 76 = .ok (.aload_n 0, 1) := by decide +kernel
theorem dX5_call_77 : decode cX5_call 77 = .ok (.getfield 98, 3) := by decide +kernel
theorem dX5_call_80 : decode cX5_call 80 = .ok (.iload_n 2, 1) := by decide +kernel
theorem dX5_call_81 : decode cX5_call 81 = .ok (.iastore, 1) := by decide +kernel
theorem dX5_call_82 : decode cX5_call 82 = .ok (.aload_n 0, 1) := by decide +kernel
theorem dX5_call_83 : decode cX5_call 83 = .ok (.getfield 35, 3) := by decide +kernel
theorem dX5_call_86 : decode cX5_call 86 = .ok (.aload_n 0, 1) := by decide +kernel
theorem dX5_call_87 : decode cX5_call 87 = .ok (.getfield 98, 3) := by decide +kernel
theorem dX5_call_90 : decode cX5_call 90 = .ok (.aload_n 0, 1) := by decide +kernel
theorem dX5_call_91 : decode cX5_call 91 = .ok (.getfield 105, 3) := by decide +kernel
theorem dX5_call_94 : decode cX5_call 94 = .ok (.iastore, 1) := by decide +kernel
theorem dX5_call_95 : decode cX5_call 95 = .ok (.aload_n 0, 1) := by decide +kernel
theorem dX5_call_96 : decode cX5_call 96 = .ok (.getfield 38, 3) := by decide +kernel
theorem dX5_call_99 : decode cX5_call 99 = .ok (.aload_n 0, 1) := by decide +kernel
theorem dX5_call_100 : decode cX5_call 100 = .ok (.getfield 98, 3) := by decide +kernel
theorem dX5_call_103 : decode cX5_call 103 = .ok (.iconst 1, 1) := by decide +kernel
theorem dX5_call_104 : decode cX5_call 104 = .ok (.bastore, 1) := by decide +kernel
theorem dX5_call_105 : decode cX5_call 105 = .ok (.aload_n 0, 1) := by decide +kernel
theorem dX5_call_106 : decode cX5_call 106 = .ok (.getfield 44, 3) := by decide +kernel
theorem dX5_call_109 : decode cX5_call 109 = .ok (.aload_n 0, 1) := by decide +kernel
theorem dX5_call_110 : decode cX5_call 110 = .ok (.getfield 98, 3) := by decide +kernel
theorem dX5_call_113 : decode cX5_call 113 = .ok (.iconst (-1), 1) := by decide +kernel
theorem dX5_call_114 : decode cX5_call 114 = .ok (.iastore, 1) := by decide +kernel
theorem dX5_call_115 : decode cX5_call 115 = .ok (.aload_n 0, 1) := by decide +kernel
theorem dX5_call_116 : decode cX5_call 116 = .ok (.dup, 1) := by decide +kernel
theorem dX5_call_117 : decode cX5_call 117 = .ok (.getfield 112, 3) := by decide +kernel
theorem dX5_call_120 : decode cX5_call 120 = .ok (.iconst 1, 1) := by decide +kernel
theorem dX5_call_121 : decode cX5_call 121 = .ok (.iadd, 1) := by decide +kernel
theorem dX5_call_122 : decode cX5_call 122 = .ok (.putfield 112, 3) := by decide +kernel
theorem dX5_call_125 : decode cX5_call 125 = .ok (.aload_n 0, 1) := by decide +kernel
theorem dX5_call_126 : decode cX5_call 126 = .ok (.dup, 1) := by decide +kernel
theorem dX5_call_127 : decode cX5_call 127 = .ok (.getfield 98, 3) := by decide +kernel
theorem dX5_call_130 : decode cX5_call 130 = .ok (.iconst 1, 1) := by decide +kernel
theorem dX5_call_131 : decode cX5_call 131 = .ok (.iadd, 1) := by decide +kernel
theorem dX5_call_132 : decode cX5_call 132 = .ok (.putfield 98, 3) := by decide +kernel
theorem dX5_call_135 : decode cX5_call 135 = .ok (.aload_n 0, 1) := by decide +kernel
theorem dX5_call_136 : decode cX5_call 136 = .ok (.getfield 98, 3) := by decide +kernel
theorem dX5_call_139 : decode cX5_call 139 = .ok (.iconst 1, 1) := by decide +kernel
theorem dX5_call_140 : decode cX5_call 140 = .ok (.isub, 1) := by decide +kernel
theorem dX5_call_141 : decode cX5_call 141 = .ok (.ireturn, 1) := by decide +kernel
theorem dX5_urgent_0 : decode cX5_urgent 0 = .ok (.aload_n 0, 1) := by decide +kernel
theorem dX5_urgent_1 : decode cX5_urgent 1 = .ok (.aload_n 0, 1) := by decide +kernel
theorem dX5_urgent_2 : decode cX5_urgent 2 = .ok (.iload_n 1, 1) := by decide +kernel
theorem dX5_urgent_3 : decode cX5_urgent 3 = .ok (.invokevirtual 115, 3) := by decide +kernel
theorem dX5_urgent_6 : decode cX5_urgent 6 = .ok (.ifCond .eq 7, 3) := by decide +kernel
theorem dX5_urgent_9 : decode cX5_urgent 9 = .ok (.iconst 0, 1) := by decide +kernel
theorem dX5_urgent_10 : decode cX5_urgent 10 = .ok (.goto 4, 3) := by decide +kernel
theorem dX5_urgent_13 : decode cX5_urgent 13 = .ok (.iconst 1, 1) := by decide +kernel
theorem dX5_urgent_14 : decode cX5_urgent 14 = .ok (.putfield 88, 3) := by decide +kernel
theorem dX5_urgent_17 : decode cX5_urgent 17 = .ok (.aload_n 0, 1) := by decide +kernel
theorem dX5_urgent_18 : decode cX5_urgent 18 = .ok (.getfield 88, 3) := by decide +kernel
theorem dX5_urgent_21 : decode cX5_urgent 21 = .ok (.ifCond .le 5, 3) := by decide +kernel
theorem dX5_urgent_24 : decode cX5_urgent 24 = .ok (.iconst 0, 1) := by decide +kernel
theorem dX5_urgent_25 : decode cX5_urgent 25 = .ok (.ireturn, 1) := by decide +kernel
theorem dX5_urgent_26 : decode cX5_urgent 26 = .ok (.aload_n 0, 1) := by decide +kernel
theorem dX5_urgent_27 : decode cX5_urgent 27 = .ok (.getfield 41, 3) := by decide +kernel
theorem dX5_urgent_30 : decode cX5_urgent 30 = .ok (.iload_n 1, 1) := by decide +kernel
theorem dX5_urgent_31 : decode cX5_urgent 31 = .ok (.baload, 1) := by decide +kernel
theorem dX5_urgent_32 : decode cX5_urgent 32 = .ok (.istore_n 3, 1) := by decide +kernel
theorem dX5_urgent_33 : decode cX5_urgent 33 = .ok (.aload_n 0, 1) := by decide +kernel
theorem dX5_urgent_34 : decode cX5_urgent 34 = .ok (.getfield 41, 3) := by decide +kernel
theorem dX5_urgent_37 : decode cX5_urgent 37 = .ok (.iload_n 1, 1) := by decide +kernel
theorem dX5_urgent_38 : decode cX5_urgent 38 = .ok (.iload_n 2, 1) := by decide +kernel
theorem dX5_urgent_39 : decode cX5_urgent 39 = .ok (.bastore, 1) := by decide +kernel
theorem dX5_urgent_40 : decode cX5_urgent 40 = .ok (.iload_n 3, 1) := by decide +kernel
theorem dX5_urgent_41 : decode cX5_urgent 41 = .ok (.ireturn, 1) := by decide +kernel
theorem dX5_isWithin_0 : decode cX5_isWithin 0 = .ok (.aload_n 0, 1) := by decide +kernel
theorem dX5_isWithin_1 : decode cX5_isWithin 1 = .ok (.getfield 29, 3) := by decide +kernel
theorem dX5_isWithin_4 : decode cX5_isWithin 4 = .ok (.iload_n 2, 1) := by decide +kernel
theorem dX5_isWithin_5 : decode cX5_isWithin 5 = .ok (.iaload, 1) := by decide +kernel
theorem dX5_isWithin_6 : decode cX5_isWithin 6 = .ok (.aload_n 0, 1) := by decide +kernel
theorem dX5_isWithin_7 : decode cX5_isWithin 7 = .ok (.getfield 19, 3) := by decide +kernel
theorem dX5_isWithin_10 : decode cX5_isWithin 10 = .ok (.iload_n 1, 1) := by decide +kernel
theorem dX5_isWithin_11 : decode cX5_isWithin 11 = .ok (.iaload, 1) := by decide +kernel
theorem dX5_isWithin_12 : decode cX5_isWithin 12 = .ok (.aload_n 0, 1) := by decide +kernel
theorem dX5_isWithin_13 : decode cX5_isWithin 13 = .ok (.getfield 22, 3) := by decide +kernel
theorem dX5_isWithin_16 : decode cX5_isWithin 16 = .ok (.iload_n 1, 1) := by decide +kernel
theorem dX5_isWithin_17 : decode cX5_isWithin 17 = .ok (.iaload, 1) := by decide +kernel
theorem dX5_isWithin_18 : decode cX5_isWithin 18 = .ok (.invokestatic 91, 3) := by decide +kernel
theorem dX5_isWithin_21 : decode cX5_isWithin 21 = .ok (.ifCond .eq 31, 3) := by decide +kernel
theorem dX5_isWithin_24 : decode cX5_isWithin 24 = .ok (.aload_n 0, 1) := by decide +kernel
theorem dX5_isWithin_25 : decode cX5_isWithin 25 = .ok (.getfield 32, 3) := by decide +kernel
theorem dX5_isWithin_28 : decode cX5_isWithin 28 = .ok (.iload_n 2, 1) := by decide +kernel
theorem dX5_isWithin_29 : decode cX5_isWithin 29 = .ok (.iaload, 1) := by decide +kernel
theorem dX5_isWithin_30 : decode cX5_isWithin 30 = .ok (.aload_n 0, 1) := by decide +kernel
theorem dX5_isWithin_31 : decode cX5_isWithin 31 = .ok (.getfield 19, 3) := by decide +kernel
theorem dX5_isWithin_34 : decode cX5_isWithin 34 = .ok (.iload_n 1, 1) := by decide +kernel
theorem dX5_isWithin_35 : decode cX5_isWithin 35 = .ok (.iaload, 1) := by decide +kernel
theorem dX5_isWithin_36 : decode cX5_isWithin 36 = .ok (.aload_n 0, 1) := by decide +kernel
theorem dX5_isWithin_37 : decode cX5_isWithin 37 = .ok (.getfield 22, 3) := by decide +kernel
theorem dX5_isWithin_40 : decode cX5_isWithin 40 = .ok (.iload_n 1, 1) := by decide +kernel
theorem dX5_isWithin_41 : decode cX5_isWithin 41 = .ok (.iaload, 1) := by decide +kernel
theorem dX5_isWithin_42 : decode cX5_isWithin 42 = .ok (.invokestatic 91, 3) := by decide +kernel
theorem dX5_isWithin_45 : decode cX5_isWithin 45 = .ok (.ifCond .eq 7, 3) := by decide +kernel
theorem dX5_isWithin_48 : decode cX5_isWithin 48 = .ok (.iconst 1, 1) := by decide +kernel
theorem dX5_isWithin_49 : decode cX5_isWithin 49 = .ok (.goto 4, 3) := by decide +kernel
theorem dX5_isWithin_52 : decode cX5_isWithin 52 = .ok (.iconst 0, 1) := by decide +kernel
theorem dX5_isWithin_53 : decode cX5_isWithin 53 = .ok (.ireturn, 1) := by decide +kernel
theorem dX5_begin_0 : decode cX5_begin 0 = .ok (.aload_n 0, 1) := by decide +kernel
theorem dX5_begin_1 : decode cX5_begin 1 = .ok (.aload_n 0, 1) := by decide +kernel
theorem dX5_begin_2 : decode cX5_begin 2 = .ok (.iload_n 1, 1) := by decide +kernel
theorem dX5_begin_3 : decode cX5_begin 3 = .ok (.invokevirtual 115, 3) := by decide +kernel
theorem dX5_begin_6 : decode cX5_begin 6 = .ok (.ifCond .eq 16, 3) := by decide +kernel
theorem dX5_begin_9 : decode cX5_begin 9 = .ok (.iload_n 2, 1) := by decide +kernel
theorem dX5_begin_10 : decode cX5_begin 10 = .ok (.iconst (-1), 1) := by decide +kernel
theorem dX5_begin_11 : decode cX5_begin 11 = .ok (.if_icmp .eq 15, 3) := by decide +kernel
theorem dX5_begin_14 : decode cX5_begin 14 = .ok (.aload_n 0, 1) := by decide +kernel
theorem dX5_begin_15 : decode cX5_begin 15 = .ok (.iload_n 2, 1) := by decide +kernel
theorem dX5_begin_16 : decode cX5_begin 16 = .ok (.invokevirtual 108, 3) := by decide +kernel
theorem dX5_begin_19 : decode cX5_begin 19 = .ok (.ifCond .ne 7, 3) := by decide +kernel
theorem dX5_begin_22 : decode cX5_begin 22 = .ok (.iconst 1, 1) := by decide +kernel
theorem dX5_begin_23 : decode cX5_begin 23 = .ok (.goto 4, 3) := by decide +kernel
theorem dX5_begin_26 : decode cX5_begin 26 = .ok (.iconst 0, 1) := by decide +kernel
theorem dX5_begin_27 : decode cX5_begin 27 = .ok (.putfield 88, 3) := by decide +kernel
theorem dX5_begin_30 : decode cX5_begin 30 = .ok (.aload_n 0, 1) := by decide +kernel
theorem dX5_begin_31 : decode cX5_begin 31 = .ok (.getfield 88, 3) := by decide +kernel
theorem dX5_begin_34 : decode cX5_begin 34 = .ok (.ifCond .le 5, 3) := by decide +kernel
theorem dX5_begin_37 : decode cX5_begin 37 = .ok (.iconst 0, 1) := by decide +kernel
theorem dX5_begin_38 : decode cX5_begin 38 = .ok (.ireturn, 1) := by decide +kernel
theorem dX5_begin_39 : decode cX5_begin 39 = .ok (.iload_n 2, 1) := by decide +kernel
theorem dX5_begin_40 : decode cX5_begin 40 = .ok (.iconst (-1), 1) := by decide +kernel
theorem dX5_begin_41 : decode cX5_begin 41 = .ok (.if_icmp .eq 75, 3) := by decide +kernel
theorem dX5_begin_44 : decode cX5_begin 44 = .ok (.iconst 0, 1) := by decide +kernel
theorem dX5_begin_45 : decode cX5_begin 45 = .ok (.istore_n 3, 1) := by decide +kernel
theorem dX5_begin_46 : decode cX5_begin 46 = .ok (.iconst 0, 1) := by decide +kernel
theorem dX5_begin_47 : decode cX5_begin 47 = .ok (.istore 4, 2) := by decide +kernel
theorem dX5_begin_49 : decode cX5_begin 49 = .ok (.iload 4, 2) := by decide +kernel
theorem dX5_begin_51 : decode cX5_begin 51 = .ok (.aload_n 0, 1) := by decide +kernel
theorem dX5_begin_52 : decode cX5_begin 52 = .ok (.getfield 98, 3) := by decide +kernel
theorem dX5_begin_55 : decode cX5_begin 55 = .ok (.if_icmp .ge 46, 3) := by decide +kernel
theorem dX5_begin_58 : decode cX5_begin 58 = .ok (.iload_n 3, 1) := by decide +kernel
theorem dX5_begin_59 : decode cX5_begin 59 = .ok (.ifCond .ne 30, 3) := by decide +kernel
theorem dX5_begin_62 : decode cX5_begin 62 = .ok (.iload 4, 2) := by decide +kernel
theorem dX5_begin_64 : decode cX5_begin 64 = .ok (.iload_n 1, 1) := by decide +kernel
theorem dX5_begin_65 : decode cX5_begin 65 = .ok (.if_icmp .eq 28, 3) := by decide +kernel
theorem dX5_begin_68 : decode cX5_begin 68 = .ok (.aload_n 0, 1) := by decide +kernel
theorem dX5_begin_69 : decode cX5_begin 69 = .ok (.getfield 38, 3) := by decide +kernel
theorem dX5_begin_72 : decode cX5_begin 72 = .ok (.iload 4, 2) := by decide +kernel
theorem dX5_begin_74 : decode cX5_begin 74 = .ok (.baload, 1) := by decide +kernel
theorem dX5_begin_75 : decode cX5_begin 75 = .ok (.ifCond .eq 18, 3) := by decide +kernel
theorem dX5_begin_78 : decode cX5_begin 78 = .ok (.aload_n 0, 1) := by decide +kernel
theorem dX5_begin_79 : decode cX5_begin 79 = .ok (.getfield 44, 3) := by decide +kernel
theorem dX5_begin_82 : decode cX5_begin 82 = .ok (.iload 4, 2) := by decide +kernel
theorem dX5_begin_84 : decode cX5_begin 84 = .ok (.iaload, 1) := by decide +kernel
theorem dX5_begin_85 : decode cX5_begin 85 = .ok (.iload_n 2, 1) := by decide +kernel
theorem dX5_begin_86 : decode cX5_begin 86 = .ok (.if_icmp .ne 7, 3) := by decide +kernel
theorem dX5_begin_89 : decode cX5_begin 89 = .ok (.iconst 1, 1) := by decide +kernel
theorem dX5_begin_90 : decode cX5_begin 90 = .ok (.goto 4, 3) := by decide +kernel
theorem dX5_begin_93 : decode cX5_begin 93 = .ok (.iconst 0, 1) := by decide +kernel
theorem dX5_begin_94 : decode cX5_begin 94 = .ok (.istore_n 3, 1) := by decide +kernel
theorem dX5_begin_95 : decode cX5_begin 95 = .ok (.iinc 4 1, 3) := by decide +kernel
theorem dX5_begin_98 : decode cX5_begin 98 = .ok (.goto (-49), 3) := by decide +kernel
theorem dX5_begin_101 : decode cX5_begin 101 = .ok (.iload_n 3, 1) := by decide +kernel
theorem dX5_begin_102 : decode cX5_begin 102 = .ok (.ifCond .ne 12, 3) := by decide +kernel
theorem dX5_begin_105 : decode cX5_begin 105 = .ok (.aload_n 0, 1) := by decide +kernel
theorem dX5_begin_106 : decode cX5_begin 106 = .ok (.iload_n 2, 1) := by decide +kernel
theorem dX5_begin_107 : decode cX5_begin 107 = .ok (.iload_n 1, 1) := by decide +kernel
theorem dX5_begin_108 : decode cX5_begin 108 = .ok (.invokevirtual 118, 3) := by decide +kernel
theorem dX5_begin_111 : decode cX5_begin 111 = .ok (.ifCond .ne 5, 3) := by decide +kernel
theorem dX5_begin_114 : decode cX5_begin 114 = .ok (.iconst 0, 1) := by decide +kernel
theorem dX5_begin_115 : decode cX5_begin 115 = .ok (.ireturn, 1) := by decide +kernel
theorem dX5_begin_116 : decode cX5_begin 116 = .ok (.aload_n 0, 1) := by decide +kernel
theorem dX5_begin_117 : decode cX5_begin 117 = .ok (.getfield 44, 3) := by decide +kernel
theorem dX5_begin_120 : decode cX5_begin 120 = .ok (.iload_n 1, 1) := by decide +kernel
theorem dX5_begin_121 : decode cX5_begin 121 = .ok (.iload_n 2, 1) := by decide +kernel
theorem dX5_begin_122 : decode cX5_begin 122 = .ok (.iastore, 1) := by decide +kernel
theorem dX5_begin_123 : decode cX5_begin 123 = .ok (.iconst 1, 1) := by decide +kernel
theorem dX5_begin_124 : decode cX5_begin 124 = .ok (.ireturn, 1) := by decide +kernel
theorem dX5_done_0 : decode cX5_done 0 = .ok (.aload_n 0, 1) := by decide +kernel
theorem dX5_done_1 : decode cX5_done 1 = .ok (.aload_n 0, 1) := by decide +kernel
theorem dX5_done_2 : decode cX5_done 2 = .ok (.iload_n 1, 1) := by decide +kernel
theorem dX5_done_3 : decode cX5_done 3 = .ok (.invokevirtual 115, 3) := by decide +kernel
theorem dX5_done_6 : decode cX5_done 6 = .ok (.ifCond .eq 7, 3) := by decide +kernel
theorem dX5_done_9 : decode cX5_done 9 = .ok (.iconst 0, 1) := by decide +kernel
theorem dX5_done_10 : decode cX5_done 10 = .ok (.goto 4, 3) := by decide +kernel
theorem dX5_done_13 : decode cX5_done 13 = .ok (.iconst 1, 1) := by decide +kernel
theorem dX5_done_14 : decode cX5_done 14 = .ok (.putfield 88, 3) := by decide +kernel
theorem dX5_done_17 : decode cX5_done 17 = .ok (.aload_n 0, 1) := by decide +kernel
theorem dX5_done_18 : decode cX5_done 18 = .ok (.getfield 88, 3) := by decide +kernel
theorem dX5_done_21 : decode cX5_done 21 = .ok (.ifCond .ne 20, 3) := by decide +kernel
theorem dX5_done_24 : decode cX5_done 24 = .ok (.aload_n 0, 1) := by decide +kernel
theorem dX5_done_25 : decode cX5_done 25 = .ok (.getfield 38, 3) := by decide +kernel
theorem dX5_done_28 : decode cX5_done 28 = .ok (.iload_n 1, 1) := by decide +kernel
theorem dX5_done_29 : decode cX5_done 29 = .ok (.iconst 0, 1) := by decide +kernel
theorem dX5_done_30 : decode cX5_done 30 = .ok (.bastore, 1) := by decide +kernel
theorem dX5_done_31 : decode cX5_done 31 = .ok (.aload_n 0, 1) := by decide +kernel
theorem dX5_done_32 : decode cX5_done 32 = .ok (.dup, 1) := by decide +kernel
theorem dX5_done_33 : decode cX5_done 33 = .ok (.getfield 112, 3) := by decide +kernel
theorem dX5_done_36 : decode cX5_done 36 = .ok (.iconst 1, 1) := by decide +kernel
theorem dX5_done_37 : decode cX5_done 37 = .ok (.isub, 1) := by decide +kernel
theorem dX5_done_38 : decode cX5_done 38 = .ok (.putfield 112, 3) := by decide +kernel
theorem dX5_done_41 : decode cX5_done 41 = .ok (.return_, 1) := by decide +kernel
theorem dX5_pass_0 : decode cX5_pass 0 = .ok (.aload_n 0, 1) := by decide +kernel
theorem dX5_pass_1 : decode cX5_pass 1 = .ok (.iload_n 1, 1) := by decide +kernel
theorem dX5_pass_2 : decode cX5_pass 2 = .ok (.iconst 1, 1) := by decide +kernel
theorem dX5_pass_3 : decode cX5_pass 3 = .ok (.sipush 1000, 3) := by decide +kernel
theorem dX5_pass_6 : decode cX5_pass 6 = .ok (.invokestatic 91, 3) := by decide +kernel
theorem dX5_pass_9 : decode cX5_pass 9 = .ok (.ifCond .eq 14, 3) := by decide +kernel
theorem dX5_pass_12 : decode cX5_pass 12 = .ok (.aload_n 0, 1) := by decide +kernel
theorem dX5_pass_13 : decode cX5_pass 13 = .ok (.getfield 105, 3) := by decide +kernel
theorem dX5_pass_16 : decode cX5_pass 16 = .ok (.iload_n 1, 1) := by decide +kernel
theorem dX5_pass_17 : decode cX5_pass 17 = .ok (.iadd, 1) := by decide +kernel
theorem dX5_pass_18 : decode cX5_pass 18 = .ok (.ldc 111, 2) := by decide +kernel
theorem dX5_pass_20 : decode cX5_pass 20 = .ok (.if_icmp .le 7, 3) := by decide +kernel
theorem dX5_pass_23 : decode cX5_pass 23 = .ok (.iconst 1, 1) := by decide +kernel
theorem dX5_pass_24 : decode cX5_pass 24 = .ok (.goto 4, 3) := by decide +kernel
theorem dX5_pass_27 : decode cX5_pass 27 = .ok (.iconst 0, 1) := by decide +kernel
theorem dX5_pass_28 : decode cX5_pass 28 = .ok (.putfield 88, 3) := by decide +kernel
theorem dX5_pass_31 : decode cX5_pass 31 = .ok (.aload_n 0, 1) := by decide +kernel
theorem dX5_pass_32 : decode cX5_pass 32 = .ok (.getfield 88, 3) := by decide +kernel
theorem dX5_pass_35 : decode cX5_pass 35 = .ok (.ifCond .le 5, 3) := by decide +kernel
theorem dX5_pass_38 : decode cX5_pass 38 = .ok (.iconst 0, 1) := by decide +kernel
theorem dX5_pass_39 : decode cX5_pass 39 = .ok (.ireturn, 1) := by decide +kernel
theorem dX5_pass_40 : decode cX5_pass 40 = .ok (.aload_n 0, 1) := by decide +kernel
theorem dX5_pass_41 : decode cX5_pass 41 = .ok (.dup, 1) := by decide +kernel
theorem dX5_pass_42 : decode cX5_pass 42 = .ok (.getfield 105, 3) := by decide +kernel
theorem dX5_pass_45 : decode cX5_pass 45 = .ok (.iload_n 1, 1) := by decide +kernel
theorem dX5_pass_46 : decode cX5_pass 46 = .ok (.iadd, 1) := by decide +kernel
theorem dX5_pass_47 : decode cX5_pass 47 = .ok (.putfield 105, 3) := by decide +kernel
theorem dX5_pass_50 : decode cX5_pass 50 = .ok (.aload_n 0, 1) := by decide +kernel
theorem dX5_pass_51 : decode cX5_pass 51 = .ok (.getfield 105, 3) := by decide +kernel
theorem dX5_pass_54 : decode cX5_pass 54 = .ok (.ireturn, 1) := by decide +kernel
theorem dX5_weightOf_0 : decode cX5_weightOf 0 = .ok (.iconst 1, 1) := by decide +kernel
theorem dX5_weightOf_1 : decode cX5_weightOf 1 = .ok (.aload_n 0, 1) := by decide +kernel
theorem dX5_weightOf_2 : decode cX5_weightOf 2 = .ok (.getfield 105, 3) := by decide +kernel
theorem dX5_weightOf_5 : decode cX5_weightOf 5 = .ok (.aload_n 0, 1) := by decide +kernel
theorem dX5_weightOf_6 : decode cX5_weightOf 6 = .ok (.getfield 35, 3) := by decide +kernel
theorem dX5_weightOf_9 : decode cX5_weightOf 9 = .ok (.iload_n 1, 1) := by decide +kernel
theorem dX5_weightOf_10 : decode cX5_weightOf 10 = .ok (.iaload, 1) := by decide +kernel
theorem dX5_weightOf_11 : decode cX5_weightOf 11 = .ok (.isub, 1) := by decide +kernel
theorem dX5_weightOf_12 : decode cX5_weightOf 12 = .ok (.bipush 30, 2) := by decide +kernel
theorem dX5_weightOf_14 : decode cX5_weightOf 14 = .ok (.idiv, 1) := by decide +kernel
theorem dX5_weightOf_15 : decode cX5_weightOf 15 = .ok (.iadd, 1) := by decide +kernel
theorem dX5_weightOf_16 : decode cX5_weightOf 16 = .ok (.aload_n 0, 1) := by decide +kernel
theorem dX5_weightOf_17 : decode cX5_weightOf 17 = .ok (.getfield 41, 3) := by decide +kernel
theorem dX5_weightOf_20 : decode cX5_weightOf 20 = .ok (.iload_n 1, 1) := by decide +kernel
theorem dX5_weightOf_21 : decode cX5_weightOf 21 = .ok (.baload, 1) := by decide +kernel
theorem dX5_weightOf_22 : decode cX5_weightOf 22 = .ok (.ifCond .eq 7, 3) := by decide +kernel
theorem dX5_weightOf_25 : decode cX5_weightOf 25 = .ok (.iconst 4, 1) := by decide +kernel
theorem dX5_weightOf_26 : decode cX5_weightOf 26 = .ok (.goto 4, 3) := by decide +kernel
theorem dX5_weightOf_29 : decode cX5_weightOf 29 = .ok (.iconst 1, 1) := by decide +kernel
theorem dX5_weightOf_30 : decode cX5_weightOf 30 = .ok (.imul, 1) := by decide +kernel
theorem dX5_weightOf_31 : decode cX5_weightOf 31 = .ok (.ireturn, 1) := by decide +kernel
theorem dX5_carsOf_0 : decode cX5_carsOf 0 = .ok (.iconst 0, 1) := by decide +kernel
theorem dX5_carsOf_1 : decode cX5_carsOf 1 = .ok (.istore_n 2, 1) := by decide +kernel
theorem dX5_carsOf_2 : decode cX5_carsOf 2 = .ok (.iconst 0, 1) := by decide +kernel
theorem dX5_carsOf_3 : decode cX5_carsOf 3 = .ok (.istore_n 3, 1) := by decide +kernel
theorem dX5_carsOf_4 : decode cX5_carsOf 4 = .ok (.iconst 0, 1) := by decide +kernel
theorem dX5_carsOf_5 : decode cX5_carsOf 5 = .ok (.istore 4, 2) := by decide +kernel
theorem dX5_carsOf_7 : decode cX5_carsOf 7 = .ok (.iload 4, 2) := by decide +kernel
theorem dX5_carsOf_9 : decode cX5_carsOf 9 = .ok (.aload_n 0, 1) := by decide +kernel
theorem dX5_carsOf_10 : decode cX5_carsOf 10 = .ok (.getfield 95, 3) := by decide +kernel
theorem dX5_carsOf_13 : decode cX5_carsOf 13 = .ok (.if_icmp .ge 82, 3) := by decide +kernel
theorem dX5_carsOf_16 : decode cX5_carsOf 16 = .ok (.aload_n 0, 1) := by decide +kernel
theorem dX5_carsOf_17 : decode cX5_carsOf 17 = .ok (.iload 4, 2) := by decide +kernel
theorem dX5_carsOf_19 : decode cX5_carsOf 19 = .ok (.iload_n 1, 1) := by decide +kernel
theorem dX5_carsOf_20 : decode cX5_carsOf 20 = .ok (.invokevirtual 118, 3) := by decide +kernel
theorem dX5_carsOf_23 : decode cX5_carsOf 23 = .ok (.ifCond .eq 66, 3) := by decide +kernel
theorem dX5_carsOf_26 : decode cX5_carsOf 26 = .ok (.aload_n 0, 1) := by decide +kernel
theorem dX5_carsOf_27 : decode cX5_carsOf 27 = .ok (.getfield 44, 3) := by decide +kernel
theorem dX5_carsOf_30 : decode cX5_carsOf 30 = .ok (.iload_n 1, 1) := by decide +kernel
theorem dX5_carsOf_31 : decode cX5_carsOf 31 = .ok (.iaload, 1) := by decide +kernel
theorem dX5_carsOf_32 : decode cX5_carsOf 32 = .ok (.iconst (-1), 1) := by decide +kernel
theorem dX5_carsOf_33 : decode cX5_carsOf 33 = .ok (.if_icmp .eq 14, 3) := by decide +kernel
theorem dX5_carsOf_36 : decode cX5_carsOf 36 = .ok (.aload_n 0, 1) := by decide +kernel
theorem dX5_carsOf_37 : decode cX5_carsOf 37 = .ok (.getfield 44, 3) := by decide +kernel
theorem dX5_carsOf_40 : decode cX5_carsOf 40 = .ok (.iload_n 1, 1) := by decide +kernel
theorem dX5_carsOf_41 : decode cX5_carsOf 41 = .ok (.iaload, 1) := by decide +kernel
theorem dX5_carsOf_42 : decode cX5_carsOf 42 = .ok (.iload 4, 2) := by decide +kernel
theorem dX5_carsOf_44 : decode cX5_carsOf 44 = .ok (.if_icmp .ne 45, 3) := by decide +kernel
theorem dX5_carsOf_47 : decode cX5_carsOf 47 = .ok (.iload_n 2, 1) := by decide +kernel
theorem dX5_carsOf_48 : decode cX5_carsOf 48 = .ok (.aload_n 0, 1) := by decide +kernel
theorem dX5_carsOf_49 : decode cX5_carsOf 49 = .ok (.getfield 25, 3) := by decide +kernel
theorem dX5_carsOf_52 : decode cX5_carsOf 52 = .ok (.iload 4, 2) := by decide +kernel
theorem dX5_carsOf_54 : decode cX5_carsOf 54 = .ok (.baload, 1) := by decide +kernel
theorem dX5_carsOf_55 : decode cX5_carsOf 55 = .ok (.ifCond .eq 7, 3) := by decide +kernel
theorem dX5_carsOf_58 : decode cX5_carsOf 58 = .ok (.iconst 0, 1) := by decide +kernel
theorem dX5_carsOf_59 : decode cX5_carsOf 59 = .ok (.goto 7, 3) := by decide +kernel
theorem dX5_carsOf_62 : decode cX5_carsOf 62 = .ok (.iconst 1, 1) := by decide +kernel
theorem dX5_carsOf_63 : decode cX5_carsOf 63 = .ok (.iload 4, 2) := by decide +kernel
theorem dX5_carsOf_65 : decode cX5_carsOf 65 = .ok (.ishl, 1) := by decide +kernel
theorem dX5_carsOf_66 : decode cX5_carsOf 66 = .ok (.ior, 1) := by decide +kernel
theorem dX5_carsOf_67 : decode cX5_carsOf 67 = .ok (.istore_n 2, 1) := by decide +kernel
theorem dX5_carsOf_68 : decode cX5_carsOf 68 = .ok (.iload_n 3, 1) := by decide +kernel
theorem dX5_carsOf_69 : decode cX5_carsOf 69 = .ok (.aload_n 0, 1) := by decide +kernel
theorem dX5_carsOf_70 : decode cX5_carsOf 70 = .ok (.getfield 25, 3) := by decide +kernel
theorem dX5_carsOf_73 : decode cX5_carsOf 73 = .ok (.iload 4, 2) := by decide +kernel
theorem dX5_carsOf_75 : decode cX5_carsOf 75 = .ok (.baload, 1) := by decide +kernel
theorem dX5_carsOf_76 : decode cX5_carsOf 76 = .ok (.ifCond .eq 10, 3) := by decide +kernel
theorem dX5_carsOf_79 : decode cX5_carsOf 79 = .ok (.iconst 1, 1) := by decide +kernel
theorem dX5_carsOf_80 : decode cX5_carsOf 80 = .ok (.iload 4, 2) := by decide +kernel
theorem dX5_carsOf_82 : decode cX5_carsOf 82 = .ok (.ishl, 1) := by decide +kernel
theorem dX5_carsOf_83 : decode cX5_carsOf 83 = .ok (.goto 4, 3) := by decide +kernel
theorem dX5_carsOf_86 : decode cX5_carsOf 86 = .ok (.iconst 0, 1) := by decide +kernel
theorem dX5_carsOf_87 : decode cX5_carsOf 87 = .ok (.ior, 1) := by decide +kernel
theorem dX5_carsOf_88 : decode cX5_carsOf 88 = .ok (.istore_n 3, 1) := by decide +kernel
theorem dX5_carsOf_89 : decode cX5_carsOf 89 = .ok (.iinc 4 1, 3) := by decide +kernel
theorem dX5_carsOf_92 : decode cX5_carsOf 92 = .ok (.goto (-85), 3) := by decide +kernel
theorem dX5_carsOf_95 : decode cX5_carsOf 95 = .ok (.iload_n 2, 1) := by decide +kernel
theorem dX5_carsOf_96 : decode cX5_carsOf 96 = .ok (.ifCond .eq 7, 3) := by decide +kernel
theorem dX5_carsOf_99 : decode cX5_carsOf 99 = .ok (.iload_n 2, 1) := by decide +kernel
theorem dX5_carsOf_100 : decode cX5_carsOf 100 = .ok (.goto 4, 3) := by decide +kernel
theorem dX5_carsOf_103 : decode cX5_carsOf 103 = .ok (.iload_n 3, 1) := by decide +kernel
theorem dX5_carsOf_104 : decode cX5_carsOf 104 = .ok (.ireturn, 1) := by decide +kernel
theorem dX5_way_0 : decode cX5_way 0 = .ok (.iload_n 0, 1) := by decide +kernel
theorem dX5_way_1 : decode cX5_way 1 = .ok (.iload_n 1, 1) := by decide +kernel
theorem dX5_way_2 : decode cX5_way 2 = .ok (.if_icmp .ge 9, 3) := by decide +kernel
theorem dX5_way_5 : decode cX5_way 5 = .ok (.iload_n 1, 1) := by decide +kernel
theorem dX5_way_6 : decode cX5_way 6 = .ok (.iload_n 0, 1) := by decide +kernel
theorem dX5_way_7 : decode cX5_way 7 = .ok (.isub, 1) := by decide +kernel
theorem dX5_way_8 : decode cX5_way 8 = .ok (.goto 6, 3) := by decide +kernel
theorem dX5_way_11 : decode cX5_way 11 = .ok (.iload_n 0, 1) := by decide +kernel
theorem dX5_way_12 : decode cX5_way 12 = .ok (.iload_n 1, 1) := by decide +kernel
theorem dX5_way_13 : decode cX5_way 13 = .ok (.isub, 1) := by decide +kernel
theorem dX5_way_14 : decode cX5_way 14 = .ok (.ireturn, 1) := by decide +kernel
theorem dX5_sumOf_0 : decode cX5_sumOf 0 = .ok (.aload_n 0, 1) := by decide +kernel
theorem dX5_sumOf_1 : decode cX5_sumOf 1 = .ok (.getfield 16, 3) := by decide +kernel
theorem dX5_sumOf_4 : decode cX5_sumOf 4 = .ok (.iload_n 1, 1) := by decide +kernel
theorem dX5_sumOf_5 : decode cX5_sumOf 5 = .ok (.iaload, 1) := by decide +kernel
theorem dX5_sumOf_6 : decode cX5_sumOf 6 = .ok (.aload_n 0, 1) := by decide +kernel
theorem dX5_sumOf_7 : decode cX5_sumOf 7 = .ok (.getfield 105, 3) := by decide +kernel
theorem dX5_sumOf_10 : decode cX5_sumOf 10 = .ok (.if_icmp .le 12, 3) := by decide +kernel
theorem dX5_sumOf_13 : decode cX5_sumOf 13 = .ok (.aload_n 0, 1) := by decide +kernel
theorem dX5_sumOf_14 : decode cX5_sumOf 14 = .ok (.getfield 16, 3) := by decide +kernel
theorem dX5_sumOf_17 : decode cX5_sumOf 17 = .ok (.iload_n 1, 1) := by decide +kernel
theorem dX5_sumOf_18 : decode cX5_sumOf 18 = .ok (.iaload, 1) := by decide +kernel
theorem dX5_sumOf_19 : decode cX5_sumOf 19 = .ok (.goto 7, 3) := by decide +kernel
theorem dX5_sumOf_22 : decode cX5_sumOf 22 = .ok (.aload_n 0, 1) := by decide +kernel
theorem dX5_sumOf_23 : decode cX5_sumOf 23 = .ok (.getfield 105, 3) := by decide +kernel
theorem dX5_sumOf_26 : decode cX5_sumOf 26 = .ok (.istore 4, 2) := by decide +kernel
theorem dX5_sumOf_28 : decode cX5_sumOf 28 = .ok (.aload_n 0, 1) := by decide +kernel
theorem dX5_sumOf_29 : decode cX5_sumOf 29 = .ok (.getfield 13, 3) := by decide +kernel
theorem dX5_sumOf_32 : decode cX5_sumOf 32 = .ok (.iload_n 1, 1) := by decide +kernel
theorem dX5_sumOf_33 : decode cX5_sumOf 33 = .ok (.iaload, 1) := by decide +kernel
theorem dX5_sumOf_34 : decode cX5_sumOf 34 = .ok (.istore 5, 2) := by decide +kernel
theorem dX5_sumOf_36 : decode cX5_sumOf 36 = .ok (.lconst 0, 1) := by decide +kernel
theorem dX5_sumOf_37 : decode cX5_sumOf 37 = .ok (.lstore 6, 2) := by decide +kernel
theorem dX5_sumOf_39 : decode cX5_sumOf 39 = .ok (.iconst 0, 1) := by decide +kernel
theorem dX5_sumOf_40 : decode cX5_sumOf 40 = .ok (.istore 8, 2) := by decide +kernel
theorem dX5_sumOf_42 : decode cX5_sumOf 42 = .ok (.iload 8, 2) := by decide +kernel
theorem dX5_sumOf_44 : decode cX5_sumOf 44 = .ok (.iload_n 2, 1) := by decide +kernel
theorem dX5_sumOf_45 : decode cX5_sumOf 45 = .ok (.if_icmp .ge 185, 3) := by decide +kernel
theorem dX5_sumOf_48 : decode cX5_sumOf 48 = .ok (.aload_n 0, 1) := by decide +kernel
theorem dX5_sumOf_49 : decode cX5_sumOf 49 = .ok (.getfield 65, 3) := by decide +kernel
theorem dX5_sumOf_52 : decode cX5_sumOf 52 = .ok (.aload_n 0, 1) := by decide +kernel
theorem dX5_sumOf_53 : decode cX5_sumOf 53 = .ok (.getfield 78, 3) := by decide +kernel
theorem dX5_sumOf_56 : decode cX5_sumOf 56 = .ok (.iload 8, 2) := by decide +kernel
theorem dX5_sumOf_58 : decode cX5_sumOf 58 = .ok (.iaload, 1) := by decide +kernel
theorem dX5_sumOf_59 : decode cX5_sumOf 59 = .ok (.iaload, 1) := by decide +kernel
theorem dX5_sumOf_60 : decode cX5_sumOf 60 = .ok (.istore 9, 2) := by decide +kernel
theorem dX5_sumOf_62 : decode cX5_sumOf 62 = .ok (.iload 4, 2) := by decide +kernel
theorem dX5_sumOf_64 : decode cX5_sumOf 64 = .ok (.iload 5, 2) := by decide +kernel
theorem dX5_sumOf_66 : decode cX5_sumOf 66 = .ok (.aload_n 0, 1) := by decide +kernel
theorem dX5_sumOf_67 : decode cX5_sumOf 67 = .ok (.getfield 29, 3) := by decide +kernel
theorem dX5_sumOf_70 : decode cX5_sumOf 70 = .ok (.iload 9, 2) := by decide +kernel
theorem dX5_sumOf_72 : decode cX5_sumOf 72 = .ok (.iaload, 1) := by decide +kernel
theorem dX5_sumOf_73 : decode cX5_sumOf 73 = .ok (.invokestatic 122, 3) := by decide +kernel
theorem dX5_sumOf_76 : decode cX5_sumOf 76 = .ok (.aload_n 0, 1) := by decide +kernel
theorem dX5_sumOf_77 : decode cX5_sumOf 77 = .ok (.getfield 7, 3) := by decide +kernel
theorem dX5_sumOf_80 : decode cX5_sumOf 80 = .ok (.iload_n 1, 1) := by decide +kernel
theorem dX5_sumOf_81 : decode cX5_sumOf 81 = .ok (.iaload, 1) := by decide +kernel
theorem dX5_sumOf_82 : decode cX5_sumOf 82 = .ok (.imul, 1) := by decide +kernel
theorem dX5_sumOf_83 : decode cX5_sumOf 83 = .ok (.iadd, 1) := by decide +kernel
theorem dX5_sumOf_84 : decode cX5_sumOf 84 = .ok (.istore 4, 2) := by decide +kernel
theorem dX5_sumOf_86 : decode cX5_sumOf 86 = .ok (.iload 4, 2) := by decide +kernel
theorem dX5_sumOf_88 : decode cX5_sumOf 88 = .ok (.aload_n 0, 1) := by decide +kernel
theorem dX5_sumOf_89 : decode cX5_sumOf 89 = .ok (.getfield 105, 3) := by decide +kernel
theorem dX5_sumOf_92 : decode cX5_sumOf 92 = .ok (.isub, 1) := by decide +kernel
theorem dX5_sumOf_93 : decode cX5_sumOf 93 = .ok (.istore 10, 2) := by decide +kernel
theorem dX5_sumOf_95 : decode cX5_sumOf 95 = .ok (.iload 4, 2) := by decide +kernel
theorem dX5_sumOf_97 : decode cX5_sumOf 97 = .ok (.iconst 3, 1) := by decide +kernel
theorem dX5_sumOf_98 : decode cX5_sumOf 98 = .ok (.aload_n 0, 1) := by decide +kernel
theorem dX5_sumOf_99 : decode cX5_sumOf 99 = .ok (.getfield 29, 3) := by decide +kernel
theorem dX5_sumOf_102 : decode cX5_sumOf 102 = .ok (.iload 9, 2) := by decide +kernel
theorem dX5_sumOf_104 : decode cX5_sumOf 104 = .ok (.iaload, 1) := by decide +kernel
theorem dX5_sumOf_105 : decode cX5_sumOf 105 = .ok (.aload_n 0, 1) := by decide +kernel
theorem dX5_sumOf_106 : decode cX5_sumOf 106 = .ok (.getfield 32, 3) := by decide +kernel
theorem dX5_sumOf_109 : decode cX5_sumOf 109 = .ok (.iload 9, 2) := by decide +kernel
theorem dX5_sumOf_111 : decode cX5_sumOf 111 = .ok (.iaload, 1) := by decide +kernel
theorem dX5_sumOf_112 : decode cX5_sumOf 112 = .ok (.invokestatic 122, 3) := by decide +kernel
theorem dX5_sumOf_115 : decode cX5_sumOf 115 = .ok (.aload_n 0, 1) := by decide +kernel
theorem dX5_sumOf_116 : decode cX5_sumOf 116 = .ok (.getfield 7, 3) := by decide +kernel
theorem dX5_sumOf_119 : decode cX5_sumOf 119 = .ok (.iload_n 1, 1) := by decide +kernel
theorem dX5_sumOf_120 : decode cX5_sumOf 120 = .ok (.iaload, 1) := by decide +kernel
theorem dX5_sumOf_121 : decode cX5_sumOf 121 = .ok (.imul, 1) := by decide +kernel
theorem dX5_sumOf_122 : decode cX5_sumOf 122 = .ok (.iadd, 1) := by decide +kernel
theorem dX5_sumOf_123 : decode cX5_sumOf 123 = .ok (.iadd, 1) := by decide +kernel
theorem dX5_sumOf_124 : decode cX5_sumOf 124 = .ok (.istore 4, 2) := by decide +kernel
theorem dX5_sumOf_126 : decode cX5_sumOf 126 = .ok (.iload 4, 2) := by decide +kernel
theorem dX5_sumOf_128 : decode cX5_sumOf 128 = .ok (.aload_n 0, 1) := by decide +kernel
theorem dX5_sumOf_129 : decode cX5_sumOf 129 = .ok (.getfield 105, 3) := by decide +kernel
theorem dX5_sumOf_132 : decode cX5_sumOf 132 = .ok (.isub, 1) := by decide +kernel
theorem dX5_sumOf_133 : decode cX5_sumOf 133 = .ok (.istore 11, 2) := by decide +kernel
theorem dX5_sumOf_135 : decode cX5_sumOf 135 = .ok (.iinc 4 3, 3) := by decide +kernel
theorem dX5_sumOf_138 : decode cX5_sumOf 138 = .ok (.aload_n 0, 1) := by decide +kernel
theorem dX5_sumOf_139 : decode cX5_sumOf 139 = .ok (.getfield 32, 3) := by decide +kernel
theorem dX5_sumOf_142 : decode cX5_sumOf 142 = .ok (.iload 9, 2) := by decide +kernel
theorem dX5_sumOf_144 : decode cX5_sumOf 144 = .ok (.iaload, 1) := by decide +kernel
theorem dX5_sumOf_145 : decode cX5_sumOf 145 = .ok (.istore 5, 2) := by decide +kernel
theorem dX5_sumOf_147 : decode cX5_sumOf 147 = .ok (.lload 6, 2) := by decide +kernel
theorem dX5_sumOf_149 : decode cX5_sumOf 149 = .ok (.aload_n 0, 1) := by decide +kernel
theorem dX5_sumOf_150 : decode cX5_sumOf 150 = .ok (.iload 9, 2) := by decide +kernel
theorem dX5_sumOf_152 : decode cX5_sumOf 152 = .ok (.invokevirtual 126, 3) := by decide +kernel
theorem dX5_sumOf_155 : decode cX5_sumOf 155 = .ok (.i2l, 1) := by decide +kernel
theorem dX5_sumOf_156 : decode cX5_sumOf 156 = .ok (.iload 10, 2) := by decide +kernel
theorem dX5_sumOf_158 : decode cX5_sumOf 158 = .ok (.i2l, 1) := by decide +kernel
theorem dX5_sumOf_159 : decode cX5_sumOf 159 = .ok (.lmul, 1) := by decide +kernel
theorem dX5_sumOf_160 : decode cX5_sumOf 160 = .ok (.iload 11, 2) := by decide +kernel
theorem dX5_sumOf_162 : decode cX5_sumOf 162 = .ok (.i2l, 1) := by decide +kernel
theorem dX5_sumOf_163 : decode cX5_sumOf 163 = .ok (.ladd, 1) := by decide +kernel
theorem dX5_sumOf_164 : decode cX5_sumOf 164 = .ok (.ladd, 1) := by decide +kernel
theorem dX5_sumOf_165 : decode cX5_sumOf 165 = .ok (.lstore 6, 2) := by decide +kernel
theorem dX5_sumOf_167 : decode cX5_sumOf 167 = .ok (.iload_n 3, 1) := by decide +kernel
theorem dX5_sumOf_168 : decode cX5_sumOf 168 = .ok (.ifCond .eq 56, 3) := by decide +kernel
theorem dX5_sumOf_171 : decode cX5_sumOf 171 = .ok (.aload_n 0, 1) := by decide +kernel
theorem dX5_sumOf_172 : decode cX5_sumOf 172 = .ok (.getfield 47, 3) := by decide +kernel
theorem dX5_sumOf_175 : decode cX5_sumOf 175 = .ok (.iload 9, 2) := by decide +kernel
theorem dX5_sumOf_177 : decode cX5_sumOf 177 = .ok (.iload_n 1, 1) := by decide +kernel
theorem dX5_sumOf_178 : decode cX5_sumOf 178 = .ok (.iastore, 1) := by decide +kernel
theorem dX5_sumOf_179 : decode cX5_sumOf 179 = .ok (.aload_n 0, 1) := by decide +kernel
theorem dX5_sumOf_180 : decode cX5_sumOf 180 = .ok (.getfield 50, 3) := by decide +kernel
theorem dX5_sumOf_183 : decode cX5_sumOf 183 = .ok (.iload 9, 2) := by decide +kernel
theorem dX5_sumOf_185 : decode cX5_sumOf 185 = .ok (.iload 10, 2) := by decide +kernel
end
section
theorem dX5_sumOf_187 : decode cX5_sumOf 187 = .ok (.iastore, 1) := by decide +kernel
theorem dX5_sumOf_188 : decode cX5_sumOf 188 = .ok (.aload_n 0, 1) := by decide +kernel
theorem dX5_sumOf_189 : decode cX5_sumOf 189 = .ok (.getfield 53, 3) := by decide +kernel
theorem dX5_sumOf_192 : decode cX5_sumOf 192 = .ok (.iload 9, 2) := by decide +kernel
theorem dX5_sumOf_194 : decode cX5_sumOf 194 = .ok (.iload 11, 2) := by decide +kernel
theorem dX5_sumOf_196 : decode cX5_sumOf 196 = .ok (.iastore, 1) := by decide +kernel
theorem dX5_sumOf_197 : decode cX5_sumOf 197 = .ok (.aload_n 0, 1) := by decide +kernel
theorem dX5_sumOf_198 : decode cX5_sumOf 198 = .ok (.getfield 56, 3) := by decide +kernel
theorem dX5_sumOf_201 : decode cX5_sumOf 201 = .ok (.iload 9, 2) := by decide +kernel
theorem dX5_sumOf_203 : decode cX5_sumOf 203 = .ok (.aload_n 0, 1) := by decide +kernel
theorem dX5_sumOf_204 : decode cX5_sumOf 204 = .ok (.iload 9, 2) := by decide +kernel
theorem dX5_sumOf_206 : decode cX5_sumOf 206 = .ok (.invokevirtual 126, 3) := by decide +kernel
theorem dX5_sumOf_209 : decode cX5_sumOf 209 = .ok (.iastore, 1) := by decide +kernel
theorem dX5_sumOf_210 : decode cX5_sumOf 210 = .ok (.aload_n 0, 1) := by decide +kernel
theorem dX5_sumOf_211 : decode cX5_sumOf 211 = .ok (.getfield 59, 3) := by decide +kernel
theorem dX5_sumOf_214 : decode cX5_sumOf 214 = .ok (.bipush 6, 2) := by decide +kernel
theorem dX5_sumOf_216 : decode cX5_sumOf 216 = .ok (.iload_n 1, 1) := by decide +kernel
theorem dX5_sumOf_217 : decode cX5_sumOf 217 = .ok (.imul, 1) := by decide +kernel
theorem dX5_sumOf_218 : decode cX5_sumOf 218 = .ok (.iload 8, 2) := by decide +kernel
theorem dX5_sumOf_220 : decode cX5_sumOf 220 = .ok (.iadd, 1) := by decide +kernel
theorem dX5_sumOf_221 : decode cX5_sumOf 221 = .ok (.iload 9, 2) := by decide +kernel
theorem dX5_sumOf_223 : decode cX5_sumOf 223 = .ok (.iastore, 1) := by decide +kernel
theorem dX5_sumOf_224 : decode cX5_sumOf 224 = .ok (.iinc 8 1, 3) := by decide +kernel
theorem dX5_sumOf_227 : decode cX5_sumOf 227 = .ok (.goto (-185), 3) := by decide +kernel
theorem dX5_sumOf_230 : decode cX5_sumOf 230 = .ok (.lload 6, 2) := by decide +kernel
theorem dX5_sumOf_232 : decode cX5_sumOf 232 = .ok (.lreturn, 1) := by decide +kernel
theorem dX5_nextOrder_0 : decode cX5_nextOrder 0 = .ok (.iload_n 1, 1) := by decide +kernel
theorem dX5_nextOrder_1 : decode cX5_nextOrder 1 = .ok (.iconst 2, 1) := by decide +kernel
theorem dX5_nextOrder_2 : decode cX5_nextOrder 2 = .ok (.isub, 1) := by decide +kernel
theorem dX5_nextOrder_3 : decode cX5_nextOrder 3 = .ok (.istore_n 2, 1) := by decide +kernel
theorem dX5_nextOrder_4 : decode cX5_nextOrder 4 = .ok (.iload_n 2, 1) := by decide +kernel
theorem dX5_nextOrder_5 : decode cX5_nextOrder 5 = .ok (.ifCond .lt 26, 3) := by decide +kernel
theorem dX5_nextOrder_8 : decode cX5_nextOrder 8 = .ok (.aload_n 0, 1) := by decide +kernel
theorem dX5_nextOrder_9 : decode cX5_nextOrder 9 = .ok (.getfield 78, 3) := by decide +kernel
theorem dX5_nextOrder_12 : decode cX5_nextOrder 12 = .ok (.iload_n 2, 1) := by decide +kernel
theorem dX5_nextOrder_13 : decode cX5_nextOrder 13 = .ok (.iaload, 1) := by decide +kernel
theorem dX5_nextOrder_14 : decode cX5_nextOrder 14 = .ok (.aload_n 0, 1) := by decide +kernel
theorem dX5_nextOrder_15 : decode cX5_nextOrder 15 = .ok (.getfield 78, 3) := by decide +kernel
theorem dX5_nextOrder_18 : decode cX5_nextOrder 18 = .ok (.iload_n 2, 1) := by decide +kernel
theorem dX5_nextOrder_19 : decode cX5_nextOrder 19 = .ok (.iconst 1, 1) := by decide +kernel
theorem dX5_nextOrder_20 : decode cX5_nextOrder 20 = .ok (.iadd, 1) := by decide +kernel
theorem dX5_nextOrder_21 : decode cX5_nextOrder 21 = .ok (.iaload, 1) := by decide +kernel
theorem dX5_nextOrder_22 : decode cX5_nextOrder 22 = .ok (.if_icmp .le 9, 3) := by decide +kernel
theorem dX5_nextOrder_25 : decode cX5_nextOrder 25 = .ok (.iinc 2 (-1), 3) := by decide +kernel
theorem dX5_nextOrder_28 : decode cX5_nextOrder 28 = .ok (.goto (-24), 3) := by decide +kernel
theorem dX5_nextOrder_31 : decode cX5_nextOrder 31 = .ok (.iload_n 2, 1) := by decide +kernel
theorem dX5_nextOrder_32 : decode cX5_nextOrder 32 = .ok (.ifCond .ge 5, 3) := by decide +kernel
theorem dX5_nextOrder_35 : decode cX5_nextOrder 35 = .ok (.iconst 0, 1) := by decide +kernel
theorem dX5_nextOrder_36 : decode cX5_nextOrder 36 = .ok (.ireturn, 1) := by decide +kernel
theorem dX5_nextOrder_37 : decode cX5_nextOrder 37 = .ok (.iload_n 1, 1) := by decide +kernel
theorem dX5_nextOrder_38 : decode cX5_nextOrder 38 = .ok (.iconst 1, 1) := by decide +kernel
theorem dX5_nextOrder_39 : decode cX5_nextOrder 39 = .ok (.isub, 1) := by decide +kernel
theorem dX5_nextOrder_40 : decode cX5_nextOrder 40 = .ok (.istore_n 3, 1) := by decide +kernel
theorem dX5_nextOrder_41 : decode cX5_nextOrder 41 = .ok (.aload_n 0, 1) := by decide +kernel
theorem dX5_nextOrder_42 : decode cX5_nextOrder 42 = .ok (.getfield 78, 3) := by decide +kernel
theorem dX5_nextOrder_45 : decode cX5_nextOrder 45 = .ok (.iload_n 3, 1) := by decide +kernel
theorem dX5_nextOrder_46 : decode cX5_nextOrder 46 = .ok (.iaload, 1) := by decide +kernel
theorem dX5_nextOrder_47 : decode cX5_nextOrder 47 = .ok (.aload_n 0, 1) := by decide +kernel
theorem dX5_nextOrder_48 : decode cX5_nextOrder 48 = .ok (.getfield 78, 3) := by decide +kernel
theorem dX5_nextOrder_51 : decode cX5_nextOrder 51 = .ok (.iload_n 2, 1) := by decide +kernel
theorem dX5_nextOrder_52 : decode cX5_nextOrder 52 = .ok (.iaload, 1) := by decide +kernel
theorem dX5_nextOrder_53 : decode cX5_nextOrder 53 = .ok (.if_icmp .ge 9, 3) := by decide +kernel
theorem dX5_nextOrder_56 : decode cX5_nextOrder 56 = .ok (.iinc 3 (-1), 3) := by decide +kernel
theorem dX5_nextOrder_59 : decode cX5_nextOrder 59 = .ok (.goto (-18), 3) := by decide +kernel
theorem dX5_nextOrder_62 : decode cX5_nextOrder 62 = .ok (.aload_n 0, 1) := by decide +kernel
theorem dX5_nextOrder_63 : decode cX5_nextOrder 63 = .ok (.getfield 78, 3) := by decide +kernel
theorem dX5_nextOrder_66 : decode cX5_nextOrder 66 = .ok (.iload_n 2, 1) := by decide +kernel
theorem dX5_nextOrder_67 : decode cX5_nextOrder 67 = .ok (.iaload, 1) := by decide +kernel
theorem dX5_nextOrder_68 : decode cX5_nextOrder 68 = .ok (.istore 4, 2) := by decide +kernel
theorem dX5_nextOrder_70 : decode cX5_nextOrder 70 = .ok (.aload_n 0, 1) := by decide +kernel
theorem dX5_nextOrder_71 : decode cX5_nextOrder 71 = .ok (.getfield 78, 3) := by decide +kernel
theorem dX5_nextOrder_74 : decode cX5_nextOrder 74 = .ok (.iload_n 2, 1) := by decide +kernel
theorem dX5_nextOrder_75 : decode cX5_nextOrder 75 = .ok (.aload_n 0, 1) := by decide +kernel
theorem dX5_nextOrder_76 : decode cX5_nextOrder 76 = .ok (.getfield 78, 3) := by decide +kernel
theorem dX5_nextOrder_79 : decode cX5_nextOrder 79 = .ok (.iload_n 3, 1) := by decide +kernel
theorem dX5_nextOrder_80 : decode cX5_nextOrder 80 = .ok (.iaload, 1) := by decide +kernel
theorem dX5_nextOrder_81 : decode cX5_nextOrder 81 = .ok (.iastore, 1) := by decide +kernel
theorem dX5_nextOrder_82 : decode cX5_nextOrder 82 = .ok (.aload_n 0, 1) := by decide +kernel
theorem dX5_nextOrder_83 : decode cX5_nextOrder 83 = .ok (.getfield 78, 3) := by decide +kernel
theorem dX5_nextOrder_86 : decode cX5_nextOrder 86 = .ok (.iload_n 3, 1) := by decide +kernel
theorem dX5_nextOrder_87 : decode cX5_nextOrder 87 = .ok (.iload 4, 2) := by decide +kernel
theorem dX5_nextOrder_89 : decode cX5_nextOrder 89 = .ok (.iastore, 1) := by decide +kernel
theorem dX5_nextOrder_90 : decode cX5_nextOrder 90 = .ok (.iload_n 2, 1) := by decide +kernel
theorem dX5_nextOrder_91 : decode cX5_nextOrder 91 = .ok (.iconst 1, 1) := by decide +kernel
theorem dX5_nextOrder_92 : decode cX5_nextOrder 92 = .ok (.iadd, 1) := by decide +kernel
theorem dX5_nextOrder_93 : decode cX5_nextOrder 93 = .ok (.istore 5, 2) := by decide +kernel
theorem dX5_nextOrder_95 : decode cX5_nextOrder 95 = .ok (.iload_n 1, 1) := by decide +kernel
theorem dX5_nextOrder_96 : decode cX5_nextOrder 96 = .ok (.iconst 1, 1) := by decide +kernel
theorem dX5_nextOrder_97 : decode cX5_nextOrder 97 = .ok (.isub, 1) := by decide +kernel
theorem dX5_nextOrder_98 : decode cX5_nextOrder 98 = .ok (.istore 6, 2) := by decide +kernel
theorem dX5_nextOrder_100 : decode cX5_nextOrder 100 = .ok (.iload 5, 2) := by decide +kernel
theorem dX5_nextOrder_102 : decode cX5_nextOrder 102 = .ok (.iload 6, 2) := by decide +kernel
theorem dX5_nextOrder_104 : decode cX5_nextOrder 104 = .ok (.if_icmp .ge 44, 3) := by decide +kernel
theorem dX5_nextOrder_107 : decode cX5_nextOrder 107 = .ok (.aload_n 0, 1) := by decide +kernel
theorem dX5_nextOrder_108 : decode cX5_nextOrder 108 = .ok (.getfield 78, 3) := by decide +kernel
theorem dX5_nextOrder_111 : decode cX5_nextOrder 111 = .ok (.iload 5, 2) := by decide +kernel
theorem dX5_nextOrder_113 : decode cX5_nextOrder 113 = .ok (.iaload, 1) := by decide +kernel
theorem dX5_nextOrder_114 : decode cX5_nextOrder 114 = .ok (.istore 4, 2) := by decide +kernel
theorem dX5_nextOrder_116 : decode cX5_nextOrder 116 = .ok (.aload_n 0, 1) := by decide +kernel
theorem dX5_nextOrder_117 : decode cX5_nextOrder 117 = .ok (.getfield 78, 3) := by decide +kernel
theorem dX5_nextOrder_120 : decode cX5_nextOrder 120 = .ok (.iload 5, 2) := by decide +kernel
theorem dX5_nextOrder_122 : decode cX5_nextOrder 122 = .ok (.aload_n 0, 1) := by decide +kernel
theorem dX5_nextOrder_123 : decode cX5_nextOrder 123 = .ok (.getfield 78, 3) := by decide +kernel
theorem dX5_nextOrder_126 : decode cX5_nextOrder 126 = .ok (.iload 6, 2) := by decide +kernel
theorem dX5_nextOrder_128 : decode cX5_nextOrder 128 = .ok (.iaload, 1) := by decide +kernel
theorem dX5_nextOrder_129 : decode cX5_nextOrder 129 = .ok (.iastore, 1) := by decide +kernel
theorem dX5_nextOrder_130 : decode cX5_nextOrder 130 = .ok (.aload_n 0, 1) := by decide +kernel
theorem dX5_nextOrder_131 : decode cX5_nextOrder 131 = .ok (.getfield 78, 3) := by decide +kernel
theorem dX5_nextOrder_134 : decode cX5_nextOrder 134 = .ok (.iload 6, 2) := by decide +kernel
theorem dX5_nextOrder_136 : decode cX5_nextOrder 136 = .ok (.iload 4, 2) := by decide +kernel
theorem dX5_nextOrder_138 : decode cX5_nextOrder 138 = .ok (.iastore, 1) := by decide +kernel
theorem dX5_nextOrder_139 : decode cX5_nextOrder 139 = .ok (.iinc 5 1, 3) := by decide +kernel
theorem dX5_nextOrder_142 : decode cX5_nextOrder 142 = .ok (.iinc 6 (-1), 3) := by decide +kernel
theorem dX5_nextOrder_145 : decode cX5_nextOrder 145 = .ok (.goto (-45), 3) := by decide +kernel
theorem dX5_nextOrder_148 : decode cX5_nextOrder 148 = .ok (.iconst 1, 1) := by decide +kernel
theorem dX5_nextOrder_149 : decode cX5_nextOrder 149 = .ok (.ireturn, 1) := by decide +kernel
theorem dX5_findRows_0 : decode cX5_findRows 0 = .ok (.iconst 0, 1) := by decide +kernel
theorem dX5_findRows_1 : decode cX5_findRows 1 = .ok (.istore_n 3, 1) := by decide +kernel
theorem dX5_findRows_2 : decode cX5_findRows 2 = .ok (.iconst (-1), 1) := by decide +kernel
theorem dX5_findRows_3 : decode cX5_findRows 3 = .ok (.istore 4, 2) := by decide +kernel
theorem dX5_findRows_5 : decode cX5_findRows 5 = .ok (.iconst 0, 1) := by decide +kernel
theorem dX5_findRows_6 : decode cX5_findRows 6 = .ok (.istore 5, 2) := by decide +kernel
theorem dX5_findRows_8 : decode cX5_findRows 8 = .ok (.iload 5, 2) := by decide +kernel
theorem dX5_findRows_10 : decode cX5_findRows 10 = .ok (.aload_n 0, 1) := by decide +kernel
theorem dX5_findRows_11 : decode cX5_findRows 11 = .ok (.getfield 130, 3) := by decide +kernel
theorem dX5_findRows_14 : decode cX5_findRows 14 = .ok (.if_icmp .ge 55, 3) := by decide +kernel
theorem dX5_findRows_17 : decode cX5_findRows 17 = .ok (.iload_n 2, 1) := by decide +kernel
theorem dX5_findRows_18 : decode cX5_findRows 18 = .ok (.iload 5, 2) := by decide +kernel
theorem dX5_findRows_20 : decode cX5_findRows 20 = .ok (.ishr, 1) := by decide +kernel
theorem dX5_findRows_21 : decode cX5_findRows 21 = .ok (.iconst 1, 1) := by decide +kernel
theorem dX5_findRows_22 : decode cX5_findRows 22 = .ok (.iand, 1) := by decide +kernel
theorem dX5_findRows_23 : decode cX5_findRows 23 = .ok (.iconst 1, 1) := by decide +kernel
theorem dX5_findRows_24 : decode cX5_findRows 24 = .ok (.if_icmp .ne 39, 3) := by decide +kernel
theorem dX5_findRows_27 : decode cX5_findRows 27 = .ok (.aload_n 0, 1) := by decide +kernel
theorem dX5_findRows_28 : decode cX5_findRows 28 = .ok (.getfield 78, 3) := by decide +kernel
theorem dX5_findRows_31 : decode cX5_findRows 31 = .ok (.iload_n 3, 1) := by decide +kernel
theorem dX5_findRows_32 : decode cX5_findRows 32 = .ok (.iload 5, 2) := by decide +kernel
theorem dX5_findRows_34 : decode cX5_findRows 34 = .ok (.iastore, 1) := by decide +kernel
theorem dX5_findRows_35 : decode cX5_findRows 35 = .ok (.iinc 3 1, 3) := by decide +kernel
theorem dX5_findRows_38 : decode cX5_findRows 38 = .ok (.aload_n 0, 1) := by decide +kernel
theorem dX5_findRows_39 : decode cX5_findRows 39 = .ok (.getfield 44, 3) := by decide +kernel
theorem dX5_findRows_42 : decode cX5_findRows 42 = .ok (.aload_n 0, 1) := by decide +kernel
theorem dX5_findRows_43 : decode cX5_findRows 43 = .ok (.getfield 65, 3) := by decide +kernel
theorem dX5_findRows_46 : decode cX5_findRows 46 = .ok (.iload 5, 2) := by decide +kernel
theorem dX5_findRows_48 : decode cX5_findRows 48 = .ok (.iaload, 1) := by decide +kernel
theorem dX5_findRows_49 : decode cX5_findRows 49 = .ok (.iaload, 1) := by decide +kernel
theorem dX5_findRows_50 : decode cX5_findRows 50 = .ok (.iload_n 1, 1) := by decide +kernel
theorem dX5_findRows_51 : decode cX5_findRows 51 = .ok (.if_icmp .ne 8, 3) := by decide +kernel
theorem dX5_findRows_54 : decode cX5_findRows 54 = .ok (.iload 5, 2) := by decide +kernel
theorem dX5_findRows_56 : decode cX5_findRows 56 = .ok (.goto 5, 3) := by decide +kernel
theorem dX5_findRows_59 : decode cX5_findRows 59 = .ok (.iload 4, 2) := by decide +kernel
theorem dX5_findRows_61 : decode cX5_findRows 61 = .ok (.istore 4, 2) := by decide +kernel
theorem dX5_findRows_63 : decode cX5_findRows 63 = .ok (.iinc 5 1, 3) := by decide +kernel
theorem dX5_findRows_66 : decode cX5_findRows 66 = .ok (.goto (-58), 3) := by decide +kernel
theorem dX5_findRows_69 : decode cX5_findRows 69 = .ok (.bipush 64, 2) := by decide +kernel
theorem dX5_findRows_71 : decode cX5_findRows 71 = .ok (.iload_n 1, 1) := by decide +kernel
theorem dX5_findRows_72 : decode cX5_findRows 72 = .ok (.imul, 1) := by decide +kernel
theorem dX5_findRows_73 : decode cX5_findRows 73 = .ok (.iload_n 2, 1) := by decide +kernel
theorem dX5_findRows_74 : decode cX5_findRows 74 = .ok (.iadd, 1) := by decide +kernel
theorem dX5_findRows_75 : decode cX5_findRows 75 = .ok (.istore 5, 2) := by decide +kernel
theorem dX5_findRows_77 : decode cX5_findRows 77 = .ok (.aload_n 0, 1) := by decide +kernel
theorem dX5_findRows_78 : decode cX5_findRows 78 = .ok (.getfield 71, 3) := by decide +kernel
theorem dX5_findRows_81 : decode cX5_findRows 81 = .ok (.iload 5, 2) := by decide +kernel
theorem dX5_findRows_83 : decode cX5_findRows 83 = .ok (.ldc2_w 133, 3) := by decide +kernel
theorem dX5_findRows_86 : decode cX5_findRows 86 = .ok (.lastore, 1) := by decide +kernel
theorem dX5_findRows_87 : decode cX5_findRows 87 = .ok (.iconst 1, 1) := by decide +kernel
theorem dX5_findRows_88 : decode cX5_findRows 88 = .ok (.istore 6, 2) := by decide +kernel
theorem dX5_findRows_90 : decode cX5_findRows 90 = .ok (.iload 6, 2) := by decide +kernel
theorem dX5_findRows_92 : decode cX5_findRows 92 = .ok (.ifCond .eq 107, 3) := by decide +kernel
theorem dX5_findRows_95 : decode cX5_findRows 95 = .ok (.iload 4, 2) := by decide +kernel
theorem dX5_findRows_97 : decode cX5_findRows 97 = .ok (.ifCond .lt 14, 3) := by decide +kernel
theorem dX5_findRows_100 : decode cX5_findRows 100 = .ok (.aload_n 0, 1) := by decide +kernel
theorem dX5_findRows_101 : decode cX5_findRows 101 = .ok (.getfield 78, 3) := by decide +kernel
theorem dX5_findRows_104 : decode cX5_findRows 104 = .ok (.iconst 0, 1) := by decide +kernel
theorem dX5_findRows_105 : decode cX5_findRows 105 = .ok (.iaload, 1) := by decide +kernel
theorem dX5_findRows_106 : decode cX5_findRows 106 = .ok (.iload 4, 2) := by decide +kernel
theorem dX5_findRows_108 : decode cX5_findRows 108 = .ok (.if_icmp .ne 81, 3) := by decide +kernel
theorem dX5_findRows_111 : decode cX5_findRows 111 = .ok (.aload_n 0, 1) := by decide +kernel
theorem dX5_findRows_112 : decode cX5_findRows 112 = .ok (.iload_n 1, 1) := by decide +kernel
theorem dX5_findRows_113 : decode cX5_findRows 113 = .ok (.iload_n 3, 1) := by decide +kernel
theorem dX5_findRows_114 : decode cX5_findRows 114 = .ok (.iconst 0, 1) := by decide +kernel
theorem dX5_findRows_115 : decode cX5_findRows 115 = .ok (.invokevirtual 135, 3) := by decide +kernel
theorem dX5_findRows_118 : decode cX5_findRows 118 = .ok (.lstore 7, 2) := by decide +kernel
theorem dX5_findRows_120 : decode cX5_findRows 120 = .ok (.aload_n 0, 1) := by decide +kernel
theorem dX5_findRows_121 : decode cX5_findRows 121 = .ok (.getfield 71, 3) := by decide +kernel
theorem dX5_findRows_124 : decode cX5_findRows 124 = .ok (.iload 5, 2) := by decide +kernel
theorem dX5_findRows_126 : decode cX5_findRows 126 = .ok (.laload, 1) := by decide +kernel
theorem dX5_findRows_127 : decode cX5_findRows 127 = .ok (.lconst 0, 1) := by decide +kernel
theorem dX5_findRows_128 : decode cX5_findRows 128 = .ok (.lcmp, 1) := by decide +kernel
theorem dX5_findRows_129 : decode cX5_findRows 129 = .ok (.ifCond .lt 16, 3) := by decide +kernel
theorem dX5_findRows_132 : decode cX5_findRows 132 = .ok (.lload 7, 2) := by decide +kernel
theorem dX5_findRows_134 : decode cX5_findRows 134 = .ok (.aload_n 0, 1) := by decide +kernel
theorem dX5_findRows_135 : decode cX5_findRows 135 = .ok (.getfield 71, 3) := by decide +kernel
theorem dX5_findRows_138 : decode cX5_findRows 138 = .ok (.iload 5, 2) := by decide +kernel
theorem dX5_findRows_140 : decode cX5_findRows 140 = .ok (.laload, 1) := by decide +kernel
theorem dX5_findRows_141 : decode cX5_findRows 141 = .ok (.lcmp, 1) := by decide +kernel
theorem dX5_findRows_142 : decode cX5_findRows 142 = .ok (.ifCond .ge 47, 3) := by decide +kernel
theorem dX5_findRows_145 : decode cX5_findRows 145 = .ok (.aload_n 0, 1) := by decide +kernel
theorem dX5_findRows_146 : decode cX5_findRows 146 = .ok (.getfield 71, 3) := by decide +kernel
theorem dX5_findRows_149 : decode cX5_findRows 149 = .ok (.iload 5, 2) := by decide +kernel
theorem dX5_findRows_151 : decode cX5_findRows 151 = .ok (.lload 7, 2) := by decide +kernel
theorem dX5_findRows_153 : decode cX5_findRows 153 = .ok (.lastore, 1) := by decide +kernel
theorem dX5_findRows_154 : decode cX5_findRows 154 = .ok (.iconst 0, 1) := by decide +kernel
theorem dX5_findRows_155 : decode cX5_findRows 155 = .ok (.istore 9, 2) := by decide +kernel
theorem dX5_findRows_157 : decode cX5_findRows 157 = .ok (.iload 9, 2) := by decide +kernel
theorem dX5_findRows_159 : decode cX5_findRows 159 = .ok (.iload_n 3, 1) := by decide +kernel
theorem dX5_findRows_160 : decode cX5_findRows 160 = .ok (.if_icmp .ge 29, 3) := by decide +kernel
theorem dX5_findRows_163 : decode cX5_findRows 163 = .ok (.aload_n 0, 1) := by decide +kernel
theorem dX5_findRows_164 : decode cX5_findRows 164 = .ok (.getfield 75, 3) := by decide +kernel
theorem dX5_findRows_167 : decode cX5_findRows 167 = .ok (.bipush 6, 2) := by decide +kernel
theorem dX5_findRows_169 : decode cX5_findRows 169 = .ok (.iload 5, 2) := by decide +kernel
theorem dX5_findRows_171 : decode cX5_findRows 171 = .ok (.imul, 1) := by decide +kernel
theorem dX5_findRows_172 : decode cX5_findRows 172 = .ok (.iload 9, 2) := by decide +kernel
theorem dX5_findRows_174 : decode cX5_findRows 174 = .ok (.iadd, 1) := by decide +kernel
theorem dX5_findRows_175 : decode cX5_findRows 175 = .ok (.aload_n 0, 1) := by decide +kernel
theorem dX5_findRows_176 : decode cX5_findRows 176 = .ok (.getfield 78, 3) := by decide +kernel
theorem dX5_findRows_179 : decode cX5_findRows 179 = .ok (.iload 9, 2) := by decide +kernel
theorem dX5_findRows_181 : decode cX5_findRows 181 = .ok (.iaload, 1) := by decide +kernel
theorem dX5_findRows_182 : decode cX5_findRows 182 = .ok (.iastore, 1) := by decide +kernel
theorem dX5_findRows_183 : decode cX5_findRows 183 = .ok (.iinc 9 1, 3) := by decide +kernel
theorem dX5_findRows_186 : decode cX5_findRows 186 = .ok (.goto (-29), 3) := by decide +kernel
theorem dX5_findRows_189 : decode cX5_findRows 189 = .ok (.aload_n 0, 1) := by decide +kernel
theorem dX5_findRows_190 : decode cX5_findRows 190 = .ok (.iload_n 3, 1) := by decide +kernel
theorem dX5_findRows_191 : decode cX5_findRows 191 = .ok (.invokevirtual 139, 3) := by decide +kernel
theorem dX5_findRows_194 : decode cX5_findRows 194 = .ok (.istore 6, 2) := by decide +kernel
theorem dX5_findRows_196 : decode cX5_findRows 196 = .ok (.goto (-106), 3) := by decide +kernel
theorem dX5_findRows_199 : decode cX5_findRows 199 = .ok (.return_, 1) := by decide +kernel
theorem dX5_setOf_0 : decode cX5_setOf 0 = .ok (.iconst 0, 1) := by decide +kernel
theorem dX5_setOf_1 : decode cX5_setOf 1 = .ok (.istore_n 2, 1) := by decide +kernel
theorem dX5_setOf_2 : decode cX5_setOf 2 = .ok (.iconst 0, 1) := by decide +kernel
theorem dX5_setOf_3 : decode cX5_setOf 3 = .ok (.istore_n 3, 1) := by decide +kernel
theorem dX5_setOf_4 : decode cX5_setOf 4 = .ok (.iload_n 3, 1) := by decide +kernel
theorem dX5_setOf_5 : decode cX5_setOf 5 = .ok (.aload_n 0, 1) := by decide +kernel
theorem dX5_setOf_6 : decode cX5_setOf 6 = .ok (.getfield 130, 3) := by decide +kernel
theorem dX5_setOf_9 : decode cX5_setOf 9 = .ok (.if_icmp .ge 29, 3) := by decide +kernel
theorem dX5_setOf_12 : decode cX5_setOf 12 = .ok (.iload_n 2, 1) := by decide +kernel
theorem dX5_setOf_13 : decode cX5_setOf 13 = .ok (.aload_n 0, 1) := by decide +kernel
theorem dX5_setOf_14 : decode cX5_setOf 14 = .ok (.getfield 81, 3) := by decide +kernel
theorem dX5_setOf_17 : decode cX5_setOf 17 = .ok (.iload_n 3, 1) := by decide +kernel
theorem dX5_setOf_18 : decode cX5_setOf 18 = .ok (.iaload, 1) := by decide +kernel
theorem dX5_setOf_19 : decode cX5_setOf 19 = .ok (.iload_n 1, 1) := by decide +kernel
theorem dX5_setOf_20 : decode cX5_setOf 20 = .ok (.if_icmp .ne 9, 3) := by decide +kernel
theorem dX5_setOf_23 : decode cX5_setOf 23 = .ok (.iconst 1, 1) := by decide +kernel
theorem dX5_setOf_24 : decode cX5_setOf 24 = .ok (.iload_n 3, 1) := by decide +kernel
theorem dX5_setOf_25 : decode cX5_setOf 25 = .ok (.ishl, 1) := by decide +kernel
theorem dX5_setOf_26 : decode cX5_setOf 26 = .ok (.goto 4, 3) := by decide +kernel
theorem dX5_setOf_29 : decode cX5_setOf 29 = .ok (.iconst 0, 1) := by decide +kernel
theorem dX5_setOf_30 : decode cX5_setOf 30 = .ok (.ior, 1) := by decide +kernel
theorem dX5_setOf_31 : decode cX5_setOf 31 = .ok (.istore_n 2, 1) := by decide +kernel
theorem dX5_setOf_32 : decode cX5_setOf 32 = .ok (.iinc 3 1, 3) := by decide +kernel
theorem dX5_setOf_35 : decode cX5_setOf 35 = .ok (.goto (-31), 3) := by decide +kernel
theorem dX5_setOf_38 : decode cX5_setOf 38 = .ok (.iload_n 2, 1) := by decide +kernel
theorem dX5_setOf_39 : decode cX5_setOf 39 = .ok (.ireturn, 1) := by decide +kernel
theorem dX5_give_0 : decode cX5_give 0 = .ok (.aload_n 0, 1) := by decide +kernel
theorem dX5_give_1 : decode cX5_give 1 = .ok (.iconst 0, 1) := by decide +kernel
theorem dX5_give_2 : decode cX5_give 2 = .ok (.putfield 88, 3) := by decide +kernel
theorem dX5_give_5 : decode cX5_give 5 = .ok (.aload_n 0, 1) := by decide +kernel
theorem dX5_give_6 : decode cX5_give 6 = .ok (.iconst 0, 1) := by decide +kernel
theorem dX5_give_7 : decode cX5_give 7 = .ok (.putfield 130, 3) := by decide +kernel
theorem dX5_give_10 : decode cX5_give 10 = .ok (.iconst 0, 1) := by decide +kernel
theorem dX5_give_11 : decode cX5_give 11 = .ok (.istore_n 1, 1) := by decide +kernel
theorem dX5_give_12 : decode cX5_give 12 = .ok (.iload_n 1, 1) := by decide +kernel
theorem dX5_give_13 : decode cX5_give 13 = .ok (.aload_n 0, 1) := by decide +kernel
theorem dX5_give_14 : decode cX5_give 14 = .ok (.getfield 98, 3) := by decide +kernel
theorem dX5_give_17 : decode cX5_give 17 = .ok (.if_icmp .ge 67, 3) := by decide +kernel
theorem dX5_give_20 : decode cX5_give 20 = .ok (.aload_n 0, 1) := by decide +kernel
theorem dX5_give_21 : decode cX5_give 21 = .ok (.getfield 47, 3) := by decide +kernel
theorem dX5_give_24 : decode cX5_give 24 = .ok (.iload_n 1, 1) := by decide +kernel
theorem dX5_give_25 : decode cX5_give 25 = .ok (.iconst (-1), 1) := by decide +kernel
theorem dX5_give_26 : decode cX5_give 26 = .ok (.iastore, 1) := by decide +kernel
theorem dX5_give_27 : decode cX5_give 27 = .ok (.aload_n 0, 1) := by decide +kernel
theorem dX5_give_28 : decode cX5_give 28 = .ok (.getfield 38, 3) := by decide +kernel
theorem dX5_give_31 : decode cX5_give 31 = .ok (.iload_n 1, 1) := by decide +kernel
theorem dX5_give_32 : decode cX5_give 32 = .ok (.baload, 1) := by decide +kernel
theorem dX5_give_33 : decode cX5_give 33 = .ok (.ifCond .eq 45, 3) := by decide +kernel
theorem dX5_give_36 : decode cX5_give 36 = .ok (.aload_n 0, 1) := by decide +kernel
theorem dX5_give_37 : decode cX5_give 37 = .ok (.iload_n 1, 1) := by decide +kernel
theorem dX5_give_38 : decode cX5_give 38 = .ok (.invokevirtual 142, 3) := by decide +kernel
theorem dX5_give_41 : decode cX5_give 41 = .ok (.ifCond .eq 37, 3) := by decide +kernel
theorem dX5_give_44 : decode cX5_give 44 = .ok (.aload_n 0, 1) := by decide +kernel
theorem dX5_give_45 : decode cX5_give 45 = .ok (.getfield 65, 3) := by decide +kernel
theorem dX5_give_48 : decode cX5_give 48 = .ok (.aload_n 0, 1) := by decide +kernel
theorem dX5_give_49 : decode cX5_give 49 = .ok (.getfield 130, 3) := by decide +kernel
theorem dX5_give_52 : decode cX5_give 52 = .ok (.iload_n 1, 1) := by decide +kernel
theorem dX5_give_53 : decode cX5_give 53 = .ok (.iastore, 1) := by decide +kernel
theorem dX5_give_54 : decode cX5_give 54 = .ok (.aload_n 0, 1) := by decide +kernel
theorem dX5_give_55 : decode cX5_give 55 = .ok (.getfield 68, 3) := by decide +kernel
theorem dX5_give_58 : decode cX5_give 58 = .ok (.aload_n 0, 1) := by decide +kernel
theorem dX5_give_59 : decode cX5_give 59 = .ok (.getfield 130, 3) := by decide +kernel
theorem dX5_give_62 : decode cX5_give 62 = .ok (.aload_n 0, 1) := by decide +kernel
theorem dX5_give_63 : decode cX5_give 63 = .ok (.iload_n 1, 1) := by decide +kernel
theorem dX5_give_64 : decode cX5_give 64 = .ok (.invokevirtual 142, 3) := by decide +kernel
theorem dX5_give_67 : decode cX5_give 67 = .ok (.iastore, 1) := by decide +kernel
theorem dX5_give_68 : decode cX5_give 68 = .ok (.aload_n 0, 1) := by decide +kernel
theorem dX5_give_69 : decode cX5_give 69 = .ok (.dup, 1) := by decide +kernel
theorem dX5_give_70 : decode cX5_give 70 = .ok (.getfield 130, 3) := by decide +kernel
theorem dX5_give_73 : decode cX5_give 73 = .ok (.iconst 1, 1) := by decide +kernel
theorem dX5_give_74 : decode cX5_give 74 = .ok (.iadd, 1) := by decide +kernel
theorem dX5_give_75 : decode cX5_give 75 = .ok (.putfield 130, 3) := by decide +kernel
theorem dX5_give_78 : decode cX5_give 78 = .ok (.iinc 1 1, 3) := by decide +kernel
theorem dX5_give_81 : decode cX5_give 81 = .ok (.goto (-69), 3) := by decide +kernel
theorem dX5_give_84 : decode cX5_give 84 = .ok (.iconst 0, 1) := by decide +kernel
theorem dX5_give_85 : decode cX5_give 85 = .ok (.istore_n 1, 1) := by decide +kernel
theorem dX5_give_86 : decode cX5_give 86 = .ok (.iload_n 1, 1) := by decide +kernel
theorem dX5_give_87 : decode cX5_give 87 = .ok (.aload_n 0, 1) := by decide +kernel
theorem dX5_give_88 : decode cX5_give 88 = .ok (.getfield 95, 3) := by decide +kernel
theorem dX5_give_91 : decode cX5_give 91 = .ok (.if_icmp .ge 33, 3) := by decide +kernel
theorem dX5_give_94 : decode cX5_give 94 = .ok (.iconst 0, 1) := by decide +kernel
theorem dX5_give_95 : decode cX5_give 95 = .ok (.istore_n 2, 1) := by decide +kernel
theorem dX5_give_96 : decode cX5_give 96 = .ok (.iload_n 2, 1) := by decide +kernel
theorem dX5_give_97 : decode cX5_give 97 = .ok (.iconst 1, 1) := by decide +kernel
theorem dX5_give_98 : decode cX5_give 98 = .ok (.aload_n 0, 1) := by decide +kernel
theorem dX5_give_99 : decode cX5_give 99 = .ok (.getfield 130, 3) := by decide +kernel
theorem dX5_give_102 : decode cX5_give 102 = .ok (.ishl, 1) := by decide +kernel
theorem dX5_give_103 : decode cX5_give 103 = .ok (.if_icmp .ge 15, 3) := by decide +kernel
theorem dX5_give_106 : decode cX5_give 106 = .ok (.aload_n 0, 1) := by decide +kernel
theorem dX5_give_107 : decode cX5_give 107 = .ok (.iload_n 1, 1) := by decide +kernel
theorem dX5_give_108 : decode cX5_give 108 = .ok (.iload_n 2, 1) := by decide +kernel
theorem dX5_give_109 : decode cX5_give 109 = .ok (.invokevirtual 145, 3) := by decide +kernel
theorem dX5_give_112 : decode cX5_give 112 = .ok (.iinc 2 1, 3) := by decide +kernel
theorem dX5_give_115 : decode cX5_give 115 = .ok (.goto (-19), 3) := by decide +kernel
theorem dX5_give_118 : decode cX5_give 118 = .ok (.iinc 1 1, 3) := by decide +kernel
theorem dX5_give_121 : decode cX5_give 121 = .ok (.goto (-35), 3) := by decide +kernel
theorem dX5_give_124 : decode cX5_give 124 = .ok (.iconst 1, 1) := by decide +kernel
theorem dX5_give_125 : decode cX5_give 125 = .ok (.istore_n 1, 1) := by decide +kernel
theorem dX5_give_126 : decode cX5_give 126 = .ok (.iconst 0, 1) := by decide +kernel
theorem dX5_give_127 : decode cX5_give 127 = .ok (.istore_n 2, 1) := by decide +kernel
theorem dX5_give_128 : decode cX5_give 128 = .ok (.iload_n 2, 1) := by decide +kernel
theorem dX5_give_129 : decode cX5_give 129 = .ok (.aload_n 0, 1) := by decide +kernel
theorem dX5_give_130 : decode cX5_give 130 = .ok (.getfield 130, 3) := by decide +kernel
theorem dX5_give_133 : decode cX5_give 133 = .ok (.if_icmp .ge 13, 3) := by decide +kernel
theorem dX5_give_136 : decode cX5_give 136 = .ok (.iload_n 1, 1) := by decide +kernel
theorem dX5_give_137 : decode cX5_give 137 = .ok (.iconst 4, 1) := by decide +kernel
theorem dX5_give_138 : decode cX5_give 138 = .ok (.imul, 1) := by decide +kernel
theorem dX5_give_139 : decode cX5_give 139 = .ok (.istore_n 1, 1) := by decide +kernel
theorem dX5_give_140 : decode cX5_give 140 = .ok (.iinc 2 1, 3) := by decide +kernel
theorem dX5_give_143 : decode cX5_give 143 = .ok (.goto (-15), 3) := by decide +kernel
theorem dX5_give_146 : decode cX5_give 146 = .ok (.iconst (-1), 1) := by decide +kernel
theorem dX5_give_147 : decode cX5_give 147 = .ok (.istore_n 2, 1) := by decide +kernel
theorem dX5_give_148 : decode cX5_give 148 = .ok (.lconst 0, 1) := by decide +kernel
theorem dX5_give_149 : decode cX5_give 149 = .ok (.lstore_n 3, 1) := by decide +kernel
theorem dX5_give_150 : decode cX5_give 150 = .ok (.iconst 0, 1) := by decide +kernel
theorem dX5_give_151 : decode cX5_give 151 = .ok (.istore 5, 2) := by decide +kernel
theorem dX5_give_153 : decode cX5_give 153 = .ok (.iload 5, 2) := by decide +kernel
theorem dX5_give_155 : decode cX5_give 155 = .ok (.iload_n 1, 1) := by decide +kernel
theorem dX5_give_156 : decode cX5_give 156 = .ok (.if_icmp .ge 139, 3) := by decide +kernel
theorem dX5_give_159 : decode cX5_give 159 = .ok (.aload_n 0, 1) := by decide +kernel
theorem dX5_give_160 : decode cX5_give 160 = .ok (.iload 5, 2) := by decide +kernel
theorem dX5_give_162 : decode cX5_give 162 = .ok (.invokevirtual 149, 3) := by decide +kernel
theorem dX5_give_165 : decode cX5_give 165 = .ok (.iconst 1, 1) := by decide +kernel
theorem dX5_give_166 : decode cX5_give 166 = .ok (.istore 6, 2) := by decide +kernel
theorem dX5_give_168 : decode cX5_give 168 = .ok (.iconst 0, 1) := by decide +kernel
theorem dX5_give_169 : decode cX5_give 169 = .ok (.istore 7, 2) := by decide +kernel
theorem dX5_give_171 : decode cX5_give 171 = .ok (.iload 7, 2) := by decide +kernel
theorem dX5_give_173 : decode cX5_give 173 = .ok (.aload_n 0, 1) := by decide +kernel
theorem dX5_give_174 : decode cX5_give 174 = .ok (.getfield 130, 3) := by decide +kernel
theorem dX5_give_177 : decode cX5_give 177 = .ok (.if_icmp .ge 42, 3) := by decide +kernel
theorem dX5_give_180 : decode cX5_give 180 = .ok (.iload 6, 2) := by decide +kernel
theorem dX5_give_182 : decode cX5_give 182 = .ok (.ifCond .eq 28, 3) := by decide +kernel
theorem dX5_give_185 : decode cX5_give 185 = .ok (.aload_n 0, 1) := by decide +kernel
theorem dX5_give_186 : decode cX5_give 186 = .ok (.getfield 68, 3) := by decide +kernel
theorem dX5_give_189 : decode cX5_give 189 = .ok (.iload 7, 2) := by decide +kernel
theorem dX5_give_191 : decode cX5_give 191 = .ok (.iaload, 1) := by decide +kernel
theorem dX5_give_192 : decode cX5_give 192 = .ok (.aload_n 0, 1) := by decide +kernel
theorem dX5_give_193 : decode cX5_give 193 = .ok (.getfield 81, 3) := by decide +kernel
theorem dX5_give_196 : decode cX5_give 196 = .ok (.iload 7, 2) := by decide +kernel
theorem dX5_give_198 : decode cX5_give 198 = .ok (.iaload, 1) := by decide +kernel
theorem dX5_give_199 : decode cX5_give 199 = .ok (.ishr, 1) := by decide +kernel
theorem dX5_give_200 : decode cX5_give 200 = .ok (.iconst 1, 1) := by decide +kernel
theorem dX5_give_201 : decode cX5_give 201 = .ok (.iand, 1) := by decide +kernel
theorem dX5_give_202 : decode cX5_give 202 = .ok (.iconst 1, 1) := by decide +kernel
theorem dX5_give_203 : decode cX5_give 203 = .ok (.if_icmp .ne 7, 3) := by decide +kernel
theorem dX5_give_206 : decode cX5_give 206 = .ok (.iconst 1, 1) := by decide +kernel
theorem dX5_give_207 : decode cX5_give 207 = .ok (.goto 4, 3) := by decide +kernel
theorem dX5_give_210 : decode cX5_give 210 = .ok (.iconst 0, 1) := by decide +kernel
theorem dX5_give_211 : decode cX5_give 211 = .ok (.istore 6, 2) := by decide +kernel
theorem dX5_give_213 : decode cX5_give 213 = .ok (.iinc 7 1, 3) := by decide +kernel
theorem dX5_give_216 : decode cX5_give 216 = .ok (.goto (-45), 3) := by decide +kernel
theorem dX5_give_219 : decode cX5_give 219 = .ok (.lconst 0, 1) := by decide +kernel
theorem dX5_give_220 : decode cX5_give 220 = .ok (.lstore 7, 2) := by decide +kernel
theorem dX5_give_222 : decode cX5_give 222 = .ok (.iconst 0, 1) := by decide +kernel
theorem dX5_give_223 : decode cX5_give 223 = .ok (.istore 9, 2) := by decide +kernel
theorem dX5_give_225 : decode cX5_give 225 = .ok (.iload 9, 2) := by decide +kernel
theorem dX5_give_227 : decode cX5_give 227 = .ok (.aload_n 0, 1) := by decide +kernel
theorem dX5_give_228 : decode cX5_give 228 = .ok (.getfield 95, 3) := by decide +kernel
theorem dX5_give_231 : decode cX5_give 231 = .ok (.if_icmp .ge 36, 3) := by decide +kernel
theorem dX5_give_234 : decode cX5_give 234 = .ok (.iload 6, 2) := by decide +kernel
theorem dX5_give_236 : decode cX5_give 236 = .ok (.ifCond .eq 31, 3) := by decide +kernel
theorem dX5_give_239 : decode cX5_give 239 = .ok (.lload 7, 2) := by decide +kernel
theorem dX5_give_241 : decode cX5_give 241 = .ok (.aload_n 0, 1) := by decide +kernel
theorem dX5_give_242 : decode cX5_give 242 = .ok (.getfield 71, 3) := by decide +kernel
theorem dX5_give_245 : decode cX5_give 245 = .ok (.bipush 64, 2) := by decide +kernel
theorem dX5_give_247 : decode cX5_give 247 = .ok (.iload 9, 2) := by decide +kernel
theorem dX5_give_249 : decode cX5_give 249 = .ok (.imul, 1) := by decide +kernel
theorem dX5_give_250 : decode cX5_give 250 = .ok (.aload_n 0, 1) := by decide +kernel
theorem dX5_give_251 : decode cX5_give 251 = .ok (.iload 9, 2) := by decide +kernel
theorem dX5_give_253 : decode cX5_give 253 = .ok (.invokevirtual 153, 3) := by decide +kernel
theorem dX5_give_256 : decode cX5_give 256 = .ok (.iadd, 1) := by decide +kernel
theorem dX5_give_257 : decode cX5_give 257 = .ok (.laload, 1) := by decide +kernel
theorem dX5_give_258 : decode cX5_give 258 = .ok (.ladd, 1) := by decide +kernel
theorem dX5_give_259 : decode cX5_give 259 = .ok (.lstore 7, 2) := by decide +kernel
theorem dX5_give_261 : decode cX5_give 261 = .ok (.iinc 9 1, 3) := by decide +kernel
theorem dX5_give_264 : decode cX5_give 264 = .ok (.goto (-39), 3) := by decide +kernel
theorem dX5_give_267 : decode cX5_give 267 = .ok (.iload 6, 2) := by decide +kernel
theorem dX5_give_269 : decode cX5_give 269 = .ok (.ifCond .eq 20, 3) := by decide +kernel
theorem dX5_give_272 : decode cX5_give 272 = .ok (.iload_n 2, 1) := by decide +kernel
theorem dX5_give_273 : decode cX5_give 273 = .ok (.ifCond .lt 10, 3) := by decide +kernel
theorem dX5_give_276 : decode cX5_give 276 = .ok (.lload 7, 2) := by decide +kernel
theorem dX5_give_278 : decode cX5_give 278 = .ok (.lload_n 3, 1) := by decide +kernel
theorem dX5_give_279 : decode cX5_give 279 = .ok (.lcmp, 1) := by decide +kernel
theorem dX5_give_280 : decode cX5_give 280 = .ok (.ifCond .ge 9, 3) := by decide +kernel
theorem dX5_give_283 : decode cX5_give 283 = .ok (.iload 5, 2) := by decide +kernel
theorem dX5_give_285 : decode cX5_give 285 = .ok (.istore_n 2, 1) := by decide +kernel
theorem dX5_give_286 : decode cX5_give 286 = .ok (.lload 7, 2) := by decide +kernel
theorem dX5_give_288 : decode cX5_give 288 = .ok (.lstore_n 3, 1) := by decide +kernel
theorem dX5_give_289 : decode cX5_give 289 = .ok (.iinc 5 1, 3) := by decide +kernel
theorem dX5_give_292 : decode cX5_give 292 = .ok (.goto (-139), 3) := by decide +kernel
theorem dX5_give_295 : decode cX5_give 295 = .ok (.aload_n 0, 1) := by decide +kernel
theorem dX5_give_296 : decode cX5_give 296 = .ok (.iload_n 2, 1) := by decide +kernel
theorem dX5_give_297 : decode cX5_give 297 = .ok (.invokevirtual 149, 3) := by decide +kernel
theorem dX5_give_300 : decode cX5_give 300 = .ok (.iconst 0, 1) := by decide +kernel
theorem dX5_give_301 : decode cX5_give 301 = .ok (.istore 5, 2) := by decide +kernel
theorem dX5_give_303 : decode cX5_give 303 = .ok (.iload 5, 2) := by decide +kernel
theorem dX5_give_305 : decode cX5_give 305 = .ok (.iconst 4, 1) := by decide +kernel
theorem dX5_give_306 : decode cX5_give 306 = .ok (.if_icmp .ge 138, 3) := by decide +kernel
theorem dX5_give_309 : decode cX5_give 309 = .ok (.aload_n 0, 1) := by decide +kernel
theorem dX5_give_310 : decode cX5_give 310 = .ok (.getfield 62, 3) := by decide +kernel
theorem dX5_give_313 : decode cX5_give 313 = .ok (.iload 5, 2) := by decide +kernel
theorem dX5_give_315 : decode cX5_give 315 = .ok (.iconst 0, 1) := by decide +kernel
theorem dX5_give_316 : decode cX5_give 316 = .ok (.iastore, 1) := by decide +kernel
theorem dX5_give_317 : decode cX5_give 317 = .ok (.iload 5, 2) := by decide +kernel
theorem dX5_give_319 : decode cX5_give 319 = .ok (.aload_n 0, 1) := by decide +kernel
theorem dX5_give_320 : decode cX5_give 320 = .ok (.getfield 95, 3) := by decide +kernel
theorem dX5_give_323 : decode cX5_give 323 = .ok (.if_icmp .ge 115, 3) := by decide +kernel
theorem dX5_give_326 : decode cX5_give 326 = .ok (.bipush 64, 2) := by decide +kernel
theorem dX5_give_328 : decode cX5_give 328 = .ok (.iload 5, 2) := by decide +kernel
theorem dX5_give_330 : decode cX5_give 330 = .ok (.imul, 1) := by decide +kernel
theorem dX5_give_331 : decode cX5_give 331 = .ok (.aload_n 0, 1) := by decide +kernel
theorem dX5_give_332 : decode cX5_give 332 = .ok (.iload 5, 2) := by decide +kernel
theorem dX5_give_334 : decode cX5_give 334 = .ok (.invokevirtual 153, 3) := by decide +kernel
theorem dX5_give_337 : decode cX5_give 337 = .ok (.iadd, 1) := by decide +kernel
theorem dX5_give_338 : decode cX5_give 338 = .ok (.istore 6, 2) := by decide +kernel
theorem dX5_give_340 : decode cX5_give 340 = .ok (.iconst 0, 1) := by decide +kernel
theorem dX5_give_341 : decode cX5_give 341 = .ok (.istore 7, 2) := by decide +kernel
theorem dX5_give_343 : decode cX5_give 343 = .ok (.iconst 0, 1) := by decide +kernel
theorem dX5_give_344 : decode cX5_give 344 = .ok (.istore 8, 2) := by decide +kernel
theorem dX5_give_346 : decode cX5_give 346 = .ok (.iload 8, 2) := by decide +kernel
theorem dX5_give_348 : decode cX5_give 348 = .ok (.aload_n 0, 1) := by decide +kernel
theorem dX5_give_349 : decode cX5_give 349 = .ok (.getfield 130, 3) := by decide +kernel
theorem dX5_give_352 : decode cX5_give 352 = .ok (.if_icmp .ge 31, 3) := by decide +kernel
theorem dX5_give_355 : decode cX5_give 355 = .ok (.iload 7, 2) := by decide +kernel
theorem dX5_give_357 : decode cX5_give 357 = .ok (.aload_n 0, 1) := by decide +kernel
theorem dX5_give_358 : decode cX5_give 358 = .ok (.getfield 81, 3) := by decide +kernel
theorem dX5_give_361 : decode cX5_give 361 = .ok (.iload 8, 2) := by decide +kernel
theorem dX5_give_363 : decode cX5_give 363 = .ok (.iaload, 1) := by decide +kernel
theorem dX5_give_364 : decode cX5_give 364 = .ok (.iload 5, 2) := by decide +kernel
theorem dX5_give_366 : decode cX5_give 366 = .ok (.if_icmp .ne 7, 3) := by decide +kernel
theorem dX5_give_369 : decode cX5_give 369 = .ok (.iconst 1, 1) := by decide +kernel
theorem dX5_give_370 : decode cX5_give 370 = .ok (.goto 4, 3) := by decide +kernel
theorem dX5_give_373 : decode cX5_give 373 = .ok (.iconst 0, 1) := by decide +kernel
theorem dX5_give_374 : decode cX5_give 374 = .ok (.iadd, 1) := by decide +kernel
theorem dX5_give_375 : decode cX5_give 375 = .ok (.istore 7, 2) := by decide +kernel
theorem dX5_give_377 : decode cX5_give 377 = .ok (.iinc 8 1, 3) := by decide +kernel
theorem dX5_give_380 : decode cX5_give 380 = .ok (.goto (-34), 3) := by decide +kernel
theorem dX5_give_383 : decode cX5_give 383 = .ok (.iconst 0, 1) := by decide +kernel
theorem dX5_give_384 : decode cX5_give 384 = .ok (.istore 8, 2) := by decide +kernel
theorem dX5_give_386 : decode cX5_give 386 = .ok (.iload 8, 2) := by decide +kernel
theorem dX5_give_388 : decode cX5_give 388 = .ok (.iload 7, 2) := by decide +kernel
theorem dX5_give_390 : decode cX5_give 390 = .ok (.if_icmp .ge 29, 3) := by decide +kernel
theorem dX5_give_393 : decode cX5_give 393 = .ok (.aload_n 0, 1) := by decide +kernel
theorem dX5_give_394 : decode cX5_give 394 = .ok (.getfield 78, 3) := by decide +kernel
theorem dX5_give_397 : decode cX5_give 397 = .ok (.iload 8, 2) := by decide +kernel
theorem dX5_give_399 : decode cX5_give 399 = .ok (.aload_n 0, 1) := by decide +kernel
theorem dX5_give_400 : decode cX5_give 400 = .ok (.getfield 75, 3) := by decide +kernel
theorem dX5_give_403 : decode cX5_give 403 = .ok (.bipush 6, 2) := by decide +kernel
theorem dX5_give_405 : decode cX5_give 405 = .ok (.iload 6, 2) := by decide +kernel
theorem dX5_give_407 : decode cX5_give 407 = .ok (.imul, 1) := by decide +kernel
theorem dX5_give_408 : decode cX5_give 408 = .ok (.iload 8, 2) := by decide +kernel
theorem dX5_give_410 : decode cX5_give 410 = .ok (.iadd, 1) := by decide +kernel
theorem dX5_give_411 : decode cX5_give 411 = .ok (.iaload, 1) := by decide +kernel
theorem dX5_give_412 : decode cX5_give 412 = .ok (.iastore, 1) := by decide +kernel
theorem dX5_give_413 : decode cX5_give 413 = .ok (.iinc 8 1, 3) := by decide +kernel
theorem dX5_give_416 : decode cX5_give 416 = .ok (.goto (-30), 3) := by decide +kernel
theorem dX5_give_419 : decode cX5_give 419 = .ok (.aload_n 0, 1) := by decide +kernel
theorem dX5_give_420 : decode cX5_give 420 = .ok (.iload 5, 2) := by decide +kernel
theorem dX5_give_422 : decode cX5_give 422 = .ok (.iload 7, 2) := by decide +kernel
theorem dX5_give_424 : decode cX5_give 424 = .ok (.iconst 1, 1) := by decide +kernel
theorem dX5_give_425 : decode cX5_give 425 = .ok (.invokevirtual 135, 3) := by decide +kernel
theorem dX5_give_428 : decode cX5_give 428 = .ok (.pop2, 1) := by decide +kernel
theorem dX5_give_429 : decode cX5_give 429 = .ok (.aload_n 0, 1) := by decide +kernel
theorem dX5_give_430 : decode cX5_give 430 = .ok (.getfield 62, 3) := by decide +kernel
theorem dX5_give_433 : decode cX5_give 433 = .ok (.iload 5, 2) := by decide +kernel
theorem dX5_give_435 : decode cX5_give 435 = .ok (.iload 7, 2) := by decide +kernel
theorem dX5_give_437 : decode cX5_give 437 = .ok (.iastore, 1) := by decide +kernel
theorem dX5_give_438 : decode cX5_give 438 = .ok (.iinc 5 1, 3) := by decide +kernel
theorem dX5_give_441 : decode cX5_give 441 = .ok (.goto (-138), 3) := by decide +kernel
theorem dX5_give_444 : decode cX5_give 444 = .ok (.lload_n 3, 1) := by decide +kernel
theorem dX5_give_445 : decode cX5_give 445 = .ok (.lreturn, 1) := by decide +kernel
theorem dX5_deal_0 : decode cX5_deal 0 = .ok (.iload_n 1, 1) := by decide +kernel
theorem dX5_deal_1 : decode cX5_deal 1 = .ok (.istore_n 2, 1) := by decide +kernel
theorem dX5_deal_2 : decode cX5_deal 2 = .ok (.aload_n 0, 1) := by decide +kernel
theorem dX5_deal_3 : decode cX5_deal 3 = .ok (.getfield 130, 3) := by decide +kernel
theorem dX5_deal_6 : decode cX5_deal 6 = .ok (.iconst 1, 1) := by decide +kernel
theorem dX5_deal_7 : decode cX5_deal 7 = .ok (.isub, 1) := by decide +kernel
theorem dX5_deal_8 : decode cX5_deal 8 = .ok (.istore_n 3, 1) := by decide +kernel
theorem dX5_deal_9 : decode cX5_deal 9 = .ok (.iload_n 3, 1) := by decide +kernel
theorem dX5_deal_10 : decode cX5_deal 10 = .ok (.ifCond .lt 22, 3) := by decide +kernel
theorem dX5_deal_13 : decode cX5_deal 13 = .ok (.aload_n 0, 1) := by decide +kernel
theorem dX5_deal_14 : decode cX5_deal 14 = .ok (.getfield 81, 3) := by decide +kernel
theorem dX5_deal_17 : decode cX5_deal 17 = .ok (.iload_n 3, 1) := by decide +kernel
theorem dX5_deal_18 : decode cX5_deal 18 = .ok (.iload_n 2, 1) := by decide +kernel
theorem dX5_deal_19 : decode cX5_deal 19 = .ok (.iconst 4, 1) := by decide +kernel
theorem dX5_deal_20 : decode cX5_deal 20 = .ok (.irem, 1) := by decide +kernel
theorem dX5_deal_21 : decode cX5_deal 21 = .ok (.iastore, 1) := by decide +kernel
theorem dX5_deal_22 : decode cX5_deal 22 = .ok (.iload_n 2, 1) := by decide +kernel
theorem dX5_deal_23 : decode cX5_deal 23 = .ok (.iconst 4, 1) := by decide +kernel
theorem dX5_deal_24 : decode cX5_deal 24 = .ok (.idiv, 1) := by decide +kernel
theorem dX5_deal_25 : decode cX5_deal 25 = .ok (.istore_n 2, 1) := by decide +kernel
theorem dX5_deal_26 : decode cX5_deal 26 = .ok (.iinc 3 (-1), 3) := by decide +kernel
theorem dX5_deal_29 : decode cX5_deal 29 = .ok (.goto (-20), 3) := by decide +kernel
theorem dX5_deal_32 : decode cX5_deal 32 = .ok (.return_, 1) := by decide +kernel
theorem dX5_wasCall_0 : decode cX5_wasCall 0 = .ok (.aload_n 0, 1) := by decide +kernel
theorem dX5_wasCall_1 : decode cX5_wasCall 1 = .ok (.iload_n 1, 1) := by decide +kernel
theorem dX5_wasCall_2 : decode cX5_wasCall 2 = .ok (.iconst 0, 1) := by decide +kernel
theorem dX5_wasCall_3 : decode cX5_wasCall 3 = .ok (.aload_n 0, 1) := by decide +kernel
theorem dX5_wasCall_4 : decode cX5_wasCall 4 = .ok (.getfield 98, 3) := by decide +kernel
theorem dX5_wasCall_7 : decode cX5_wasCall 7 = .ok (.iconst 1, 1) := by decide +kernel
theorem dX5_wasCall_8 : decode cX5_wasCall 8 = .ok (.isub, 1) := by decide +kernel
theorem dX5_wasCall_9 : decode cX5_wasCall 9 = .ok (.invokestatic 91, 3) := by decide +kernel
theorem dX5_wasCall_12 : decode cX5_wasCall 12 = .ok (.ifCond .eq 7, 3) := by decide +kernel
theorem dX5_wasCall_15 : decode cX5_wasCall 15 = .ok (.iconst 0, 1) := by decide +kernel
theorem dX5_wasCall_16 : decode cX5_wasCall 16 = .ok (.goto 4, 3) := by decide +kernel
theorem dX5_wasCall_19 : decode cX5_wasCall 19 = .ok (.iconst 1, 1) := by decide +kernel
theorem dX5_wasCall_20 : decode cX5_wasCall 20 = .ok (.putfield 88, 3) := by decide +kernel
theorem dX5_wasCall_23 : decode cX5_wasCall 23 = .ok (.aload_n 0, 1) := by decide +kernel
theorem dX5_wasCall_24 : decode cX5_wasCall 24 = .ok (.getfield 88, 3) := by decide +kernel
theorem dX5_wasCall_27 : decode cX5_wasCall 27 = .ok (.ifCond .ne 7, 3) := by decide +kernel
theorem dX5_wasCall_30 : decode cX5_wasCall 30 = .ok (.iconst 1, 1) := by decide +kernel
theorem dX5_wasCall_31 : decode cX5_wasCall 31 = .ok (.goto 4, 3) := by decide +kernel
theorem dX5_wasCall_34 : decode cX5_wasCall 34 = .ok (.iconst 0, 1) := by decide +kernel
theorem dX5_wasCall_35 : decode cX5_wasCall 35 = .ok (.ireturn, 1) := by decide +kernel
theorem dX5_carOf_0 : decode cX5_carOf 0 = .ok (.aload_n 0, 1) := by decide +kernel
theorem dX5_carOf_1 : decode cX5_carOf 1 = .ok (.iload_n 1, 1) := by decide +kernel
theorem dX5_carOf_2 : decode cX5_carOf 2 = .ok (.invokevirtual 156, 3) := by decide +kernel
theorem dX5_carOf_5 : decode cX5_carOf 5 = .ok (.ifCond .eq 12, 3) := by decide +kernel
theorem dX5_carOf_8 : decode cX5_carOf 8 = .ok (.aload_n 0, 1) := by decide +kernel
theorem dX5_carOf_9 : decode cX5_carOf 9 = .ok (.getfield 47, 3) := by decide +kernel
theorem dX5_carOf_12 : decode cX5_carOf 12 = .ok (.iload_n 1, 1) := by decide +kernel
theorem dX5_carOf_13 : decode cX5_carOf 13 = .ok (.iaload, 1) := by decide +kernel
theorem dX5_carOf_14 : decode cX5_carOf 14 = .ok (.goto 4, 3) := by decide +kernel
theorem dX5_carOf_17 : decode cX5_carOf 17 = .ok (.iconst 0, 1) := by decide +kernel
theorem dX5_carOf_18 : decode cX5_carOf 18 = .ok (.ireturn, 1) := by decide +kernel
theorem dX5_turn_0 : decode cX5_turn 0 = .ok (.aload_n 0, 1) := by decide +kernel
theorem dX5_turn_1 : decode cX5_turn 1 = .ok (.aload_n 0, 1) := by decide +kernel
theorem dX5_turn_2 : decode cX5_turn 2 = .ok (.iload_n 1, 1) := by decide +kernel
theorem dX5_turn_3 : decode cX5_turn 3 = .ok (.invokevirtual 108, 3) := by decide +kernel
theorem dX5_turn_6 : decode cX5_turn 6 = .ok (.ifCond .eq 7, 3) := by decide +kernel
theorem dX5_turn_9 : decode cX5_turn 9 = .ok (.iload_n 2, 1) := by decide +kernel
theorem dX5_turn_10 : decode cX5_turn 10 = .ok (.ifCond .ge 7, 3) := by decide +kernel
theorem dX5_turn_13 : decode cX5_turn 13 = .ok (.iconst 1, 1) := by decide +kernel
theorem dX5_turn_14 : decode cX5_turn 14 = .ok (.goto 4, 3) := by decide +kernel
theorem dX5_turn_17 : decode cX5_turn 17 = .ok (.iconst 0, 1) := by decide +kernel
theorem dX5_turn_18 : decode cX5_turn 18 = .ok (.putfield 88, 3) := by decide +kernel
theorem dX5_turn_21 : decode cX5_turn 21 = .ok (.aload_n 0, 1) := by decide +kernel
theorem dX5_turn_22 : decode cX5_turn 22 = .ok (.getfield 88, 3) := by decide +kernel
theorem dX5_turn_25 : decode cX5_turn 25 = .ok (.ifCond .le 7, 3) := by decide +kernel
theorem dX5_turn_28 : decode cX5_turn 28 = .ok (.iconst 0, 1) := by decide +kernel
theorem dX5_turn_29 : decode cX5_turn 29 = .ok (.goto 28, 3) := by decide +kernel
theorem dX5_turn_32 : decode cX5_turn 32 = .ok (.iload_n 2, 1) := by decide +kernel
theorem dX5_turn_33 : decode cX5_turn 33 = .ok (.aload_n 0, 1) := by decide +kernel
theorem dX5_turn_34 : decode cX5_turn 34 = .ok (.getfield 62, 3) := by decide +kernel
theorem dX5_turn_37 : decode cX5_turn 37 = .ok (.iload_n 1, 1) := by decide +kernel
theorem dX5_turn_38 : decode cX5_turn 38 = .ok (.iaload, 1) := by decide +kernel
theorem dX5_turn_39 : decode cX5_turn 39 = .ok (.if_icmp .ge 17, 3) := by decide +kernel
theorem dX5_turn_42 : decode cX5_turn 42 = .ok (.aload_n 0, 1) := by decide +kernel
theorem dX5_turn_43 : decode cX5_turn 43 = .ok (.getfield 59, 3) := by decide +kernel
theorem dX5_turn_46 : decode cX5_turn 46 = .ok (.bipush 6, 2) := by decide +kernel
theorem dX5_turn_48 : decode cX5_turn 48 = .ok (.iload_n 1, 1) := by decide +kernel
theorem dX5_turn_49 : decode cX5_turn 49 = .ok (.imul, 1) := by decide +kernel
theorem dX5_turn_50 : decode cX5_turn 50 = .ok (.iload_n 2, 1) := by decide +kernel
theorem dX5_turn_51 : decode cX5_turn 51 = .ok (.iadd, 1) := by decide +kernel
theorem dX5_turn_52 : decode cX5_turn 52 = .ok (.iaload, 1) := by decide +kernel
theorem dX5_turn_53 : decode cX5_turn 53 = .ok (.goto 4, 3) := by decide +kernel
theorem dX5_turn_56 : decode cX5_turn 56 = .ok (.iconst (-1), 1) := by decide +kernel
theorem dX5_turn_57 : decode cX5_turn 57 = .ok (.ireturn, 1) := by decide +kernel
theorem dX5_told_0 : decode cX5_told 0 = .ok (.aload_n 0, 1) := by decide +kernel
theorem dX5_told_1 : decode cX5_told 1 = .ok (.iload_n 1, 1) := by decide +kernel
theorem dX5_told_2 : decode cX5_told 2 = .ok (.iconst 0, 1) := by decide +kernel
theorem dX5_told_3 : decode cX5_told 3 = .ok (.aload_n 0, 1) := by decide +kernel
theorem dX5_told_4 : decode cX5_told 4 = .ok (.getfield 98, 3) := by decide +kernel
theorem dX5_told_7 : decode cX5_told 7 = .ok (.iconst 1, 1) := by decide +kernel
theorem dX5_told_8 : decode cX5_told 8 = .ok (.isub, 1) := by decide +kernel
theorem dX5_told_9 : decode cX5_told 9 = .ok (.invokestatic 91, 3) := by decide +kernel
theorem dX5_told_12 : decode cX5_told 12 = .ok (.ifCond .eq 12, 3) := by decide +kernel
theorem dX5_told_15 : decode cX5_told 15 = .ok (.iload_n 2, 1) := by decide +kernel
theorem dX5_told_16 : decode cX5_told 16 = .ok (.iconst 0, 1) := by decide +kernel
theorem dX5_told_17 : decode cX5_told 17 = .ok (.iconst 2, 1) := by decide +kernel
theorem dX5_told_18 : decode cX5_told 18 = .ok (.invokestatic 91, 3) := by decide +kernel
theorem dX5_told_21 : decode cX5_told 21 = .ok (.ifCond .ne 7, 3) := by decide +kernel
theorem dX5_told_24 : decode cX5_told 24 = .ok (.iconst 1, 1) := by decide +kernel
theorem dX5_told_25 : decode cX5_told 25 = .ok (.goto 4, 3) := by decide +kernel
theorem dX5_told_28 : decode cX5_told 28 = .ok (.iconst 0, 1) := by decide +kernel
theorem dX5_told_29 : decode cX5_told 29 = .ok (.putfield 88, 3) := by decide +kernel
theorem dX5_told_32 : decode cX5_told 32 = .ok (.aload_n 0, 1) := by decide +kernel
theorem dX5_told_33 : decode cX5_told 33 = .ok (.getfield 88, 3) := by decide +kernel
theorem dX5_told_36 : decode cX5_told 36 = .ok (.ifCond .le 5, 3) := by decide +kernel
theorem dX5_told_39 : decode cX5_told 39 = .ok (.iconst 0, 1) := by decide +kernel
theorem dX5_told_40 : decode cX5_told 40 = .ok (.ireturn, 1) := by decide +kernel
theorem dX5_told_41 : decode cX5_told 41 = .ok (.aload_n 0, 1) := by decide +kernel
theorem dX5_told_42 : decode cX5_told 42 = .ok (.getfield 47, 3) := by decide +kernel
theorem dX5_told_45 : decode cX5_told 45 = .ok (.iload_n 1, 1) := by decide +kernel
theorem dX5_told_46 : decode cX5_told 46 = .ok (.iaload, 1) := by decide +kernel
theorem dX5_told_47 : decode cX5_told 47 = .ok (.iconst (-1), 1) := by decide +kernel
theorem dX5_told_48 : decode cX5_told 48 = .ok (.if_icmp .ne 7, 3) := by decide +kernel
theorem dX5_told_51 : decode cX5_told 51 = .ok (.iconst (-1), 1) := by decide +kernel
theorem dX5_told_52 : decode cX5_told 52 = .ok (.goto 36, 3) := by decide +kernel
theorem dX5_told_55 : decode cX5_told 55 = .ok (.iload_n 2, 1) := by decide +kernel
theorem dX5_told_56 : decode cX5_told 56 = .ok (.ifCond .ne 12, 3) := by decide +kernel
theorem dX5_told_59 : decode cX5_told 59 = .ok (.aload_n 0, 1) := by decide +kernel
theorem dX5_told_60 : decode cX5_told 60 = .ok (.getfield 50, 3) := by decide +kernel
theorem dX5_told_63 : decode cX5_told 63 = .ok (.iload_n 1, 1) := by decide +kernel
theorem dX5_told_64 : decode cX5_told 64 = .ok (.iaload, 1) := by decide +kernel
theorem dX5_told_65 : decode cX5_told 65 = .ok (.goto 23, 3) := by decide +kernel
theorem dX5_told_68 : decode cX5_told 68 = .ok (.iload_n 2, 1) := by decide +kernel
theorem dX5_told_69 : decode cX5_told 69 = .ok (.iconst 1, 1) := by decide +kernel
theorem dX5_told_70 : decode cX5_told 70 = .ok (.if_icmp .ne 12, 3) := by decide +kernel
theorem dX5_told_73 : decode cX5_told 73 = .ok (.aload_n 0, 1) := by decide +kernel
theorem dX5_told_74 : decode cX5_told 74 = .ok (.getfield 53, 3) := by decide +kernel
theorem dX5_told_77 : decode cX5_told 77 = .ok (.iload_n 1, 1) := by decide +kernel
theorem dX5_told_78 : decode cX5_told 78 = .ok (.iaload, 1) := by decide +kernel
theorem dX5_told_79 : decode cX5_told 79 = .ok (.goto 9, 3) := by decide +kernel
theorem dX5_told_82 : decode cX5_told 82 = .ok (.aload_n 0, 1) := by decide +kernel
theorem dX5_told_83 : decode cX5_told 83 = .ok (.getfield 56, 3) := by decide +kernel
theorem dX5_told_86 : decode cX5_told 86 = .ok (.iload_n 1, 1) := by decide +kernel
theorem dX5_told_87 : decode cX5_told 87 = .ok (.iaload, 1) := by decide +kernel
theorem dX5_told_88 : decode cX5_told 88 = .ok (.ireturn, 1) := by decide +kernel
theorem dX5_left_0 : decode cX5_left 0 = .ok (.aload_n 0, 1) := by decide +kernel
theorem dX5_left_1 : decode cX5_left 1 = .ok (.iconst 0, 1) := by decide +kernel
theorem dX5_left_2 : decode cX5_left 2 = .ok (.putfield 88, 3) := by decide +kernel
theorem dX5_left_5 : decode cX5_left 5 = .ok (.iconst 0, 1) := by decide +kernel
theorem dX5_left_6 : decode cX5_left 6 = .ok (.istore_n 1, 1) := by decide +kernel
theorem dX5_left_7 : decode cX5_left 7 = .ok (.iconst 0, 1) := by decide +kernel
theorem dX5_left_8 : decode cX5_left 8 = .ok (.istore_n 2, 1) := by decide +kernel
theorem dX5_left_9 : decode cX5_left 9 = .ok (.iload_n 2, 1) := by decide +kernel
theorem dX5_left_10 : decode cX5_left 10 = .ok (.aload_n 0, 1) := by decide +kernel
theorem dX5_left_11 : decode cX5_left 11 = .ok (.getfield 98, 3) := by decide +kernel
theorem dX5_left_14 : decode cX5_left 14 = .ok (.if_icmp .ge 34, 3) := by decide +kernel
theorem dX5_left_17 : decode cX5_left 17 = .ok (.iload_n 1, 1) := by decide +kernel
theorem dX5_left_18 : decode cX5_left 18 = .ok (.aload_n 0, 1) := by decide +kernel
theorem dX5_left_19 : decode cX5_left 19 = .ok (.getfield 38, 3) := by decide +kernel
theorem dX5_left_22 : decode cX5_left 22 = .ok (.iload_n 2, 1) := by decide +kernel
theorem dX5_left_23 : decode cX5_left 23 = .ok (.baload, 1) := by decide +kernel
theorem dX5_left_24 : decode cX5_left 24 = .ok (.ifCond .eq 15, 3) := by decide +kernel
theorem dX5_left_27 : decode cX5_left 27 = .ok (.aload_n 0, 1) := by decide +kernel
theorem dX5_left_28 : decode cX5_left 28 = .ok (.iload_n 2, 1) := by decide +kernel
theorem dX5_left_29 : decode cX5_left 29 = .ok (.invokevirtual 142, 3) := by decide +kernel
theorem dX5_left_32 : decode cX5_left 32 = .ok (.ifCond .ne 7, 3) := by decide +kernel
theorem dX5_left_35 : decode cX5_left 35 = .ok (.iconst 1, 1) := by decide +kernel
theorem dX5_left_36 : decode cX5_left 36 = .ok (.goto 4, 3) := by decide +kernel
theorem dX5_left_39 : decode cX5_left 39 = .ok (.iconst 0, 1) := by decide +kernel
theorem dX5_left_40 : decode cX5_left 40 = .ok (.iadd, 1) := by decide +kernel
theorem dX5_left_41 : decode cX5_left 41 = .ok (.istore_n 1, 1) := by decide +kernel
theorem dX5_left_42 : decode cX5_left 42 = .ok (.iinc 2 1, 3) := by decide +kernel
theorem dX5_left_45 : decode cX5_left 45 = .ok (.goto (-36), 3) := by decide +kernel
theorem dX5_left_48 : decode cX5_left 48 = .ok (.iload_n 1, 1) := by decide +kernel
theorem dX5_left_49 : decode cX5_left 49 = .ok (.ireturn, 1) := by decide +kernel
theorem dX5_cars_0 : decode cX5_cars 0 = .ok (.aload_n 0, 1) := by decide +kernel
theorem dX5_cars_1 : decode cX5_cars 1 = .ok (.aload_n 0, 1) := by decide +kernel
theorem dX5_cars_2 : decode cX5_cars 2 = .ok (.iload_n 1, 1) := by decide +kernel
theorem dX5_cars_3 : decode cX5_cars 3 = .ok (.invokevirtual 115, 3) := by decide +kernel
theorem dX5_cars_6 : decode cX5_cars 6 = .ok (.ifCond .eq 7, 3) := by decide +kernel
theorem dX5_cars_9 : decode cX5_cars 9 = .ok (.iconst 0, 1) := by decide +kernel
theorem dX5_cars_10 : decode cX5_cars 10 = .ok (.goto 4, 3) := by decide +kernel
theorem dX5_cars_13 : decode cX5_cars 13 = .ok (.iconst 1, 1) := by decide +kernel
theorem dX5_cars_14 : decode cX5_cars 14 = .ok (.putfield 88, 3) := by decide +kernel
theorem dX5_cars_17 : decode cX5_cars 17 = .ok (.aload_n 0, 1) := by decide +kernel
theorem dX5_cars_18 : decode cX5_cars 18 = .ok (.getfield 88, 3) := by decide +kernel
theorem dX5_cars_21 : decode cX5_cars 21 = .ok (.ifCond .le 7, 3) := by decide +kernel
theorem dX5_cars_24 : decode cX5_cars 24 = .ok (.iconst 0, 1) := by decide +kernel
theorem dX5_cars_25 : decode cX5_cars 25 = .ok (.goto 8, 3) := by decide +kernel
theorem dX5_cars_28 : decode cX5_cars 28 = .ok (.aload_n 0, 1) := by decide +kernel
theorem dX5_cars_29 : decode cX5_cars 29 = .ok (.iload_n 1, 1) := by decide +kernel
theorem dX5_cars_30 : decode cX5_cars 30 = .ok (.invokevirtual 142, 3) := by decide +kernel
theorem dX5_cars_33 : decode cX5_cars 33 = .ok (.ireturn, 1) := by decide +kernel
theorem dX5_open_0 : decode cX5_open 0 = .ok (.aload_n 0, 1) := by decide +kernel
theorem dX5_open_1 : decode cX5_open 1 = .ok (.iconst 0, 1) := by decide +kernel
theorem dX5_open_2 : decode cX5_open 2 = .ok (.putfield 88, 3) := by decide +kernel
theorem dX5_open_5 : decode cX5_open 5 = .ok (.aload_n 0, 1) := by decide +kernel
theorem dX5_open_6 : decode cX5_open 6 = .ok (.getfield 112, 3) := by decide +kernel
theorem dX5_open_9 : decode cX5_open 9 = .ok (.ireturn, 1) := by decide +kernel
theorem dX5_weight_0 : decode cX5_weight 0 = .ok (.aload_n 0, 1) := by decide +kernel
theorem dX5_weight_1 : decode cX5_weight 1 = .ok (.aload_n 0, 1) := by decide +kernel
theorem dX5_weight_2 : decode cX5_weight 2 = .ok (.iload_n 1, 1) := by decide +kernel
theorem dX5_weight_3 : decode cX5_weight 3 = .ok (.invokevirtual 115, 3) := by decide +kernel
theorem dX5_weight_6 : decode cX5_weight 6 = .ok (.ifCond .eq 7, 3) := by decide +kernel
theorem dX5_weight_9 : decode cX5_weight 9 = .ok (.iconst 0, 1) := by decide +kernel
theorem dX5_weight_10 : decode cX5_weight 10 = .ok (.goto 4, 3) := by decide +kernel
theorem dX5_weight_13 : decode cX5_weight 13 = .ok (.iconst 1, 1) := by decide +kernel
theorem dX5_weight_14 : decode cX5_weight 14 = .ok (.putfield 88, 3) := by decide +kernel
theorem dX5_weight_17 : decode cX5_weight 17 = .ok (.aload_n 0, 1) := by decide +kernel
theorem dX5_weight_18 : decode cX5_weight 18 = .ok (.getfield 88, 3) := by decide +kernel
theorem dX5_weight_21 : decode cX5_weight 21 = .ok (.ifCond .le 7, 3) := by decide +kernel
theorem dX5_weight_24 : decode cX5_weight 24 = .ok (.iconst 0, 1) := by decide +kernel
theorem dX5_weight_25 : decode cX5_weight 25 = .ok (.goto 8, 3) := by decide +kernel
theorem dX5_weight_28 : decode cX5_weight 28 = .ok (.aload_n 0, 1) := by decide +kernel
theorem dX5_weight_29 : decode cX5_weight 29 = .ok (.iload_n 1, 1) := by decide +kernel
theorem dX5_weight_30 : decode cX5_weight 30 = .ok (.invokevirtual 126, 3) := by decide +kernel
theorem dX5_weight_33 : decode cX5_weight 33 = .ok (.ireturn, 1) := by decide +kernel
end
section
theorem dL_cell_0 : decode cL_cell 0 = .ok (.iload_n 1, 1) := by decide +kernel
theorem dL_cell_1 : decode cL_cell 1 = .ok (.aload_n 0, 1) := by decide +kernel
theorem dL_cell_2 : decode cL_cell 2 = .ok (.arraylength, 1) := by decide +kernel
theorem dL_cell_3 : decode cL_cell 3 = .ok (.if_icmp .ge 9, 3) := by decide +kernel
theorem dL_cell_6 : decode cL_cell 6 = .ok (.aload_n 0, 1) := by decide +kernel
theorem dL_cell_7 : decode cL_cell 7 = .ok (.iload_n 1, 1) := by decide +kernel
theorem dL_cell_8 : decode cL_cell 8 = .ok (.iaload, 1) := by decide +kernel
theorem dL_cell_9 : decode cL_cell 9 = .ok (.goto 4, 3) := by decide +kernel
theorem dL_cell_12 : decode cL_cell 12 = .ok (.iconst 0, 1) := by decide +kernel
theorem dL_cell_13 : decode cL_cell 13 = .ok (.ireturn, 1) := by decide +kernel
theorem dL_car_0 : decode cL_car 0 = .ok (.aload_n 3, 1) := by decide +kernel
theorem dL_car_1 : decode cL_car 1 = .ok (.iconst 0, 1) := by decide +kernel
theorem dL_car_2 : decode cL_car 2 = .ok (.aload_n 0, 1) := by decide +kernel
theorem dL_car_3 : decode cL_car 3 = .ok (.iload_n 1, 1) := by decide +kernel
theorem dL_car_4 : decode cL_car 4 = .ok (.iload_n 2, 1) := by decide +kernel
theorem dL_car_5 : decode cL_car 5 = .ok (.invokevirtual 7, 3) := by decide +kernel
theorem dL_car_8 : decode cL_car 8 = .ok (.i2l, 1) := by decide +kernel
theorem dL_car_9 : decode cL_car 9 = .ok (.lastore, 1) := by decide +kernel
theorem dL_car_10 : decode cL_car 10 = .ok (.goto 11, 3) := by decide +kernel
theorem dL_car_13 : decode cL_car 13 = .ok (.astore 4, 2) := by decide +kernel
theorem dL_car_15 : decode cL_car 15 = .ok (.iconst 1, 1) := by decide +kernel
theorem dL_car_16 : decode cL_car 16 = .ok (.ireturn, 1) := by decide +kernel
theorem dL_car_17 : decode cL_car 17 = .ok (.astore 4, 2) := by decide +kernel
theorem dL_car_19 : decode cL_car 19 = .ok (.iconst 2, 1) := by decide +kernel
theorem dL_car_20 : decode cL_car 20 = .ok (.ireturn, 1) := by decide +kernel
theorem dL_car_21 : decode cL_car 21 = .ok (.iconst 0, 1) := by decide +kernel
theorem dL_car_22 : decode cL_car 22 = .ok (.ireturn, 1) := by decide +kernel
theorem dL_free_0 : decode cL_free 0 = .ok (.aload_n 0, 1) := by decide +kernel
theorem dL_free_1 : decode cL_free 1 = .ok (.iload_n 1, 1) := by decide +kernel
theorem dL_free_2 : decode cL_free 2 = .ok (.iload_n 2, 1) := by decide +kernel
theorem dL_free_3 : decode cL_free 3 = .ok (.iload_n 3, 1) := by decide +kernel
theorem dL_free_4 : decode cL_free 4 = .ok (.invokevirtual 17, 3) := by decide +kernel
theorem dL_free_7 : decode cL_free 7 = .ok (.goto 7, 3) := by decide +kernel
theorem dL_free_10 : decode cL_free 10 = .ok (.astore 4, 2) := by decide +kernel
theorem dL_free_12 : decode cL_free 12 = .ok (.iconst 1, 1) := by decide +kernel
theorem dL_free_13 : decode cL_free 13 = .ok (.ireturn, 1) := by decide +kernel
theorem dL_free_14 : decode cL_free 14 = .ok (.iconst 0, 1) := by decide +kernel
theorem dL_free_15 : decode cL_free 15 = .ok (.ireturn, 1) := by decide +kernel
theorem dL_zone_0 : decode cL_zone 0 = .ok (.aload_n 0, 1) := by decide +kernel
theorem dL_zone_1 : decode cL_zone 1 = .ok (.iload_n 1, 1) := by decide +kernel
theorem dL_zone_2 : decode cL_zone 2 = .ok (.iload_n 2, 1) := by decide +kernel
theorem dL_zone_3 : decode cL_zone 3 = .ok (.iload_n 3, 1) := by decide +kernel
theorem dL_zone_4 : decode cL_zone 4 = .ok (.invokevirtual 21, 3) := by decide +kernel
theorem dL_zone_7 : decode cL_zone 7 = .ok (.goto 7, 3) := by decide +kernel
theorem dL_zone_10 : decode cL_zone 10 = .ok (.astore 4, 2) := by decide +kernel
theorem dL_zone_12 : decode cL_zone 12 = .ok (.iconst 1, 1) := by decide +kernel
theorem dL_zone_13 : decode cL_zone 13 = .ok (.ireturn, 1) := by decide +kernel
theorem dL_zone_14 : decode cL_zone 14 = .ok (.iconst 0, 1) := by decide +kernel
theorem dL_zone_15 : decode cL_zone 15 = .ok (.ireturn, 1) := by decide +kernel
theorem dL_sleep_0 : decode cL_sleep 0 = .ok (.aload_n 3, 1) := by decide +kernel
theorem dL_sleep_1 : decode cL_sleep 1 = .ok (.iconst 0, 1) := by decide +kernel
theorem dL_sleep_2 : decode cL_sleep 2 = .ok (.aload_n 0, 1) := by decide +kernel
theorem dL_sleep_3 : decode cL_sleep 3 = .ok (.iload_n 1, 1) := by decide +kernel
theorem dL_sleep_4 : decode cL_sleep 4 = .ok (.iload_n 2, 1) := by decide +kernel
theorem dL_sleep_5 : decode cL_sleep 5 = .ok (.invokevirtual 24, 3) := by decide +kernel
theorem dL_sleep_8 : decode cL_sleep 8 = .ok (.ifCond .eq 7, 3) := by decide +kernel
theorem dL_sleep_11 : decode cL_sleep 11 = .ok (.lconst 1, 1) := by decide +kernel
theorem dL_sleep_12 : decode cL_sleep 12 = .ok (.goto 4, 3) := by decide +kernel
theorem dL_sleep_15 : decode cL_sleep 15 = .ok (.lconst 0, 1) := by decide +kernel
theorem dL_sleep_16 : decode cL_sleep 16 = .ok (.lastore, 1) := by decide +kernel
theorem dL_sleep_17 : decode cL_sleep 17 = .ok (.goto 7, 3) := by decide +kernel
theorem dL_sleep_20 : decode cL_sleep 20 = .ok (.astore 4, 2) := by decide +kernel
theorem dL_sleep_22 : decode cL_sleep 22 = .ok (.iconst 1, 1) := by decide +kernel
theorem dL_sleep_23 : decode cL_sleep 23 = .ok (.ireturn, 1) := by decide +kernel
theorem dL_sleep_24 : decode cL_sleep 24 = .ok (.iconst 0, 1) := by decide +kernel
theorem dL_sleep_25 : decode cL_sleep 25 = .ok (.ireturn, 1) := by decide +kernel
theorem dL_call_0 : decode cL_call 0 = .ok (.aload_n 3, 1) := by decide +kernel
theorem dL_call_1 : decode cL_call 1 = .ok (.iconst 0, 1) := by decide +kernel
theorem dL_call_2 : decode cL_call 2 = .ok (.aload_n 0, 1) := by decide +kernel
theorem dL_call_3 : decode cL_call 3 = .ok (.iload_n 1, 1) := by decide +kernel
theorem dL_call_4 : decode cL_call 4 = .ok (.iload_n 2, 1) := by decide +kernel
theorem dL_call_5 : decode cL_call 5 = .ok (.invokevirtual 28, 3) := by decide +kernel
theorem dL_call_8 : decode cL_call 8 = .ok (.i2l, 1) := by decide +kernel
theorem dL_call_9 : decode cL_call 9 = .ok (.lastore, 1) := by decide +kernel
theorem dL_call_10 : decode cL_call 10 = .ok (.goto 11, 3) := by decide +kernel
theorem dL_call_13 : decode cL_call 13 = .ok (.astore 4, 2) := by decide +kernel
theorem dL_call_15 : decode cL_call 15 = .ok (.iconst 1, 1) := by decide +kernel
theorem dL_call_16 : decode cL_call 16 = .ok (.ireturn, 1) := by decide +kernel
theorem dL_call_17 : decode cL_call 17 = .ok (.astore 4, 2) := by decide +kernel
theorem dL_call_19 : decode cL_call 19 = .ok (.iconst 2, 1) := by decide +kernel
theorem dL_call_20 : decode cL_call 20 = .ok (.ireturn, 1) := by decide +kernel
theorem dL_call_21 : decode cL_call 21 = .ok (.iconst 0, 1) := by decide +kernel
theorem dL_call_22 : decode cL_call 22 = .ok (.ireturn, 1) := by decide +kernel
theorem dL_urgent_0 : decode cL_urgent 0 = .ok (.aload_n 3, 1) := by decide +kernel
theorem dL_urgent_1 : decode cL_urgent 1 = .ok (.iconst 0, 1) := by decide +kernel
theorem dL_urgent_2 : decode cL_urgent 2 = .ok (.aload_n 0, 1) := by decide +kernel
theorem dL_urgent_3 : decode cL_urgent 3 = .ok (.iload_n 1, 1) := by decide +kernel
theorem dL_urgent_4 : decode cL_urgent 4 = .ok (.iload_n 2, 1) := by decide +kernel
theorem dL_urgent_5 : decode cL_urgent 5 = .ok (.invokevirtual 31, 3) := by decide +kernel
theorem dL_urgent_8 : decode cL_urgent 8 = .ok (.ifCond .eq 7, 3) := by decide +kernel
theorem dL_urgent_11 : decode cL_urgent 11 = .ok (.lconst 1, 1) := by decide +kernel
theorem dL_urgent_12 : decode cL_urgent 12 = .ok (.goto 4, 3) := by decide +kernel
theorem dL_urgent_15 : decode cL_urgent 15 = .ok (.lconst 0, 1) := by decide +kernel
theorem dL_urgent_16 : decode cL_urgent 16 = .ok (.lastore, 1) := by decide +kernel
theorem dL_urgent_17 : decode cL_urgent 17 = .ok (.goto 7, 3) := by decide +kernel
theorem dL_urgent_20 : decode cL_urgent 20 = .ok (.astore 4, 2) := by decide +kernel
theorem dL_urgent_22 : decode cL_urgent 22 = .ok (.iconst 1, 1) := by decide +kernel
theorem dL_urgent_23 : decode cL_urgent 23 = .ok (.ireturn, 1) := by decide +kernel
theorem dL_urgent_24 : decode cL_urgent 24 = .ok (.iconst 0, 1) := by decide +kernel
theorem dL_urgent_25 : decode cL_urgent 25 = .ok (.ireturn, 1) := by decide +kernel
theorem dL_begin_0 : decode cL_begin 0 = .ok (.aload_n 3, 1) := by decide +kernel
theorem dL_begin_1 : decode cL_begin 1 = .ok (.iconst 0, 1) := by decide +kernel
theorem dL_begin_2 : decode cL_begin 2 = .ok (.aload_n 0, 1) := by decide +kernel
theorem dL_begin_3 : decode cL_begin 3 = .ok (.iload_n 1, 1) := by decide +kernel
theorem dL_begin_4 : decode cL_begin 4 = .ok (.iload_n 2, 1) := by decide +kernel
theorem dL_begin_5 : decode cL_begin 5 = .ok (.invokevirtual 34, 3) := by decide +kernel
theorem dL_begin_8 : decode cL_begin 8 = .ok (.ifCond .eq 7, 3) := by decide +kernel
theorem dL_begin_11 : decode cL_begin 11 = .ok (.lconst 1, 1) := by decide +kernel
theorem dL_begin_12 : decode cL_begin 12 = .ok (.goto 4, 3) := by decide +kernel
theorem dL_begin_15 : decode cL_begin 15 = .ok (.lconst 0, 1) := by decide +kernel
theorem dL_begin_16 : decode cL_begin 16 = .ok (.lastore, 1) := by decide +kernel
theorem dL_begin_17 : decode cL_begin 17 = .ok (.goto 7, 3) := by decide +kernel
theorem dL_begin_20 : decode cL_begin 20 = .ok (.astore 4, 2) := by decide +kernel
theorem dL_begin_22 : decode cL_begin 22 = .ok (.iconst 1, 1) := by decide +kernel
theorem dL_begin_23 : decode cL_begin 23 = .ok (.ireturn, 1) := by decide +kernel
theorem dL_begin_24 : decode cL_begin 24 = .ok (.iconst 0, 1) := by decide +kernel
theorem dL_begin_25 : decode cL_begin 25 = .ok (.ireturn, 1) := by decide +kernel
theorem dL_done_0 : decode cL_done 0 = .ok (.aload_n 0, 1) := by decide +kernel
theorem dL_done_1 : decode cL_done 1 = .ok (.iload_n 1, 1) := by decide +kernel
theorem dL_done_2 : decode cL_done 2 = .ok (.invokevirtual 38, 3) := by decide +kernel
theorem dL_done_5 : decode cL_done 5 = .ok (.goto 6, 3) := by decide +kernel
theorem dL_done_8 : decode cL_done 8 = .ok (.astore_n 2, 1) := by decide +kernel
theorem dL_done_9 : decode cL_done 9 = .ok (.iconst 1, 1) := by decide +kernel
theorem dL_done_10 : decode cL_done 10 = .ok (.ireturn, 1) := by decide +kernel
theorem dL_done_11 : decode cL_done 11 = .ok (.iconst 0, 1) := by decide +kernel
theorem dL_done_12 : decode cL_done 12 = .ok (.ireturn, 1) := by decide +kernel
theorem dL_pass_0 : decode cL_pass 0 = .ok (.aload_n 2, 1) := by decide +kernel
theorem dL_pass_1 : decode cL_pass 1 = .ok (.iconst 0, 1) := by decide +kernel
theorem dL_pass_2 : decode cL_pass 2 = .ok (.aload_n 0, 1) := by decide +kernel
theorem dL_pass_3 : decode cL_pass 3 = .ok (.iload_n 1, 1) := by decide +kernel
theorem dL_pass_4 : decode cL_pass 4 = .ok (.invokevirtual 42, 3) := by decide +kernel
theorem dL_pass_7 : decode cL_pass 7 = .ok (.i2l, 1) := by decide +kernel
theorem dL_pass_8 : decode cL_pass 8 = .ok (.lastore, 1) := by decide +kernel
theorem dL_pass_9 : decode cL_pass 9 = .ok (.goto 6, 3) := by decide +kernel
theorem dL_pass_12 : decode cL_pass 12 = .ok (.astore_n 3, 1) := by decide +kernel
theorem dL_pass_13 : decode cL_pass 13 = .ok (.iconst 1, 1) := by decide +kernel
theorem dL_pass_14 : decode cL_pass 14 = .ok (.ireturn, 1) := by decide +kernel
theorem dL_pass_15 : decode cL_pass 15 = .ok (.iconst 0, 1) := by decide +kernel
theorem dL_pass_16 : decode cL_pass 16 = .ok (.ireturn, 1) := by decide +kernel
theorem dL_carOf_0 : decode cL_carOf 0 = .ok (.aload_n 2, 1) := by decide +kernel
theorem dL_carOf_1 : decode cL_carOf 1 = .ok (.iconst 0, 1) := by decide +kernel
theorem dL_carOf_2 : decode cL_carOf 2 = .ok (.aload_n 0, 1) := by decide +kernel
theorem dL_carOf_3 : decode cL_carOf 3 = .ok (.iload_n 1, 1) := by decide +kernel
theorem dL_carOf_4 : decode cL_carOf 4 = .ok (.invokevirtual 46, 3) := by decide +kernel
theorem dL_carOf_7 : decode cL_carOf 7 = .ok (.i2l, 1) := by decide +kernel
theorem dL_carOf_8 : decode cL_carOf 8 = .ok (.lastore, 1) := by decide +kernel
theorem dL_carOf_9 : decode cL_carOf 9 = .ok (.goto 6, 3) := by decide +kernel
theorem dL_carOf_12 : decode cL_carOf 12 = .ok (.astore_n 3, 1) := by decide +kernel
theorem dL_carOf_13 : decode cL_carOf 13 = .ok (.iconst 1, 1) := by decide +kernel
theorem dL_carOf_14 : decode cL_carOf 14 = .ok (.ireturn, 1) := by decide +kernel
theorem dL_carOf_15 : decode cL_carOf 15 = .ok (.iconst 0, 1) := by decide +kernel
theorem dL_carOf_16 : decode cL_carOf 16 = .ok (.ireturn, 1) := by decide +kernel
theorem dL_turn_0 : decode cL_turn 0 = .ok (.aload_n 3, 1) := by decide +kernel
theorem dL_turn_1 : decode cL_turn 1 = .ok (.iconst 0, 1) := by decide +kernel
theorem dL_turn_2 : decode cL_turn 2 = .ok (.aload_n 0, 1) := by decide +kernel
theorem dL_turn_3 : decode cL_turn 3 = .ok (.iload_n 1, 1) := by decide +kernel
theorem dL_turn_4 : decode cL_turn 4 = .ok (.iload_n 2, 1) := by decide +kernel
theorem dL_turn_5 : decode cL_turn 5 = .ok (.invokevirtual 49, 3) := by decide +kernel
theorem dL_turn_8 : decode cL_turn 8 = .ok (.i2l, 1) := by decide +kernel
theorem dL_turn_9 : decode cL_turn 9 = .ok (.lastore, 1) := by decide +kernel
theorem dL_turn_10 : decode cL_turn 10 = .ok (.goto 7, 3) := by decide +kernel
theorem dL_turn_13 : decode cL_turn 13 = .ok (.astore 4, 2) := by decide +kernel
theorem dL_turn_15 : decode cL_turn 15 = .ok (.iconst 1, 1) := by decide +kernel
theorem dL_turn_16 : decode cL_turn 16 = .ok (.ireturn, 1) := by decide +kernel
theorem dL_turn_17 : decode cL_turn 17 = .ok (.iconst 0, 1) := by decide +kernel
theorem dL_turn_18 : decode cL_turn 18 = .ok (.ireturn, 1) := by decide +kernel
theorem dL_told_0 : decode cL_told 0 = .ok (.aload_n 3, 1) := by decide +kernel
theorem dL_told_1 : decode cL_told 1 = .ok (.iconst 0, 1) := by decide +kernel
theorem dL_told_2 : decode cL_told 2 = .ok (.aload_n 0, 1) := by decide +kernel
theorem dL_told_3 : decode cL_told 3 = .ok (.iload_n 1, 1) := by decide +kernel
theorem dL_told_4 : decode cL_told 4 = .ok (.iload_n 2, 1) := by decide +kernel
theorem dL_told_5 : decode cL_told 5 = .ok (.invokevirtual 52, 3) := by decide +kernel
theorem dL_told_8 : decode cL_told 8 = .ok (.i2l, 1) := by decide +kernel
theorem dL_told_9 : decode cL_told 9 = .ok (.lastore, 1) := by decide +kernel
theorem dL_told_10 : decode cL_told 10 = .ok (.goto 7, 3) := by decide +kernel
theorem dL_told_13 : decode cL_told 13 = .ok (.astore 4, 2) := by decide +kernel
theorem dL_told_15 : decode cL_told 15 = .ok (.iconst 1, 1) := by decide +kernel
theorem dL_told_16 : decode cL_told 16 = .ok (.ireturn, 1) := by decide +kernel
theorem dL_told_17 : decode cL_told 17 = .ok (.iconst 0, 1) := by decide +kernel
theorem dL_told_18 : decode cL_told 18 = .ok (.ireturn, 1) := by decide +kernel
theorem dL_cars_0 : decode cL_cars 0 = .ok (.aload_n 2, 1) := by decide +kernel
theorem dL_cars_1 : decode cL_cars 1 = .ok (.iconst 0, 1) := by decide +kernel
theorem dL_cars_2 : decode cL_cars 2 = .ok (.aload_n 0, 1) := by decide +kernel
theorem dL_cars_3 : decode cL_cars 3 = .ok (.iload_n 1, 1) := by decide +kernel
theorem dL_cars_4 : decode cL_cars 4 = .ok (.invokevirtual 55, 3) := by decide +kernel
theorem dL_cars_7 : decode cL_cars 7 = .ok (.i2l, 1) := by decide +kernel
theorem dL_cars_8 : decode cL_cars 8 = .ok (.lastore, 1) := by decide +kernel
theorem dL_cars_9 : decode cL_cars 9 = .ok (.goto 6, 3) := by decide +kernel
theorem dL_cars_12 : decode cL_cars 12 = .ok (.astore_n 3, 1) := by decide +kernel
theorem dL_cars_13 : decode cL_cars 13 = .ok (.iconst 1, 1) := by decide +kernel
theorem dL_cars_14 : decode cL_cars 14 = .ok (.ireturn, 1) := by decide +kernel
theorem dL_cars_15 : decode cL_cars 15 = .ok (.iconst 0, 1) := by decide +kernel
theorem dL_cars_16 : decode cL_cars 16 = .ok (.ireturn, 1) := by decide +kernel
theorem dL_weight_0 : decode cL_weight 0 = .ok (.aload_n 2, 1) := by decide +kernel
theorem dL_weight_1 : decode cL_weight 1 = .ok (.iconst 0, 1) := by decide +kernel
theorem dL_weight_2 : decode cL_weight 2 = .ok (.aload_n 0, 1) := by decide +kernel
theorem dL_weight_3 : decode cL_weight 3 = .ok (.iload_n 1, 1) := by decide +kernel
theorem dL_weight_4 : decode cL_weight 4 = .ok (.invokevirtual 58, 3) := by decide +kernel
theorem dL_weight_7 : decode cL_weight 7 = .ok (.i2l, 1) := by decide +kernel
theorem dL_weight_8 : decode cL_weight 8 = .ok (.lastore, 1) := by decide +kernel
theorem dL_weight_9 : decode cL_weight 9 = .ok (.goto 6, 3) := by decide +kernel
theorem dL_weight_12 : decode cL_weight 12 = .ok (.astore_n 3, 1) := by decide +kernel
theorem dL_weight_13 : decode cL_weight 13 = .ok (.iconst 1, 1) := by decide +kernel
theorem dL_weight_14 : decode cL_weight 14 = .ok (.ireturn, 1) := by decide +kernel
theorem dL_weight_15 : decode cL_weight 15 = .ok (.iconst 0, 1) := by decide +kernel
theorem dL_weight_16 : decode cL_weight 16 = .ok (.ireturn, 1) := by decide +kernel
theorem dL_law_0 : decode cL_law 0 = .ok (.new 8, 3) := by decide +kernel
theorem dL_law_3 : decode cL_law 3 = .ok (.dup, 1) := by decide +kernel
theorem dL_law_4 : decode cL_law 4 = .ok (.aload_n 0, 1) := by decide +kernel
theorem dL_law_5 : decode cL_law 5 = .ok (.iconst 0, 1) := by decide +kernel
theorem dL_law_6 : decode cL_law 6 = .ok (.invokestatic 61, 3) := by decide +kernel
theorem dL_law_9 : decode cL_law 9 = .ok (.invokespecial 67, 3) := by decide +kernel
theorem dL_law_12 : decode cL_law 12 = .ok (.astore_n 1, 1) := by decide +kernel
theorem dL_law_13 : decode cL_law 13 = .ok (.new 69, 3) := by decide +kernel
theorem dL_law_16 : decode cL_law 16 = .ok (.dup, 1) := by decide +kernel
theorem dL_law_17 : decode cL_law 17 = .ok (.aload_n 0, 1) := by decide +kernel
theorem dL_law_18 : decode cL_law 18 = .ok (.iconst 0, 1) := by decide +kernel
theorem dL_law_19 : decode cL_law 19 = .ok (.invokestatic 61, 3) := by decide +kernel
theorem dL_law_22 : decode cL_law 22 = .ok (.invokespecial 71, 3) := by decide +kernel
theorem dL_law_25 : decode cL_law 25 = .ok (.astore_n 2, 1) := by decide +kernel
theorem dL_law_26 : decode cL_law 26 = .ok (.iconst 1, 1) := by decide +kernel
theorem dL_law_27 : decode cL_law 27 = .ok (.newarray .long, 2) := by decide +kernel
theorem dL_law_29 : decode cL_law 29 = .ok (.astore_n 3, 1) := by decide +kernel
theorem dL_law_30 : decode cL_law 30 = .ok (.iconst 1, 1) := by decide +kernel
theorem dL_law_31 : decode cL_law 31 = .ok (.istore 4, 2) := by decide +kernel
theorem dL_law_33 : decode cL_law 33 = .ok (.iload 4, 2) := by decide +kernel
theorem dL_law_35 : decode cL_law 35 = .ok (.aload_n 0, 1) := by decide +kernel
theorem dL_law_36 : decode cL_law 36 = .ok (.arraylength, 1) := by decide +kernel
theorem dL_law_37 : decode cL_law 37 = .ok (.iconst 4, 1) := by decide +kernel
theorem dL_law_38 : decode cL_law 38 = .ok (.isub, 1) := by decide +kernel
theorem dL_law_39 : decode cL_law 39 = .ok (.if_icmp .gt 1048, 3) := by decide +kernel
theorem dL_law_42 : decode cL_law 42 = .ok (.aload_n 0, 1) := by decide +kernel
theorem dL_law_43 : decode cL_law 43 = .ok (.iload 4, 2) := by decide +kernel
theorem dL_law_45 : decode cL_law 45 = .ok (.iaload, 1) := by decide +kernel
theorem dL_law_46 : decode cL_law 46 = .ok (.bipush 31, 2) := by decide +kernel
theorem dL_law_48 : decode cL_law 48 = .ok (.iand, 1) := by decide +kernel
theorem dL_law_49 : decode cL_law 49 = .ok (.tableswitch 1032 0 16 #[83, 151, 211, 271, 362, 430, 521, 596, 632, 688, 702, 758, 826, 894, 907, 963, 976], 83) := by decide +kernel
theorem dL_law_132 : decode cL_law 132 = .ok (.aload_n 1, 1) := by decide +kernel
theorem dL_law_133 : decode cL_law 133 = .ok (.aload_n 0, 1) := by decide +kernel
theorem dL_law_134 : decode cL_law 134 = .ok (.iload 4, 2) := by decide +kernel
theorem dL_law_136 : decode cL_law 136 = .ok (.iconst 1, 1) := by decide +kernel
theorem dL_law_137 : decode cL_law 137 = .ok (.iadd, 1) := by decide +kernel
theorem dL_law_138 : decode cL_law 138 = .ok (.iaload, 1) := by decide +kernel
theorem dL_law_139 : decode cL_law 139 = .ok (.aload_n 0, 1) := by decide +kernel
theorem dL_law_140 : decode cL_law 140 = .ok (.iload 4, 2) := by decide +kernel
theorem dL_law_142 : decode cL_law 142 = .ok (.iconst 2, 1) := by decide +kernel
theorem dL_law_143 : decode cL_law 143 = .ok (.iadd, 1) := by decide +kernel
theorem dL_law_144 : decode cL_law 144 = .ok (.iaload, 1) := by decide +kernel
theorem dL_law_145 : decode cL_law 145 = .ok (.aload_n 3, 1) := by decide +kernel
theorem dL_law_146 : decode cL_law 146 = .ok (.invokestatic 72, 3) := by decide +kernel
theorem dL_law_149 : decode cL_law 149 = .ok (.istore 5, 2) := by decide +kernel
theorem dL_law_151 : decode cL_law 151 = .ok (.aload_n 2, 1) := by decide +kernel
theorem dL_law_152 : decode cL_law 152 = .ok (.aload_n 0, 1) := by decide +kernel
theorem dL_law_153 : decode cL_law 153 = .ok (.iload 4, 2) := by decide +kernel
theorem dL_law_155 : decode cL_law 155 = .ok (.iconst 1, 1) := by decide +kernel
theorem dL_law_156 : decode cL_law 156 = .ok (.iadd, 1) := by decide +kernel
theorem dL_law_157 : decode cL_law 157 = .ok (.iaload, 1) := by decide +kernel
theorem dL_law_158 : decode cL_law 158 = .ok (.aload_n 0, 1) := by decide +kernel
theorem dL_law_159 : decode cL_law 159 = .ok (.iload 4, 2) := by decide +kernel
theorem dL_law_161 : decode cL_law 161 = .ok (.iconst 2, 1) := by decide +kernel
theorem dL_law_162 : decode cL_law 162 = .ok (.iadd, 1) := by decide +kernel
theorem dL_law_163 : decode cL_law 163 = .ok (.iaload, 1) := by decide +kernel
theorem dL_law_164 : decode cL_law 164 = .ok (.invokevirtual 75, 3) := by decide +kernel
theorem dL_law_167 : decode cL_law 167 = .ok (.istore 6, 2) := by decide +kernel
theorem dL_law_169 : decode cL_law 169 = .ok (.aload_n 2, 1) := by decide +kernel
theorem dL_law_170 : decode cL_law 170 = .ok (.invokevirtual 76, 3) := by decide +kernel
theorem dL_law_173 : decode cL_law 173 = .ok (.iload 5, 2) := by decide +kernel
theorem dL_law_175 : decode cL_law 175 = .ok (.if_icmp .eq 5, 3) := by decide +kernel
theorem dL_law_178 : decode cL_law 178 = .ok (.iconst 0, 1) := by decide +kernel
theorem dL_law_179 : decode cL_law 179 = .ok (.ireturn, 1) := by decide +kernel
theorem dL_law_180 : decode cL_law 180 = .ok (.iload 5, 2) := by decide +kernel
theorem dL_law_182 : decode cL_law 182 = .ok (.ifCond .ne 15, 3) := by decide +kernel
theorem dL_law_185 : decode cL_law 185 = .ok (.aload_n 3, 1) := by decide +kernel
theorem dL_law_186 : decode cL_law 186 = .ok (.iconst 0, 1) := by decide +kernel
theorem dL_law_187 : decode cL_law 187 = .ok (.laload, 1) := by decide +kernel
theorem dL_law_188 : decode cL_law 188 = .ok (.iload 6, 2) := by decide +kernel
theorem dL_law_190 : decode cL_law 190 = .ok (.i2l, 1) := by decide +kernel
theorem dL_law_191 : decode cL_law 191 = .ok (.lcmp, 1) := by decide +kernel
theorem dL_law_192 : decode cL_law 192 = .ok (.ifCond .eq 5, 3) := by decide +kernel
theorem dL_law_195 : decode cL_law 195 = .ok (.iconst 0, 1) := by decide +kernel
theorem dL_law_196 : decode cL_law 196 = .ok (.ireturn, 1) := by decide +kernel
theorem dL_law_197 : decode cL_law 197 = .ok (.goto 884, 3) := by decide +kernel
theorem dL_law_200 : decode cL_law 200 = .ok (.aload_n 1, 1) := by decide +kernel
theorem dL_law_201 : decode cL_law 201 = .ok (.aload_n 0, 1) := by decide +kernel
theorem dL_law_202 : decode cL_law 202 = .ok (.iload 4, 2) := by decide +kernel
theorem dL_law_204 : decode cL_law 204 = .ok (.iconst 1, 1) := by decide +kernel
theorem dL_law_205 : decode cL_law 205 = .ok (.iadd, 1) := by decide +kernel
theorem dL_law_206 : decode cL_law 206 = .ok (.iaload, 1) := by decide +kernel
theorem dL_law_207 : decode cL_law 207 = .ok (.aload_n 0, 1) := by decide +kernel
theorem dL_law_208 : decode cL_law 208 = .ok (.iload 4, 2) := by decide +kernel
theorem dL_law_210 : decode cL_law 210 = .ok (.iconst 2, 1) := by decide +kernel
theorem dL_law_211 : decode cL_law 211 = .ok (.iadd, 1) := by decide +kernel
theorem dL_law_212 : decode cL_law 212 = .ok (.iaload, 1) := by decide +kernel
theorem dL_law_213 : decode cL_law 213 = .ok (.aload_n 0, 1) := by decide +kernel
theorem dL_law_214 : decode cL_law 214 = .ok (.iload 4, 2) := by decide +kernel
theorem dL_law_216 : decode cL_law 216 = .ok (.iconst 3, 1) := by decide +kernel
theorem dL_law_217 : decode cL_law 217 = .ok (.iadd, 1) := by decide +kernel
theorem dL_law_218 : decode cL_law 218 = .ok (.iaload, 1) := by decide +kernel
theorem dL_law_219 : decode cL_law 219 = .ok (.invokestatic 80, 3) := by decide +kernel
theorem dL_law_222 : decode cL_law 222 = .ok (.istore 5, 2) := by decide +kernel
theorem dL_law_224 : decode cL_law 224 = .ok (.aload_n 2, 1) := by decide +kernel
theorem dL_law_225 : decode cL_law 225 = .ok (.aload_n 0, 1) := by decide +kernel
theorem dL_law_226 : decode cL_law 226 = .ok (.iload 4, 2) := by decide +kernel
theorem dL_law_228 : decode cL_law 228 = .ok (.iconst 1, 1) := by decide +kernel
theorem dL_law_229 : decode cL_law 229 = .ok (.iadd, 1) := by decide +kernel
theorem dL_law_230 : decode cL_law 230 = .ok (.iaload, 1) := by decide +kernel
theorem dL_law_231 : decode cL_law 231 = .ok (.aload_n 0, 1) := by decide +kernel
theorem dL_law_232 : decode cL_law 232 = .ok (.iload 4, 2) := by decide +kernel
theorem dL_law_234 : decode cL_law 234 = .ok (.iconst 2, 1) := by decide +kernel
theorem dL_law_235 : decode cL_law 235 = .ok (.iadd, 1) := by decide +kernel
theorem dL_law_236 : decode cL_law 236 = .ok (.iaload, 1) := by decide +kernel
theorem dL_law_237 : decode cL_law 237 = .ok (.aload_n 0, 1) := by decide +kernel
theorem dL_law_238 : decode cL_law 238 = .ok (.iload 4, 2) := by decide +kernel
theorem dL_law_240 : decode cL_law 240 = .ok (.iconst 3, 1) := by decide +kernel
theorem dL_law_241 : decode cL_law 241 = .ok (.iadd, 1) := by decide +kernel
theorem dL_law_242 : decode cL_law 242 = .ok (.iaload, 1) := by decide +kernel
theorem dL_law_243 : decode cL_law 243 = .ok (.invokevirtual 83, 3) := by decide +kernel
theorem dL_law_246 : decode cL_law 246 = .ok (.aload_n 2, 1) := by decide +kernel
theorem dL_law_247 : decode cL_law 247 = .ok (.invokevirtual 76, 3) := by decide +kernel
theorem dL_law_250 : decode cL_law 250 = .ok (.iload 5, 2) := by decide +kernel
theorem dL_law_252 : decode cL_law 252 = .ok (.if_icmp .eq 5, 3) := by decide +kernel
theorem dL_law_255 : decode cL_law 255 = .ok (.iconst 0, 1) := by decide +kernel
theorem dL_law_256 : decode cL_law 256 = .ok (.ireturn, 1) := by decide +kernel
theorem dL_law_257 : decode cL_law 257 = .ok (.goto 824, 3) := by decide +kernel
theorem dL_law_260 : decode cL_law 260 = .ok (.aload_n 1, 1) := by decide +kernel
theorem dL_law_261 : decode cL_law 261 = .ok (.aload_n 0, 1) := by decide +kernel
theorem dL_law_262 : decode cL_law 262 = .ok (.iload 4, 2) := by decide +kernel
theorem dL_law_264 : decode cL_law 264 = .ok (.iconst 1, 1) := by decide +kernel
theorem dL_law_265 : decode cL_law 265 = .ok (.iadd, 1) := by decide +kernel
theorem dL_law_266 : decode cL_law 266 = .ok (.iaload, 1) := by decide +kernel
theorem dL_law_267 : decode cL_law 267 = .ok (.aload_n 0, 1) := by decide +kernel
theorem dL_law_268 : decode cL_law 268 = .ok (.iload 4, 2) := by decide +kernel
theorem dL_law_270 : decode cL_law 270 = .ok (.iconst 2, 1) := by decide +kernel
theorem dL_law_271 : decode cL_law 271 = .ok (.iadd, 1) := by decide +kernel
theorem dL_law_272 : decode cL_law 272 = .ok (.iaload, 1) := by decide +kernel
theorem dL_law_273 : decode cL_law 273 = .ok (.aload_n 0, 1) := by decide +kernel
theorem dL_law_274 : decode cL_law 274 = .ok (.iload 4, 2) := by decide +kernel
theorem dL_law_276 : decode cL_law 276 = .ok (.iconst 3, 1) := by decide +kernel
theorem dL_law_277 : decode cL_law 277 = .ok (.iadd, 1) := by decide +kernel
theorem dL_law_278 : decode cL_law 278 = .ok (.iaload, 1) := by decide +kernel
theorem dL_law_279 : decode cL_law 279 = .ok (.invokestatic 84, 3) := by decide +kernel
theorem dL_law_282 : decode cL_law 282 = .ok (.istore 5, 2) := by decide +kernel
theorem dL_law_284 : decode cL_law 284 = .ok (.aload_n 2, 1) := by decide +kernel
theorem dL_law_285 : decode cL_law 285 = .ok (.aload_n 0, 1) := by decide +kernel
theorem dL_law_286 : decode cL_law 286 = .ok (.iload 4, 2) := by decide +kernel
theorem dL_law_288 : decode cL_law 288 = .ok (.iconst 1, 1) := by decide +kernel
theorem dL_law_289 : decode cL_law 289 = .ok (.iadd, 1) := by decide +kernel
theorem dL_law_290 : decode cL_law 290 = .ok (.iaload, 1) := by decide +kernel
theorem dL_law_291 : decode cL_law 291 = .ok (.aload_n 0, 1) := by decide +kernel
theorem dL_law_292 : decode cL_law 292 = .ok (.iload 4, 2) := by decide +kernel
theorem dL_law_294 : decode cL_law 294 = .ok (.iconst 2, 1) := by decide +kernel
theorem dL_law_295 : decode cL_law 295 = .ok (.iadd, 1) := by decide +kernel
theorem dL_law_296 : decode cL_law 296 = .ok (.iaload, 1) := by decide +kernel
theorem dL_law_297 : decode cL_law 297 = .ok (.aload_n 0, 1) := by decide +kernel
theorem dL_law_298 : decode cL_law 298 = .ok (.iload 4, 2) := by decide +kernel
theorem dL_law_300 : decode cL_law 300 = .ok (.iconst 3, 1) := by decide +kernel
theorem dL_law_301 : decode cL_law 301 = .ok (.iadd, 1) := by decide +kernel
theorem dL_law_302 : decode cL_law 302 = .ok (.iaload, 1) := by decide +kernel
theorem dL_law_303 : decode cL_law 303 = .ok (.invokevirtual 86, 3) := by decide +kernel
theorem dL_law_306 : decode cL_law 306 = .ok (.aload_n 2, 1) := by decide +kernel
theorem dL_law_307 : decode cL_law 307 = .ok (.invokevirtual 76, 3) := by decide +kernel
theorem dL_law_310 : decode cL_law 310 = .ok (.iload 5, 2) := by decide +kernel
theorem dL_law_312 : decode cL_law 312 = .ok (.if_icmp .eq 5, 3) := by decide +kernel
theorem dL_law_315 : decode cL_law 315 = .ok (.iconst 0, 1) := by decide +kernel
theorem dL_law_316 : decode cL_law 316 = .ok (.ireturn, 1) := by decide +kernel
theorem dL_law_317 : decode cL_law 317 = .ok (.goto 764, 3) := by decide +kernel
theorem dL_law_320 : decode cL_law 320 = .ok (.aload_n 1, 1) := by decide +kernel
theorem dL_law_321 : decode cL_law 321 = .ok (.aload_n 0, 1) := by decide +kernel
theorem dL_law_322 : decode cL_law 322 = .ok (.iload 4, 2) := by decide +kernel
theorem dL_law_324 : decode cL_law 324 = .ok (.iconst 1, 1) := by decide +kernel
theorem dL_law_325 : decode cL_law 325 = .ok (.iadd, 1) := by decide +kernel
theorem dL_law_326 : decode cL_law 326 = .ok (.iaload, 1) := by decide +kernel
theorem dL_law_327 : decode cL_law 327 = .ok (.aload_n 0, 1) := by decide +kernel
theorem dL_law_328 : decode cL_law 328 = .ok (.iload 4, 2) := by decide +kernel
theorem dL_law_330 : decode cL_law 330 = .ok (.iconst 2, 1) := by decide +kernel
theorem dL_law_331 : decode cL_law 331 = .ok (.iadd, 1) := by decide +kernel
theorem dL_law_332 : decode cL_law 332 = .ok (.iaload, 1) := by decide +kernel
theorem dL_law_333 : decode cL_law 333 = .ok (.ifCond .eq 7, 3) := by decide +kernel
theorem dL_law_336 : decode cL_law 336 = .ok (.iconst 1, 1) := by decide +kernel
theorem dL_law_337 : decode cL_law 337 = .ok (.goto 4, 3) := by decide +kernel
theorem dL_law_340 : decode cL_law 340 = .ok (.iconst 0, 1) := by decide +kernel
theorem dL_law_341 : decode cL_law 341 = .ok (.aload_n 3, 1) := by decide +kernel
theorem dL_law_342 : decode cL_law 342 = .ok (.invokestatic 87, 3) := by decide +kernel
theorem dL_law_345 : decode cL_law 345 = .ok (.istore 5, 2) := by decide +kernel
theorem dL_law_347 : decode cL_law 347 = .ok (.aload_n 2, 1) := by decide +kernel
theorem dL_law_348 : decode cL_law 348 = .ok (.aload_n 0, 1) := by decide +kernel
theorem dL_law_349 : decode cL_law 349 = .ok (.iload 4, 2) := by decide +kernel
theorem dL_law_351 : decode cL_law 351 = .ok (.iconst 1, 1) := by decide +kernel
theorem dL_law_352 : decode cL_law 352 = .ok (.iadd, 1) := by decide +kernel
theorem dL_law_353 : decode cL_law 353 = .ok (.iaload, 1) := by decide +kernel
theorem dL_law_354 : decode cL_law 354 = .ok (.aload_n 0, 1) := by decide +kernel
theorem dL_law_355 : decode cL_law 355 = .ok (.iload 4, 2) := by decide +kernel
theorem dL_law_357 : decode cL_law 357 = .ok (.iconst 2, 1) := by decide +kernel
theorem dL_law_358 : decode cL_law 358 = .ok (.iadd, 1) := by decide +kernel
theorem dL_law_359 : decode cL_law 359 = .ok (.iaload, 1) := by decide +kernel
theorem dL_law_360 : decode cL_law 360 = .ok (.ifCond .eq 7, 3) := by decide +kernel
theorem dL_law_363 : decode cL_law 363 = .ok (.iconst 1, 1) := by decide +kernel
theorem dL_law_364 : decode cL_law 364 = .ok (.goto 4, 3) := by decide +kernel
theorem dL_law_367 : decode cL_law 367 = .ok (.iconst 0, 1) := by decide +kernel
theorem dL_law_368 : decode cL_law 368 = .ok (.invokevirtual 90, 3) := by decide +kernel
theorem dL_law_371 : decode cL_law 371 = .ok (.istore 6, 2) := by decide +kernel
theorem dL_law_373 : decode cL_law 373 = .ok (.aload_n 2, 1) := by decide +kernel
theorem dL_law_374 : decode cL_law 374 = .ok (.invokevirtual 76, 3) := by decide +kernel
theorem dL_law_377 : decode cL_law 377 = .ok (.iload 5, 2) := by decide +kernel
theorem dL_law_379 : decode cL_law 379 = .ok (.if_icmp .eq 5, 3) := by decide +kernel
theorem dL_law_382 : decode cL_law 382 = .ok (.iconst 0, 1) := by decide +kernel
theorem dL_law_383 : decode cL_law 383 = .ok (.ireturn, 1) := by decide +kernel
theorem dL_law_384 : decode cL_law 384 = .ok (.iload 5, 2) := by decide +kernel
theorem dL_law_386 : decode cL_law 386 = .ok (.ifCond .ne 22, 3) := by decide +kernel
theorem dL_law_389 : decode cL_law 389 = .ok (.aload_n 3, 1) := by decide +kernel
theorem dL_law_390 : decode cL_law 390 = .ok (.iconst 0, 1) := by decide +kernel
theorem dL_law_391 : decode cL_law 391 = .ok (.laload, 1) := by decide +kernel
theorem dL_law_392 : decode cL_law 392 = .ok (.iload 6, 2) := by decide +kernel
theorem dL_law_394 : decode cL_law 394 = .ok (.ifCond .eq 7, 3) := by decide +kernel
theorem dL_law_397 : decode cL_law 397 = .ok (.lconst 1, 1) := by decide +kernel
theorem dL_law_398 : decode cL_law 398 = .ok (.goto 4, 3) := by decide +kernel
theorem dL_law_401 : decode cL_law 401 = .ok (.lconst 0, 1) := by decide +kernel
theorem dL_law_402 : decode cL_law 402 = .ok (.lcmp, 1) := by decide +kernel
theorem dL_law_403 : decode cL_law 403 = .ok (.ifCond .eq 5, 3) := by decide +kernel
theorem dL_law_406 : decode cL_law 406 = .ok (.iconst 0, 1) := by decide +kernel
theorem dL_law_407 : decode cL_law 407 = .ok (.ireturn, 1) := by decide +kernel
theorem dL_law_408 : decode cL_law 408 = .ok (.goto 673, 3) := by decide +kernel
theorem dL_law_411 : decode cL_law 411 = .ok (.aload_n 1, 1) := by decide +kernel
theorem dL_law_412 : decode cL_law 412 = .ok (.aload_n 0, 1) := by decide +kernel
theorem dL_law_413 : decode cL_law 413 = .ok (.iload 4, 2) := by decide +kernel
theorem dL_law_415 : decode cL_law 415 = .ok (.iconst 1, 1) := by decide +kernel
theorem dL_law_416 : decode cL_law 416 = .ok (.iadd, 1) := by decide +kernel
theorem dL_law_417 : decode cL_law 417 = .ok (.iaload, 1) := by decide +kernel
theorem dL_law_418 : decode cL_law 418 = .ok (.aload_n 0, 1) := by decide +kernel
theorem dL_law_419 : decode cL_law 419 = .ok (.iload 4, 2) := by decide +kernel
theorem dL_law_421 : decode cL_law 421 = .ok (.iconst 2, 1) := by decide +kernel
theorem dL_law_422 : decode cL_law 422 = .ok (.iadd, 1) := by decide +kernel
theorem dL_law_423 : decode cL_law 423 = .ok (.iaload, 1) := by decide +kernel
theorem dL_law_424 : decode cL_law 424 = .ok (.aload_n 3, 1) := by decide +kernel
theorem dL_law_425 : decode cL_law 425 = .ok (.invokestatic 91, 3) := by decide +kernel
theorem dL_law_428 : decode cL_law 428 = .ok (.istore 5, 2) := by decide +kernel
theorem dL_law_430 : decode cL_law 430 = .ok (.aload_n 2, 1) := by decide +kernel
theorem dL_law_431 : decode cL_law 431 = .ok (.aload_n 0, 1) := by decide +kernel
theorem dL_law_432 : decode cL_law 432 = .ok (.iload 4, 2) := by decide +kernel
theorem dL_law_434 : decode cL_law 434 = .ok (.iconst 1, 1) := by decide +kernel
theorem dL_law_435 : decode cL_law 435 = .ok (.iadd, 1) := by decide +kernel
theorem dL_law_436 : decode cL_law 436 = .ok (.iaload, 1) := by decide +kernel
theorem dL_law_437 : decode cL_law 437 = .ok (.aload_n 0, 1) := by decide +kernel
theorem dL_law_438 : decode cL_law 438 = .ok (.iload 4, 2) := by decide +kernel
theorem dL_law_440 : decode cL_law 440 = .ok (.iconst 2, 1) := by decide +kernel
theorem dL_law_441 : decode cL_law 441 = .ok (.iadd, 1) := by decide +kernel
theorem dL_law_442 : decode cL_law 442 = .ok (.iaload, 1) := by decide +kernel
theorem dL_law_443 : decode cL_law 443 = .ok (.invokevirtual 93, 3) := by decide +kernel
theorem dL_law_446 : decode cL_law 446 = .ok (.istore 6, 2) := by decide +kernel
theorem dL_law_448 : decode cL_law 448 = .ok (.aload_n 2, 1) := by decide +kernel
theorem dL_law_449 : decode cL_law 449 = .ok (.invokevirtual 76, 3) := by decide +kernel
theorem dL_law_452 : decode cL_law 452 = .ok (.iload 5, 2) := by decide +kernel
theorem dL_law_454 : decode cL_law 454 = .ok (.if_icmp .eq 5, 3) := by decide +kernel
theorem dL_law_457 : decode cL_law 457 = .ok (.iconst 0, 1) := by decide +kernel
theorem dL_law_458 : decode cL_law 458 = .ok (.ireturn, 1) := by decide +kernel
theorem dL_law_459 : decode cL_law 459 = .ok (.iload 5, 2) := by decide +kernel
theorem dL_law_461 : decode cL_law 461 = .ok (.ifCond .ne 15, 3) := by decide +kernel
theorem dL_law_464 : decode cL_law 464 = .ok (.aload_n 3, 1) := by decide +kernel
theorem dL_law_465 : decode cL_law 465 = .ok (.iconst 0, 1) := by decide +kernel
theorem dL_law_466 : decode cL_law 466 = .ok (.laload, 1) := by decide +kernel
theorem dL_law_467 : decode cL_law 467 = .ok (.iload 6, 2) := by decide +kernel
theorem dL_law_469 : decode cL_law 469 = .ok (.i2l, 1) := by decide +kernel
theorem dL_law_470 : decode cL_law 470 = .ok (.lcmp, 1) := by decide +kernel
theorem dL_law_471 : decode cL_law 471 = .ok (.ifCond .eq 5, 3) := by decide +kernel
theorem dL_law_474 : decode cL_law 474 = .ok (.iconst 0, 1) := by decide +kernel
theorem dL_law_475 : decode cL_law 475 = .ok (.ireturn, 1) := by decide +kernel
theorem dL_law_476 : decode cL_law 476 = .ok (.goto 605, 3) := by decide +kernel
theorem dL_law_479 : decode cL_law 479 = .ok (.aload_n 1, 1) := by decide +kernel
theorem dL_law_480 : decode cL_law 480 = .ok (.aload_n 0, 1) := by decide +kernel
theorem dL_law_481 : decode cL_law 481 = .ok (.iload 4, 2) := by decide +kernel
theorem dL_law_483 : decode cL_law 483 = .ok (.iconst 1, 1) := by decide +kernel
theorem dL_law_484 : decode cL_law 484 = .ok (.iadd, 1) := by decide +kernel
theorem dL_law_485 : decode cL_law 485 = .ok (.iaload, 1) := by decide +kernel
theorem dL_law_486 : decode cL_law 486 = .ok (.aload_n 0, 1) := by decide +kernel
theorem dL_law_487 : decode cL_law 487 = .ok (.iload 4, 2) := by decide +kernel
theorem dL_law_489 : decode cL_law 489 = .ok (.iconst 2, 1) := by decide +kernel
theorem dL_law_490 : decode cL_law 490 = .ok (.iadd, 1) := by decide +kernel
theorem dL_law_491 : decode cL_law 491 = .ok (.iaload, 1) := by decide +kernel
theorem dL_law_492 : decode cL_law 492 = .ok (.ifCond .eq 7, 3) := by decide +kernel
theorem dL_law_495 : decode cL_law 495 = .ok (.iconst 1, 1) := by decide +kernel
theorem dL_law_496 : decode cL_law 496 = .ok (.goto 4, 3) := by decide +kernel
theorem dL_law_499 : decode cL_law 499 = .ok (.iconst 0, 1) := by decide +kernel
theorem dL_law_500 : decode cL_law 500 = .ok (.aload_n 3, 1) := by decide +kernel
theorem dL_law_501 : decode cL_law 501 = .ok (.invokestatic 94, 3) := by decide +kernel
theorem dL_law_504 : decode cL_law 504 = .ok (.istore 5, 2) := by decide +kernel
theorem dL_law_506 : decode cL_law 506 = .ok (.aload_n 2, 1) := by decide +kernel
theorem dL_law_507 : decode cL_law 507 = .ok (.aload_n 0, 1) := by decide +kernel
theorem dL_law_508 : decode cL_law 508 = .ok (.iload 4, 2) := by decide +kernel
theorem dL_law_510 : decode cL_law 510 = .ok (.iconst 1, 1) := by decide +kernel
theorem dL_law_511 : decode cL_law 511 = .ok (.iadd, 1) := by decide +kernel
theorem dL_law_512 : decode cL_law 512 = .ok (.iaload, 1) := by decide +kernel
theorem dL_law_513 : decode cL_law 513 = .ok (.aload_n 0, 1) := by decide +kernel
theorem dL_law_514 : decode cL_law 514 = .ok (.iload 4, 2) := by decide +kernel
theorem dL_law_516 : decode cL_law 516 = .ok (.iconst 2, 1) := by decide +kernel
theorem dL_law_517 : decode cL_law 517 = .ok (.iadd, 1) := by decide +kernel
theorem dL_law_518 : decode cL_law 518 = .ok (.iaload, 1) := by decide +kernel
theorem dL_law_519 : decode cL_law 519 = .ok (.ifCond .eq 7, 3) := by decide +kernel
theorem dL_law_522 : decode cL_law 522 = .ok (.iconst 1, 1) := by decide +kernel
theorem dL_law_523 : decode cL_law 523 = .ok (.goto 4, 3) := by decide +kernel
theorem dL_law_526 : decode cL_law 526 = .ok (.iconst 0, 1) := by decide +kernel
theorem dL_law_527 : decode cL_law 527 = .ok (.invokevirtual 96, 3) := by decide +kernel
theorem dL_law_530 : decode cL_law 530 = .ok (.istore 6, 2) := by decide +kernel
theorem dL_law_532 : decode cL_law 532 = .ok (.aload_n 2, 1) := by decide +kernel
theorem dL_law_533 : decode cL_law 533 = .ok (.invokevirtual 76, 3) := by decide +kernel
theorem dL_law_536 : decode cL_law 536 = .ok (.iload 5, 2) := by decide +kernel
theorem dL_law_538 : decode cL_law 538 = .ok (.if_icmp .eq 5, 3) := by decide +kernel
theorem dL_law_541 : decode cL_law 541 = .ok (.iconst 0, 1) := by decide +kernel
theorem dL_law_542 : decode cL_law 542 = .ok (.ireturn, 1) := by decide +kernel
theorem dL_law_543 : decode cL_law 543 = .ok (.iload 5, 2) := by decide +kernel
theorem dL_law_545 : decode cL_law 545 = .ok (.ifCond .ne 22, 3) := by decide +kernel
theorem dL_law_548 : decode cL_law 548 = .ok (.aload_n 3, 1) := by decide +kernel
theorem dL_law_549 : decode cL_law 549 = .ok (.iconst 0, 1) := by decide +kernel
theorem dL_law_550 : decode cL_law 550 = .ok (.laload, 1) := by decide +kernel
theorem dL_law_551 : decode cL_law 551 = .ok (.iload 6, 2) := by decide +kernel
theorem dL_law_553 : decode cL_law 553 = .ok (.ifCond .eq 7, 3) := by decide +kernel
theorem dL_law_556 : decode cL_law 556 = .ok (.lconst 1, 1) := by decide +kernel
theorem dL_law_557 : decode cL_law 557 = .ok (.goto 4, 3) := by decide +kernel
theorem dL_law_560 : decode cL_law 560 = .ok (.lconst 0, 1) := by decide +kernel
theorem dL_law_561 : decode cL_law 561 = .ok (.lcmp, 1) := by decide +kernel
theorem dL_law_562 : decode cL_law 562 = .ok (.ifCond .eq 5, 3) := by decide +kernel
theorem dL_law_565 : decode cL_law 565 = .ok (.iconst 0, 1) := by decide +kernel
theorem dL_law_566 : decode cL_law 566 = .ok (.ireturn, 1) := by decide +kernel
theorem dL_law_567 : decode cL_law 567 = .ok (.goto 514, 3) := by decide +kernel
theorem dL_law_570 : decode cL_law 570 = .ok (.aload_n 1, 1) := by decide +kernel
theorem dL_law_571 : decode cL_law 571 = .ok (.aload_n 0, 1) := by decide +kernel
theorem dL_law_572 : decode cL_law 572 = .ok (.iload 4, 2) := by decide +kernel
theorem dL_law_574 : decode cL_law 574 = .ok (.iconst 1, 1) := by decide +kernel
theorem dL_law_575 : decode cL_law 575 = .ok (.iadd, 1) := by decide +kernel
theorem dL_law_576 : decode cL_law 576 = .ok (.iaload, 1) := by decide +kernel
theorem dL_law_577 : decode cL_law 577 = .ok (.aload_n 0, 1) := by decide +kernel
theorem dL_law_578 : decode cL_law 578 = .ok (.iload 4, 2) := by decide +kernel
theorem dL_law_580 : decode cL_law 580 = .ok (.iconst 2, 1) := by decide +kernel
theorem dL_law_581 : decode cL_law 581 = .ok (.iadd, 1) := by decide +kernel
theorem dL_law_582 : decode cL_law 582 = .ok (.iaload, 1) := by decide +kernel
theorem dL_law_583 : decode cL_law 583 = .ok (.aload_n 3, 1) := by decide +kernel
theorem dL_law_584 : decode cL_law 584 = .ok (.invokestatic 97, 3) := by decide +kernel
theorem dL_law_587 : decode cL_law 587 = .ok (.istore 5, 2) := by decide +kernel
theorem dL_law_589 : decode cL_law 589 = .ok (.aload_n 2, 1) := by decide +kernel
theorem dL_law_590 : decode cL_law 590 = .ok (.aload_n 0, 1) := by decide +kernel
theorem dL_law_591 : decode cL_law 591 = .ok (.iload 4, 2) := by decide +kernel
theorem dL_law_593 : decode cL_law 593 = .ok (.iconst 1, 1) := by decide +kernel
theorem dL_law_594 : decode cL_law 594 = .ok (.iadd, 1) := by decide +kernel
theorem dL_law_595 : decode cL_law 595 = .ok (.iaload, 1) := by decide +kernel
theorem dL_law_596 : decode cL_law 596 = .ok (.aload_n 0, 1) := by decide +kernel
theorem dL_law_597 : decode cL_law 597 = .ok (.iload 4, 2) := by decide +kernel
theorem dL_law_599 : decode cL_law 599 = .ok (.iconst 2, 1) := by decide +kernel
theorem dL_law_600 : decode cL_law 600 = .ok (.iadd, 1) := by decide +kernel
theorem dL_law_601 : decode cL_law 601 = .ok (.iaload, 1) := by decide +kernel
theorem dL_law_602 : decode cL_law 602 = .ok (.invokevirtual 99, 3) := by decide +kernel
theorem dL_law_605 : decode cL_law 605 = .ok (.istore 6, 2) := by decide +kernel
theorem dL_law_607 : decode cL_law 607 = .ok (.aload_n 2, 1) := by decide +kernel
theorem dL_law_608 : decode cL_law 608 = .ok (.invokevirtual 76, 3) := by decide +kernel
theorem dL_law_611 : decode cL_law 611 = .ok (.iload 5, 2) := by decide +kernel
theorem dL_law_613 : decode cL_law 613 = .ok (.if_icmp .eq 5, 3) := by decide +kernel
theorem dL_law_616 : decode cL_law 616 = .ok (.iconst 0, 1) := by decide +kernel
theorem dL_law_617 : decode cL_law 617 = .ok (.ireturn, 1) := by decide +kernel
theorem dL_law_618 : decode cL_law 618 = .ok (.iload 5, 2) := by decide +kernel
theorem dL_law_620 : decode cL_law 620 = .ok (.ifCond .ne 22, 3) := by decide +kernel
theorem dL_law_623 : decode cL_law 623 = .ok (.aload_n 3, 1) := by decide +kernel
theorem dL_law_624 : decode cL_law 624 = .ok (.iconst 0, 1) := by decide +kernel
theorem dL_law_625 : decode cL_law 625 = .ok (.laload, 1) := by decide +kernel
theorem dL_law_626 : decode cL_law 626 = .ok (.iload 6, 2) := by decide +kernel
theorem dL_law_628 : decode cL_law 628 = .ok (.ifCond .eq 7, 3) := by decide +kernel
theorem dL_law_631 : decode cL_law 631 = .ok (.lconst 1, 1) := by decide +kernel
theorem dL_law_632 : decode cL_law 632 = .ok (.goto 4, 3) := by decide +kernel
theorem dL_law_635 : decode cL_law 635 = .ok (.lconst 0, 1) := by decide +kernel
theorem dL_law_636 : decode cL_law 636 = .ok (.lcmp, 1) := by decide +kernel
theorem dL_law_637 : decode cL_law 637 = .ok (.ifCond .eq 5, 3) := by decide +kernel
theorem dL_law_640 : decode cL_law 640 = .ok (.iconst 0, 1) := by decide +kernel
theorem dL_law_641 : decode cL_law 641 = .ok (.ireturn, 1) := by decide +kernel
theorem dL_law_642 : decode cL_law 642 = .ok (.goto 439, 3) := by decide +kernel
theorem dL_law_645 : decode cL_law 645 = .ok (.aload_n 1, 1) := by decide +kernel
theorem dL_law_646 : decode cL_law 646 = .ok (.aload_n 0, 1) := by decide +kernel
theorem dL_law_647 : decode cL_law 647 = .ok (.iload 4, 2) := by decide +kernel
theorem dL_law_649 : decode cL_law 649 = .ok (.iconst 1, 1) := by decide +kernel
theorem dL_law_650 : decode cL_law 650 = .ok (.iadd, 1) := by decide +kernel
theorem dL_law_651 : decode cL_law 651 = .ok (.iaload, 1) := by decide +kernel
theorem dL_law_652 : decode cL_law 652 = .ok (.invokestatic 100, 3) := by decide +kernel
theorem dL_law_655 : decode cL_law 655 = .ok (.istore 5, 2) := by decide +kernel
theorem dL_law_657 : decode cL_law 657 = .ok (.aload_n 2, 1) := by decide +kernel
theorem dL_law_658 : decode cL_law 658 = .ok (.aload_n 0, 1) := by decide +kernel
theorem dL_law_659 : decode cL_law 659 = .ok (.iload 4, 2) := by decide +kernel
theorem dL_law_661 : decode cL_law 661 = .ok (.iconst 1, 1) := by decide +kernel
theorem dL_law_662 : decode cL_law 662 = .ok (.iadd, 1) := by decide +kernel
theorem dL_law_663 : decode cL_law 663 = .ok (.iaload, 1) := by decide +kernel
theorem dL_law_664 : decode cL_law 664 = .ok (.invokevirtual 103, 3) := by decide +kernel
theorem dL_law_667 : decode cL_law 667 = .ok (.aload_n 2, 1) := by decide +kernel
theorem dL_law_668 : decode cL_law 668 = .ok (.invokevirtual 76, 3) := by decide +kernel
theorem dL_law_671 : decode cL_law 671 = .ok (.iload 5, 2) := by decide +kernel
theorem dL_law_673 : decode cL_law 673 = .ok (.if_icmp .eq 5, 3) := by decide +kernel
theorem dL_law_676 : decode cL_law 676 = .ok (.iconst 0, 1) := by decide +kernel
theorem dL_law_677 : decode cL_law 677 = .ok (.ireturn, 1) := by decide +kernel
theorem dL_law_678 : decode cL_law 678 = .ok (.goto 403, 3) := by decide +kernel
theorem dL_law_681 : decode cL_law 681 = .ok (.aload_n 1, 1) := by decide +kernel
theorem dL_law_682 : decode cL_law 682 = .ok (.aload_n 0, 1) := by decide +kernel
theorem dL_law_683 : decode cL_law 683 = .ok (.iload 4, 2) := by decide +kernel
theorem dL_law_685 : decode cL_law 685 = .ok (.iconst 1, 1) := by decide +kernel
theorem dL_law_686 : decode cL_law 686 = .ok (.iadd, 1) := by decide +kernel
theorem dL_law_687 : decode cL_law 687 = .ok (.iaload, 1) := by decide +kernel
theorem dL_law_688 : decode cL_law 688 = .ok (.aload_n 3, 1) := by decide +kernel
theorem dL_law_689 : decode cL_law 689 = .ok (.invokestatic 104, 3) := by decide +kernel
theorem dL_law_692 : decode cL_law 692 = .ok (.istore 5, 2) := by decide +kernel
theorem dL_law_694 : decode cL_law 694 = .ok (.aload_n 2, 1) := by decide +kernel
theorem dL_law_695 : decode cL_law 695 = .ok (.aload_n 0, 1) := by decide +kernel
theorem dL_law_696 : decode cL_law 696 = .ok (.iload 4, 2) := by decide +kernel
theorem dL_law_698 : decode cL_law 698 = .ok (.iconst 1, 1) := by decide +kernel
theorem dL_law_699 : decode cL_law 699 = .ok (.iadd, 1) := by decide +kernel
theorem dL_law_700 : decode cL_law 700 = .ok (.iaload, 1) := by decide +kernel
theorem dL_law_701 : decode cL_law 701 = .ok (.invokevirtual 107, 3) := by decide +kernel
theorem dL_law_704 : decode cL_law 704 = .ok (.istore 6, 2) := by decide +kernel
theorem dL_law_706 : decode cL_law 706 = .ok (.aload_n 2, 1) := by decide +kernel
theorem dL_law_707 : decode cL_law 707 = .ok (.invokevirtual 76, 3) := by decide +kernel
theorem dL_law_710 : decode cL_law 710 = .ok (.iload 5, 2) := by decide +kernel
theorem dL_law_712 : decode cL_law 712 = .ok (.if_icmp .eq 5, 3) := by decide +kernel
theorem dL_law_715 : decode cL_law 715 = .ok (.iconst 0, 1) := by decide +kernel
theorem dL_law_716 : decode cL_law 716 = .ok (.ireturn, 1) := by decide +kernel
theorem dL_law_717 : decode cL_law 717 = .ok (.iload 5, 2) := by decide +kernel
theorem dL_law_719 : decode cL_law 719 = .ok (.ifCond .ne 15, 3) := by decide +kernel
theorem dL_law_722 : decode cL_law 722 = .ok (.aload_n 3, 1) := by decide +kernel
theorem dL_law_723 : decode cL_law 723 = .ok (.iconst 0, 1) := by decide +kernel
theorem dL_law_724 : decode cL_law 724 = .ok (.laload, 1) := by decide +kernel
theorem dL_law_725 : decode cL_law 725 = .ok (.iload 6, 2) := by decide +kernel
theorem dL_law_727 : decode cL_law 727 = .ok (.i2l, 1) := by decide +kernel
theorem dL_law_728 : decode cL_law 728 = .ok (.lcmp, 1) := by decide +kernel
theorem dL_law_729 : decode cL_law 729 = .ok (.ifCond .eq 5, 3) := by decide +kernel
theorem dL_law_732 : decode cL_law 732 = .ok (.iconst 0, 1) := by decide +kernel
theorem dL_law_733 : decode cL_law 733 = .ok (.ireturn, 1) := by decide +kernel
theorem dL_law_734 : decode cL_law 734 = .ok (.goto 347, 3) := by decide +kernel
theorem dL_law_737 : decode cL_law 737 = .ok (.aload_n 1, 1) := by decide +kernel
theorem dL_law_738 : decode cL_law 738 = .ok (.invokevirtual 108, 3) := by decide +kernel
theorem dL_law_741 : decode cL_law 741 = .ok (.aload_n 2, 1) := by decide +kernel
theorem dL_law_742 : decode cL_law 742 = .ok (.invokevirtual 112, 3) := by decide +kernel
theorem dL_law_745 : decode cL_law 745 = .ok (.lcmp, 1) := by decide +kernel
theorem dL_law_746 : decode cL_law 746 = .ok (.ifCond .eq 335, 3) := by decide +kernel
theorem dL_law_749 : decode cL_law 749 = .ok (.iconst 0, 1) := by decide +kernel
theorem dL_law_750 : decode cL_law 750 = .ok (.ireturn, 1) := by decide +kernel
theorem dL_law_751 : decode cL_law 751 = .ok (.aload_n 1, 1) := by decide +kernel
theorem dL_law_752 : decode cL_law 752 = .ok (.aload_n 0, 1) := by decide +kernel
theorem dL_law_753 : decode cL_law 753 = .ok (.iload 4, 2) := by decide +kernel
theorem dL_law_755 : decode cL_law 755 = .ok (.iconst 1, 1) := by decide +kernel
theorem dL_law_756 : decode cL_law 756 = .ok (.iadd, 1) := by decide +kernel
theorem dL_law_757 : decode cL_law 757 = .ok (.iaload, 1) := by decide +kernel
theorem dL_law_758 : decode cL_law 758 = .ok (.aload_n 3, 1) := by decide +kernel
theorem dL_law_759 : decode cL_law 759 = .ok (.invokestatic 113, 3) := by decide +kernel
theorem dL_law_762 : decode cL_law 762 = .ok (.istore 5, 2) := by decide +kernel
theorem dL_law_764 : decode cL_law 764 = .ok (.aload_n 2, 1) := by decide +kernel
theorem dL_law_765 : decode cL_law 765 = .ok (.aload_n 0, 1) := by decide +kernel
theorem dL_law_766 : decode cL_law 766 = .ok (.iload 4, 2) := by decide +kernel
theorem dL_law_768 : decode cL_law 768 = .ok (.iconst 1, 1) := by decide +kernel
theorem dL_law_769 : decode cL_law 769 = .ok (.iadd, 1) := by decide +kernel
theorem dL_law_770 : decode cL_law 770 = .ok (.iaload, 1) := by decide +kernel
theorem dL_law_771 : decode cL_law 771 = .ok (.invokevirtual 115, 3) := by decide +kernel
theorem dL_law_774 : decode cL_law 774 = .ok (.istore 6, 2) := by decide +kernel
theorem dL_law_776 : decode cL_law 776 = .ok (.aload_n 2, 1) := by decide +kernel
theorem dL_law_777 : decode cL_law 777 = .ok (.invokevirtual 76, 3) := by decide +kernel
theorem dL_law_780 : decode cL_law 780 = .ok (.iload 5, 2) := by decide +kernel
theorem dL_law_782 : decode cL_law 782 = .ok (.if_icmp .eq 5, 3) := by decide +kernel
theorem dL_law_785 : decode cL_law 785 = .ok (.iconst 0, 1) := by decide +kernel
theorem dL_law_786 : decode cL_law 786 = .ok (.ireturn, 1) := by decide +kernel
theorem dL_law_787 : decode cL_law 787 = .ok (.iload 5, 2) := by decide +kernel
theorem dL_law_789 : decode cL_law 789 = .ok (.ifCond .ne 15, 3) := by decide +kernel
theorem dL_law_792 : decode cL_law 792 = .ok (.aload_n 3, 1) := by decide +kernel
theorem dL_law_793 : decode cL_law 793 = .ok (.iconst 0, 1) := by decide +kernel
theorem dL_law_794 : decode cL_law 794 = .ok (.laload, 1) := by decide +kernel
theorem dL_law_795 : decode cL_law 795 = .ok (.iload 6, 2) := by decide +kernel
theorem dL_law_797 : decode cL_law 797 = .ok (.i2l, 1) := by decide +kernel
theorem dL_law_798 : decode cL_law 798 = .ok (.lcmp, 1) := by decide +kernel
theorem dL_law_799 : decode cL_law 799 = .ok (.ifCond .eq 5, 3) := by decide +kernel
theorem dL_law_802 : decode cL_law 802 = .ok (.iconst 0, 1) := by decide +kernel
theorem dL_law_803 : decode cL_law 803 = .ok (.ireturn, 1) := by decide +kernel
theorem dL_law_804 : decode cL_law 804 = .ok (.goto 277, 3) := by decide +kernel
theorem dL_law_807 : decode cL_law 807 = .ok (.aload_n 1, 1) := by decide +kernel
theorem dL_law_808 : decode cL_law 808 = .ok (.aload_n 0, 1) := by decide +kernel
theorem dL_law_809 : decode cL_law 809 = .ok (.iload 4, 2) := by decide +kernel
theorem dL_law_811 : decode cL_law 811 = .ok (.iconst 1, 1) := by decide +kernel
theorem dL_law_812 : decode cL_law 812 = .ok (.iadd, 1) := by decide +kernel
theorem dL_law_813 : decode cL_law 813 = .ok (.iaload, 1) := by decide +kernel
theorem dL_law_814 : decode cL_law 814 = .ok (.aload_n 0, 1) := by decide +kernel
theorem dL_law_815 : decode cL_law 815 = .ok (.iload 4, 2) := by decide +kernel
theorem dL_law_817 : decode cL_law 817 = .ok (.iconst 2, 1) := by decide +kernel
theorem dL_law_818 : decode cL_law 818 = .ok (.iadd, 1) := by decide +kernel
theorem dL_law_819 : decode cL_law 819 = .ok (.iaload, 1) := by decide +kernel
theorem dL_law_820 : decode cL_law 820 = .ok (.aload_n 3, 1) := by decide +kernel
theorem dL_law_821 : decode cL_law 821 = .ok (.invokestatic 116, 3) := by decide +kernel
theorem dL_law_824 : decode cL_law 824 = .ok (.istore 5, 2) := by decide +kernel
theorem dL_law_826 : decode cL_law 826 = .ok (.aload_n 2, 1) := by decide +kernel
theorem dL_law_827 : decode cL_law 827 = .ok (.aload_n 0, 1) := by decide +kernel
theorem dL_law_828 : decode cL_law 828 = .ok (.iload 4, 2) := by decide +kernel
theorem dL_law_830 : decode cL_law 830 = .ok (.iconst 1, 1) := by decide +kernel
theorem dL_law_831 : decode cL_law 831 = .ok (.iadd, 1) := by decide +kernel
theorem dL_law_832 : decode cL_law 832 = .ok (.iaload, 1) := by decide +kernel
theorem dL_law_833 : decode cL_law 833 = .ok (.aload_n 0, 1) := by decide +kernel
theorem dL_law_834 : decode cL_law 834 = .ok (.iload 4, 2) := by decide +kernel
theorem dL_law_836 : decode cL_law 836 = .ok (.iconst 2, 1) := by decide +kernel
theorem dL_law_837 : decode cL_law 837 = .ok (.iadd, 1) := by decide +kernel
theorem dL_law_838 : decode cL_law 838 = .ok (.iaload, 1) := by decide +kernel
theorem dL_law_839 : decode cL_law 839 = .ok (.invokevirtual 118, 3) := by decide +kernel
theorem dL_law_842 : decode cL_law 842 = .ok (.istore 6, 2) := by decide +kernel
theorem dL_law_844 : decode cL_law 844 = .ok (.aload_n 2, 1) := by decide +kernel
theorem dL_law_845 : decode cL_law 845 = .ok (.invokevirtual 76, 3) := by decide +kernel
theorem dL_law_848 : decode cL_law 848 = .ok (.iload 5, 2) := by decide +kernel
theorem dL_law_850 : decode cL_law 850 = .ok (.if_icmp .eq 5, 3) := by decide +kernel
theorem dL_law_853 : decode cL_law 853 = .ok (.iconst 0, 1) := by decide +kernel
theorem dL_law_854 : decode cL_law 854 = .ok (.ireturn, 1) := by decide +kernel
theorem dL_law_855 : decode cL_law 855 = .ok (.iload 5, 2) := by decide +kernel
theorem dL_law_857 : decode cL_law 857 = .ok (.ifCond .ne 15, 3) := by decide +kernel
theorem dL_law_860 : decode cL_law 860 = .ok (.aload_n 3, 1) := by decide +kernel
theorem dL_law_861 : decode cL_law 861 = .ok (.iconst 0, 1) := by decide +kernel
theorem dL_law_862 : decode cL_law 862 = .ok (.laload, 1) := by decide +kernel
theorem dL_law_863 : decode cL_law 863 = .ok (.iload 6, 2) := by decide +kernel
theorem dL_law_865 : decode cL_law 865 = .ok (.i2l, 1) := by decide +kernel
theorem dL_law_866 : decode cL_law 866 = .ok (.lcmp, 1) := by decide +kernel
theorem dL_law_867 : decode cL_law 867 = .ok (.ifCond .eq 5, 3) := by decide +kernel
theorem dL_law_870 : decode cL_law 870 = .ok (.iconst 0, 1) := by decide +kernel
theorem dL_law_871 : decode cL_law 871 = .ok (.ireturn, 1) := by decide +kernel
theorem dL_law_872 : decode cL_law 872 = .ok (.goto 209, 3) := by decide +kernel
theorem dL_law_875 : decode cL_law 875 = .ok (.aload_n 1, 1) := by decide +kernel
theorem dL_law_876 : decode cL_law 876 = .ok (.aload_n 0, 1) := by decide +kernel
theorem dL_law_877 : decode cL_law 877 = .ok (.iload 4, 2) := by decide +kernel
theorem dL_law_879 : decode cL_law 879 = .ok (.iconst 1, 1) := by decide +kernel
theorem dL_law_880 : decode cL_law 880 = .ok (.iadd, 1) := by decide +kernel
theorem dL_law_881 : decode cL_law 881 = .ok (.iaload, 1) := by decide +kernel
theorem dL_law_882 : decode cL_law 882 = .ok (.aload_n 0, 1) := by decide +kernel
theorem dL_law_883 : decode cL_law 883 = .ok (.iload 4, 2) := by decide +kernel
theorem dL_law_885 : decode cL_law 885 = .ok (.iconst 2, 1) := by decide +kernel
theorem dL_law_886 : decode cL_law 886 = .ok (.iadd, 1) := by decide +kernel
theorem dL_law_887 : decode cL_law 887 = .ok (.iaload, 1) := by decide +kernel
theorem dL_law_888 : decode cL_law 888 = .ok (.aload_n 3, 1) := by decide +kernel
theorem dL_law_889 : decode cL_law 889 = .ok (.invokestatic 119, 3) := by decide +kernel
theorem dL_law_892 : decode cL_law 892 = .ok (.istore 5, 2) := by decide +kernel
theorem dL_law_894 : decode cL_law 894 = .ok (.aload_n 2, 1) := by decide +kernel
theorem dL_law_895 : decode cL_law 895 = .ok (.aload_n 0, 1) := by decide +kernel
theorem dL_law_896 : decode cL_law 896 = .ok (.iload 4, 2) := by decide +kernel
theorem dL_law_898 : decode cL_law 898 = .ok (.iconst 1, 1) := by decide +kernel
theorem dL_law_899 : decode cL_law 899 = .ok (.iadd, 1) := by decide +kernel
theorem dL_law_900 : decode cL_law 900 = .ok (.iaload, 1) := by decide +kernel
theorem dL_law_901 : decode cL_law 901 = .ok (.aload_n 0, 1) := by decide +kernel
theorem dL_law_902 : decode cL_law 902 = .ok (.iload 4, 2) := by decide +kernel
theorem dL_law_904 : decode cL_law 904 = .ok (.iconst 2, 1) := by decide +kernel
theorem dL_law_905 : decode cL_law 905 = .ok (.iadd, 1) := by decide +kernel
theorem dL_law_906 : decode cL_law 906 = .ok (.iaload, 1) := by decide +kernel
theorem dL_law_907 : decode cL_law 907 = .ok (.invokevirtual 121, 3) := by decide +kernel
theorem dL_law_910 : decode cL_law 910 = .ok (.istore 6, 2) := by decide +kernel
theorem dL_law_912 : decode cL_law 912 = .ok (.aload_n 2, 1) := by decide +kernel
theorem dL_law_913 : decode cL_law 913 = .ok (.invokevirtual 76, 3) := by decide +kernel
theorem dL_law_916 : decode cL_law 916 = .ok (.iload 5, 2) := by decide +kernel
theorem dL_law_918 : decode cL_law 918 = .ok (.if_icmp .eq 5, 3) := by decide +kernel
theorem dL_law_921 : decode cL_law 921 = .ok (.iconst 0, 1) := by decide +kernel
theorem dL_law_922 : decode cL_law 922 = .ok (.ireturn, 1) := by decide +kernel
theorem dL_law_923 : decode cL_law 923 = .ok (.iload 5, 2) := by decide +kernel
theorem dL_law_925 : decode cL_law 925 = .ok (.ifCond .ne 15, 3) := by decide +kernel
theorem dL_law_928 : decode cL_law 928 = .ok (.aload_n 3, 1) := by decide +kernel
theorem dL_law_929 : decode cL_law 929 = .ok (.iconst 0, 1) := by decide +kernel
theorem dL_law_930 : decode cL_law 930 = .ok (.laload, 1) := by decide +kernel
theorem dL_law_931 : decode cL_law 931 = .ok (.iload 6, 2) := by decide +kernel
theorem dL_law_933 : decode cL_law 933 = .ok (.i2l, 1) := by decide +kernel
theorem dL_law_934 : decode cL_law 934 = .ok (.lcmp, 1) := by decide +kernel
theorem dL_law_935 : decode cL_law 935 = .ok (.ifCond .eq 5, 3) := by decide +kernel
theorem dL_law_938 : decode cL_law 938 = .ok (.iconst 0, 1) := by decide +kernel
theorem dL_law_939 : decode cL_law 939 = .ok (.ireturn, 1) := by decide +kernel
theorem dL_law_940 : decode cL_law 940 = .ok (.goto 141, 3) := by decide +kernel
theorem dL_law_943 : decode cL_law 943 = .ok (.aload_n 1, 1) := by decide +kernel
theorem dL_law_944 : decode cL_law 944 = .ok (.invokevirtual 122, 3) := by decide +kernel
theorem dL_law_947 : decode cL_law 947 = .ok (.aload_n 2, 1) := by decide +kernel
theorem dL_law_948 : decode cL_law 948 = .ok (.invokevirtual 125, 3) := by decide +kernel
theorem dL_law_951 : decode cL_law 951 = .ok (.if_icmp .eq 130, 3) := by decide +kernel
theorem dL_law_954 : decode cL_law 954 = .ok (.iconst 0, 1) := by decide +kernel
theorem dL_law_955 : decode cL_law 955 = .ok (.ireturn, 1) := by decide +kernel
theorem dL_law_956 : decode cL_law 956 = .ok (.aload_n 1, 1) := by decide +kernel
theorem dL_law_957 : decode cL_law 957 = .ok (.aload_n 0, 1) := by decide +kernel
theorem dL_law_958 : decode cL_law 958 = .ok (.iload 4, 2) := by decide +kernel
theorem dL_law_960 : decode cL_law 960 = .ok (.iconst 1, 1) := by decide +kernel
theorem dL_law_961 : decode cL_law 961 = .ok (.iadd, 1) := by decide +kernel
theorem dL_law_962 : decode cL_law 962 = .ok (.iaload, 1) := by decide +kernel
theorem dL_law_963 : decode cL_law 963 = .ok (.aload_n 3, 1) := by decide +kernel
theorem dL_law_964 : decode cL_law 964 = .ok (.invokestatic 126, 3) := by decide +kernel
theorem dL_law_967 : decode cL_law 967 = .ok (.istore 5, 2) := by decide +kernel
theorem dL_law_969 : decode cL_law 969 = .ok (.aload_n 2, 1) := by decide +kernel
theorem dL_law_970 : decode cL_law 970 = .ok (.aload_n 0, 1) := by decide +kernel
theorem dL_law_971 : decode cL_law 971 = .ok (.iload 4, 2) := by decide +kernel
theorem dL_law_973 : decode cL_law 973 = .ok (.iconst 1, 1) := by decide +kernel
theorem dL_law_974 : decode cL_law 974 = .ok (.iadd, 1) := by decide +kernel
theorem dL_law_975 : decode cL_law 975 = .ok (.iaload, 1) := by decide +kernel
theorem dL_law_976 : decode cL_law 976 = .ok (.invokevirtual 128, 3) := by decide +kernel
theorem dL_law_979 : decode cL_law 979 = .ok (.istore 6, 2) := by decide +kernel
theorem dL_law_981 : decode cL_law 981 = .ok (.aload_n 2, 1) := by decide +kernel
theorem dL_law_982 : decode cL_law 982 = .ok (.invokevirtual 76, 3) := by decide +kernel
theorem dL_law_985 : decode cL_law 985 = .ok (.iload 5, 2) := by decide +kernel
theorem dL_law_987 : decode cL_law 987 = .ok (.if_icmp .eq 5, 3) := by decide +kernel
theorem dL_law_990 : decode cL_law 990 = .ok (.iconst 0, 1) := by decide +kernel
theorem dL_law_991 : decode cL_law 991 = .ok (.ireturn, 1) := by decide +kernel
theorem dL_law_992 : decode cL_law 992 = .ok (.iload 5, 2) := by decide +kernel
theorem dL_law_994 : decode cL_law 994 = .ok (.ifCond .ne 15, 3) := by decide +kernel
theorem dL_law_997 : decode cL_law 997 = .ok (.aload_n 3, 1) := by decide +kernel
theorem dL_law_998 : decode cL_law 998 = .ok (.iconst 0, 1) := by decide +kernel
theorem dL_law_999 : decode cL_law 999 = .ok (.laload, 1) := by decide +kernel
theorem dL_law_1000 : decode cL_law 1000 = .ok (.iload 6, 2) := by decide +kernel
theorem dL_law_1002 : decode cL_law 1002 = .ok (.i2l, 1) := by decide +kernel
theorem dL_law_1003 : decode cL_law 1003 = .ok (.lcmp, 1) := by decide +kernel
theorem dL_law_1004 : decode cL_law 1004 = .ok (.ifCond .eq 5, 3) := by decide +kernel
theorem dL_law_1007 : decode cL_law 1007 = .ok (.iconst 0, 1) := by decide +kernel
theorem dL_law_1008 : decode cL_law 1008 = .ok (.ireturn, 1) := by decide +kernel
theorem dL_law_1009 : decode cL_law 1009 = .ok (.goto 72, 3) := by decide +kernel
theorem dL_law_1012 : decode cL_law 1012 = .ok (.aload_n 1, 1) := by decide +kernel
theorem dL_law_1013 : decode cL_law 1013 = .ok (.invokevirtual 129, 3) := by decide +kernel
theorem dL_law_1016 : decode cL_law 1016 = .ok (.aload_n 2, 1) := by decide +kernel
theorem dL_law_1017 : decode cL_law 1017 = .ok (.invokevirtual 132, 3) := by decide +kernel
theorem dL_law_1020 : decode cL_law 1020 = .ok (.if_icmp .eq 61, 3) := by decide +kernel
theorem dL_law_1023 : decode cL_law 1023 = .ok (.iconst 0, 1) := by decide +kernel
theorem dL_law_1024 : decode cL_law 1024 = .ok (.ireturn, 1) := by decide +kernel
theorem dL_law_1025 : decode cL_law 1025 = .ok (.aload_n 1, 1) := by decide +kernel
theorem dL_law_1026 : decode cL_law 1026 = .ok (.aload_n 0, 1) := by decide +kernel
theorem dL_law_1027 : decode cL_law 1027 = .ok (.iload 4, 2) := by decide +kernel
theorem dL_law_1029 : decode cL_law 1029 = .ok (.iconst 1, 1) := by decide +kernel
theorem dL_law_1030 : decode cL_law 1030 = .ok (.iadd, 1) := by decide +kernel
theorem dL_law_1031 : decode cL_law 1031 = .ok (.iaload, 1) := by decide +kernel
theorem dL_law_1032 : decode cL_law 1032 = .ok (.aload_n 3, 1) := by decide +kernel
theorem dL_law_1033 : decode cL_law 1033 = .ok (.invokestatic 133, 3) := by decide +kernel
theorem dL_law_1036 : decode cL_law 1036 = .ok (.istore 5, 2) := by decide +kernel
theorem dL_law_1038 : decode cL_law 1038 = .ok (.aload_n 2, 1) := by decide +kernel
theorem dL_law_1039 : decode cL_law 1039 = .ok (.aload_n 0, 1) := by decide +kernel
theorem dL_law_1040 : decode cL_law 1040 = .ok (.iload 4, 2) := by decide +kernel
theorem dL_law_1042 : decode cL_law 1042 = .ok (.iconst 1, 1) := by decide +kernel
theorem dL_law_1043 : decode cL_law 1043 = .ok (.iadd, 1) := by decide +kernel
theorem dL_law_1044 : decode cL_law 1044 = .ok (.iaload, 1) := by decide +kernel
theorem dL_law_1045 : decode cL_law 1045 = .ok (.invokevirtual 135, 3) := by decide +kernel
theorem dL_law_1048 : decode cL_law 1048 = .ok (.istore 6, 2) := by decide +kernel
theorem dL_law_1050 : decode cL_law 1050 = .ok (.aload_n 2, 1) := by decide +kernel
theorem dL_law_1051 : decode cL_law 1051 = .ok (.invokevirtual 76, 3) := by decide +kernel
theorem dL_law_1054 : decode cL_law 1054 = .ok (.iload 5, 2) := by decide +kernel
theorem dL_law_1056 : decode cL_law 1056 = .ok (.if_icmp .eq 5, 3) := by decide +kernel
theorem dL_law_1059 : decode cL_law 1059 = .ok (.iconst 0, 1) := by decide +kernel
theorem dL_law_1060 : decode cL_law 1060 = .ok (.ireturn, 1) := by decide +kernel
theorem dL_law_1061 : decode cL_law 1061 = .ok (.iload 5, 2) := by decide +kernel
theorem dL_law_1063 : decode cL_law 1063 = .ok (.ifCond .ne 15, 3) := by decide +kernel
theorem dL_law_1066 : decode cL_law 1066 = .ok (.aload_n 3, 1) := by decide +kernel
theorem dL_law_1067 : decode cL_law 1067 = .ok (.iconst 0, 1) := by decide +kernel
theorem dL_law_1068 : decode cL_law 1068 = .ok (.laload, 1) := by decide +kernel
theorem dL_law_1069 : decode cL_law 1069 = .ok (.iload 6, 2) := by decide +kernel
theorem dL_law_1071 : decode cL_law 1071 = .ok (.i2l, 1) := by decide +kernel
theorem dL_law_1072 : decode cL_law 1072 = .ok (.lcmp, 1) := by decide +kernel
theorem dL_law_1073 : decode cL_law 1073 = .ok (.ifCond .eq 5, 3) := by decide +kernel
theorem dL_law_1076 : decode cL_law 1076 = .ok (.iconst 0, 1) := by decide +kernel
theorem dL_law_1077 : decode cL_law 1077 = .ok (.ireturn, 1) := by decide +kernel
theorem dL_law_1078 : decode cL_law 1078 = .ok (.goto 3, 3) := by decide +kernel
theorem dL_law_1081 : decode cL_law 1081 = .ok (.iinc 4 4, 3) := by decide +kernel
theorem dL_law_1084 : decode cL_law 1084 = .ok (.goto (-1051), 3) := by decide +kernel
theorem dL_law_1087 : decode cL_law 1087 = .ok (.iconst 1, 1) := by decide +kernel
theorem dL_law_1088 : decode cL_law 1088 = .ok (.ireturn, 1) := by decide +kernel
end
section
/-! 03: a judgement over pure states: Sf k cells slots h nx pc ls st - from the frame at pc with locals ls and stack st, the heap holding what h says and being nx cells long, the machine comes to an end that k's goal holds of -/
abbrev PE : Type := (Nat × vp_A) ⊕ (Nat × List Value)
abbrev Hp : Type := Nat → Option PE
def toE (G : Nat → ClassId) (e : PE) : va_E := match e with
  | .inl x => .inl (G x.1, x.2)
  | .inr o => .inr o
def eI (n : Nat) (f : Nat → Int32) : PE := .inl (0, n, .inl f)
def eJ (n : Nat) (f : Nat → Int64) : PE := .inl (1, n, .inr (.inl f))
def eZ (n : Nat) (f : Nat → Int32) : PE := .inl (2, n, .inl f)
def eQ (t n : Nat) (f : Nat → Option Nat) : PE := .inl (t + 3, n, .inr (.inr (.inr (.inr f))))
def eO (k : Nat) (fs : List Value) : PE := .inr (k, fs)
def tysG (G : Nat → ClassId) : List (ClassId × FieldType) := [(G 0, .int), (G 1, .long), (G 2, .boolean), (G 3, .object RX1), (G 4, .object RX2)]
def hpU (h : Hp) (a : Nat) (e : PE) : Hp := fun b => if b = a then some e else h b
theorem hpU_eq (h : Hp) (a : Nat) (e : PE) : hpU h a e a = some e := if_pos rfl
theorem hpU_ne {h : Hp} {a b : Nat} {e : PE} (n : b ≠ a) : hpU h a e b = h b := if_neg n
def HPok (G : Nat → ClassId) (D : va_G) (nx : Nat) (h : Hp) (H : Heap) : Prop := H.size = nx ∧ ∀ a e, h a = some e → va_at D vwCl (a, toE G e) H
def ABase (base : Nat) : Nat → Prop := fun q => base ≤ q
/-- the texts that the class throws with: pool entries of CallSums -/
def thrL : List (Nat × String) := [(47, "no such floor, or no such speed"), (57, "there are 4 cars"), (68, "no such car, floor or second"), (76, "no such car, or no such zone"), (84, "no such car"), (90, "no such floor, or both are one"), (98, "there are 6 open calls, or 400 calls"), (110, "the call is not open"), (115, "the call is not open, or no such car"), (132, "so many seconds can not pass"), (155, "there never was such a call"), (165, "no such car, or k is below 0"), (170, "there never was such a call, or nothing such is told")]
def KK (G : Nat → ClassId) (D : va_G) (base : Nat) (U : State) (H : Heap) : Prop :=
  va_K D vwCl (tysG G) U ∧ (va_AO RX1 U ∧ va_AO RX2 U ∧ va_Nw (.methodLinkNest RX1 9 yX3_init RX4) U ∧ ∀ q ∈ thrL, ∃ sa : Nat, vk_R RX4 q.1 q.2 sa U) ∧ vx_Zq Bundle.tN "UNASSIGNED_STACK" Bundle.steD (ABase base) U H ∧ vx_Zq Bundle.tN "SUPPRESSED_SENTINEL" Bundle.listD (ABase base) U H
theorem KK.warm {G : Nat → ClassId} {D : va_G} {base : Nat} {u U : State} {H : Heap} (hW : u.WarmedH U.vm) (h : KK G D base u H) : KK G D base U H :=
  ⟨va_K.moved hW.alike h.1, ⟨va_AO.moved hW.alike h.2.1.1, va_AO.moved hW.alike h.2.1.2.1, va_Nw.warmM hW h.2.1.2.2.1, fun q hq => (h.2.1.2.2.2 q hq).elim fun sa z => ⟨sa, z.warm hW⟩⟩, vx_Zq.moved hW.alike h.2.2.1, vx_Zq.moved hW.alike h.2.2.2⟩
theorem KK.kept {G : Nat → ClassId} {D : va_G} {base : Nat} {U : State} {H H1 : Heap} (h : KK G D base U H) (hq : ∀ a : Nat, a < H.size → ¬ ABase base a → H1[a]? = H[a]?) : KK G D base U H1 :=
  ⟨h.1, h.2.1, h.2.2.1.kept hq, h.2.2.2.kept hq⟩
/-- locals by their places; none: not known -/
def lh (la : Array Slot) (nL : Nat) (ls : List (Option Value)) : Prop := la.size = nL ∧ lv_wf la ∧ ls.length = nL ∧ ∀ (k : Nat) (v : Value), ls[k]? = some (some v) → la[k]? = some (Slot.val v)
def lprs (nL : Nat) (ls : List (Option Value)) : List (Nat × Value) := (List.range nL).filterMap (fun k => match ls[k]? with
  | some (some v) => some (k, v)
  | _ => none)
theorem lprs_mem {nL : Nat} {ls : List (Option Value)} {k : Nat} {v : Value} : (k, v) ∈ lprs nL ls ↔ k < nL ∧ ls[k]? = some (some v) := by
  unfold lprs
  rw [List.mem_filterMap]
  constructor
  · rintro ⟨a, h1, h2⟩
    have h3 := List.mem_range.mp h1
    split at h2
    · next w hw =>
      cases h2
      exact ⟨h3, hw⟩
    · cases h2
  · rintro ⟨h1, h2⟩
    exact ⟨k, List.mem_range.mpr h1, by rw [h2]⟩
theorem lh.has {la : Array Slot} {nL : Nat} {ls : List (Option Value)} (h : lh la nL ls) : lv_has la nL (lprs nL ls) :=
  ⟨h.1, h.2.1, fun q hq => h.2.2.2 q.1 q.2 (lprs_mem.mp hq).2⟩
/-- no long stands just ahead of place i -/
def noL (ls : List (Option Value)) (i : Nat) : Bool := match i with
  | 0 => true
  | j + 1 => match ls[j]? with
    | some (some v) => !(Nat.beq v.category 2)
    | _ => true
theorem noL_spec {ls : List (Option Value)} {i k : Nat} {v : Value} (h : noL ls i = true) (hk : ls[k]? = some (some v)) (e : k + 1 = i) : ¬ v.category = 2 := by
  subst e
  unfold noL at h
  simp only [hk] at h
  intro q
  rw [q] at h
  exact absurd h (by decide)
theorem lh_store1 {la' : Array Slot} {nL i : Nat} {ls : List (Option Value)} {v : Value} (hlen : ls.length = nL) (hn : i < nL) (hno : noL ls i = true)
    (h : lv_has la' nL ((i, v) :: (lprs nL ls).filter (fun q => !(q.1 == i) && !(q.1 + 1 == i && q.2.category == 2)))) : lh la' nL (ls.set i (some v)) := by
  refine ⟨h.1, h.2.1, by rw [List.length_set]; exact hlen, fun k w hk => ?_⟩
  by_cases hki : k = i
  · subst hki
    rw [List.getElem?_set_self (by omega)] at hk
    cases hk
    exact h.2.2 (k, v) List.mem_cons_self
  · rw [List.getElem?_set_ne (fun e => hki e.symm)] at hk
    have hkl : k < nL := by rw [← hlen]; exact (List.getElem?_eq_some_iff.mp hk).1
    refine h.2.2 (k, w) (List.mem_cons_of_mem _ (List.mem_filter.mpr ⟨lprs_mem.mpr ⟨hkl, hk⟩, ?_⟩))
    have h2 : k + 1 = i → ¬ w.category = 2 := fun e => noL_spec hno hk e
    simp only [Bool.and_eq_true, Bool.not_eq_true', beq_eq_false_iff_ne, ne_eq]
    refine ⟨hki, ?_⟩
    by_cases e : k + 1 = i
    · simp [h2 e]
    · simp [e]
theorem lh_store2 {la' : Array Slot} {nL i : Nat} {ls : List (Option Value)} {v : Value} (hlen : ls.length = nL) (hn : i + 1 < nL) (hno : noL ls i = true)
    (h : lv_has la' nL ((i, v) :: (lprs nL ls).filter (fun q => !(q.1 == i) && (!(q.1 == i + 1) && !(q.1 + 1 == i && q.2.category == 2))))) : lh la' nL ((ls.set i (some v)).set (i + 1) none) := by
  refine ⟨h.1, h.2.1, by rw [List.length_set, List.length_set]; exact hlen, fun k w hk => ?_⟩
  by_cases hki1 : k = i + 1
  · subst hki1
    rw [List.getElem?_set_self (by rw [List.length_set]; omega)] at hk
    cases hk
  · rw [List.getElem?_set_ne (fun e => hki1 e.symm)] at hk
    by_cases hki : k = i
    · subst hki
      rw [List.getElem?_set_self (by omega)] at hk
      cases hk
      exact h.2.2 (k, v) List.mem_cons_self
    · rw [List.getElem?_set_ne (fun e => hki e.symm)] at hk
      have hkl : k < nL := by rw [← hlen]; exact (List.getElem?_eq_some_iff.mp hk).1
      refine h.2.2 (k, w) (List.mem_cons_of_mem _ (List.mem_filter.mpr ⟨lprs_mem.mpr ⟨hkl, hk⟩, ?_⟩))
      have h2 : k + 1 = i → ¬ w.category = 2 := fun e => noL_spec hno hk e
      simp only [Bool.and_eq_true, Bool.not_eq_true', beq_eq_false_iff_ne, ne_eq]
      refine ⟨hki, hki1, ?_⟩
      by_cases e : k + 1 = i
      · simp [h2 e]
      · simp [e]
/-- fewer known -/
def lle : List (Option Value) → List (Option Value) → Prop
  | [], [] => True
  | none :: t, _ :: t2 => lle t t2
  | some v :: t, some w :: t2 => w = v ∧ lle t t2
  | _, _ => False
theorem lle_at : ∀ {a b : List (Option Value)} {k : Nat} {v : Value}, lle a b → a[k]? = some (some v) → b[k]? = some (some v)
  | [], _, k, v, _, h => by simp at h
  | none :: t, [], _, _, h, _ => h.elim
  | none :: t, _ :: t2, 0, v, _, h => by simp at h
  | none :: t, x :: t2, k + 1, v, h1, h => by
    rw [List.getElem?_cons_succ] at h ⊢
    exact lle_at (a := t) (b := t2) h1 h
  | some w :: t, [], _, _, h, _ => h.elim
  | some w :: t, none :: t2, _, _, h, _ => h.elim
  | some w :: t, some x :: t2, 0, v, h1, h => by
    rw [List.getElem?_cons_zero] at h ⊢
    rw [h1.1]
    exact h
  | some w :: t, some x :: t2, k + 1, v, h1, h => by
    rw [List.getElem?_cons_succ] at h ⊢
    exact lle_at (a := t) (b := t2) h1.2 h
theorem lle_len : ∀ {a b : List (Option Value)}, lle a b → a.length = b.length
  | [], [], _ => rfl
  | [], _ :: _, h => h.elim
  | none :: t, [], h => h.elim
  | none :: t, x :: t2, h => by rw [List.length_cons, List.length_cons, lle_len (a := t) (b := t2) h]
  | some w :: t, [], h => h.elim
  | some w :: t, none :: t2, h => h.elim
  | some w :: t, some x :: t2, h => by rw [List.length_cons, List.length_cons, lle_len (a := t) (b := t2) h.2]
theorem lh.le {la : Array Slot} {nL : Nat} {a b : List (Option Value)} (h : lh la nL b) (hl : lle a b) : lh la nL a :=
  ⟨h.1, h.2.1, (lle_len hl).trans h.2.2.1, fun k v hk => h.2.2.2 k v (lle_at hl hk)⟩
/-- the locals at a method's entry -/
def enL : List Value → List (Option Value)
  | [] => []
  | v :: vs => if v.category = 2 then some v :: none :: enL vs else some v :: enL vs
theorem enL_mem : ∀ (vs : List Value) (i k : Nat) (v : Value), (enL vs)[k]? = some (some v) → (i + k, v) ∈ lv_args i vs
  | [], i, k, v, h => by simp [enL] at h
  | w :: vs, i, k, v, h => by
    unfold enL at h
    unfold lv_args
    by_cases hc : w.category = 2
    · rw [if_pos hc] at h ⊢
      match k, h with
      | 0, h => rw [List.getElem?_cons_zero] at h; cases h; exact List.mem_cons_self
      | 1, h => simp at h
      | k + 2, h =>
        rw [List.getElem?_cons_succ, List.getElem?_cons_succ] at h
        have := enL_mem vs (i + 2) k v h
        rw [show i + (k + 2) = i + 2 + k by omega]
        exact List.mem_cons_of_mem _ this
    · rw [if_neg hc] at h ⊢
      match k, h with
      | 0, h => rw [List.getElem?_cons_zero] at h; cases h; exact List.mem_cons_self
      | k + 1, h =>
        rw [List.getElem?_cons_succ] at h
        have := enL_mem vs (i + 1) k v h
        rw [show i + (k + 1) = i + 1 + k by omega]
        exact List.mem_cons_of_mem _ this
theorem enL_len : ∀ (vs : List Value), (enL vs).length = (lg_sl vs).length
  | [] => rfl
  | w :: vs => by
    have ih := enL_len vs
    unfold enL
    have e : lg_sl (w :: vs) = (if w.category = 2 then [Slot.val w, Slot.second] else [Slot.val w]) ++ lg_sl vs := by simp [lg_sl]
    rw [e]
    by_cases hc : w.category = 2
    · simp [hc, ih]
    · simp [hc, ih]
theorem lh_entry (vs : List Value) {n : Nat} (h : (enL vs).length ≤ n) : lh ((lg_sl vs ++ List.replicate (n - (lg_sl vs).length) Slot.unset).toArray) n (enL vs ++ List.replicate (n - (enL vs).length) none) := by
  have h0 := lv_entry vs (n := n) (by rw [← enL_len]; exact h)
  refine ⟨h0.1, h0.2.1, by simp; omega, fun k v hk => ?_⟩
  by_cases hl : k < (enL vs).length
  · rw [List.getElem?_append_left hl] at hk
    have h1 := enL_mem vs 0 k v hk
    rw [Nat.zero_add] at h1
    exact h0.2.2 (k, v) h1
  · rw [List.getElem?_append_right (by omega), List.getElem?_replicate] at hk
    split at hk <;> cases hk
abbrev Cx : Type := Program × Launch × Env × Room × State × MethodId × Array Value × List Frame × Method × Code × (State → Prop) × Nat × (Nat → ClassId) × va_G × Nat
def Sf (k : Cx) (cells slots : Nat) (h : Hp) (nx pc : Nat) (ls : List (Option Value)) (st : List Value) : Prop := match k with
  | (p, l, e, R, s, m, args, below, meth, c, Q, base, G, D, nL) => ∀ (H : Heap) (locs : List Loc) (la : Array Slot), HPok G D nx h H → va_S (ABase base) s.heap H locs → lh la nL ls → W p l e R s m args below meth c H locs cells slots Q (F0 m pc la st)
def Gd (k : Cx) (own : String) (cc : ByteArray) : Prop := match k with
  | (p, _, _, _, s, m, args, _, meth, c, _, base, G, D, nL) => p.tables.exec = Jvm.exec ∧ c.code = cc ∧ c.maxLocals = nL ∧ s.vm.findClass own = some m.cls ∧ (∀ w ∈ UW, w.before args s = true) ∧ KK G D base s s.heap ∧ base ≤ s.heap.size ∧ meth.locks = false
def cRoom (k : Cx) : Room := k.2.2.2.1
def cBase (k : Cx) : Nat := k.2.2.2.2.2.2.2.2.2.2.2.1
def cName (k : Cx) : String := k.2.2.2.2.2.2.2.2.1.name
section RULES
variable {k : Cx} {own : String} {cc : ByteArray} {cells slots : Nat} {h : Hp} {nx pc : Nat} {ls : List (Option Value)} {st : List Value}
theorem r_eq {ls2 : List (Option Value)} {st2 : List Value} {pc2 : Nat} (e1 : pc = pc2) (e2 : ls = ls2) (e3 : st = st2) (kk : Sf k cells slots h nx pc2 ls2 st2) : Sf k cells slots h nx pc ls st := by
  subst e1; subst e2; subst e3; exact kk
theorem r_le {ls2 : List (Option Value)} (hl : lle ls2 ls) (kk : Sf k cells slots h nx pc ls2 st) : Sf k cells slots h nx pc ls st := by
  obtain ⟨p, l, e, R, s, m, args, below, meth, c, Q, base, G, D, nL⟩ := k
  exact fun H locs la hH hS hL => kk H locs la hH hS (hL.le hl)
theorem r_widen {c2 s2 : Nat} (h1 : cells ≤ c2) (h2 : slots ≤ s2) (kk : Sf k c2 s2 h nx pc ls st) : Sf k cells slots h nx pc ls st := by
  obtain ⟨p, l, e, R, s, m, args, below, meth, c, Q, base, G, D, nL⟩ := k
  exact fun H locs la hH hS hL => W.widen h1 h2 (kk H locs la hH hS hL)
theorem r_topi {x y : Int32} {rest : List Value} (e : x = y) (kk : Sf k cells slots h nx pc ls (.int y :: rest)) : Sf k cells slots h nx pc ls (.int x :: rest) := e ▸ kk
theorem r_topl {x y : Int64} {rest : List Value} (e : x = y) (kk : Sf k cells slots h nx pc ls (.long y :: rest)) : Sf k cells slots h nx pc ls (.long x :: rest) := e ▸ kk

theorem r_iconst {n : Int} {v : Int32} (g : Gd k own cc) (d : decode cc pc = .ok (.iconst n, 1)) (hv : Int32.ofInt n = v) (kk : Sf k cells slots h nx (pc + 1) ls (.int v :: st)) : Sf k cells slots h nx pc ls (st) := by
  obtain ⟨p, l, e, R, s, m, args, below, meth, c, Q, base, G, D, nL⟩ := k
  exact fun H locs la hH hS hL => lv_iconst g.1 g.2.1 d hv (kk H locs la hH hS hL)

theorem r_bipush {n : Int} {v : Int32} (g : Gd k own cc) (d : decode cc pc = .ok (.bipush n, 2)) (hv : (Int8.ofInt n).toInt32 = v) (kk : Sf k cells slots h nx (pc + 2) ls (.int v :: st)) : Sf k cells slots h nx pc ls (st) := by
  obtain ⟨p, l, e, R, s, m, args, below, meth, c, Q, base, G, D, nL⟩ := k
  exact fun H locs la hH hS hL => lv_bipush g.1 g.2.1 d hv (kk H locs la hH hS hL)

theorem r_sipush {n : Int} {v : Int32} (g : Gd k own cc) (d : decode cc pc = .ok (.sipush n, 3)) (hv : (Int16.ofInt n).toInt32 = v) (kk : Sf k cells slots h nx (pc + 3) ls (.int v :: st)) : Sf k cells slots h nx pc ls (st) := by
  obtain ⟨p, l, e, R, s, m, args, below, meth, c, Q, base, G, D, nL⟩ := k
  exact fun H locs la hH hS hL => lv_sipush g.1 g.2.1 d hv (kk H locs la hH hS hL)

theorem r_lconst {n : Fin 2} {v : Int64} (g : Gd k own cc) (d : decode cc pc = .ok (.lconst n, 1)) (hv : Int64.ofNat (n : Nat) = v) (kk : Sf k cells slots h nx (pc + 1) ls (.long v :: st)) : Sf k cells slots h nx pc ls (st) := by
  obtain ⟨p, l, e, R, s, m, args, below, meth, c, Q, base, G, D, nL⟩ := k
  exact fun H locs la hH hS hL => lv_lconst g.1 g.2.1 d hv (kk H locs la hH hS hL)

theorem r_ldc {index : Nat} {v : Int32} (g : Gd k own cc) (d : decode cc pc = .ok (.ldc index, 2)) (hw : Cond.constant own index v ∈ UW) (kk : Sf k cells slots h nx (pc + 2) ls (.int v :: st)) : Sf k cells slots h nx pc ls (st) := by
  obtain ⟨p, l, e, R, s, m, args, below, meth, c, Q, base, G, D, nL⟩ := k
  exact fun H locs la hH hS hL => lv_ldc g.1 g.2.1 g.2.2.2.1 (g.2.2.2.2.1 _ hw) d (kk H locs la hH hS hL)

theorem r_ldc2 {index : Nat} {v : Int64} (g : Gd k own cc) (d : decode cc pc = .ok (.ldc2_w index, 3)) (hw : Cond.constantLong own index v ∈ UW) (kk : Sf k cells slots h nx (pc + 3) ls (.long v :: st)) : Sf k cells slots h nx pc ls (st) := by
  obtain ⟨p, l, e, R, s, m, args, below, meth, c, Q, base, G, D, nL⟩ := k
  exact fun H locs la hH hS hL => lv_ldc2 g.1 g.2.1 g.2.2.2.1 (g.2.2.2.2.1 _ hw) d (kk H locs la hH hS hL)

theorem r_iload_n {i : Fin 4} {x : Int32} (g : Gd k own cc) (d : decode cc pc = .ok (.iload_n i, 1)) (hl : ls[(i : Nat)]? = some (some (.int x))) (kk : Sf k cells slots h nx (pc + 1) ls (.int x :: st)) : Sf k cells slots h nx pc ls (st) := by
  obtain ⟨p, l, e, R, s, m, args, below, meth, c, Q, base, G, D, nL⟩ := k
  exact fun H locs la hH hS hL => lv_iload_n g.1 g.2.1 d rfl (hL.2.2.2 _ _ hl) (kk H locs la hH hS hL)

theorem r_iload {i : Nat} {x : Int32} (g : Gd k own cc) (d : decode cc pc = .ok (.iload i, 2)) (hl : ls[i]? = some (some (.int x))) (kk : Sf k cells slots h nx (pc + 2) ls (.int x :: st)) : Sf k cells slots h nx pc ls (st) := by
  obtain ⟨p, l, e, R, s, m, args, below, meth, c, Q, base, G, D, nL⟩ := k
  exact fun H locs la hH hS hL => lv_iload g.1 g.2.1 d (hL.2.2.2 _ _ hl) (kk H locs la hH hS hL)

theorem r_lload_n {i : Fin 4} {x : Int64} (g : Gd k own cc) (d : decode cc pc = .ok (.lload_n i, 1)) (hl : ls[(i : Nat)]? = some (some (.long x))) (kk : Sf k cells slots h nx (pc + 1) ls (.long x :: st)) : Sf k cells slots h nx pc ls (st) := by
  obtain ⟨p, l, e, R, s, m, args, below, meth, c, Q, base, G, D, nL⟩ := k
  exact fun H locs la hH hS hL => lv_lload_n g.1 g.2.1 d rfl (hL.2.2.2 _ _ hl) (kk H locs la hH hS hL)

theorem r_lload {i : Nat} {x : Int64} (g : Gd k own cc) (d : decode cc pc = .ok (.lload i, 2)) (hl : ls[i]? = some (some (.long x))) (kk : Sf k cells slots h nx (pc + 2) ls (.long x :: st)) : Sf k cells slots h nx pc ls (st) := by
  obtain ⟨p, l, e, R, s, m, args, below, meth, c, Q, base, G, D, nL⟩ := k
  exact fun H locs la hH hS hL => lv_lload g.1 g.2.1 d (hL.2.2.2 _ _ hl) (kk H locs la hH hS hL)

theorem r_aload_n {i : Fin 4} {x : Nat} (g : Gd k own cc) (d : decode cc pc = .ok (.aload_n i, 1)) (hl : ls[(i : Nat)]? = some (some (.ref x))) (kk : Sf k cells slots h nx (pc + 1) ls (.ref x :: st)) : Sf k cells slots h nx pc ls (st) := by
  obtain ⟨p, l, e, R, s, m, args, below, meth, c, Q, base, G, D, nL⟩ := k
  exact fun H locs la hH hS hL => lv_aload_n g.1 g.2.1 d rfl (hL.2.2.2 _ _ hl) (kk H locs la hH hS hL)

theorem r_aload {i : Nat} {x : Nat} (g : Gd k own cc) (d : decode cc pc = .ok (.aload i, 2)) (hl : ls[i]? = some (some (.ref x))) (kk : Sf k cells slots h nx (pc + 2) ls (.ref x :: st)) : Sf k cells slots h nx pc ls (st) := by
  obtain ⟨p, l, e, R, s, m, args, below, meth, c, Q, base, G, D, nL⟩ := k
  exact fun H locs la hH hS hL => lv_aload g.1 g.2.1 d (hL.2.2.2 _ _ hl) (kk H locs la hH hS hL)

theorem r_aload_nN {i : Fin 4} (g : Gd k own cc) (d : decode cc pc = .ok (.aload_n i, 1)) (hl : ls[(i : Nat)]? = some (some .null)) (kk : Sf k cells slots h nx (pc + 1) ls (.null :: st)) : Sf k cells slots h nx pc ls (st) := by
  obtain ⟨p, l, e, R, s, m, args, below, meth, c, Q, base, G, D, nL⟩ := k
  exact fun H locs la hH hS hL => lv_aload_nN g.1 g.2.1 d rfl (hL.2.2.2 _ _ hl) (kk H locs la hH hS hL)

theorem r_aloadN {i : Nat} (g : Gd k own cc) (d : decode cc pc = .ok (.aload i, 2)) (hl : ls[i]? = some (some .null)) (kk : Sf k cells slots h nx (pc + 2) ls (.null :: st)) : Sf k cells slots h nx pc ls (st) := by
  obtain ⟨p, l, e, R, s, m, args, below, meth, c, Q, base, G, D, nL⟩ := k
  exact fun H locs la hH hS hL => lv_aloadN g.1 g.2.1 d (hL.2.2.2 _ _ hl) (kk H locs la hH hS hL)

theorem r_null (g : Gd k own cc) (d : decode cc pc = .ok (.aconst_null, 1)) (kk : Sf k cells slots h nx (pc + 1) ls (.null :: st)) : Sf k cells slots h nx pc ls (st) := by
  obtain ⟨p, l, e, R, s, m, args, below, meth, c, Q, base, G, D, nL⟩ := k
  exact fun H locs la hH hS hL => lv_null g.1 g.2.1 d (kk H locs la hH hS hL)

theorem r_iadd {x y : Int32} (g : Gd k own cc) (d : decode cc pc = .ok (.iadd, 1)) (kk : Sf k cells slots h nx (pc + 1) ls (.int (x + y) :: st)) : Sf k cells slots h nx pc ls (.int y :: .int x :: st) := by
  obtain ⟨p, l, e, R, s, m, args, below, meth, c, Q, base, G, D, nL⟩ := k
  exact fun H locs la hH hS hL => lv_iadd g.1 g.2.1 d (kk H locs la hH hS hL)

theorem r_isub {x y : Int32} (g : Gd k own cc) (d : decode cc pc = .ok (.isub, 1)) (kk : Sf k cells slots h nx (pc + 1) ls (.int (x - y) :: st)) : Sf k cells slots h nx pc ls (.int y :: .int x :: st) := by
  obtain ⟨p, l, e, R, s, m, args, below, meth, c, Q, base, G, D, nL⟩ := k
  exact fun H locs la hH hS hL => lv_isub g.1 g.2.1 d (kk H locs la hH hS hL)

theorem r_imul {x y : Int32} (g : Gd k own cc) (d : decode cc pc = .ok (.imul, 1)) (kk : Sf k cells slots h nx (pc + 1) ls (.int (x * y) :: st)) : Sf k cells slots h nx pc ls (.int y :: .int x :: st) := by
  obtain ⟨p, l, e, R, s, m, args, below, meth, c, Q, base, G, D, nL⟩ := k
  exact fun H locs la hH hS hL => lv_imul g.1 g.2.1 d (kk H locs la hH hS hL)

theorem r_iand {x y : Int32} (g : Gd k own cc) (d : decode cc pc = .ok (.iand, 1)) (kk : Sf k cells slots h nx (pc + 1) ls (.int (x &&& y) :: st)) : Sf k cells slots h nx pc ls (.int y :: .int x :: st) := by
  obtain ⟨p, l, e, R, s, m, args, below, meth, c, Q, base, G, D, nL⟩ := k
  exact fun H locs la hH hS hL => lv_iand g.1 g.2.1 d (kk H locs la hH hS hL)

theorem r_ior {x y : Int32} (g : Gd k own cc) (d : decode cc pc = .ok (.ior, 1)) (kk : Sf k cells slots h nx (pc + 1) ls (.int (x ||| y) :: st)) : Sf k cells slots h nx pc ls (.int y :: .int x :: st) := by
  obtain ⟨p, l, e, R, s, m, args, below, meth, c, Q, base, G, D, nL⟩ := k
  exact fun H locs la hH hS hL => lv_ior g.1 g.2.1 d (kk H locs la hH hS hL)

theorem r_ixor {x y : Int32} (g : Gd k own cc) (d : decode cc pc = .ok (.ixor, 1)) (kk : Sf k cells slots h nx (pc + 1) ls (.int (x ^^^ y) :: st)) : Sf k cells slots h nx pc ls (.int y :: .int x :: st) := by
  obtain ⟨p, l, e, R, s, m, args, below, meth, c, Q, base, G, D, nL⟩ := k
  exact fun H locs la hH hS hL => lv_ixor g.1 g.2.1 d (kk H locs la hH hS hL)

theorem r_ishl {x y : Int32} (g : Gd k own cc) (d : decode cc pc = .ok (.ishl, 1)) (kk : Sf k cells slots h nx (pc + 1) ls (.int (x <<< (y &&& 31)) :: st)) : Sf k cells slots h nx pc ls (.int y :: .int x :: st) := by
  obtain ⟨p, l, e, R, s, m, args, below, meth, c, Q, base, G, D, nL⟩ := k
  exact fun H locs la hH hS hL => lv_ishl g.1 g.2.1 d (kk H locs la hH hS hL)

theorem r_ishr {x y : Int32} (g : Gd k own cc) (d : decode cc pc = .ok (.ishr, 1)) (kk : Sf k cells slots h nx (pc + 1) ls (.int (x >>> (y &&& 31)) :: st)) : Sf k cells slots h nx pc ls (.int y :: .int x :: st) := by
  obtain ⟨p, l, e, R, s, m, args, below, meth, c, Q, base, G, D, nL⟩ := k
  exact fun H locs la hH hS hL => lv_ishr g.1 g.2.1 d (kk H locs la hH hS hL)

theorem r_ladd {x y : Int64} (g : Gd k own cc) (d : decode cc pc = .ok (.ladd, 1)) (kk : Sf k cells slots h nx (pc + 1) ls (.long (x + y) :: st)) : Sf k cells slots h nx pc ls (.long y :: .long x :: st) := by
  obtain ⟨p, l, e, R, s, m, args, below, meth, c, Q, base, G, D, nL⟩ := k
  exact fun H locs la hH hS hL => lv_ladd g.1 g.2.1 d (kk H locs la hH hS hL)

theorem r_lsub {x y : Int64} (g : Gd k own cc) (d : decode cc pc = .ok (.lsub, 1)) (kk : Sf k cells slots h nx (pc + 1) ls (.long (x - y) :: st)) : Sf k cells slots h nx pc ls (.long y :: .long x :: st) := by
  obtain ⟨p, l, e, R, s, m, args, below, meth, c, Q, base, G, D, nL⟩ := k
  exact fun H locs la hH hS hL => lv_lsub g.1 g.2.1 d (kk H locs la hH hS hL)

theorem r_lmul {x y : Int64} (g : Gd k own cc) (d : decode cc pc = .ok (.lmul, 1)) (kk : Sf k cells slots h nx (pc + 1) ls (.long (x * y) :: st)) : Sf k cells slots h nx pc ls (.long y :: .long x :: st) := by
  obtain ⟨p, l, e, R, s, m, args, below, meth, c, Q, base, G, D, nL⟩ := k
  exact fun H locs la hH hS hL => lv_lmul g.1 g.2.1 d (kk H locs la hH hS hL)

theorem r_idiv {x y : Int32} (g : Gd k own cc) (d : decode cc pc = .ok (.idiv, 1)) (hne : ¬ y = 0) (kk : Sf k cells slots h nx (pc + 1) ls (.int (x / y) :: st)) : Sf k cells slots h nx pc ls (.int y :: .int x :: st) := by
  obtain ⟨p, l, e, R, s, m, args, below, meth, c, Q, base, G, D, nL⟩ := k
  exact fun H locs la hH hS hL => lv_idiv g.1 g.2.1 d hne (kk H locs la hH hS hL)

theorem r_irem {x y : Int32} (g : Gd k own cc) (d : decode cc pc = .ok (.irem, 1)) (hne : ¬ y = 0) (kk : Sf k cells slots h nx (pc + 1) ls (.int (x - x / y * y) :: st)) : Sf k cells slots h nx pc ls (.int y :: .int x :: st) := by
  obtain ⟨p, l, e, R, s, m, args, below, meth, c, Q, base, G, D, nL⟩ := k
  exact fun H locs la hH hS hL => lv_irem g.1 g.2.1 d hne (kk H locs la hH hS hL)

theorem r_i2l {x : Int32} (g : Gd k own cc) (d : decode cc pc = .ok (.i2l, 1)) (kk : Sf k cells slots h nx (pc + 1) ls (.long x.toInt64 :: st)) : Sf k cells slots h nx pc ls (.int x :: st) := by
  obtain ⟨p, l, e, R, s, m, args, below, meth, c, Q, base, G, D, nL⟩ := k
  exact fun H locs la hH hS hL => lv_i2l g.1 g.2.1 d rfl (kk H locs la hH hS hL)

theorem r_lcmp {x y : Int64} (g : Gd k own cc) (d : decode cc pc = .ok (.lcmp, 1)) (kk : Sf k cells slots h nx (pc + 1) ls (.int (lg_cmp x y) :: st)) : Sf k cells slots h nx pc ls (.long y :: .long x :: st) := by
  obtain ⟨p, l, e, R, s, m, args, below, meth, c, Q, base, G, D, nL⟩ := k
  exact fun H locs la hH hS hL => W.lcmp g.1 g.2.1 d (kk H locs la hH hS hL)

theorem r_dup {v : Value} (g : Gd k own cc) (d : decode cc pc = .ok (.dup, 1)) (hv : v.category = 1) (kk : Sf k cells slots h nx (pc + 1) ls (v :: v :: st)) : Sf k cells slots h nx pc ls (v :: st) := by
  obtain ⟨p, l, e, R, s, m, args, below, meth, c, Q, base, G, D, nL⟩ := k
  exact fun H locs la hH hS hL => lv_dup g.1 g.2.1 d hv (kk H locs la hH hS hL)

theorem r_dup2 {v w : Value} (g : Gd k own cc) (d : decode cc pc = .ok (.dup2, 1)) (hv : v.category = 1) (hw : w.category = 1) (kk : Sf k cells slots h nx (pc + 1) ls (v :: w :: v :: w :: st)) : Sf k cells slots h nx pc ls (v :: w :: st) := by
  obtain ⟨p, l, e, R, s, m, args, below, meth, c, Q, base, G, D, nL⟩ := k
  exact fun H locs la hH hS hL => lv_dup2_11 g.1 g.2.1 d hv hw (kk H locs la hH hS hL)

theorem r_pop2 {v : Value} (g : Gd k own cc) (d : decode cc pc = .ok (.pop2, 1)) (hv : v.category = 2) (kk : Sf k cells slots h nx (pc + 1) ls (st)) : Sf k cells slots h nx pc ls (v :: st) := by
  obtain ⟨p, l, e, R, s, m, args, below, meth, c, Q, base, G, D, nL⟩ := k
  exact fun H locs la hH hS hL => lv_pop2_2 g.1 g.2.1 d hv (kk H locs la hH hS hL)

theorem r_istore_n {i : Fin 4} {x : Int32} {ls2 : List (Option Value)} (g : Gd k own cc) (d : decode cc pc = .ok (.istore_n i, 1)) (hn : Nat.ble ((i : Nat) + 1) ls.length = true) (hno : noL ls (i : Nat) = true) (el : ls.set (i : Nat) (some (.int x)) = ls2) (kk : Sf k cells slots h nx (pc + 1) ls2 st) : Sf k cells slots h nx pc ls (.int x :: st) := by
  obtain ⟨p, l, e, R, s, m, args, below, meth, c, Q, base, G, D, nL⟩ := k
  intro H locs la hH hS hL
  have hn2 := Nat.le_of_ble_eq_true hn
  have hlen := hL.2.2.1
  exact lv_istore_n g.1 g.2.1 d rfl hL.has (by omega) rfl (fun la2 h2 => kk H locs la2 hH hS (el ▸ lh_store1 hlen (by omega) hno h2))

theorem r_istore {i : Nat} {x : Int32} {ls2 : List (Option Value)} (g : Gd k own cc) (d : decode cc pc = .ok (.istore i, 2)) (hn : Nat.ble ((i : Nat) + 1) ls.length = true) (hno : noL ls (i : Nat) = true) (el : ls.set (i : Nat) (some (.int x)) = ls2) (kk : Sf k cells slots h nx (pc + 2) ls2 st) : Sf k cells slots h nx pc ls (.int x :: st) := by
  obtain ⟨p, l, e, R, s, m, args, below, meth, c, Q, base, G, D, nL⟩ := k
  intro H locs la hH hS hL
  have hn2 := Nat.le_of_ble_eq_true hn
  have hlen := hL.2.2.1
  exact lv_istore g.1 g.2.1 d hL.has (by omega) rfl (fun la2 h2 => kk H locs la2 hH hS (el ▸ lh_store1 hlen (by omega) hno h2))

theorem r_lstore_n {i : Fin 4} {x : Int64} {ls2 : List (Option Value)} (g : Gd k own cc) (d : decode cc pc = .ok (.lstore_n i, 1)) (hn : Nat.ble ((i : Nat) + 1 + 1) ls.length = true) (hno : noL ls (i : Nat) = true) (el : (ls.set (i : Nat) (some (.long x))).set ((i : Nat) + 1) none = ls2) (kk : Sf k cells slots h nx (pc + 1) ls2 st) : Sf k cells slots h nx pc ls (.long x :: st) := by
  obtain ⟨p, l, e, R, s, m, args, below, meth, c, Q, base, G, D, nL⟩ := k
  intro H locs la hH hS hL
  have hn2 := Nat.le_of_ble_eq_true hn
  have hlen := hL.2.2.1
  exact lv_lstore_n g.1 g.2.1 d rfl hL.has (by omega) rfl (fun la2 h2 => kk H locs la2 hH hS (el ▸ lh_store2 hlen (by omega) hno h2))

theorem r_lstore {i : Nat} {x : Int64} {ls2 : List (Option Value)} (g : Gd k own cc) (d : decode cc pc = .ok (.lstore i, 2)) (hn : Nat.ble ((i : Nat) + 1 + 1) ls.length = true) (hno : noL ls (i : Nat) = true) (el : (ls.set (i : Nat) (some (.long x))).set ((i : Nat) + 1) none = ls2) (kk : Sf k cells slots h nx (pc + 2) ls2 st) : Sf k cells slots h nx pc ls (.long x :: st) := by
  obtain ⟨p, l, e, R, s, m, args, below, meth, c, Q, base, G, D, nL⟩ := k
  intro H locs la hH hS hL
  have hn2 := Nat.le_of_ble_eq_true hn
  have hlen := hL.2.2.1
  exact lv_lstore g.1 g.2.1 d hL.has (by omega) rfl (fun la2 h2 => kk H locs la2 hH hS (el ▸ lh_store2 hlen (by omega) hno h2))

theorem r_astore_n {i : Fin 4} {x : Nat} {ls2 : List (Option Value)} (g : Gd k own cc) (d : decode cc pc = .ok (.astore_n i, 1)) (hn : Nat.ble ((i : Nat) + 1) ls.length = true) (hno : noL ls (i : Nat) = true) (el : ls.set (i : Nat) (some (.ref x)) = ls2) (kk : Sf k cells slots h nx (pc + 1) ls2 st) : Sf k cells slots h nx pc ls (.ref x :: st) := by
  obtain ⟨p, l, e, R, s, m, args, below, meth, c, Q, base, G, D, nL⟩ := k
  intro H locs la hH hS hL
  have hn2 := Nat.le_of_ble_eq_true hn
  have hlen := hL.2.2.1
  exact lv_astore_n g.1 g.2.1 d rfl hL.has (by omega) rfl (fun la2 h2 => kk H locs la2 hH hS (el ▸ lh_store1 hlen (by omega) hno h2))

theorem r_astore {i : Nat} {x : Nat} {ls2 : List (Option Value)} (g : Gd k own cc) (d : decode cc pc = .ok (.astore i, 2)) (hn : Nat.ble ((i : Nat) + 1) ls.length = true) (hno : noL ls (i : Nat) = true) (el : ls.set (i : Nat) (some (.ref x)) = ls2) (kk : Sf k cells slots h nx (pc + 2) ls2 st) : Sf k cells slots h nx pc ls (.ref x :: st) := by
  obtain ⟨p, l, e, R, s, m, args, below, meth, c, Q, base, G, D, nL⟩ := k
  intro H locs la hH hS hL
  have hn2 := Nat.le_of_ble_eq_true hn
  have hlen := hL.2.2.1
  exact lv_astore g.1 g.2.1 d hL.has (by omega) rfl (fun la2 h2 => kk H locs la2 hH hS (el ▸ lh_store1 hlen (by omega) hno h2))

theorem r_astore_nN {i : Fin 4} {ls2 : List (Option Value)} (g : Gd k own cc) (d : decode cc pc = .ok (.astore_n i, 1)) (hn : Nat.ble ((i : Nat) + 1) ls.length = true) (hno : noL ls (i : Nat) = true) (el : ls.set (i : Nat) (some (.null)) = ls2) (kk : Sf k cells slots h nx (pc + 1) ls2 st) : Sf k cells slots h nx pc ls (.null :: st) := by
  obtain ⟨p, l, e, R, s, m, args, below, meth, c, Q, base, G, D, nL⟩ := k
  intro H locs la hH hS hL
  have hn2 := Nat.le_of_ble_eq_true hn
  have hlen := hL.2.2.1
  exact lv_astore_nN g.1 g.2.1 d rfl hL.has (by omega) rfl (fun la2 h2 => kk H locs la2 hH hS (el ▸ lh_store1 hlen (by omega) hno h2))

theorem r_astoreN {i : Nat} {ls2 : List (Option Value)} (g : Gd k own cc) (d : decode cc pc = .ok (.astore i, 2)) (hn : Nat.ble ((i : Nat) + 1) ls.length = true) (hno : noL ls (i : Nat) = true) (el : ls.set (i : Nat) (some (.null)) = ls2) (kk : Sf k cells slots h nx (pc + 2) ls2 st) : Sf k cells slots h nx pc ls (.null :: st) := by
  obtain ⟨p, l, e, R, s, m, args, below, meth, c, Q, base, G, D, nL⟩ := k
  intro H locs la hH hS hL
  have hn2 := Nat.le_of_ble_eq_true hn
  have hlen := hL.2.2.1
  exact lv_astoreN g.1 g.2.1 d hL.has (by omega) rfl (fun la2 h2 => kk H locs la2 hH hS (el ▸ lh_store1 hlen (by omega) hno h2))

theorem r_iinc {i : Nat} {n : Int} {x v : Int32} {ls2 : List (Option Value)} (g : Gd k own cc) (d : decode cc pc = .ok (.iinc i n, 3)) (hl : ls[i]? = some (some (.int x))) (hv : x + Int32.ofInt n = v) (hno : noL ls i = true) (el : ls.set i (some (.int v)) = ls2) (kk : Sf k cells slots h nx (pc + 3) ls2 st) : Sf k cells slots h nx pc ls st := by
  obtain ⟨p, l, e, R, s, m, args, below, meth, c, Q, base, G, D, nL⟩ := k
  intro H locs la hH hS hL
  have hlen := hL.2.2.1
  have hil : i < nL := by rw [← hlen]; exact (List.getElem?_eq_some_iff.mp hl).1
  obtain ⟨j, hj⟩ := List.getElem?_of_mem (lprs_mem.mpr ⟨hil, hl⟩)
  exact lv_iinc g.1 g.2.1 d hL.has hj hv hil rfl (fun la2 h2 => kk H locs la2 hH hS (el ▸ lh_store1 hlen hil hno h2))

theorem r_if_eq {x : Int32} {off : Int} (tgt : Nat) (g : Gd k own cc) (d : decode cc pc = .ok (.ifCond .eq off, 3)) (ht : (pc : Int) + off = (tgt : Int)) (kt : x = 0 → Sf k cells slots h nx tgt ls st) (kf : ¬ x = 0 → Sf k cells slots h nx (pc + 3) ls st) : Sf k cells slots h nx pc ls (.int x :: st) := by
  obtain ⟨p, l, e, R, s, m, args, below, meth, c, Q, base, G, D, nL⟩ := k
  exact fun H locs la hH hS hL => lv_if_eq g.1 g.2.1 d ht (fun q => kt q H locs la hH hS hL) (fun q => kf q H locs la hH hS hL)

theorem r_icmp_eq {x y : Int32} {off : Int} (tgt : Nat) (g : Gd k own cc) (d : decode cc pc = .ok (.if_icmp .eq off, 3)) (ht : (pc : Int) + off = (tgt : Int)) (kt : x = y → Sf k cells slots h nx tgt ls st) (kf : ¬ x = y → Sf k cells slots h nx (pc + 3) ls st) : Sf k cells slots h nx pc ls (.int y :: .int x :: st) := by
  obtain ⟨p, l, e, R, s, m, args, below, meth, c, Q, base, G, D, nL⟩ := k
  exact fun H locs la hH hS hL => lv_icmp_eq g.1 g.2.1 d ht (fun q => kt q H locs la hH hS hL) (fun q => kf q H locs la hH hS hL)

theorem r_if_ne {x : Int32} {off : Int} (tgt : Nat) (g : Gd k own cc) (d : decode cc pc = .ok (.ifCond .ne off, 3)) (ht : (pc : Int) + off = (tgt : Int)) (kt : ¬ x = 0 → Sf k cells slots h nx tgt ls st) (kf : x = 0 → Sf k cells slots h nx (pc + 3) ls st) : Sf k cells slots h nx pc ls (.int x :: st) := by
  obtain ⟨p, l, e, R, s, m, args, below, meth, c, Q, base, G, D, nL⟩ := k
  exact fun H locs la hH hS hL => lv_if_ne g.1 g.2.1 d ht (fun q => kt q H locs la hH hS hL) (fun q => kf q H locs la hH hS hL)

theorem r_icmp_ne {x y : Int32} {off : Int} (tgt : Nat) (g : Gd k own cc) (d : decode cc pc = .ok (.if_icmp .ne off, 3)) (ht : (pc : Int) + off = (tgt : Int)) (kt : ¬ x = y → Sf k cells slots h nx tgt ls st) (kf : x = y → Sf k cells slots h nx (pc + 3) ls st) : Sf k cells slots h nx pc ls (.int y :: .int x :: st) := by
  obtain ⟨p, l, e, R, s, m, args, below, meth, c, Q, base, G, D, nL⟩ := k
  exact fun H locs la hH hS hL => lv_icmp_ne g.1 g.2.1 d ht (fun q => kt q H locs la hH hS hL) (fun q => kf q H locs la hH hS hL)

theorem r_if_lt {x : Int32} {off : Int} (tgt : Nat) (g : Gd k own cc) (d : decode cc pc = .ok (.ifCond .lt off, 3)) (ht : (pc : Int) + off = (tgt : Int)) (kt : x < 0 → Sf k cells slots h nx tgt ls st) (kf : ¬ x < 0 → Sf k cells slots h nx (pc + 3) ls st) : Sf k cells slots h nx pc ls (.int x :: st) := by
  obtain ⟨p, l, e, R, s, m, args, below, meth, c, Q, base, G, D, nL⟩ := k
  exact fun H locs la hH hS hL => lv_if_lt g.1 g.2.1 d ht (fun q => kt q H locs la hH hS hL) (fun q => kf q H locs la hH hS hL)

theorem r_icmp_lt {x y : Int32} {off : Int} (tgt : Nat) (g : Gd k own cc) (d : decode cc pc = .ok (.if_icmp .lt off, 3)) (ht : (pc : Int) + off = (tgt : Int)) (kt : x < y → Sf k cells slots h nx tgt ls st) (kf : ¬ x < y → Sf k cells slots h nx (pc + 3) ls st) : Sf k cells slots h nx pc ls (.int y :: .int x :: st) := by
  obtain ⟨p, l, e, R, s, m, args, below, meth, c, Q, base, G, D, nL⟩ := k
  exact fun H locs la hH hS hL => lv_icmp_lt g.1 g.2.1 d ht (fun q => kt q H locs la hH hS hL) (fun q => kf q H locs la hH hS hL)

theorem r_if_ge {x : Int32} {off : Int} (tgt : Nat) (g : Gd k own cc) (d : decode cc pc = .ok (.ifCond .ge off, 3)) (ht : (pc : Int) + off = (tgt : Int)) (kt : 0 ≤ x → Sf k cells slots h nx tgt ls st) (kf : ¬ 0 ≤ x → Sf k cells slots h nx (pc + 3) ls st) : Sf k cells slots h nx pc ls (.int x :: st) := by
  obtain ⟨p, l, e, R, s, m, args, below, meth, c, Q, base, G, D, nL⟩ := k
  exact fun H locs la hH hS hL => lv_if_ge g.1 g.2.1 d ht (fun q => kt q H locs la hH hS hL) (fun q => kf q H locs la hH hS hL)

theorem r_icmp_ge {x y : Int32} {off : Int} (tgt : Nat) (g : Gd k own cc) (d : decode cc pc = .ok (.if_icmp .ge off, 3)) (ht : (pc : Int) + off = (tgt : Int)) (kt : y ≤ x → Sf k cells slots h nx tgt ls st) (kf : ¬ y ≤ x → Sf k cells slots h nx (pc + 3) ls st) : Sf k cells slots h nx pc ls (.int y :: .int x :: st) := by
  obtain ⟨p, l, e, R, s, m, args, below, meth, c, Q, base, G, D, nL⟩ := k
  exact fun H locs la hH hS hL => lv_icmp_ge g.1 g.2.1 d ht (fun q => kt q H locs la hH hS hL) (fun q => kf q H locs la hH hS hL)

theorem r_if_gt {x : Int32} {off : Int} (tgt : Nat) (g : Gd k own cc) (d : decode cc pc = .ok (.ifCond .gt off, 3)) (ht : (pc : Int) + off = (tgt : Int)) (kt : 0 < x → Sf k cells slots h nx tgt ls st) (kf : ¬ 0 < x → Sf k cells slots h nx (pc + 3) ls st) : Sf k cells slots h nx pc ls (.int x :: st) := by
  obtain ⟨p, l, e, R, s, m, args, below, meth, c, Q, base, G, D, nL⟩ := k
  exact fun H locs la hH hS hL => lv_if_gt g.1 g.2.1 d ht (fun q => kt q H locs la hH hS hL) (fun q => kf q H locs la hH hS hL)

theorem r_icmp_gt {x y : Int32} {off : Int} (tgt : Nat) (g : Gd k own cc) (d : decode cc pc = .ok (.if_icmp .gt off, 3)) (ht : (pc : Int) + off = (tgt : Int)) (kt : y < x → Sf k cells slots h nx tgt ls st) (kf : ¬ y < x → Sf k cells slots h nx (pc + 3) ls st) : Sf k cells slots h nx pc ls (.int y :: .int x :: st) := by
  obtain ⟨p, l, e, R, s, m, args, below, meth, c, Q, base, G, D, nL⟩ := k
  exact fun H locs la hH hS hL => lv_icmp_gt g.1 g.2.1 d ht (fun q => kt q H locs la hH hS hL) (fun q => kf q H locs la hH hS hL)

theorem r_if_le {x : Int32} {off : Int} (tgt : Nat) (g : Gd k own cc) (d : decode cc pc = .ok (.ifCond .le off, 3)) (ht : (pc : Int) + off = (tgt : Int)) (kt : x ≤ 0 → Sf k cells slots h nx tgt ls st) (kf : ¬ x ≤ 0 → Sf k cells slots h nx (pc + 3) ls st) : Sf k cells slots h nx pc ls (.int x :: st) := by
  obtain ⟨p, l, e, R, s, m, args, below, meth, c, Q, base, G, D, nL⟩ := k
  exact fun H locs la hH hS hL => lv_if_le g.1 g.2.1 d ht (fun q => kt q H locs la hH hS hL) (fun q => kf q H locs la hH hS hL)

theorem r_icmp_le {x y : Int32} {off : Int} (tgt : Nat) (g : Gd k own cc) (d : decode cc pc = .ok (.if_icmp .le off, 3)) (ht : (pc : Int) + off = (tgt : Int)) (kt : x ≤ y → Sf k cells slots h nx tgt ls st) (kf : ¬ x ≤ y → Sf k cells slots h nx (pc + 3) ls st) : Sf k cells slots h nx pc ls (.int y :: .int x :: st) := by
  obtain ⟨p, l, e, R, s, m, args, below, meth, c, Q, base, G, D, nL⟩ := k
  exact fun H locs la hH hS hL => lv_icmp_le g.1 g.2.1 d ht (fun q => kt q H locs la hH hS hL) (fun q => kf q H locs la hH hS hL)

theorem r_goto {off : Int} (tgt : Nat) (g : Gd k own cc) (d : decode cc pc = .ok (.goto off, 3)) (ht : (pc : Int) + off = (tgt : Int)) (kk : Sf k cells slots h nx tgt ls st) : Sf k cells slots h nx pc ls st := by
  obtain ⟨p, l, e, R, s, m, args, below, meth, c, Q, base, G, D, nL⟩ := k
  exact fun H locs la hH hS hL => lv_goto g.1 g.2.1 d ht (kk H locs la hH hS hL)

theorem r_acmp_eq {rx ry : Option Nat} {off : Int} (tgt : Nat) (g : Gd k own cc) (d : decode cc pc = .ok (.if_acmp .eq off, 3)) (ht : (pc : Int) + off = (tgt : Int)) (kt : rx = ry → Sf k cells slots h nx tgt ls st) (kf : ¬ rx = ry → Sf k cells slots h nx (pc + 3) ls st) : Sf k cells slots h nx pc ls (va_rf ry :: va_rf rx :: st) := by
  obtain ⟨p, l, e, R, s, m, args, below, meth, c, Q, base, G, D, nL⟩ := k
  exact fun H locs la hH hS hL => lv_acmp_eq g.1 g.2.1 d ht (fun q => kt q H locs la hH hS hL) (fun q => kf q H locs la hH hS hL)

theorem r_acmp_ne {rx ry : Option Nat} {off : Int} (tgt : Nat) (g : Gd k own cc) (d : decode cc pc = .ok (.if_acmp .ne off, 3)) (ht : (pc : Int) + off = (tgt : Int)) (kt : ¬ rx = ry → Sf k cells slots h nx tgt ls st) (kf : rx = ry → Sf k cells slots h nx (pc + 3) ls st) : Sf k cells slots h nx pc ls (va_rf ry :: va_rf rx :: st) := by
  obtain ⟨p, l, e, R, s, m, args, below, meth, c, Q, base, G, D, nL⟩ := k
  exact fun H locs la hH hS hL => lv_acmp_ne g.1 g.2.1 d ht (fun q => kt q H locs la hH hS hL) (fun q => kf q H locs la hH hS hL)

theorem r_ifnonnull {x : Nat} {off : Int} (tgt : Nat) (g : Gd k own cc) (d : decode cc pc = .ok (.ifnonnull off, 3)) (ht : (pc : Int) + off = (tgt : Int)) (kk : Sf k cells slots h nx tgt ls st) : Sf k cells slots h nx pc ls (.ref x :: st) := by
  obtain ⟨p, l, e, R, s, m, args, below, meth, c, Q, base, G, D, nL⟩ := k
  exact fun H locs la hH hS hL => lv_ifnonnull g.1 g.2.1 d ht (kk H locs la hH hS hL)

theorem r_ifnonnullN {off : Int} (g : Gd k own cc) (d : decode cc pc = .ok (.ifnonnull off, 3)) (kk : Sf k cells slots h nx (pc + 3) ls st) : Sf k cells slots h nx pc ls (.null :: st) := by
  obtain ⟨p, l, e, R, s, m, args, below, meth, c, Q, base, G, D, nL⟩ := k
  exact fun H locs la hH hS hL => lv_ifnonnullN g.1 g.2.1 d (kk H locs la hH hS hL)

theorem r_ifnull {x : Nat} {off : Int} (g : Gd k own cc) (d : decode cc pc = .ok (.ifnull off, 3)) (kk : Sf k cells slots h nx (pc + 3) ls st) : Sf k cells slots h nx pc ls (.ref x :: st) := by
  obtain ⟨p, l, e, R, s, m, args, below, meth, c, Q, base, G, D, nL⟩ := k
  exact fun H locs la hH hS hL => lv_ifnull g.1 g.2.1 d (kk H locs la hH hS hL)

theorem r_ifnullN {off : Int} (tgt : Nat) (g : Gd k own cc) (d : decode cc pc = .ok (.ifnull off, 3)) (ht : (pc : Int) + off = (tgt : Int)) (kk : Sf k cells slots h nx tgt ls st) : Sf k cells slots h nx pc ls (.null :: st) := by
  obtain ⟨p, l, e, R, s, m, args, below, meth, c, Q, base, G, D, nL⟩ := k
  exact fun H locs la hH hS hL => lv_ifnullN g.1 g.2.1 d ht (kk H locs la hH hS hL)

end RULES
end
section
/-! 04: rules of the heap, of returns and of calls -/
theorem nI_j {i : Int32} {j n : Nat} (e : i = nI j) (hj : j < n) (hn : n < 2 ^ 31) : vp_in i n ∧ i.toNatClampNeg = j := by
  subst e
  exact ⟨vp_in_nI hj hn, nI_clamp (by omega)⟩
theorem hp1 {G : Nat → ClassId} {D : va_G} {nx : Nat} {h : Hp} {H : Heap} {a : Nat} {x : PE} (hH : HPok G D nx h H) (ha : h a = some x) : va_P D vwCl [(a, toE G x)] H := by
  intro j q hq
  match j, hq with
  | 0, hq => cases hq; exact hH.2 a x ha
  | j + 1, hq => simp at hq
theorem hp_lt {G : Nat → ClassId} {D : va_G} {nx : Nat} {h : Hp} {H : Heap} (hH : HPok G D nx h H) : ∀ b x, h b = some x → b < nx := fun b x hb => by
  have := (hH.2 b x hb).lt
  rw [hH.1] at this
  exact this
theorem hp_put {G : Nat → ClassId} {D : va_G} {nx : Nat} {h : Hp} {H H1 : Heap} {a : Nat} {x : PE} (hH : HPok G D nx h H) (z : H1.size = H.size) (oq : ∀ q : Nat, q ≠ a → H1[q]? = H[q]?) (he : va_at D vwCl (a, toE G x) H1) : HPok G D nx (hpU h a x) H1 := by
  refine ⟨z.trans hH.1, fun b y hb => ?_⟩
  by_cases e : b = a
  · subst e
    rw [hpU_eq] at hb
    cases hb
    exact he
  · rw [hpU_ne e] at hb
    exact (hH.2 b y hb).kept (oq b e)
theorem hp_new {G : Nat → ClassId} {D : va_G} {nx : Nat} {h : Hp} {H H1 : Heap} {x : PE} (hH : HPok G D nx h H) (z : H1.size = nx + 1) (oq : ∀ q : Nat, q < nx → H1[q]? = H[q]?) (he : va_at D vwCl (nx, toE G x) H1) : HPok G D (nx + 1) (hpU h nx x) H1 := by
  refine ⟨z, fun b y hb => ?_⟩
  by_cases e : b = nx
  · subst e
    rw [hpU_eq] at hb
    cases hb
    exact he
  · rw [hpU_ne e] at hb
    exact (hH.2 b y hb).kept (oq b (hp_lt hH b y hb))
section HEAP
variable {k : Cx} {own : String} {cc : ByteArray} {cells slots : Nat} {h : Hp} {nx pc : Nat} {ls : List (Option Value)} {st : List Value}
theorem r_getf {idx ci kf a : Nat} {ty : FieldType} {fin : Bool} {fs : List Value} {v : Value} (g : Gd k own cc) (f : FL own idx ci kf ty fin) (ha : h a = some (eO ci fs)) (hv : fs[kf]? = some v) (d : decode cc pc = .ok (.getfield idx, 3)) (kk : Sf k cells slots h nx (pc + 3) ls (v :: st)) : Sf k cells slots h nx pc ls (.ref a :: st) := by
  obtain ⟨p, l, e, R, s, m, args, below, meth, c, Q, base, G, D, nL⟩ := k
  obtain ⟨C, T, N, hc, hk, hw, -, -, hC⟩ := f
  intro H locs la hH hS hL
  exact va_get (ci := ci) (fs := fs) g.1 g.2.1 g.2.2.2.2.1 (cls_in hc) g.2.2.2.1 g.2.2.2.2.2.1.1 (hp1 hH ha) 0 rfl hc kf hk (g.2.2.2.2.1 _ hw) (fun x q => by rw [hC] at q; exact q) hv d (kk H locs la hH hS hL)
theorem r_putf {idx ci kf a : Nat} {ty : FieldType} {fs : List Value} {v : Value} (g : Gd k own cc) (f : FL own idx ci kf ty false) (ha : h a = some (eO ci fs)) (hb : cBase k ≤ a) (hl : kf < fs.length) (hn : narrow ty v = v) (hfit : fits ty v = true) (d : decode cc pc = .ok (.putfield idx, 3)) (kk : Sf k cells slots (hpU h a (eO ci (fs.set kf v))) nx (pc + 3) ls st) : Sf k cells slots h nx pc ls (v :: .ref a :: st) := by
  obtain ⟨p, l, e, R, s, m, args, below, meth, c, Q, base, G, D, nL⟩ := k
  obtain ⟨C, T, N, hc, hk, hw, hd, hfin, hC⟩ := f
  intro H locs la hH hS hL
  obtain ⟨ty0, hty⟩ := cls_ty hc
  have hap := va_apart (own := own) g.2.2.2.2.1 (cls_in hc) ty0 hty (cls_nm hc) g.2.2.2.2.2.1.1 hc
  obtain ⟨r, h1, cell, q1, q2, q3, q4⟩ := hH.2 a _ ha
  have hr : r = (C, T, N) := Option.some.inj (h1.symm.trans hc)
  subst hr
  obtain ⟨hSl, hfc, kC, hkC, hkind⟩ := g.2.2.2.2.2.1.1.1 ci _ hc
  obtain ⟨cf, kf9, fi, f9, hi, hsl⟩ := hSl kf hk
  have hlay := g.2.2.2.2.1 _ (cls_in hc _ (u_in_lay hk))
  unfold u_lay at hlay
  rw [if_neg (by rw [hfin]; decide)] at hlay
  have hst := (u_facts hfc hkC (u_lays g.2.2.2.2.1 (cls_in hc) hk) hi).1
  have h6 := u_store hfc hkC hkind hlay hi hd hn hfit
  refine W.putK g.1 g.2.1 (f := f9) ⟨g.2.2.2.1, g.2.2.2.2.1 _ hw, ⟨_, _, _, by rw [hC] at hi; exact hi⟩, hst⟩ (by rw [q2]; exact h6) q1 q3 (by rw [hsl]; exact k2_hasslot (q4 kf hk)) rfl rfl d fun H' e1 e2 e3 => ?_
  rw [hsl] at e1 ⊢
  exact kk H' _ la (hp_put hH e2 e3 ⟨_, hc, t_OB.to (V := updV (vp_V fs) kf v) ⟨_, e1, q2, q3, t_set q4 hap hk v⟩ (fun j _ => vp_updV_set hl v j)⟩) (hS.put e2 e3 hb) hL
/-- a final field, in its class's constructor -/
theorem r_putF {idx ci kf a : Nat} {ty : FieldType} {fs : List Value} {v : Value} (g : Gd k own cc) (f : FL own idx ci kf ty true) (hown9 : (vwCl[ci]?).map (fun q => q.1) = some own) (hnm9 : cName k = "<init>") (ha : h a = some (eO ci fs)) (hb : cBase k ≤ a) (hl : kf < fs.length) (hn : narrow ty v = v) (hfit : fits ty v = true) (d : decode cc pc = .ok (.putfield idx, 3)) (kk : Sf k cells slots (hpU h a (eO ci (fs.set kf v))) nx (pc + 3) ls st) : Sf k cells slots h nx pc ls (v :: .ref a :: st) := by
  obtain ⟨p, l, e, R, s, m, args, below, meth, c, Q, base, G, D, nL⟩ := k
  obtain ⟨C, T, N, hc, hk, hw, hd, hfin, hC⟩ := f
  intro H locs la hH hS hL
  have hCo : C = own := by rw [hc] at hown9; exact Option.some.inj hown9
  subst hCo
  obtain ⟨ty0, hty⟩ := cls_ty hc
  have hap := va_apart (own := C) g.2.2.2.2.1 (cls_in hc) ty0 hty (cls_nm hc) g.2.2.2.2.2.1.1 hc
  obtain ⟨r, h1, cell, q1, q2, q3, q4⟩ := hH.2 a _ ha
  have hr : r = (C, T, N) := Option.some.inj (h1.symm.trans hc)
  subst hr
  obtain ⟨hSl, hfc, kC, hkC, hkind⟩ := g.2.2.2.2.2.1.1.1 ci _ hc
  obtain ⟨cf, kf9, fi, f9, hi, hsl⟩ := hSl kf hk
  have hlay := g.2.2.2.2.1 _ (cls_in hc _ (u_in_lay hk))
  unfold u_lay at hlay
  rw [if_pos hfin] at hlay
  have hst := (u_facts hfc hkC (u_lays g.2.2.2.2.1 (cls_in hc) hk) hi).1
  have hcf : m.cls = cf := by
    obtain ⟨_, _, c', _, _, _, -, -, hf', -, -, -, hown2, -⟩ := Cond.laysFinal_spec hlay
    have e1 : c' = cf := by have := hi.symm.trans hf'; simp at this; exact this.1.symm
    rw [hC] at hown2
    rw [← e1]; exact Option.some.inj (g.2.2.2.1.symm.trans hown2)
  have h6 := u_fits hfc hkC hkind (Or.inr hlay) hi hd hn hfit
  refine W.putFinK g.1 g.2.1 g.2.2.2.1 (g.2.2.2.2.1 _ hw) (by rw [hC] at hi; exact hi) hst hcf hnm9 (by rw [q2]; exact h6) q1 q3 (by rw [hsl]; exact k2_hasslot (q4 kf hk)) rfl rfl d fun H' e1 e2 e3 => ?_
  rw [hsl] at e1 ⊢
  exact kk H' _ la (hp_put hH e2 e3 ⟨_, hc, t_OB.to (V := updV (vp_V fs) kf v) ⟨_, e1, q2, q3, t_set q4 hap hk v⟩ (fun j _ => vp_updV_set hl v j)⟩) (hS.put e2 e3 hb) hL
theorem r_iald {a n j : Nat} {f : Nat → Int32} {i : Int32} (g : Gd k own cc) (ha : h a = some (eI n f)) (hi : i = nI j) (hj : j < n) (hn : n < 2 ^ 31) (d : decode cc pc = .ok (.iaload, 1)) (kk : Sf k cells slots h nx (pc + 1) ls (.int (f j) :: st)) : Sf k cells slots h nx pc ls (.int i :: .ref a :: st) := by
  obtain ⟨p, l, e, R, s, m, args, below, meth, c, Q, base, G, D, nL⟩ := k
  intro H locs la hH hS hL
  obtain ⟨h1, h2⟩ := nI_j hi hj hn
  subst h2
  exact va_iald g.1 g.2.1 g.2.2.2.2.2.1.1 (hp1 hH ha) 0 0 rfl rfl h1 d (kk H locs la hH hS hL)
theorem r_zald {a n j : Nat} {f : Nat → Int32} {i : Int32} (g : Gd k own cc) (ha : h a = some (eZ n f)) (hi : i = nI j) (hj : j < n) (hn : n < 2 ^ 31) (d : decode cc pc = .ok (.baload, 1)) (kk : Sf k cells slots h nx (pc + 1) ls (.int (f j) :: st)) : Sf k cells slots h nx pc ls (.int i :: .ref a :: st) := by
  obtain ⟨p, l, e, R, s, m, args, below, meth, c, Q, base, G, D, nL⟩ := k
  intro H locs la hH hS hL
  obtain ⟨h1, h2⟩ := nI_j hi hj hn
  subst h2
  exact va_zald g.1 g.2.1 g.2.2.2.2.2.1.1 (hp1 hH ha) 0 2 rfl rfl h1 d (kk H locs la hH hS hL)
theorem r_lald {a n j : Nat} {f : Nat → Int64} {i : Int32} (g : Gd k own cc) (ha : h a = some (eJ n f)) (hi : i = nI j) (hj : j < n) (hn : n < 2 ^ 31) (d : decode cc pc = .ok (.laload, 1)) (kk : Sf k cells slots h nx (pc + 1) ls (.long (f j) :: st)) : Sf k cells slots h nx pc ls (.int i :: .ref a :: st) := by
  obtain ⟨p, l, e, R, s, m, args, below, meth, c, Q, base, G, D, nL⟩ := k
  intro H locs la hH hS hL
  obtain ⟨h1, h2⟩ := nI_j hi hj hn
  subst h2
  exact va_lald g.1 g.2.1 g.2.2.2.2.2.1.1 (hp1 hH ha) 0 1 rfl rfl h1 d (kk H locs la hH hS hL)
theorem r_aald {a n j t : Nat} {f : Nat → Option Nat} {i : Int32} (g : Gd k own cc) (ha : h a = some (eQ t n f)) (ht : t < 2) (hi : i = nI j) (hj : j < n) (hn : n < 2 ^ 31) (d : decode cc pc = .ok (.aaload, 1)) (kk : Sf k cells slots h nx (pc + 1) ls (va_rf (f j) :: st)) : Sf k cells slots h nx pc ls (.int i :: .ref a :: st) := by
  obtain ⟨p, l, e, R, s, m, args, below, meth, c, Q, base, G, D, nL⟩ := k
  intro H locs la hH hS hL
  obtain ⟨h1, h2⟩ := nI_j hi hj hn
  subst h2
  match t, ht with
  | 0, _ => exact va_aldq (C := RX1) g.1 g.2.1 g.2.2.2.2.2.1.1 (hp1 hH ha) 0 3 rfl rfl h1 d (kk H locs la hH hS hL)
  | 1, _ => exact va_aldq (C := RX2) g.1 g.2.1 g.2.2.2.2.2.1.1 (hp1 hH ha) 0 4 rfl rfl h1 d (kk H locs la hH hS hL)
theorem arr_in {cA n : Nat} {f : Nat → Value} {i : Int32} (h : vp_in i n) : ¬ (i < 0 ∨ (arrV cA n f).slots.size ≤ i.toNatClampNeg) := by rw [arrV_size]; exact h
theorem updV_i (f : Nat → Int32) (j : Nat) (x : Int32) : updV (fun q => Value.int (f q)) j (.int x) = fun q => .int (upd f j x q) := by
  funext q
  by_cases hq : q = j <;> simp [updV, upd, hq]
theorem updV_l (f : Nat → Int64) (j : Nat) (x : Int64) : updV (fun q => Value.long (f q)) j (.long x) = fun q => .long (vp_updL f j x q) := by
  funext q
  by_cases hq : q = j <;> simp [updV, vp_updL, hq]
theorem updV_q (f : Nat → Option Nat) (j : Nat) (x : Option Nat) : updV (fun q => va_rf (f q)) j (va_rf x) = fun q => va_rf (va_up f j x q) := by
  funext q
  by_cases hq : q = j <;> simp [updV, va_up, hq]
theorem r_iast {a n j : Nat} {f : Nat → Int32} {i x : Int32} (g : Gd k own cc) (ha : h a = some (eI n f)) (hb : cBase k ≤ a) (hi : i = nI j) (hj : j < n) (hn : n < 2 ^ 31) (d : decode cc pc = .ok (.iastore, 1)) (kk : Sf k cells slots (hpU h a (eI n (upd f j x))) nx (pc + 1) ls st) : Sf k cells slots h nx pc ls (.int x :: .int i :: .ref a :: st) := by
  obtain ⟨p, l, e, R, s, m, args, below, meth, c, Q, base, G, D, nL⟩ := k
  intro H locs la hH hS hL
  obtain ⟨h1, h2⟩ := nI_j hi hj hn
  subst h2
  refine W.iast g.1 g.2.1 (hH.2 a _ ha) ((g.2.2.2.2.2.1.1.2 0 _ rfl).1 n (fun j => .int (f j))) (fun q => by cases q) (arr_in h1) rfl rfl d fun H1 e1 z oq => ?_
  refine kk H1 _ la (hp_put hH z oq ?_) (hS.put z oq hb) hL
  rw [show vp_cell (G 0) (n, Sum.inl f) = arrV (G 0) n (fun q => .int (f q)) from rfl, arrV_store, updV_i] at e1
  exact e1
theorem r_zast {a n j : Nat} {f : Nat → Int32} {i x : Int32} (g : Gd k own cc) (ha : h a = some (eZ n f)) (hb : cBase k ≤ a) (hi : i = nI j) (hj : j < n) (hn : n < 2 ^ 31) (hx : narrow .boolean (.int x) = .int x) (d : decode cc pc = .ok (.bastore, 1)) (kk : Sf k cells slots (hpU h a (eZ n (upd f j x))) nx (pc + 1) ls st) : Sf k cells slots h nx pc ls (.int x :: .int i :: .ref a :: st) := by
  obtain ⟨p, l, e, R, s, m, args, below, meth, c, Q, base, G, D, nL⟩ := k
  intro H locs la hH hS hL
  obtain ⟨h1, h2⟩ := nI_j hi hj hn
  subst h2
  refine W.zast g.1 g.2.1 (hH.2 a _ ha) ((g.2.2.2.2.2.1.1.2 2 _ rfl).1 n (fun j => .int (f j))) (fun q => by cases q) (arr_in h1) rfl rfl d fun H1 e1 z oq => ?_
  refine kk H1 _ la (hp_put hH z oq ?_) (hS.put z oq hb) hL
  rw [show vp_cell (G 2) (n, Sum.inl f) = arrV (G 2) n (fun q => .int (f q)) from rfl, hx, arrV_store, updV_i] at e1
  exact e1
theorem r_last {a n j : Nat} {f : Nat → Int64} {i : Int32} {x : Int64} (g : Gd k own cc) (ha : h a = some (eJ n f)) (hb : cBase k ≤ a) (hi : i = nI j) (hj : j < n) (hn : n < 2 ^ 31) (d : decode cc pc = .ok (.lastore, 1)) (kk : Sf k cells slots (hpU h a (eJ n (vp_updL f j x))) nx (pc + 1) ls st) : Sf k cells slots h nx pc ls (.long x :: .int i :: .ref a :: st) := by
  obtain ⟨p, l, e, R, s, m, args, below, meth, c, Q, base, G, D, nL⟩ := k
  intro H locs la hH hS hL
  obtain ⟨h1, h2⟩ := nI_j hi hj hn
  subst h2
  refine W.last g.1 g.2.1 (hH.2 a _ ha) ((g.2.2.2.2.2.1.1.2 1 _ rfl).1 n (fun j => .long (f j))) (fun q => by cases q) (arr_in h1) rfl rfl d fun H1 e1 z oq => ?_
  refine kk H1 _ la (hp_put hH z oq ?_) (hS.put z oq hb) hL
  rw [show vp_cell (G 1) (n, Sum.inr (Sum.inl f)) = arrV (G 1) n (fun q => .long (f q)) from rfl, arrV_store, updV_l] at e1
  exact e1
theorem r_aast {a n j t v : Nat} {f : Nat → Option Nat} {i : Int32} {vs : List Value} (g : Gd k own cc) (ha : h a = some (eQ t n f)) (ht : t < 2) (hv : h v = some (eO (t + 1) vs)) (hb : cBase k ≤ a) (hi : i = nI j) (hj : j < n) (hn : n < 2 ^ 31) (d : decode cc pc = .ok (.aastore, 1)) (kk : Sf k cells slots (hpU h a (eQ t n (va_up f j (some v)))) nx (pc + 1) ls st) : Sf k cells slots h nx pc ls (.ref v :: .int i :: .ref a :: st) := by
  obtain ⟨p, l, e, R, s, m, args, below, meth, c, Q, base, G, D, nL⟩ := k
  intro H locs la hH hS hL
  obtain ⟨h1, h2⟩ := nI_j hi hj hn
  subst h2
  obtain ⟨r', hr', cellV, g1, g2, g3, -⟩ := hH.2 v _ hv
  obtain ⟨C, hC, hty⟩ : ∃ C : String, r'.1 = C ∧ (tysG G)[t + 3]? = some (G (t + 3), .object C) := by
    match t, ht, hr' with
    | 0, _, hr' => cases hr'; exact ⟨_, rfl, rfl⟩
    | 1, _, hr' => cases hr'; exact ⟨_, rfl, rfl⟩
  subst hC
  have hcls := (g.2.2.2.2.2.1.1.1 (t + 1) r' hr').2
  obtain ⟨kA, comp, k1, k2, k3, -⟩ := (g.2.2.2.2.2.1.1.2 (t + 3) _ hty).2
  have hcomp : comp = D.1 (t + 1) := Option.some.inj (k3.symm.trans hcls.1)
  subst hcomp
  obtain ⟨kC, hkC, -⟩ := hcls.2
  refine W.aast g.1 g.2.1 (hH.2 a _ ha) (fun q h => by cases h) (fun h => by cases h) k1 k2 rfl hkC ⟨fun q => h1 (Or.inl q), by show _ < (arrV _ _ _).slots.size; rw [arrV_size]; exact hj⟩ g1 (fun q h => by rw [g3] at h; cases h) (by rw [g2]; exact hkC) (by rw [g2]; exact va_assign hcls) rfl rfl d fun H1 e1 z oq => ?_
  refine kk H1 _ la (hp_put hH z oq ?_) (hS.put z oq hb) hL
  rw [show vp_cell (G (t + 3)) (n, Sum.inr (Sum.inr (Sum.inr (Sum.inr f)))) = arrV (G (t + 3)) n (fun q => va_rf (f q)) from rfl, arrV_store, show Value.ref v = va_rf (some v) from rfl, updV_q] at e1
  exact e1
theorem r_aastN {a n j t : Nat} {f : Nat → Option Nat} {i : Int32} (g : Gd k own cc) (ha : h a = some (eQ t n f)) (ht : t < 2) (hb : cBase k ≤ a) (hi : i = nI j) (hj : j < n) (hn : n < 2 ^ 31) (d : decode cc pc = .ok (.aastore, 1)) (kk : Sf k cells slots (hpU h a (eQ t n (va_up f j none))) nx (pc + 1) ls st) : Sf k cells slots h nx pc ls (.null :: .int i :: .ref a :: st) := by
  obtain ⟨p, l, e, R, s, m, args, below, meth, c, Q, base, G, D, nL⟩ := k
  intro H locs la hH hS hL
  obtain ⟨h1, h2⟩ := nI_j hi hj hn
  subst h2
  obtain ⟨C, hty⟩ : ∃ C : String, (tysG G)[t + 3]? = some (G (t + 3), .object C) := by
    match t, ht with
    | 0, _ => exact ⟨_, rfl⟩
    | 1, _ => exact ⟨_, rfl⟩
  refine va_WaastN (C := C) g.1 g.2.1 (hH.2 a _ ha) ((g.2.2.2.2.2.1.1.2 (t + 3) _ hty).1 n (fun j => va_rf (f j))) (fun h => by cases h) (arr_in h1) rfl rfl d fun H1 e1 z oq => ?_
  refine kk H1 _ la (hp_put hH z oq ?_) (hS.put z oq hb) hL
  rw [show vp_cell (G (t + 3)) (n, Sum.inr (Sum.inr (Sum.inr (Sum.inr f)))) = arrV (G (t + 3)) n (fun q => va_rf (f q)) from rfl, arrV_store, show Value.null = va_rf none from rfl, updV_q] at e1
  exact e1
/-- the length of an array -/
theorem r_alen {a : Nat} {t n : Nat} {x : (Nat → Int32) ⊕ (Nat → Int64) ⊕ (Nat → UInt32) ⊕ (Nat → UInt64) ⊕ (Nat → Option Nat)} (g : Gd k own cc) (ha : h a = some (.inl (t, n, x))) (ht : t < 5) (d : decode cc pc = .ok (.arraylength, 1)) (kk : Sf k cells slots h nx (pc + 1) ls (.int (nI n) :: st)) : Sf k cells slots h nx pc ls (.ref a :: st) := by
  obtain ⟨p, l, e, R, s, m, args, below, meth, c, Q, base, G, D, nL⟩ := k
  intro H locs la hH hS hL
  obtain ⟨ty, hty⟩ : ∃ ty, (tysG G)[t]? = some (G t, ty) := by
    match t, ht with
    | 0, _ => exact ⟨_, rfl⟩
    | 1, _ => exact ⟨_, rfl⟩
    | 2, _ => exact ⟨_, rfl⟩
    | 3, _ => exact ⟨_, rfl⟩
    | 4, _ => exact ⟨_, rfl⟩
  exact va_alen (x := (n, x)) g.1 g.2.1 g.2.2.2.2.2.1.1 (hp1 hH ha) 0 t rfl hty rfl d (kk H locs la hH hS hL)
theorem newa_core {atype : ArrayType} {ty : FieldType} {t N : Nat} {n : Int32} {x : vp_A} (g : Gd k own cc) (hw : Cond.arrayClass (newarray.typeOf atype) ∈ UW) (hty : newarray.typeOf atype = ty) (htG : ∀ G : Nat → ClassId, (tysG G)[t]? = some (G t, ty)) (hRA : ∀ (U : State) (cA : ClassId), va_RA U cA ty → U.vm.findClass ("[" ++ ty.toString) = some cA)
    (hx : ∀ cA : ClassId, vp_cell cA x = arrV cA N (fun _ => defaultValue ty)) (hn : n = nI N) (hN : N ≤ 2000) (hby : componentBytes ty ≤ 8) (hc : cells + 1 ≤ (cRoom k).cells) (hs : slots + N ≤ (cRoom k).slots) (d : decode cc pc = .ok (.newarray atype, 2))
    (kk : (∀ b y, h b = some y → b < nx) → Sf k (cells + 1) (slots + N) (hpU h nx (.inl (t, x))) (nx + 1) (pc + 2) ls (.ref nx :: st)) : Sf k cells slots h nx pc ls (.int n :: st) := by
  obtain ⟨p, l, e, R, s, m, args, below, meth, c, Q, base, G, D, nL⟩ := k
  intro H locs la hH hS hL
  subst hty
  subst hn
  have hcl : (nI N).toNatClampNeg = N := nI_clamp (by omega)
  refine va_newaK g.1 g.2.1 (g.2.2.2.2.1 _ hw) rfl d rfl (nI_pos (by omega)) hcl (by have := Nat.mul_le_mul hN hby; omega) hc hs hH.1 fun H1 cA e1 z1 o1 hAr hNm => ?_
  have hcA : cA = G t := Option.some.inj (hNm.symm.trans (hRA _ _ (g.2.2.2.2.2.1.1.2 t _ (htG G)).2))
  subst hcA
  refine kk (hp_lt hH) H1 _ la (hp_new hH z1 o1 ?_) ⟨by rw [z1, ← hH.1]; exact Nat.le_succ_of_le hS.1, fun q h1 h2 => (o1 q (by rw [← hH.1]; exact Nat.lt_of_lt_of_le h1 hS.1)).trans (hS.2.1 q h1 h2), hS.2.2⟩ hL
  show H1[nx]? = some (vp_cell _ _)
  rw [hx]
  exact e1
theorem r_newaI {N : Nat} {n : Int32} (g : Gd k own cc) (hn : n = nI N) (hN : N ≤ 2000) (hc : cells + 1 ≤ (cRoom k).cells) (hs : slots + N ≤ (cRoom k).slots) (d : decode cc pc = .ok (.newarray .int, 2)) (kk : (∀ b y, h b = some y → b < nx) → Sf k (cells + 1) (slots + N) (hpU h nx (eI N (fun _ => 0))) (nx + 1) (pc + 2) ls (.ref nx :: st)) : Sf k cells slots h nx pc ls (.int n :: st) :=
  newa_core (atype := .int) (x := (N, .inl (fun _ => 0))) (t := 0) (ty := .int) g arr_int rfl (fun _ => rfl) (fun _ _ h => h) (fun _ => rfl) hn hN (by decide) hc hs d kk
theorem r_newaJ {N : Nat} {n : Int32} (g : Gd k own cc) (hn : n = nI N) (hN : N ≤ 2000) (hc : cells + 1 ≤ (cRoom k).cells) (hs : slots + N ≤ (cRoom k).slots) (d : decode cc pc = .ok (.newarray .long, 2)) (kk : (∀ b y, h b = some y → b < nx) → Sf k (cells + 1) (slots + N) (hpU h nx (eJ N (fun _ => 0))) (nx + 1) (pc + 2) ls (.ref nx :: st)) : Sf k cells slots h nx pc ls (.int n :: st) :=
  newa_core (atype := .long) (x := (N, .inr (.inl (fun _ => 0)))) (t := 1) (ty := .long) g arr_long rfl (fun _ => rfl) (fun _ _ h => h) (fun _ => rfl) hn hN (by decide) hc hs d kk
theorem r_newaZ {N : Nat} {n : Int32} (g : Gd k own cc) (hn : n = nI N) (hN : N ≤ 2000) (hc : cells + 1 ≤ (cRoom k).cells) (hs : slots + N ≤ (cRoom k).slots) (d : decode cc pc = .ok (.newarray .boolean, 2)) (kk : (∀ b y, h b = some y → b < nx) → Sf k (cells + 1) (slots + N) (hpU h nx (eZ N (fun _ => 0))) (nx + 1) (pc + 2) ls (.ref nx :: st)) : Sf k cells slots h nx pc ls (.int n :: st) :=
  newa_core (atype := .boolean) (x := (N, .inl (fun _ => 0))) (t := 2) (ty := .boolean) g arr_boolean rfl (fun _ => rfl) (fun _ _ h => h) (fun _ => rfl) hn hN (by decide) hc hs d kk
theorem r_newaQ {N t idx : Nat} {C : String} {n : Int32} (g : Gd k own cc) (hw : Cond.classLink own idx C ∈ UW) (htC : t = 0 ∧ C = RX1 ∨ t = 1 ∧ C = RX2) (hn : n = nI N) (hN : N ≤ 2000) (hc : cells + 1 ≤ (cRoom k).cells) (hs : slots + N ≤ (cRoom k).slots) (d : decode cc pc = .ok (.anewarray idx, 3)) (kk : (∀ b y, h b = some y → b < nx) → Sf k (cells + 1) (slots + N) (hpU h nx (eQ t N (fun _ => none))) (nx + 1) (pc + 3) ls (.ref nx :: st)) : Sf k cells slots h nx pc ls (.int n :: st) := by
  obtain ⟨p, l, e, R, s, m, args, below, meth, c, Q, base, G, D, nL⟩ := k
  intro H locs la hH hS hL
  subst hn
  have hcl : (nI N).toNatClampNeg = N := nI_clamp (by omega)
  obtain ⟨hAO, hty⟩ : va_AO C s ∧ (tysG G)[t + 3]? = some (G (t + 3), .object C) := by
    rcases htC with ⟨rfl, rfl⟩ | ⟨rfl, rfl⟩
    · exact ⟨g.2.2.2.2.2.1.2.1.1, rfl⟩
    · exact ⟨g.2.2.2.2.2.1.2.1.2.1, rfl⟩
  refine W.anew g.1 g.2.1 g.2.2.2.1 (g.2.2.2.2.1 _ hw) (va_AO.use hAO) rfl d rfl (nI_pos (by omega)) (by rw [hcl]; omega) hc (by rw [hcl]; exact hs) fun cA kA comp f1 f2 f3 f4 => ?_
  rw [hcl]
  obtain ⟨kA9, comp9, -, -, -, k4⟩ := (g.2.2.2.2.2.1.1.2 (t + 3) _ hty).2
  have hcA : cA = G (t + 3) := Option.some.inj (f1.symm.trans k4)
  subst hcA
  have hz := hH.1
  subst hz
  refine kk (hp_lt hH) _ _ la (hp_new hH (by rw [Array.size_push]) (fun q hq => by rw [Array.getElem?_push, if_neg (Nat.ne_of_lt hq)]) ?_) ⟨by rw [Array.size_push]; exact Nat.le_succ_of_le hS.1, fun q h1 h2 => by rw [Array.getElem?_push, if_neg (Nat.ne_of_lt (Nat.lt_of_lt_of_le h1 hS.1))]; exact hS.2.1 q h1 h2, hS.2.2⟩ hL
  show (H.push _)[H.size]? = some (vp_cell _ _)
  rw [Array.getElem?_push_size, ← show arrV (G (t + 3)) N (fun _ => Value.null) = vp_cell (G (t + 3)) (N, .inr (.inr (.inr (.inr (fun _ => none))))) from rfl, ← arrV_new]
theorem r_new {idx ci N : Nat} {C : String} {T : u_T} {fs : List Value} (g : Gd k own cc) (hw : Cond.classLink own idx C ∈ UW ∧ Cond.instantiable C N ∈ UW ∧ Cond.initialized C ∈ UW) (hc : vwCl[ci]? = some (C, T, N)) (ty : Nat → FieldType) (hty : ∀ k, k < N → parseFieldDescriptor (T k).2.2.1 = some (ty k)) (hfs : ∀ j, j < N → defaultValue (ty j) = vp_V fs j) (hcl : cells + 1 ≤ (cRoom k).cells) (hs : slots + N ≤ (cRoom k).slots) (d : decode cc pc = .ok (.new idx, 3)) (kk : (∀ b y, h b = some y → b < nx) → Sf k (cells + 1) (slots + N) (hpU h nx (eO ci fs)) (nx + 1) (pc + 3) ls (.ref nx :: st)) : Sf k cells slots h nx pc ls st := by
  obtain ⟨p, l, e, R, s, m, args, below, meth, c, Q, base, G, D, nL⟩ := k
  intro H locs la hH hS hL
  have hKn := g.2.2.2.2.2.1.1.1 ci _ hc
  refine W.newcK g.1 g.2.1 g.2.2.2.1 (g.2.2.2.2.1 _ hw.1) (g.2.2.2.2.1 _ hw.2.1) (g.2.2.2.2.1 _ hw.2.2) rfl d hcl hs hKn.2.1 hH.1 fun H1 kC hkC e1 z1 o1 => ?_
  exact kk (hp_lt hH) H1 _ la (hp_new hH z1 o1 ⟨_, hc, (u_born ty g.2.2.2.2.1 (cls_in hc) hKn hkC e1 hty).to hfs⟩) ⟨by rw [z1, ← hH.1]; exact Nat.le_succ_of_le hS.1, fun q h1 h2 => (o1 q (by rw [← hH.1]; exact Nat.lt_of_lt_of_le h1 hS.1)).trans (hS.2.1 q h1 h2), hS.2.2⟩ hL
end HEAP
end
section
/-! 05: contracts over pure states; returns; calls -/
def QK (G : Nat → ClassId) (D : va_G) (base : Nat) (K : Option Value → Hp → Nat → Prop) : Array Value → State → Outcome → State → Prop := fun _ st o t =>
  (∃ (v : Option Value) (h' : Hp) (nx' : Nat), o = .returned v ∧ K v h' nx' ∧ HPok G D nx' h' t.heap) ∧ va_F (ABase base) st t
def PK (G : Nat → ClassId) (D : va_G) (base : Nat) (args : List Value) (h : Hp) (nx : Nat) : Array Value → State → Prop := va_Pc args (fun U => base ≤ nx ∧ HPok G D nx h U.heap ∧ KK G D base U U.heap)
def rmOf (lv mc ms : Nat) : Room := { frames := lv, cells := mc, slots := ms, locals := 40 * lv }
/-- the contract of a method: called with args where the heap is h (nx cells), it returns, and K holds of its answer and the heap behind it -/
def MetP (l : Launch) (G : Nat → ClassId) (D : va_G) (base : Nat) (mi : Mi) (lv mc ms : Nat) (args : List Value) (h : Hp) (nx : Nat) (K : Option Value → Hp → Nat → Prop) : Prop :=
  Met l mi.1 (Cond.code mi.1 mi.2.1 mi.2.2.1 mi.2.2.2 :: UW) (rmOf lv mc ms) (PK G D base args h nx) (QK G D base K) mc ms (ABase base)
/-- .. that throws, too: KX of the thrown class -/
def XKd (G : Nat → ClassId) (D : va_G) (base : Nat) (h : Hp) (nx : Nat) (KX : String → Prop) : String → State → State → Prop := fun E st t =>
  KX E ∧ (∃ nx' : Nat, nx ≤ nx' ∧ HPok G D nx' h t.heap) ∧ va_F (ABase base) st t
def MetX (l : Launch) (G : Nat → ClassId) (D : va_G) (base : Nat) (mi : Mi) (lv mc ms : Nat) (args : List Value) (h : Hp) (nx : Nat) (K : Option Value → Hp → Nat → Prop) (KX : String → Prop) : Prop :=
  vx_Met l mi.1 (Cond.code mi.1 mi.2.1 mi.2.2.1 mi.2.2.2 :: UW) (rmOf lv mc ms) (PK G D base args h nx) (QK G D base K) (XKd G D base h nx KX) mc ms (ABase base)
def cL (k : Cx) : Launch := k.2.1
def cG (k : Cx) : Nat → ClassId := k.2.2.2.2.2.2.2.2.2.2.2.2.1
def cD (k : Cx) : va_G := k.2.2.2.2.2.2.2.2.2.2.2.2.2.1
def RetK (k : Cx) (ret : Option FieldType) (mc ms : Nat) (K : Option Value → Hp → Nat → Prop) : Prop := match k with
  | (p, l, e, R, s, m, args, below, meth, c, Q, base, G, D, _) => meth.sig.returnType = ret ∧ ∀ (H : Heap) (locs : List Loc) (gf : JFrame), W p l e R s m args below meth c H locs mc ms (MQ below (QK G D base K) args s mc ms (ABase base)) gf → W p l e R s m args below meth c H locs mc ms Q gf
def RmK (k : Cx) (lv mc ms : Nat) : Prop := lv ≤ (cRoom k).frames ∧ 40 * lv ≤ (cRoom k).locals ∧ mc ≤ (cRoom k).cells ∧ ms ≤ (cRoom k).slots
theorem PK_blind {G : Nat → ClassId} {D : va_G} {base : Nat} {args : List Value} {h : Hp} {nx : Nat} : FrameBlind (PK G D base args h nx) :=
  fun a U gf mk q => ⟨q.1, q.2.1, q.2.2.1, KK.warm (State.WarmedH.refl U : U.WarmedH (U.calling gf mk a).vm) q.2.2.2⟩
theorem MetP_of {l : Launch} {G : Nat → ClassId} {D : va_G} {base : Nat} {mi : Mi} {lv mc ms : Nat} {args : List Value} {h : Hp} {nx : Nat} {K : Option Value → Hp → Nat → Prop} (hy : plainName mi.1.cls = true) (hlen : Nat.ble (enL args).length mi.2.2.1 = true)
    (body : ∀ k : Cx, Gd k mi.1.cls mi.2.1 → RetK k mi.2.2.2 mc ms K → RmK k lv mc ms → cL k = l → cG k = G → cD k = D → cBase k = base → cName k = mi.1.name → base ≤ nx → Sf k 0 0 h nx 0 (enL args ++ List.replicate (mi.2.2.1 - (enL args).length) none) []) : MetP l G D base mi lv mc ms args h nx K := by
  refine Met.ofW (cc := mi.2.1) (maxL := mi.2.2.1) (ret := mi.2.2.2) hy rfl ?_
  intro p e s m a below meth c s₁ B hml hv
  obtain ⟨rfl, hnx, hH, hKK⟩ := hv
  have hts := atoms_spec (ws := Cond.code mi.1 mi.2.1 mi.2.2.1 mi.2.2.2 :: UW) B.pre
  rw [lg_entry_eq]
  exact body (p, l, e, _, s, m, args.toArray, below, meth, c, _, base, G, D, mi.2.2.1) ⟨B.exec, B.bytes, hml, findClass_of_methodNamed B.named, fun w hw => hts w (List.mem_cons_of_mem _ hw), hKK, by rw [hH.1]; exact hnx, B.notSynchronized⟩
    ⟨B.returns, fun _ _ _ z => z⟩ ⟨Nat.le_refl _, Nat.le_refl _, Nat.le_refl _, Nat.le_refl _⟩ rfl rfl rfl rfl (name_of_methodNamed B.named B.method).1 hnx s.heap [] _ hH va_S.rf (lh_entry args (Nat.le_of_ble_eq_true hlen))
section RETS
variable {k : Cx} {own : String} {cc : ByteArray} {cells slots : Nat} {h : Hp} {nx pc : Nat} {ls : List (Option Value)} {st : List Value} {mc ms : Nat} {K : Option Value → Hp → Nat → Prop}
theorem r_iret {v : Int32} (g : Gd k own cc) (hr : RetK k (some .int) mc ms K) (hc : cells ≤ mc) (hs : slots ≤ ms) (d : decode cc pc = .ok (.ireturn, 1)) (hk : K (some (.int v)) h nx) : Sf k cells slots h nx pc ls [.int v] := by
  obtain ⟨p, l, e, R, s, m, args, below, meth, c, Q, base, G, D, nL⟩ := k
  exact fun H locs la hH hS hL => W.widen hc hs (hr.2 H locs _ (W.iret g.1 g.2.1 hr.1 (fun t ht hW => ⟨⟨_, h, nx, rfl, hk, by rw [ht]; exact hH⟩, hS.F ht⟩) hS.2.2 d g.2.2.2.2.2.2.2))
theorem r_zret {v : Int32} (g : Gd k own cc) (hr : RetK k (some .boolean) mc ms K) (hc : cells ≤ mc) (hs : slots ≤ ms) (d : decode cc pc = .ok (.ireturn, 1)) (hv : narrow .boolean (.int v) = .int v) (hk : K (some (.int v)) h nx) : Sf k cells slots h nx pc ls [.int v] := by
  obtain ⟨p, l, e, R, s, m, args, below, meth, c, Q, base, G, D, nL⟩ := k
  exact fun H locs la hH hS hL => W.widen hc hs (hr.2 H locs _ (W.zret g.1 g.2.1 hr.1 hv (fun t ht hW => ⟨⟨_, h, nx, rfl, hk, by rw [ht]; exact hH⟩, hS.F ht⟩) hS.2.2 d g.2.2.2.2.2.2.2))
theorem r_lret {v : Int64} (g : Gd k own cc) (hr : RetK k (some .long) mc ms K) (hc : cells ≤ mc) (hs : slots ≤ ms) (d : decode cc pc = .ok (.lreturn, 1)) (hk : K (some (.long v)) h nx) : Sf k cells slots h nx pc ls [.long v] := by
  obtain ⟨p, l, e, R, s, m, args, below, meth, c, Q, base, G, D, nL⟩ := k
  exact fun H locs la hH hS hL => W.widen hc hs (hr.2 H locs _ (W.lret g.1 g.2.1 hr.1 (fun t ht hW => ⟨⟨_, h, nx, rfl, hk, by rw [ht]; exact hH⟩, hS.F ht⟩) hS.2.2 d g.2.2.2.2.2.2.2))
theorem r_vret (g : Gd k own cc) (hr : RetK k none mc ms K) (hc : cells ≤ mc) (hs : slots ≤ ms) (d : decode cc pc = .ok (.return_, 1)) (hk : K none h nx) : Sf k cells slots h nx pc ls [] := by
  obtain ⟨p, l, e, R, s, m, args, below, meth, c, Q, base, G, D, nL⟩ := k
  exact fun H locs la hH hS hL => W.widen hc hs (hr.2 H locs _ (W.vret g.1 g.2.1 hr.1 (fun t ht hW => ⟨⟨_, h, nx, rfl, hk, by rw [ht]; exact hH⟩, hS.F ht⟩) hS.2.2 d g.2.2.2.2.2.2.2))
theorem r_aret {C : String} {v : Value} (g : Gd k own cc) (hr : RetK k (some (.object C)) mc ms K) (hc : cells ≤ mc) (hs : slots ≤ ms) (d : decode cc pc = .ok (.areturn, 1)) (hv : v = .null ∨ ∃ a, v = .ref a) (hk : K (some v) h nx) : Sf k cells slots h nx pc ls [v] := by
  obtain ⟨p, l, e, R, s, m, args, below, meth, c, Q, base, G, D, nL⟩ := k
  exact fun H locs la hH hS hL => W.widen hc hs (hr.2 H locs _ (W.aret g.1 g.2.1 hr.1 (Or.inl ⟨C, rfl⟩) hv (fun t ht hW => ⟨⟨_, h, nx, rfl, hk, by rw [ht]; exact hH⟩, hS.F ht⟩) hS.2.2 d g.2.2.2.2.2.2.2))
end RETS
section CALLS
variable {k : Cx} {own : String} {cc : ByteArray} {cells slots : Nat} {h : Hp} {nx pc : Nat} {ls : List (Option Value)} {st stk : List Value} {mc ms mc0 ms0 lv lv0 n idx : Nat} {mi : Mi} {As : List Value} {K : Option Value → Hp → Nat → Prop}
theorem good_all {y : Cond} (h : y ∈ UW) : GoodIn UW (y :: UW) := fun w hw => by
  rcases List.mem_cons.mp hw with rfl | hw
  · exact ⟨h, uw_good _ h⟩
  · exact ⟨hw, uw_good _ hw⟩
theorem run_to {p : Program} {l : Launch} {e : Env} {R : Room} {s : State} {m : MethodId} {args : Array Value} {below : List Frame} {meth : Method} {c : Code} {Q : State → Prop} {base : Nat} {G : Nat → ClassId} {D : va_G} {H : Heap} {locs : List Loc} {la : Array Slot} {a : Array Value} {stv : List Value}
    (hr : va_Run p l e R s m args below meth c H locs cells slots mc ms (F0 m pc la stv) st (QK G D base K a) (ABase base)) (hH : HPok G D nx h H) (hS : va_S (ABase base) s.heap H locs)
    (kk : ∀ (v : Option Value) (h' : Hp) (nx' : Nat), K v h' nx' → nx ≤ nx' → ∀ (H1 : Heap) (locs1 : List Loc), HPok G D nx' h' H1 → va_S (ABase base) s.heap H1 locs1 → W p l e R s m args below meth c H1 locs1 (cells + mc) (slots + ms) Q (F0 m (pc + 3) la (v.toList ++ st))) :
    W p l e R s m args below meth c H locs cells slots Q (F0 m pc la stv) := by
  intro T hT X
  obtain ⟨v, st₀, t, T', L, h0, X', hL, e1, e2, ⟨⟨v9, h', nx', hv, hK9, hH'⟩, hz, hk⟩, hst⟩ := hr T hT X
  cases hv
  rw [h0] at hz hk
  obtain ⟨t2, a1, b1⟩ := kk v h' nx' hK9 (by rw [← hH.1, ← hH'.1]; exact hz) T'.heap (locs ++ L) (by rw [e1]; exact hH')
    ⟨Nat.le_trans hS.1 (by rw [e1]; exact hz), fun q h1 h2 => by rw [e1, hk q (Nat.lt_of_lt_of_le h1 hS.1) h2]; exact hS.2.1 q h1 h2, fun q hq => by
      rcases List.mem_append.mp hq with h | h
      · exact hS.2.2 q h
      · exact hL q h⟩ T' rfl X'
  exact ⟨t2, hst t2 a1, b1⟩
theorem r_callV {a ci : Nat} {fs : List Value} (g : Gd k own cc) (cv : CV own idx mi n) (hM : MetP (cL k) (cG k) (cD k) (cBase k) mi lv mc ms (.ref a :: As) h nx K) (hobj : h a = some (eO ci fs)) (hci : (vwCl[ci]?).map (fun q => q.1) = some mi.1.cls) (hn : As.length = n) (hstk : stk = As.reverse ++ .ref a :: st) (hnx : cBase k ≤ nx)
    (hR : RmK k lv0 mc0 ms0) (h1 : lv + 1 ≤ lv0) (h2 : cells + mc ≤ mc0) (h3 : slots + ms ≤ ms0) (h4 : Nat.ble mi.2.2.1 20 = true) (hW : Nat.ble ((st.map fun v => v.category).sum) 8 = true) (d : decode cc pc = .ok (.invokevirtual idx, 3))
    (kk : ∀ (v : Option Value) (h' : Hp) (nx' : Nat), K v h' nx' → nx ≤ nx' → Sf k (cells + mc) (slots + ms) h' nx' (pc + 3) ls (v.toList ++ st)) : Sf k cells slots h nx pc ls stk := by
  obtain ⟨p, l, e, R, s, m, args, below, meth, c, Q, base, G, D, nL⟩ := k
  intro H locs la hH hS hL
  subst hstk
  obtain ⟨r, hr9⟩ : ∃ r, vwCl[ci]? = some r := by
    cases hq : vwCl[ci]? with
    | none => rw [hq] at hci; cases hci
    | some r => exact ⟨r, rfl⟩
  have hcls : r.1 = mi.1.cls := by rw [hr9] at hci; exact Option.some.inj hci
  have hrec := va_recv g.2.2.2.2.2.1.1 (hp1 hH hobj) (ci := ci) (q0 := 0) hr9 rfl
  rw [hcls] at hrec
  have hts := g.2.2.2.2.1
  have h49 := Nat.le_of_ble_eq_true h4
  have cw : CallW R s args own mi.1.cls idx mi.1 mi.2.1 mi.2.2.1 mi.2.2.2 (Cond.code mi.1 mi.2.1 mi.2.2.1 mi.2.2.2 :: UW) (rmOf lv mc ms) mc ms n :=
    ⟨⟨rfl, rfl, Nat.le_trans h1 hR.1, by have := hR.2.1; show 8 + (mi.2.2.1 + 11) + 40 * lv ≤ R.locals; have h5 : 40 * lv0 ≤ R.locals := this; omega, pay_in hts (good_all cv.2.2.2.2.1), List.mem_cons_self, hts _ cv.2.2.2.2.1, hts _ cv.2.2.2.1, cv.2.2.2.2.2.1, fun sig hs9 => by have h6 := cv.2.2.2.2.2.2; rw [hs9] at h6; exact (Option.some.inj h6).symm, hts _ cv.1⟩, hts _ cv.2.1, hts _ cv.2.2.1⟩
  refine run_to (va_runV (As := As) (rest := st) ⟨g.1, g.2.1, g.2.2.1, g.2.2.2.1, hts⟩ hM cw ⟨PK_blind, hrec, fun U hU hW9 => ⟨rfl, hnx, by rw [hU]; exact hH, KK.warm hW9 (by rw [hU]; exact g.2.2.2.2.2.1.kept hS.2.1)⟩⟩ rfl hn hL.1 rfl (lv_room (Nat.le_of_ble_eq_true hW)) d ⟨Nat.le_trans h2 hR.2.2.1, Nat.le_trans h3 hR.2.2.2⟩) hH hS ?_
  exact fun v h' nx' hk9 hle H1 locs1 hH1 hS1 => kk v h' nx' hk9 hle H1 locs1 la hH1 hS1 hL
theorem r_callS (g : Gd k own cc) (cv : CSt own idx mi n) (hM : MetP (cL k) (cG k) (cD k) (cBase k) mi lv mc ms As h nx K) (hn : As.length = n) (hstk : stk = As.reverse ++ st) (hnx : cBase k ≤ nx)
    (hR : RmK k lv0 mc0 ms0) (h1 : lv + 1 ≤ lv0) (h2 : cells + mc ≤ mc0) (h3 : slots + ms ≤ ms0) (h4 : Nat.ble mi.2.2.1 20 = true) (hW : Nat.ble ((st.map fun v => v.category).sum) 8 = true) (d : decode cc pc = .ok (.invokestatic idx, 3))
    (kk : ∀ (v : Option Value) (h' : Hp) (nx' : Nat), K v h' nx' → nx ≤ nx' → Sf k (cells + mc) (slots + ms) h' nx' (pc + 3) ls (v.toList ++ st)) : Sf k cells slots h nx pc ls stk := by
  obtain ⟨p, l, e, R, s, m, args, below, meth, c, Q, base, G, D, nL⟩ := k
  intro H locs la hH hS hL
  subst hstk
  have hts := g.2.2.2.2.1
  have h49 := Nat.le_of_ble_eq_true h4
  have cw : CallB R s args own idx mi.1 mi.2.1 mi.2.2.1 mi.2.2.2 (Cond.code mi.1 mi.2.1 mi.2.2.1 mi.2.2.2 :: UW) (rmOf lv mc ms) mc ms n ∧ (Cond.static mi.1).before args s = true :=
    ⟨⟨rfl, rfl, Nat.le_trans h1 hR.1, by have := hR.2.1; show 8 + (mi.2.2.1 + 11) + 40 * lv ≤ R.locals; have h5 : 40 * lv0 ≤ R.locals := this; omega, pay_in hts (good_all cv.2.2.2.1), List.mem_cons_self, hts _ cv.2.2.2.1, hts _ cv.2.2.1, cv.2.2.2.2.1, fun sig hs9 => by have h6 := cv.2.2.2.2.2; rw [hs9] at h6; exact (Option.some.inj h6).symm, hts _ cv.1⟩, hts _ cv.2.1⟩
  refine run_to (va_runS (As := As) (rest := st) ⟨g.1, g.2.1, g.2.2.1, g.2.2.2.1, hts⟩ hM cw ⟨PK_blind, fun U hU hW9 => ⟨rfl, hnx, by rw [hU]; exact hH, KK.warm hW9 (by rw [hU]; exact g.2.2.2.2.2.1.kept hS.2.1)⟩⟩ rfl hn hL.1 rfl (lv_room (Nat.le_of_ble_eq_true hW)) d ⟨Nat.le_trans h2 hR.2.2.1, Nat.le_trans h3 hR.2.2.2⟩) hH hS ?_
  exact fun v h' nx' hk9 hle H1 locs1 hH1 hS1 => kk v h' nx' hk9 hle H1 locs1 la hH1 hS1 hL
theorem r_callI {a : Nat} {y : MethodName} {cy : ByteArray} {ml : Nat} (g : Gd k own cc) (cv : CIn own idx (y, cy, ml, none) n) (hM : MetP (cL k) (cG k) (cD k) (cBase k) (y, cy, ml, none) lv mc ms (.ref a :: As) h nx K) (hy1 : y.name = "<init>") (hn : As.length = n) (hstk : stk = As.reverse ++ .ref a :: st) (hnx : cBase k ≤ nx)
    (hR : RmK k lv0 mc0 ms0) (h1 : lv + 1 ≤ lv0) (h2 : cells + mc ≤ mc0) (h3 : slots + ms ≤ ms0) (h4 : Nat.ble ml 20 = true) (hW : Nat.ble ((st.map fun v => v.category).sum) 8 = true) (d : decode cc pc = .ok (.invokespecial idx, 3))
    (kk : ∀ (v : Option Value) (h' : Hp) (nx' : Nat), K v h' nx' → nx ≤ nx' → Sf k (cells + mc) (slots + ms) h' nx' (pc + 3) ls (v.toList ++ st)) : Sf k cells slots h nx pc ls stk := by
  obtain ⟨p, l, e, R, s, m, args, below, meth, c, Q, base, G, D, nL⟩ := k
  intro H locs la hH hS hL
  subst hstk
  have hts := g.2.2.2.2.1
  have h49 := Nat.le_of_ble_eq_true h4
  have cw : CallB R s args own idx y cy ml none (Cond.code y cy ml none :: UW) (rmOf lv mc ms) mc ms n ∧ y.name = "<init>" ∧ (Cond.instanceMethod y).before args s = true :=
    ⟨⟨rfl, rfl, Nat.le_trans h1 hR.1, by have := hR.2.1; show 8 + (ml + 11) + 40 * lv ≤ R.locals; have h5 : 40 * lv0 ≤ R.locals := this; omega, pay_in hts (good_all cv.2.2.2.1), List.mem_cons_self, hts _ cv.2.2.2.1, hts _ cv.2.2.1, cv.2.2.2.2.1, fun sig hs9 => by have h6 := cv.2.2.2.2.2; rw [hs9] at h6; exact (Option.some.inj h6).symm, hts _ cv.1⟩, hy1, hts _ cv.2.1⟩
  refine run_to (va_runI (As := As) (rest := st) ⟨g.1, g.2.1, g.2.2.1, g.2.2.2.1, hts⟩ hM cw ⟨PK_blind, fun U hU hW9 => ⟨rfl, hnx, by rw [hU]; exact hH, KK.warm hW9 (by rw [hU]; exact g.2.2.2.2.2.1.kept hS.2.1)⟩⟩ rfl hn hL.1 rfl (lv_room (Nat.le_of_ble_eq_true hW)) d ⟨Nat.le_trans h2 hR.2.2.1, Nat.le_trans h3 hR.2.2.2⟩) hH hS ?_
  exact fun v h' nx' hk9 hle H1 locs1 hH1 hS1 => kk v h' nx' hk9 hle H1 locs1 la hH1 hS1 hL
/-- the private constructor of Rows, called by its nest mate Lift -/
theorem r_callRows {a : Nat} (g : Gd k RX1 cc) (hM : MetP (cL k) (cG k) (cD k) (cBase k) miX3_init lv mc ms [.ref a] h nx K) (hstk : stk = .ref a :: st) (hnx : cBase k ≤ nx)
    (hR : RmK k lv0 mc0 ms0) (h1 : lv + 1 ≤ lv0) (h2 : cells + mc ≤ mc0) (h3 : slots + ms ≤ ms0) (hW : Nat.ble ((st.map fun v => v.category).sum) 8 = true) (d : decode cc pc = .ok (.invokespecial 9, 3))
    (hco : Cond.code miX3_init.1 miX3_init.2.1 miX3_init.2.2.1 miX3_init.2.2.2 ∈ UW) (hin : Cond.instanceMethod miX3_init.1 ∈ UW) (hini : Cond.initialized RX3 ∈ UW)
    (kk : ∀ (v : Option Value) (h' : Hp) (nx' : Nat), K v h' nx' → nx ≤ nx' → Sf k (cells + mc) (slots + ms) h' nx' (pc + 3) ls (v.toList ++ st)) : Sf k cells slots h nx pc ls stk := by
  obtain ⟨p, l, e, R, s, m, args, below, meth, c, Q, base, G, D, nL⟩ := k
  intro H locs la hH hS hL
  subst hstk
  have hts := g.2.2.2.2.1
  have h5 : 40 * lv0 ≤ R.locals := hR.2.1
  have cw := va_cnB (R := R) (s := s) (args := args) (own := RX1) (host := RX4) (index := 9) (maxL := 1) (mc := mc) (ms := ms) (y := yX3_init) (bytes := cX3_init) (ret := none) (Ts := UW) (ws := Cond.code yX3_init cX3_init 1 none :: UW) (ws' := UW) (rm := rmOf lv mc ms) 0 hts (good_all hco) rfl rfl rfl g.2.2.2.2.2.1.2.1.2.2.1 (hts _ hini) ⟨by decide +kernel, by decide +kernel, by decide +kernel⟩ ⟨Nat.le_trans h1 hR.1, by show 8 + (1 + 11) + 40 * lv ≤ R.locals; omega⟩
  refine run_to (va_runIN (As := []) (rest := st) ⟨g.1, g.2.1, g.2.2.1, g.2.2.2.1, hts⟩ hM ⟨cw, rfl, hts _ hin⟩ ⟨PK_blind, fun U hU hW9 => ⟨rfl, hnx, by rw [hU]; exact hH, KK.warm hW9 (by rw [hU]; exact g.2.2.2.2.2.1.kept hS.2.1)⟩⟩ rfl rfl hL.1 rfl (lv_room (Nat.le_of_ble_eq_true hW)) d ⟨Nat.le_trans h2 hR.2.2.1, Nat.le_trans h3 hR.2.2.2⟩) hH hS ?_
  exact fun v h' nx' hk9 hle H1 locs1 hH1 hS1 => kk v h' nx' hk9 hle H1 locs1 la hH1 hS1 hL
/-- Object's constructor -/
theorem r_objInit {a : Nat} (g : Gd k own cc) (hl : Cond.methodLink own idx objectInit ∈ UW) (hin : Cond.instanceMethod objectInit ∈ UW) (hco : Cond.code objectInit ⟨#[0xb1]⟩ 1 none ∈ UW) (hR : RmK k lv0 mc0 ms0) (h1 : 1 ≤ lv0) (hW : Nat.ble ((st.map fun v => v.category).sum) 8 = true) (d : decode cc pc = .ok (.invokespecial idx, 3)) (kk : Sf k cells slots h nx (pc + 3) ls st) : Sf k cells slots h nx pc ls (.ref a :: st) := by
  obtain ⟨p, l, e, R, s, m, args, below, meth, c, Q, base, G, D, nL⟩ := k
  intro H locs la hH hS hL
  have hts := g.2.2.2.2.1
  have h5 : 40 * lv0 ≤ R.locals := hR.2.1
  exact W.objInit g.1 g.2.1 g.2.2.2.1 (hts _ hl) (hts _ hin) (hts _ hco) rfl (by rw [g.2.2.1]; exact hL.1) rfl d (Nat.le_trans h1 hR.1) (by have := Nat.le_of_ble_eq_true hW; show 2 * 0 + _ + 12 ≤ R.locals; omega) (kk H locs la hH hS hL)
/-- Math -/
theorem r_max {x y : Int32} (g : Gd k own cc) (cv : CSt own idx miJ9_max_7cf53 2) (hR : RmK k lv0 mc0 ms0) (h1 : 1 ≤ lv0) (h2 : cells ≤ mc0) (h3 : slots ≤ ms0) (hW : Nat.ble ((st.map fun v => v.category).sum) 8 = true) (d : decode cc pc = .ok (.invokestatic idx, 3)) (kk : Sf k cells slots h nx (pc + 3) ls (.int (if x < y then y else x) :: st)) : Sf k cells slots h nx pc ls (.int y :: .int x :: st) := by
  obtain ⟨p, l, e, R, s, m, args, below, meth, c, Q, base, G, D, nL⟩ := k
  intro H locs la hH hS hL
  have hts := g.2.2.2.2.1
  have h5 : 40 * lv0 ≤ R.locals := hR.2.1
  exact va_mmax g.1 g.2.1 (by rw [g.2.2.1]; exact hL.1.symm) g.2.2.2.1 (hts _ cv.1) (hts _ cv.2.1) (hts _ cv.2.2.1) (hts _ cv.2.2.2.1) (Nat.le_trans h1 hR.1) (by have := Nat.le_of_ble_eq_true hW; show _ ≤ R.locals; omega) (Nat.le_trans h2 hR.2.2.1) (Nat.le_trans h3 hR.2.2.2) d (kk H locs la hH hS hL)
theorem r_min {x y : Int32} (g : Gd k own cc) (cv : CSt own idx miJ9_min_7cf53 2) (hR : RmK k lv0 mc0 ms0) (h1 : 1 ≤ lv0) (h2 : cells ≤ mc0) (h3 : slots ≤ ms0) (hW : Nat.ble ((st.map fun v => v.category).sum) 8 = true) (d : decode cc pc = .ok (.invokestatic idx, 3)) (kk : Sf k cells slots h nx (pc + 3) ls (.int (if y < x then y else x) :: st)) : Sf k cells slots h nx pc ls (.int y :: .int x :: st) := by
  obtain ⟨p, l, e, R, s, m, args, below, meth, c, Q, base, G, D, nL⟩ := k
  intro H locs la hH hS hL
  have hts := g.2.2.2.2.1
  have h5 : 40 * lv0 ≤ R.locals := hR.2.1
  exact va_mmin g.1 g.2.1 (by rw [g.2.2.1]; exact hL.1.symm) g.2.2.2.1 (hts _ cv.1) (hts _ cv.2.1) (hts _ cv.2.2.1) (hts _ cv.2.2.2.1) (Nat.le_trans h1 hR.1) (by have := Nat.le_of_ble_eq_true hW; show _ ≤ R.locals; omega) (Nat.le_trans h2 hR.2.2.1) (Nat.le_trans h3 hR.2.2.2) d (kk H locs la hH hS hL)
theorem r_abs {x : Int32} (g : Gd k own cc) (cv : CSt own idx miJ9_abs_0f7a4 1) (hR : RmK k lv0 mc0 ms0) (h1 : 1 ≤ lv0) (h2 : cells ≤ mc0) (h3 : slots ≤ ms0) (hW : Nat.ble ((st.map fun v => v.category).sum) 8 = true) (d : decode cc pc = .ok (.invokestatic idx, 3)) (kk : Sf k cells slots h nx (pc + 3) ls (.int (if 0 ≤ x then x else 0 - x) :: st)) : Sf k cells slots h nx pc ls (.int x :: st) := by
  obtain ⟨p, l, e, R, s, m, args, below, meth, c, Q, base, G, D, nL⟩ := k
  intro H locs la hH hS hL
  have hts := g.2.2.2.2.1
  have h5 : 40 * lv0 ≤ R.locals := hR.2.1
  exact va_mabs g.1 g.2.1 (by rw [g.2.2.1]; exact hL.1.symm) g.2.2.2.1 (hts _ cv.1) (hts _ cv.2.1) (hts _ cv.2.2.1) (hts _ cv.2.2.2.1) (Nat.le_trans h1 hR.1) (by have := Nat.le_of_ble_eq_true hW; show _ ≤ R.locals; omega) (Nat.le_trans h2 hR.2.2.1) (Nat.le_trans h3 hR.2.2.2) d (kk H locs la hH hS hL)
end CALLS
end
section
/-! 06: the reference's state: F its scalars by field, A its arrays of ints and booleans by field, B its array of longs; pure answers; rules over them -/
def b2 (b : Bool) : Int32 := cond b 1 0
theorem b2_nar (b : Bool) : narrow .boolean (.int (b2 b)) = .int (b2 b) := by cases b <;> rfl
theorem b2_eq0 {b : Bool} : b2 b = 0 ↔ b = false := by cases b <;> decide
theorem b2_t {b : Bool} (h : ¬ b2 b = 0) : b = true := by cases b with
  | true => rfl
  | false => exact absurd rfl h
theorem b2_f {b : Bool} (h : b2 b = 0) : b = false := b2_eq0.mp h
def Kv (r : Value) (h : Hp) (nx : Nat) : Option Value → Hp → Nat → Prop := fun v h' nx' => v = some r ∧ h = h' ∧ nx = nx'
def moff (kf : Nat) : Nat := if kf < 10 then kf - 3 else if kf < 17 then kf - 4 else if kf < 24 then kf - 5 else kf - 6
def mlen (kf : Nat) : Nat := match kf with
  | 4 => 4 | 5 => 4 | 6 => 4 | 7 => 4 | 8 => 4 | 9 => 4
  | 22 => 24 | 23 => 4 | 25 => 6 | 26 => 6 | 28 => 1536 | 29 => 6 | 30 => 6
  | _ => 400
def marr (kf : Nat) : Bool := decide ((4 ≤ kf ∧ kf < 10) ∨ (11 ≤ kf ∧ kf < 17) ∨ (18 ≤ kf ∧ kf < 24) ∨ (25 ≤ kf ∧ kf < 31))
def mz (kf : Nat) : Bool := decide (kf = 9 ∨ kf = 14 ∨ kf = 15)
def ment (kf : Nat) (A : Nat → Nat → Int32) (B : Nat → Int64) : PE := if kf = 27 then eJ 256 B else if mz kf = true then eZ (mlen kf) (A kf) else eI (mlen kf) (A kf)
def mobj (m : Nat) (F : Nat → Int32) : List Value := [.int (F 0), .int (F 1), .int (F 2), .int (F 3), .ref (m + moff 4), .ref (m + moff 5), .ref (m + moff 6), .ref (m + moff 7), .ref (m + moff 8), .ref (m + moff 9), .int (F 10), .ref (m + moff 11), .ref (m + moff 12), .ref (m + moff 13), .ref (m + moff 14), .ref (m + moff 15), .ref (m + moff 16), .int (F 17), .ref (m + moff 18), .ref (m + moff 19), .ref (m + moff 20), .ref (m + moff 21), .ref (m + moff 22), .ref (m + moff 23), .int (F 24), .ref (m + moff 25), .ref (m + moff 26), .ref (m + moff 27), .ref (m + moff 28), .ref (m + moff 29), .ref (m + moff 30)]
def MO (h : Hp) (m : Nat) (F : Nat → Int32) (A : Nat → Nat → Int32) (B : Nat → Int64) : Prop := h m = some (eO 5 (mobj m F)) ∧ ∀ kf, marr kf = true → h (m + moff kf) = some (ment kf A B)
def FrM (m : Nat) (h h' : Hp) : Prop := ∀ a, (a < m ∨ m + 25 ≤ a) → h' a = h a
/-- the reference's state where the heap is h, all else as in h0 -/
def MS (h0 h : Hp) (m : Nat) (F : Nat → Int32) (A : Nat → Nat → Int32) (B : Nat → Int64) : Prop := MO h m F A B ∧ FrM m h0 h
def KM (r : Option Value) (h : Hp) (m : Nat) (F : Nat → Int32) (A : Nat → Nat → Int32) (B : Nat → Int64) (nx : Nat) : Option Value → Hp → Nat → Prop := fun v h' nx' => v = r ∧ nx = nx' ∧ MS h h' m F A B
def upA (A : Nat → Nat → Int32) (kf : Nat) (f : Nat → Int32) : Nat → Nat → Int32 := fun q => if q = kf then f else A q
theorem upA_eq (A : Nat → Nat → Int32) (kf : Nat) (f : Nat → Int32) : upA A kf f kf = f := if_pos rfl
theorem upA_ne {A : Nat → Nat → Int32} {kf q : Nat} {f : Nat → Int32} (h : q ≠ kf) : upA A kf f q = A q := if_neg h
theorem moff_rng {kf : Nat} (h : marr kf = true) : 1 ≤ moff kf ∧ moff kf < 25 := by
  have h9 := of_decide_eq_true h
  unfold moff
  split
  · omega
  · split
    · omega
    · split <;> omega
theorem moff_inj {a b : Nat} (ha : marr a = true) (hb : marr b = true) (e : moff a = moff b) : a = b := by
  have h1 := of_decide_eq_true ha
  have h2 := of_decide_eq_true hb
  unfold moff at e
  split at e <;> split at e <;> (try split at e) <;> (try split at e) <;> (try split at e) <;> (try split at e) <;> omega
theorem MS.rf {h : Hp} {m : Nat} {F : Nat → Int32} {A : Nat → Nat → Int32} {B : Nat → Int64} (hM : MO h m F A B) : MS h h m F A B := ⟨hM, fun _ _ => rfl⟩
theorem MS.then {h0 h h' : Hp} {m : Nat} {F F' : Nat → Int32} {A A' : Nat → Nat → Int32} {B B' : Nat → Int64} (h1 : MS h0 h m F A B) (h2 : MS h h' m F' A' B') : MS h0 h' m F' A' B' := ⟨h2.1, fun a ha => (h2.2 a ha).trans (h1.2 a ha)⟩
theorem MS.putF {h0 h : Hp} {m : Nat} {F F' : Nat → Int32} {A : Nat → Nat → Int32} {B : Nat → Int64} (hM : MS h0 h m F A B) : MS h0 (hpU h m (eO 5 (mobj m F'))) m F' A B := by
  refine ⟨⟨hpU_eq _ _ _, fun kf hk => ?_⟩, fun a ha => ?_⟩
  · rw [hpU_ne (by have := moff_rng hk; omega)]
    exact hM.1.2 kf hk
  · rw [hpU_ne (by omega)]
    exact hM.2 a ha
theorem MS.putA {h0 h : Hp} {m kf : Nat} {F : Nat → Int32} {A A' : Nat → Nat → Int32} {B B' : Nat → Int64} (hM : MS h0 h m F A B) (hk : marr kf = true) (hA : ∀ q, q ≠ kf → ment q A' B' = ment q A B) : MS h0 (hpU h (m + moff kf) (ment kf A' B')) m F A' B' := by
  have hr := moff_rng hk
  refine ⟨⟨?_, fun q hq => ?_⟩, fun a ha => ?_⟩
  · rw [hpU_ne (by omega)]
    exact hM.1.1
  · by_cases e : q = kf
    · subst e
      rw [hpU_eq]
    · rw [hpU_ne (fun z => e (moff_inj hq hk (by omega))), hA q e]
      exact hM.1.2 q hq
  · rw [hpU_ne (by omega)]
    exact hM.2 a ha
section MRULES
variable {k : Cx} {own : String} {cc : ByteArray} {cells slots : Nat} {h0 h : Hp} {nx pc : Nat} {ls : List (Option Value)} {st stk : List Value} {mc ms mc0 ms0 lv lv0 n idx : Nat} {mi : Mi} {As : List Value} {m : Nat} {F : Nat → Int32} {A : Nat → Nat → Int32} {B : Nat → Int64}
theorem rm_get {kf : Nat} {ty : FieldType} {fin : Bool} {v : Value} (g : Gd k own cc) (hM : MS h0 h m F A B) (f : FL own idx 5 kf ty fin) (hv : (mobj m F)[kf]? = some v) (d : decode cc pc = .ok (.getfield idx, 3)) (kk : Sf k cells slots h nx (pc + 3) ls (v :: st)) : Sf k cells slots h nx pc ls (.ref m :: st) :=
  r_getf g f hM.1.1 hv d kk
theorem rm_put {kf : Nat} {v : Int32} {F' : Nat → Int32} (g : Gd k own cc) (hM : MS h0 h m F A B) (hb : cBase k ≤ m) (f : FL own idx 5 kf .int false) (hl : kf < 31) (hF : (mobj m F).set kf (.int v) = mobj m F') (d : decode cc pc = .ok (.putfield idx, 3)) (kk : ∀ h', MS h0 h' m F' A B → Sf k cells slots h' nx (pc + 3) ls st) : Sf k cells slots h nx pc ls (.int v :: .ref m :: st) :=
  r_putf g f hM.1.1 hb hl rfl rfl d (kk _ (by rw [hF]; exact hM.putF))
theorem ment_i {kf : Nat} (h : kf ≠ 27) (hz : mz kf = false) (A : Nat → Nat → Int32) (B : Nat → Int64) : ment kf A B = eI (mlen kf) (A kf) := by
  unfold ment
  rw [if_neg h, if_neg (by rw [hz]; decide)]
theorem ment_z {kf : Nat} (hz : mz kf = true) (A : Nat → Nat → Int32) (B : Nat → Int64) : ment kf A B = eZ (mlen kf) (A kf) := by
  unfold ment
  rw [if_neg (by intro q; rw [q] at hz; exact absurd hz (by decide)), if_pos hz]
theorem mlen_lt (kf : Nat) : mlen kf < 2 ^ 31 := by
  unfold mlen
  split <;> decide
theorem rm_iald (kf : Nat) {i : Int32} {j : Nat} (g : Gd k own cc) (hM : MS h0 h m F A B) (hk : marr kf = true) (h27 : kf ≠ 27) (hz : mz kf = false) (hi : i = nI j) (hj : j < mlen kf) (d : decode cc pc = .ok (.iaload, 1)) (kk : Sf k cells slots h nx (pc + 1) ls (.int (A kf j) :: st)) : Sf k cells slots h nx pc ls (.int i :: .ref (m + moff kf) :: st) :=
  r_iald g ((hM.1.2 kf hk).trans (by rw [ment_i h27 hz])) hi hj (mlen_lt kf) d kk
theorem rm_zald (kf : Nat) {i : Int32} {j : Nat} (g : Gd k own cc) (hM : MS h0 h m F A B) (hk : marr kf = true) (hz : mz kf = true) (hi : i = nI j) (hj : j < mlen kf) (d : decode cc pc = .ok (.baload, 1)) (kk : Sf k cells slots h nx (pc + 1) ls (.int (A kf j) :: st)) : Sf k cells slots h nx pc ls (.int i :: .ref (m + moff kf) :: st) :=
  r_zald g ((hM.1.2 kf hk).trans (by rw [ment_z hz])) hi hj (mlen_lt kf) d kk
theorem rm_lald {i : Int32} {j : Nat} (g : Gd k own cc) (hM : MS h0 h m F A B) (hi : i = nI j) (hj : j < 256) (d : decode cc pc = .ok (.laload, 1)) (kk : Sf k cells slots h nx (pc + 1) ls (.long (B j) :: st)) : Sf k cells slots h nx pc ls (.int i :: .ref (m + moff 27) :: st) :=
  r_lald g (hM.1.2 27 rfl) hi hj (by decide) d kk
theorem ment_up {A : Nat → Nat → Int32} {B : Nat → Int64} {kf q : Nat} {f : Nat → Int32} (h : q ≠ kf) : ment q (upA A kf f) B = ment q A B := by
  unfold ment
  rw [upA_ne h]
theorem rm_iast (kf : Nat) {i x : Int32} {j : Nat} (g : Gd k own cc) (hM : MS h0 h m F A B) (hb : cBase k ≤ m) (hk : marr kf = true) (h27 : kf ≠ 27) (hz : mz kf = false) (hi : i = nI j) (hj : j < mlen kf) (d : decode cc pc = .ok (.iastore, 1)) (kk : ∀ h', MS h0 h' m F (upA A kf (upd (A kf) j x)) B → Sf k cells slots h' nx (pc + 1) ls st) : Sf k cells slots h nx pc ls (.int x :: .int i :: .ref (m + moff kf) :: st) :=
  r_iast g ((hM.1.2 kf hk).trans (by rw [ment_i h27 hz])) (Nat.le_trans hb (Nat.le_add_right _ _)) hi hj (mlen_lt kf) d (kk _ (by
    have h9 := hM.putA (A' := upA A kf (upd (A kf) j x)) (B' := B) hk (fun q hq => ment_up hq)
    rw [ment_i h27 hz, upA_eq] at h9
    exact h9))
theorem rm_zast (kf : Nat) {i x : Int32} {j : Nat} (g : Gd k own cc) (hM : MS h0 h m F A B) (hb : cBase k ≤ m) (hk : marr kf = true) (hz : mz kf = true) (hi : i = nI j) (hj : j < mlen kf) (hx : narrow .boolean (.int x) = .int x) (d : decode cc pc = .ok (.bastore, 1)) (kk : ∀ h', MS h0 h' m F (upA A kf (upd (A kf) j x)) B → Sf k cells slots h' nx (pc + 1) ls st) : Sf k cells slots h nx pc ls (.int x :: .int i :: .ref (m + moff kf) :: st) :=
  r_zast g ((hM.1.2 kf hk).trans (by rw [ment_z hz])) (Nat.le_trans hb (Nat.le_add_right _ _)) hi hj (mlen_lt kf) hx d (kk _ (by
    have h9 := hM.putA (A' := upA A kf (upd (A kf) j x)) (B' := B) hk (fun q hq => ment_up hq)
    rw [ment_z hz, upA_eq] at h9
    exact h9))
theorem rm_last {i : Int32} {x : Int64} {j : Nat} (g : Gd k own cc) (hM : MS h0 h m F A B) (hb : cBase k ≤ m) (hi : i = nI j) (hj : j < 256) (d : decode cc pc = .ok (.lastore, 1)) (kk : ∀ h', MS h0 h' m F A (vp_updL B j x) → Sf k cells slots h' nx (pc + 1) ls st) : Sf k cells slots h nx pc ls (.long x :: .int i :: .ref (m + moff 27) :: st) :=
  r_last g (hM.1.2 27 rfl) (Nat.le_trans hb (Nat.le_add_right _ _)) hi hj (by decide) d (kk _ (hM.putA (kf := 27) (A' := A) (B' := vp_updL B j x) rfl (fun q hq => by unfold ment; rw [if_neg hq, if_neg hq])))
/-- calls whose answer is all: the heap stays -/
theorem r_pV {a ci : Nat} {fs : List Value} {v : Value} (g : Gd k own cc) (cv : CV own idx mi n) (hM : MetP (cL k) (cG k) (cD k) (cBase k) mi lv 0 0 (.ref a :: As) h nx (Kv v h nx)) (hobj : h a = some (eO ci fs)) (hci : (vwCl[ci]?).map (fun q => q.1) = some mi.1.cls) (hn : As.length = n) (hstk : stk = As.reverse ++ .ref a :: st) (hnx : cBase k ≤ nx)
    (hR : RmK k lv0 mc0 ms0) (h1 : lv + 1 ≤ lv0) (h2 : cells ≤ mc0) (h3 : slots ≤ ms0) (h4 : Nat.ble mi.2.2.1 20 = true) (hW : Nat.ble ((st.map fun v => v.category).sum) 8 = true) (d : decode cc pc = .ok (.invokevirtual idx, 3))
    (kk : Sf k cells slots h nx (pc + 3) ls (v :: st)) : Sf k cells slots h nx pc ls stk :=
  r_callV g cv hM hobj hci hn hstk hnx hR h1 h2 h3 h4 hW d (fun v9 h' nx' hk _ => by obtain ⟨rfl, rfl, rfl⟩ := hk; exact kk)
theorem r_pS {v : Value} (g : Gd k own cc) (cv : CSt own idx mi n) (hM : MetP (cL k) (cG k) (cD k) (cBase k) mi lv 0 0 As h nx (Kv v h nx)) (hn : As.length = n) (hstk : stk = As.reverse ++ st) (hnx : cBase k ≤ nx)
    (hR : RmK k lv0 mc0 ms0) (h1 : lv + 1 ≤ lv0) (h2 : cells ≤ mc0) (h3 : slots ≤ ms0) (h4 : Nat.ble mi.2.2.1 20 = true) (hW : Nat.ble ((st.map fun v => v.category).sum) 8 = true) (d : decode cc pc = .ok (.invokestatic idx, 3))
    (kk : Sf k cells slots h nx (pc + 3) ls (v :: st)) : Sf k cells slots h nx pc ls stk :=
  r_callS g cv hM hn hstk hnx hR h1 h2 h3 h4 hW d (fun v9 h' nx' hk _ => by obtain ⟨rfl, rfl, rfl⟩ := hk; exact kk)
/-- calls of the reference's methods that change its state -/
theorem r_mV {F' : Nat → Int32} {A' : Nat → Nat → Int32} {B' : Nat → Int64} {r : Option Value} (g : Gd k own cc) (cv : CV own idx mi n) (hS : MS h0 h m F A B) (hM : MetP (cL k) (cG k) (cD k) (cBase k) mi lv 0 0 (.ref m :: As) h nx (KM r h m F' A' B' nx)) (hci : mi.1.cls = RX5) (hn : As.length = n) (hstk : stk = As.reverse ++ .ref m :: st) (hnx : cBase k ≤ nx)
    (hR : RmK k lv0 mc0 ms0) (h1 : lv + 1 ≤ lv0) (h2 : cells ≤ mc0) (h3 : slots ≤ ms0) (h4 : Nat.ble mi.2.2.1 20 = true) (hW : Nat.ble ((st.map fun v => v.category).sum) 8 = true) (d : decode cc pc = .ok (.invokevirtual idx, 3))
    (kk : ∀ h', MS h0 h' m F' A' B' → Sf k cells slots h' nx (pc + 3) ls (r.toList ++ st)) : Sf k cells slots h nx pc ls stk :=
  r_callV g cv hM hS.1.1 (by rw [hci]; rfl) hn hstk hnx hR h1 h2 h3 h4 hW d (fun v9 h' nx' hk _ => by obtain ⟨rfl, rfl, hq⟩ := hk; exact kk h' (hS.then hq))
end MRULES
end
section
/-! 07: what the calls mean, over numbers. A state: scalars (0 floors, 1 TIME, 2 cars, 3 calls), cars (0 speed, 1 floor, 2 second, 3 least, 4 greatest, 5 asleep), calls (0 from, 1 to, 2 since, 3 open, 4 urgent, 5 begun by; 4: by none) -/
abbrev AS : Type := (Nat → Nat) × (Nat → Nat → Nat) × (Nat → Nat → Nat)
def up1 (f : Nat → Nat) (i v : Nat) : Nat → Nat := fun j => if j = i then v else f j
def up2 (f : Nat → Nat → Nat) (i q v : Nat) : Nat → Nat → Nat := fun j r => if j = i ∧ r = q then v else f j r
def iN (x : Int32) : Nat := x.toNatClampNeg
theorem iN_nI {n : Nat} (h : n < 2 ^ 31) : iN (nI n) = n := nI_clamp h
def inB (x : Int32) (n : Nat) : Bool := decide (0 ≤ x ∧ x < nI n)
def inR (x : Int32) (a b : Nat) : Bool := decide (nI a ≤ x ∧ x ≤ nI b)
def beI (b : Nat) : Int32 := if b = 4 then -1 else nI b
/-- how many of the first n hold -/
def cnt (p : Nat → Bool) : Nat → Nat
  | 0 => 0
  | n + 1 => cnt p n + (if p n = true then 1 else 0)
def isOp (s : AS) (k : Nat) : Bool := decide (s.2.2 k 3 = 1)
def nOp (s : AS) : Nat := cnt (isOp s) (s.1 3)
def opB (s : AS) (x : Int32) : Bool := inB x (s.1 3) && isOp s (iN x)
def witB (s : AS) (c k : Nat) : Bool := decide ((s.2.1 c 3 ≤ s.2.2 k 0 ∧ s.2.2 k 0 ≤ s.2.1 c 4) ∧ s.2.1 c 3 ≤ s.2.2 k 1 ∧ s.2.2 k 1 ≤ s.2.1 c 4)
def mayB (s : AS) (c k : Nat) : Bool := witB s c k && decide (s.2.2 k 5 = 4 ∨ s.2.2 k 5 = c)
/-- the cars below n of call k that are awake (z = 0) or asleep (z = 1), 2 to the power of each -/
def carsZ (s : AS) (k z : Nat) : Nat → Nat
  | 0 => 0
  | n + 1 => carsZ s k z n + (if mayB s n k = true ∧ s.2.1 n 5 = z then 2 ^ n else 0)
def carsN (s : AS) (k : Nat) : Nat := if carsZ s k 0 (s.1 2) = 0 then carsZ s k 1 (s.1 2) else carsZ s k 0 (s.1 2)
def wgt (s : AS) (k : Nat) : Nat := (1 + (s.1 1 - s.2.2 k 2) / 30) * (if s.2.2 k 4 = 1 then 4 else 1)
def othB (s : AS) (k c : Nat) : Nat → Bool
  | 0 => false
  | n + 1 => othB s k c n || (decide (n ≠ k) && isOp s n && decide (s.2.2 n 5 = c))
def leftN (s : AS) : Nat := cnt (fun k => isOp s k && decide (carsN s k = 0)) (s.1 3)
/-- the state's bounds -/
def AI (s : AS) : Prop := (2 ≤ s.1 0 ∧ s.1 0 ≤ 60) ∧ s.1 1 ≤ 100000 ∧ s.1 2 ≤ 4 ∧ s.1 3 ≤ 400 ∧
  (∀ c, c < s.1 2 → (1 ≤ s.2.1 c 0 ∧ s.2.1 c 0 ≤ 5) ∧ s.2.1 c 1 < s.1 0 ∧ s.2.1 c 2 ≤ 100000 ∧ (s.2.1 c 3 ≤ s.2.1 c 4 ∧ s.2.1 c 4 < s.1 0) ∧ s.2.1 c 5 ≤ 1) ∧
  (∀ k, k < s.1 3 → s.2.2 k 0 < s.1 0 ∧ s.2.2 k 1 < s.1 0 ∧ s.2.2 k 2 ≤ s.1 1 ∧ s.2.2 k 3 ≤ 1 ∧ s.2.2 k 4 ≤ 1 ∧ s.2.2 k 5 ≤ 4 ∧ (s.2.2 k 5 = 4 ∨ s.2.2 k 5 < s.1 2)) ∧
  nOp s ≤ 6 ∧ (∀ a b, a < s.1 3 → b < s.1 3 → isOp s a = true → isOp s b = true → s.2.2 a 5 = s.2.2 b 5 → s.2.2 a 5 ≠ 4 → a = b)
/-- the answers: what is thrown (1, 2; 0: nothing), the answer, the state behind -/
abbrev RS : Type := Nat × Int32 × AS
def newCar (s : AS) (f p : Int32) : Nat → Nat := fun q => match q with
  | 0 => iN p
  | 1 => iN f
  | 2 => s.1 1
  | 3 => 0
  | 4 => s.1 0 - 1
  | _ => 0
def newCall (s : AS) (f t : Int32) : Nat → Nat := fun q => match q with
  | 0 => iN f
  | 1 => iN t
  | 2 => s.1 1
  | 3 => 1
  | 4 => 0
  | _ => 4
def sCar (s : AS) (f p : Int32) : RS := if (inB f (s.1 0) && inR p 1 5) = false then (1, 0, s) else if s.1 2 = 4 then (2, 0, s) else (0, nI (s.1 2), (up1 s.1 2 (s.1 2 + 1), fun c => if c = s.1 2 then newCar s f p else s.2.1 c, s.2.2))
def sFree (s : AS) (c f x : Int32) : RS := if (inB c (s.1 2) && inB f (s.1 0) && inR x 0 100000) = false then (1, 0, s) else (0, 0, (s.1, up2 (up2 s.2.1 (iN c) 1 (iN f)) (iN c) 2 (iN x), s.2.2))
def sZone (s : AS) (c a b : Int32) : RS := if (inB c (s.1 2) && inB a (s.1 0) && inB b (s.1 0) && decide (a ≤ b)) = false then (1, 0, s) else (0, 0, (s.1, up2 (up2 s.2.1 (iN c) 3 (iN a)) (iN c) 4 (iN b), s.2.2))
def sSleep (s : AS) (c : Int32) (on : Bool) : RS := if inB c (s.1 2) = false then (1, 0, s) else (0, nI (s.2.1 (iN c) 5), (s.1, up2 s.2.1 (iN c) 5 (if on = true then 1 else 0), s.2.2))
def sCall (s : AS) (f t : Int32) : RS := if (inB f (s.1 0) && inB t (s.1 0) && !decide (f = t)) = false then (1, 0, s) else if nOp s = 6 ∨ s.1 3 = 400 then (2, 0, s) else (0, nI (s.1 3), (up1 s.1 3 (s.1 3 + 1), s.2.1, fun k => if k = s.1 3 then newCall s f t else s.2.2 k))
def sUrgent (s : AS) (x : Int32) (on : Bool) : RS := if opB s x = false then (1, 0, s) else (0, nI (s.2.2 (iN x) 4), (s.1, s.2.1, up2 s.2.2 (iN x) 4 (if on = true then 1 else 0)))
def sBegin (s : AS) (x c : Int32) : RS := if (opB s x && (decide (c = -1) || inB c (s.1 2))) = false then (1, 0, s)
  else if c = -1 then (0, 1, (s.1, s.2.1, up2 s.2.2 (iN x) 5 4))
  else if (othB s (iN x) (iN c) (s.1 3) || !witB s (iN c) (iN x)) = true then (0, 0, s)
  else (0, 1, (s.1, s.2.1, up2 s.2.2 (iN x) 5 (iN c)))
def sDone (s : AS) (x : Int32) : RS := if opB s x = false then (1, 0, s) else (0, 0, (s.1, s.2.1, up2 s.2.2 (iN x) 3 0))
def sPass (s : AS) (x : Int32) : RS := if inR x 1 1000 = false then (1, 0, s) else if 100000 < s.1 1 + iN x then (1, 0, s) else (0, nI (s.1 1 + iN x), (up1 s.1 1 (s.1 1 + iN x), s.2.1, s.2.2))
/-- what a giving says: of calls (0 car, 4: none; 1 PICK, 2 SET, 3 WEIGHT), the rows of cars, how long they are -/
abbrev GR : Type := (Nat → Nat → Nat) × (Nat → Nat → Nat) × (Nat → Nat)
def sCarOf (s : AS) (r : GR) (x : Int32) : Nat × Int32 := if inB x (s.1 3) = false then (1, 0) else (0, beI (r.1 (iN x) 0))
def sTurn (s : AS) (r : GR) (c x : Int32) : Nat × Int32 := if (inB c (s.1 2) && decide (0 ≤ x)) = false then (1, 0) else (0, if iN x < r.2.2 (iN c) then nI (r.2.1 (iN c) (iN x)) else -1)
def sTold (s : AS) (r : GR) (x w : Int32) : Nat × Int32 := if (inB x (s.1 3) && inR w 0 2) = false then (1, 0) else (0, if r.1 (iN x) 0 = 4 then -1 else nI (r.1 (iN x) (iN w + 1)))
def sCars (s : AS) (x : Int32) : Nat × Int32 := if opB s x = false then (1, 0) else (0, nI (carsN s (iN x)))
def sWeight (s : AS) (x : Int32) : Nat × Int32 := if opB s x = false then (1, 0) else (0, nI (wgt s (iN x)))
/-! facts -/
theorem inB_iff {x : Int32} {n : Nat} (hn : n < 2 ^ 31) : inB x n = true ↔ ∃ j, j < n ∧ x = nI j := by
  unfold inB
  rw [decide_eq_true_iff]
  constructor
  · rintro ⟨h1, h2⟩
    obtain ⟨j, hj, rfl⟩ := nI_of (x := x) (fun q => absurd h1 (by rw [Int32.le_iff_toInt_le]; rw [Int32.lt_iff_toInt_lt] at q; omega))
    exact ⟨j, (nI_ltI hj hn).mp h2, rfl⟩
  · rintro ⟨j, hj, rfl⟩
    exact ⟨nI_pos' (by omega), nI_lt hj hn⟩
theorem inB_nI {j n : Nat} (hj : j < n) (hn : n < 2 ^ 31) : inB (nI j) n = true := (inB_iff hn).mpr ⟨j, hj, rfl⟩
theorem inB_at {x : Int32} {n : Nat} (hn : n < 2 ^ 31) (h : inB x n = true) : iN x < n ∧ x = nI (iN x) := by
  obtain ⟨j, hj, rfl⟩ := (inB_iff hn).mp h
  rw [iN_nI (by omega)]
  exact ⟨hj, rfl⟩
theorem inR_at {x : Int32} {a b : Nat} (ha : a < 2 ^ 31) (hb : b < 2 ^ 31) (h : inR x a b = true) : a ≤ iN x ∧ iN x ≤ b ∧ x = nI (iN x) := by
  unfold inR at h
  obtain ⟨h1, h2⟩ := of_decide_eq_true h
  obtain ⟨j, hj, rfl⟩ := nI_of (x := x) (fun q => by
    rw [Int32.lt_iff_toInt_lt] at q
    rw [Int32.le_iff_toInt_le, nI_toInt ha] at h1
    have : (0 : Int32).toInt = 0 := rfl
    omega)
  rw [iN_nI hj]
  exact ⟨(nI_leI ha hj).mp h1, (nI_leI hj hb).mp h2, rfl⟩
theorem inB_sub {x : Int32} {n : Nat} (hn : n < 2 ^ 31) : decide (0 ≤ x ∧ x ≤ nI n - 1) = inB x n := by
  unfold inB
  refine decide_eq_decide.mpr ⟨fun h => ⟨h.1, ?_⟩, fun h => ⟨h.1, ?_⟩⟩
  · have h2 := h.2
    match n, hn with
    | 0, _ =>
      have h1 := h.1
      rw [Int32.le_iff_toInt_le] at h1 h2
      have e1 : (nI 0 - 1).toInt = -1 := by decide
      have e0 : (0 : Int32).toInt = 0 := rfl
      omega
    | n + 1, hn =>
      rw [nI_pred, Int32.le_iff_toInt_le, nI_toInt (by omega)] at h2
      rw [Int32.lt_iff_toInt_lt, nI_toInt hn]
      omega
  · have h2 := h.2
    match n, hn with
    | 0, _ =>
      have h1 := h.1
      rw [Int32.le_iff_toInt_le] at h1
      rw [Int32.lt_iff_toInt_lt] at h2
      have e1 : (nI 0).toInt = 0 := by decide
      have e0 : (0 : Int32).toInt = 0 := rfl
      omega
    | n + 1, hn =>
      rw [nI_pred, Int32.le_iff_toInt_le, nI_toInt (by omega)]
      rw [Int32.lt_iff_toInt_lt, nI_toInt hn] at h2
      omega
theorem beI_eq {a b : Nat} (ha : a ≤ 4) (hb : b ≤ 4) : beI a = beI b ↔ a = b := by
  constructor
  · intro h
    match a, ha, b, hb with
    | 0, _, 0, _ | 1, _, 1, _ | 2, _, 2, _ | 3, _, 3, _ | 4, _, 4, _ => rfl
    | 0, _, 1, _ | 0, _, 2, _ | 0, _, 3, _ | 0, _, 4, _ | 1, _, 0, _ | 1, _, 2, _ | 1, _, 3, _ | 1, _, 4, _ | 2, _, 0, _ | 2, _, 1, _ | 2, _, 3, _ | 2, _, 4, _ | 3, _, 0, _ | 3, _, 1, _ | 3, _, 2, _ | 3, _, 4, _ | 4, _, 0, _ | 4, _, 1, _ | 4, _, 2, _ | 4, _, 3, _ => exact absurd h (by decide)
  · rintro rfl; rfl
theorem beI_c {a c : Nat} (ha : a ≤ 4) (hc : c < 4) : beI a = nI c ↔ a = c := by
  have : beI c = nI c := if_neg (by omega)
  rw [← this]
  exact beI_eq ha (by omega)
theorem beI_m {a : Nat} (ha : a ≤ 4) : beI a = -1 ↔ a = 4 := by
  have : beI 4 = -1 := rfl
  rw [← this]
  exact beI_eq ha (by omega)
theorem b2_of {p : Prop} [Decidable p] (h : p) : (1 : Int32) = b2 (decide p) := by rw [decide_eq_true h]; rfl
theorem b2_no {p : Prop} [Decidable p] (h : ¬ p) : (0 : Int32) = b2 (decide p) := by rw [decide_eq_false h]; rfl
theorem b2_nI (b : Bool) : b2 b = nI (if b = true then 1 else 0) := by cases b <;> rfl
end
section
set_option maxHeartbeats 4000000 in
set_option maxRecDepth 100000 in
theorem ok_m_isIn (l : Launch) (G : Nat → ClassId) (D : va_G) (base : Nat) {h : Hp} {nx : Nat} (v a b : Int32) : MetP l G D base miX5_isIn 0 0 0 [.int v, .int a, .int b] h nx (Kv (.int (b2 (decide (a ≤ v ∧ v ≤ b)))) h nx) := by
  refine MetP_of (by decide +kernel) rfl ?_
  intro k g hr hR hcl hcg hcd hcb hcn hnx
  subst hcl; subst hcg; subst hcd; subst hcb
  show Sf k 0 0 h nx 0 [some (.int v), some (.int a), some (.int b)] []
  refine r_iload_n g dX5_isIn_0 rfl ?_
  refine r_iload_n g dX5_isIn_1 rfl ?_
  refine r_icmp_lt 14 g dX5_isIn_2 (by decide) (fun c2 => ?_) (fun c2 => ?_)
  · skip
    refine r_iconst (v := 0) g dX5_isIn_14 (by decide) ?_
    exact r_zret g hr (Nat.le_refl _) (Nat.le_refl _) dX5_isIn_15 rfl ⟨congrArg (fun z => some (Value.int z)) (b2_no (by simp only [Int32.lt_iff_toInt_lt, Int32.le_iff_toInt_le] at *; omega)), rfl, rfl⟩
  · skip
    refine r_iload_n g dX5_isIn_5 rfl ?_
    refine r_iload_n g dX5_isIn_6 rfl ?_
    refine r_icmp_gt 14 g dX5_isIn_7 (by decide) (fun c7 => ?_) (fun c7 => ?_)
    · skip
      refine r_iconst (v := 0) g dX5_isIn_14 (by decide) ?_
      exact r_zret g hr (Nat.le_refl _) (Nat.le_refl _) dX5_isIn_15 rfl ⟨congrArg (fun z => some (Value.int z)) (b2_no (by simp only [Int32.lt_iff_toInt_lt, Int32.le_iff_toInt_le] at *; omega)), rfl, rfl⟩
    · skip
      refine r_iconst (v := 1) g dX5_isIn_10 (by decide) ?_
      refine r_goto 15 g dX5_isIn_11 (by decide) ?_
      exact r_zret g hr (Nat.le_refl _) (Nat.le_refl _) dX5_isIn_15 rfl ⟨congrArg (fun z => some (Value.int z)) (b2_of (by simp only [Int32.lt_iff_toInt_lt, Int32.le_iff_toInt_le] at *; omega)), rfl, rfl⟩
set_option maxHeartbeats 4000000 in
set_option maxRecDepth 100000 in
theorem ok_m_isFloor (l : Launch) (G : Nat → ClassId) (D : va_G) (base : Nat) {h : Hp} {nx m : Nat} {F : Nat → Int32} {A : Nat → Nat → Int32} {B : Nat → Int64} {n : Nat} (hM : MO h m F A B) (hF : F 1 = nI n) (hn : n < 2 ^ 31) (f : Int32) : MetP l G D base miX5_isFloor 1 0 0 [.ref m, .int f] h nx (Kv (.int (b2 (inB f n))) h nx) := by
  refine MetP_of (by decide +kernel) rfl ?_
  intro k g hr hR hcl hcg hcd hcb hcn hnx
  subst hcl; subst hcg; subst hcd; subst hcb
  have hM := MS.rf hM
  show Sf k 0 0 h nx 0 [some (.ref m), some (.int f)] []
  refine r_iload_n g dX5_isFloor_0 rfl ?_
  refine r_iconst (v := 0) g dX5_isFloor_1 (by decide) ?_
  refine r_aload_n g dX5_isFloor_2 rfl ?_
  refine rm_get g hM fX5_84 rfl dX5_isFloor_3 ?_
  refine r_iconst (v := 1) g dX5_isFloor_6 (by decide) ?_
  refine r_isub g dX5_isFloor_7 ?_
  refine r_pS g kX5_91 (ok_m_isIn _ _ _ _ f 0 ((F 1) - 1)) rfl rfl hnx hR (by decide) (Nat.zero_le _) (Nat.zero_le _) rfl rfl dX5_isFloor_8 ?_
  exact r_zret g hr (Nat.le_refl _) (Nat.le_refl _) dX5_isFloor_11 (b2_nar _) ⟨by rw [hF, inB_sub hn], rfl, rfl⟩
set_option maxHeartbeats 4000000 in
set_option maxRecDepth 100000 in
theorem ok_m_isCar (l : Launch) (G : Nat → ClassId) (D : va_G) (base : Nat) {h : Hp} {nx m : Nat} {F : Nat → Int32} {A : Nat → Nat → Int32} {B : Nat → Int64} {n : Nat} (hM : MO h m F A B) (hF : F 3 = nI n) (hn : n < 2 ^ 31) (c : Int32) : MetP l G D base miX5_isCar 1 0 0 [.ref m, .int c] h nx (Kv (.int (b2 (inB c n))) h nx) := by
  refine MetP_of (by decide +kernel) rfl ?_
  intro k g hr hR hcl hcg hcd hcb hcn hnx
  subst hcl; subst hcg; subst hcd; subst hcb
  have hM := MS.rf hM
  show Sf k 0 0 h nx 0 [some (.ref m), some (.int c)] []
  refine r_iload_n g dX5_isCar_0 rfl ?_
  refine r_iconst (v := 0) g dX5_isCar_1 (by decide) ?_
  refine r_aload_n g dX5_isCar_2 rfl ?_
  refine rm_get g hM fX5_95 rfl dX5_isCar_3 ?_
  refine r_iconst (v := 1) g dX5_isCar_6 (by decide) ?_
  refine r_isub g dX5_isCar_7 ?_
  refine r_pS g kX5_91 (ok_m_isIn _ _ _ _ c 0 ((F 3) - 1)) rfl rfl hnx hR (by decide) (Nat.zero_le _) (Nat.zero_le _) rfl rfl dX5_isCar_8 ?_
  exact r_zret g hr (Nat.le_refl _) (Nat.le_refl _) dX5_isCar_11 (b2_nar _) ⟨by rw [hF, inB_sub hn], rfl, rfl⟩
/-- the reference's state is s -/
def MI (F : Nat → Int32) (A : Nat → Nat → Int32) (s : AS) : Prop := F 1 = nI (s.1 0) ∧ F 2 = nI (s.1 1) ∧ F 3 = nI (s.1 2) ∧ F 10 = nI (s.1 3) ∧ F 17 = nI (nOp s) ∧
  (∀ c, c < s.1 2 → A 4 c = nI (s.2.1 c 0) ∧ A 5 c = nI (s.2.1 c 1) ∧ A 6 c = nI (s.2.1 c 2) ∧ A 7 c = nI (s.2.1 c 3) ∧ A 8 c = nI (s.2.1 c 4) ∧ A 9 c = nI (s.2.1 c 5)) ∧
  (∀ k, k < s.1 3 → A 11 k = nI (s.2.2 k 0) ∧ A 12 k = nI (s.2.2 k 1) ∧ A 13 k = nI (s.2.2 k 2) ∧ A 14 k = nI (s.2.2 k 3) ∧ A 15 k = nI (s.2.2 k 4) ∧ A 16 k = beI (s.2.2 k 5)) ∧
  (∀ k, s.1 3 ≤ k → A 15 k = 0)
def SameG (A A' : Nat → Nat → Int32) : Prop := ∀ q, 18 ≤ q → q ≤ 23 → A' q = A q
/-- behind a call of the reference: its answer, its state -/
def KP (h : Hp) (nx m : Nat) (A : Nat → Nat → Int32) (B : Nat → Int64) (vd : Bool) (r : RS) : Option Value → Hp → Nat → Prop := fun v h' nx' =>
  nx = nx' ∧ (if vd = true then v = none else ∃ x, v = some (.int x) ∧ (r.1 = 0 → x = r.2.1)) ∧ ∃ F' A', MS h h' m F' A' B ∧ MI F' A' r.2.2 ∧ F' 0 = nI r.1 ∧ SameG A A'
theorem MI.F0 {F : Nat → Int32} {A : Nat → Nat → Int32} {s : AS} (h : MI F A s) (v : Int32) : MI (upd F 0 v) A s := h
theorem KP_i {h h' : Hp} {nx m : Nat} {F : Nat → Int32} {A A' : Nat → Nat → Int32} {B : Nat → Int64} {r : RS} {c x : Int32} (hM : MS h h' m F A' B) (hI : MI F A' r.2.2) (hF : F 0 = c) (hc : c = nI r.1) (hx : r.1 = 0 → x = r.2.1) (hG : SameG A A') : KP h nx m A B false r (some (.int x)) h' nx :=
  ⟨rfl, ⟨x, rfl, hx⟩, F, A', hM, hI, hF.trans hc, hG⟩
theorem KP_v {h h' : Hp} {nx m : Nat} {F : Nat → Int32} {A A' : Nat → Nat → Int32} {B : Nat → Int64} {r : RS} {c : Int32} (hM : MS h h' m F A' B) (hI : MI F A' r.2.2) (hF : F 0 = c) (hc : c = nI r.1) (hG : SameG A A') : KP h nx m A B true r none h' nx :=
  ⟨rfl, rfl, F, A', hM, hI, hF.trans hc, hG⟩
theorem SameG.rf {A : Nat → Nat → Int32} : SameG A A := fun _ _ _ => rfl
theorem SameG.up {A A' : Nat → Nat → Int32} {kf : Nat} {f : Nat → Int32} (h : SameG A A') (hk : kf < 18 ∨ 23 < kf) : SameG A (upA A' kf f) := fun q h1 h2 => (upA_ne (by omega)).trans (h q h1 h2)
theorem isOp_lt {s : AS} {k : Nat} (h : isOp s k = true) : s.2.2 k 3 = 1 := of_decide_eq_true h
theorem opB_at {s : AS} (hA : AI s) {x : Int32} (h : opB s x = true) : iN x < s.1 3 ∧ x = nI (iN x) ∧ s.2.2 (iN x) 3 = 1 := by
  unfold opB at h
  rw [Bool.and_eq_true] at h
  have h1 := inB_at (by have := hA.2.2.2.1; omega) h.1
  exact ⟨h1.1, h1.2, isOp_lt h.2⟩

theorem opB_1 {s : AS} {x : Int32} (h : inB x (s.1 3) = true) (h2 : s.2.2 (iN x) 3 = 1) : (1 : Int32) = b2 (opB s x) := by
  unfold opB isOp
  rw [h, decide_eq_true h2]; rfl
theorem opB_0 {s : AS} {x : Int32} (h : inB x (s.1 3) = false ∨ ¬ s.2.2 (iN x) 3 = 1) : (0 : Int32) = b2 (opB s x) := by
  unfold opB isOp
  rcases h with h | h
  · rw [h]; rfl
  · rw [decide_eq_false h, Bool.and_false]; rfl
theorem nI_c {n c : Nat} (h : n < 2 ^ 31) (hc : c < 2 ^ 31) : nI n = nI c ↔ n = c := nI_eq h hc
theorem cnt_cong {p q : Nat → Bool} : ∀ {n : Nat}, (∀ k, k < n → p k = q k) → cnt p n = cnt q n
  | 0, _ => rfl
  | n + 1, h => by unfold cnt; rw [cnt_cong (fun k hk => h k (by omega)), h n (by omega)]
theorem cnt_le (p : Nat → Bool) : ∀ n, cnt p n ≤ n
  | 0 => Nat.le_refl _
  | n + 1 => by have := cnt_le p n; unfold cnt; split <;> omega
theorem dI3 {a b c : Nat} (ha : a < 2 ^ 31) (hb : b < 2 ^ 31) (hc : c < 2 ^ 31) : decide (nI a ≤ nI b ∧ nI b ≤ nI c) = decide (a ≤ b ∧ b ≤ c) :=
  decide_eq_decide.mpr (and_congr (nI_leI ha hb) (nI_leI hb hc))
theorem nz1 {n : Nat} (h : n ≤ 1) (h2 : ¬ nI n = 0) : n = 1 := by
  match n, h with
  | 0, _ => exact absurd rfl h2
  | 1, _ => rfl
theorem eq0 {n : Nat} (h : n < 2 ^ 31) (h2 : nI n = 0) : n = 0 := by
  have := nI_toInt h
  rw [h2] at this
  have e : (0 : Int32).toInt = 0 := rfl
  omega
set_option maxHeartbeats 4000000 in
set_option maxRecDepth 100000 in
theorem ok_m_isOpenCall (l : Launch) (G : Nat → ClassId) (D : va_G) (base : Nat) {h : Hp} {nx m : Nat} {F : Nat → Int32} {A : Nat → Nat → Int32} {B : Nat → Int64} (s : AS) (hA : AI s) (hI : MI F A s) (hM : MO h m F A B) (x : Int32) : MetP l G D base miX5_isOpenCall 1 0 0 [.ref m, .int x] h nx (Kv (.int (b2 (opB s x))) h nx) := by
  refine MetP_of (by decide +kernel) rfl ?_
  intro k g hr hR hcl hcg hcd hcb hcn hnx
  subst hcl; subst hcg; subst hcd; subst hcb
  have hM := MS.rf hM
  obtain ⟨⟨hn1, hn2⟩, ht, hnc, hN, -⟩ := id hA
  show Sf k 0 0 h nx 0 [some (.ref m), some (.int x)] []
  refine r_iload_n g dX5_isOpenCall_0 rfl ?_
  refine r_iconst (v := 0) g dX5_isOpenCall_1 (by decide) ?_
  refine r_aload_n g dX5_isOpenCall_2 rfl ?_
  refine rm_get g hM fX5_98 rfl dX5_isOpenCall_3 ?_
  refine r_topi (y := (nI (s.1 3))) hI.2.2.2.1 ?_
  refine r_iconst (v := 1) g dX5_isOpenCall_6 (by decide) ?_
  refine r_isub g dX5_isOpenCall_7 ?_
  refine r_pS g kX5_91 (ok_m_isIn _ _ _ _ x 0 ((nI (s.1 3)) - 1)) rfl rfl hnx hR (by decide) (Nat.zero_le _) (Nat.zero_le _) rfl rfl dX5_isOpenCall_8 ?_
  refine r_topi (y := (b2 (inB x (s.1 3)))) (by rw [inB_sub (by omega)]) ?_
  refine r_if_eq 27 g dX5_isOpenCall_11 (by decide) (fun c11 => ?_) (fun c11 => ?_)
  · skip
    have q := b2_f c11
    refine r_iconst (v := 0) g dX5_isOpenCall_27 (by decide) ?_
    exact r_zret g hr (Nat.le_refl _) (Nat.le_refl _) dX5_isOpenCall_28 rfl ⟨congrArg (fun z => some (Value.int z)) (by first | exact opB_0 (Or.inl q) | exact opB_0 (Or.inr (fun z => by rw [z] at c20; exact absurd c20 (by decide)))), rfl, rfl⟩
  · skip
    have q := b2_t c11
    obtain ⟨hi, ei⟩ := inB_at (by omega) q
    refine r_aload_n g dX5_isOpenCall_14 rfl ?_
    refine rm_get g hM fX5_38 rfl dX5_isOpenCall_15 ?_
    refine r_iload_n g dX5_isOpenCall_18 rfl ?_
    refine rm_zald 14 (j := iN x) g hM rfl rfl ei (show iN x < 400 by omega) dX5_isOpenCall_19 ?_
    refine r_topi (y := (nI (s.2.2 (iN x) 3))) (hI.2.2.2.2.2.2.1 (iN x) (by omega)).2.2.2.1 ?_
    refine r_if_eq 27 g dX5_isOpenCall_20 (by decide) (fun c20 => ?_) (fun c20 => ?_)
    · skip
      refine r_iconst (v := 0) g dX5_isOpenCall_27 (by decide) ?_
      exact r_zret g hr (Nat.le_refl _) (Nat.le_refl _) dX5_isOpenCall_28 rfl ⟨congrArg (fun z => some (Value.int z)) (by first | exact opB_0 (Or.inl q) | exact opB_0 (Or.inr (fun z => by rw [z] at c20; exact absurd c20 (by decide)))), rfl, rfl⟩
    · skip
      refine r_iconst (v := 1) g dX5_isOpenCall_23 (by decide) ?_
      refine r_goto 28 g dX5_isOpenCall_24 (by decide) ?_
      exact r_zret g hr (Nat.le_refl _) (Nat.le_refl _) dX5_isOpenCall_28 rfl ⟨congrArg (fun z => some (Value.int z)) (opB_1 q (nz1 (hA.2.2.2.2.2.1 _ hi).2.2.2.1 c20)), rfl, rfl⟩
set_option maxHeartbeats 4000000 in
set_option maxRecDepth 100000 in
theorem ok_m_thrown (l : Launch) (G : Nat → ClassId) (D : va_G) (base : Nat) {h : Hp} {nx m : Nat} {F : Nat → Int32} {A : Nat → Nat → Int32} {B : Nat → Int64} (hM : MO h m F A B) : MetP l G D base miX5_thrown 0 0 0 [.ref m] h nx (Kv (.int (F 0)) h nx) := by
  refine MetP_of (by decide +kernel) rfl ?_
  intro k g hr hR hcl hcg hcd hcb hcn hnx
  subst hcl; subst hcg; subst hcd; subst hcb
  have hM := MS.rf hM
  show Sf k 0 0 h nx 0 [some (.ref m)] []
  refine r_aload_n g dX5_thrown_0 rfl ?_
  refine rm_get g hM fX5_88 rfl dX5_thrown_1 ?_
  exact r_iret g hr (Nat.le_refl _) (Nat.le_refl _) dX5_thrown_4 ⟨rfl, rfl, rfl⟩
theorem MI_car {F : Nat → Int32} {A : Nat → Nat → Int32} {s : AS} (hI : MI F A s) (hn : 2 ≤ s.1 0) (q4 : s.1 2 < 4) {f p : Int32} (hf : f = nI (iN f)) (hp : p = nI (iN p)) :
    MI (upd (upd F 0 0) 3 (nI (s.1 2 + 1))) (upA (upA (upA (upA (upA (upA A 4 (upd (A 4) (s.1 2) p)) 5 (upd (A 5) (s.1 2) f)) 6 (upd (A 6) (s.1 2) (nI (s.1 1)))) 7 (upd (A 7) (s.1 2) 0)) 8 (upd (A 8) (s.1 2) (nI (s.1 0) - 1))) 9 (upd (A 9) (s.1 2) 0)) (up1 s.1 2 (s.1 2 + 1), fun c => if c = s.1 2 then newCar s f p else s.2.1 c, s.2.2) := by
  obtain ⟨h1, h2, h3, h4, h5, h6, h7, h8⟩ := hI
  refine ⟨h1, h2, rfl, h4, h5, fun c hc => ?_, h7, h8⟩
  have hc2 : c < s.1 2 + 1 := hc
  by_cases e : c = s.1 2
  · subst e
    refine ⟨?_, ?_, ?_, ?_, ?_, ?_⟩ <;> simp [upA, upd, newCar, ← hp, ← hf]
    · rfl
    · exact pk_sub (a := s.1 0) (b := 1) (by omega)
    · rfl
  · have h9 := h6 c (by omega)
    simp only [if_neg e]
    refine ⟨?_, ?_, ?_, ?_, ?_, ?_⟩
    · exact (pk_un e).trans h9.1
    · exact (pk_un e).trans h9.2.1
    · exact (pk_un e).trans h9.2.2.1
    · exact (pk_un e).trans h9.2.2.2.1
    · exact (pk_un e).trans h9.2.2.2.2.1
    · exact (pk_un e).trans h9.2.2.2.2.2
set_option maxHeartbeats 4000000 in
set_option maxRecDepth 100000 in
theorem ok_m_car (l : Launch) (G : Nat → ClassId) (D : va_G) (base : Nat) {h : Hp} {nx m : Nat} {F : Nat → Int32} {A : Nat → Nat → Int32} {B : Nat → Int64} (s : AS) (hA : AI s) (hI : MI F A s) (hM : MO h m F A B) (hbm : base ≤ m) (f p : Int32) : MetP l G D base miX5_car 2 0 0 [.ref m, .int f, .int p] h nx (KP h nx m A B false (sCar s f p)) := by
  refine MetP_of (by decide +kernel) rfl ?_
  intro k g hr hR hcl hcg hcd hcb hcn hnx
  subst hcl; subst hcg; subst hcd; subst hcb
  have hM := MS.rf hM
  obtain ⟨⟨hn1, hn2⟩, ht, hnc, hN, -⟩ := id hA
  show Sf k 0 0 h nx 0 [some (.ref m), some (.int f), some (.int p)] []
  refine r_aload_n g dX5_car_0 rfl ?_
  refine r_aload_n g dX5_car_1 rfl ?_
  refine r_iload_n g dX5_car_2 rfl ?_
  refine r_pV g kX5_101 (ok_m_isFloor _ _ _ _ hM.1 hI.1 (by omega) f) hM.1.1 rfl rfl rfl hnx hR (by decide) (Nat.zero_le _) (Nat.zero_le _) rfl rfl dX5_car_3 ?_
  refine r_if_eq 18 g dX5_car_6 (by decide) (fun c6 => ?_) (fun c6 => ?_)
  · skip
    have q := b2_f c6
    refine r_iconst (v := 1) g dX5_car_18 (by decide) ?_
    refine r_goto 35 g dX5_car_19 (by decide) ?_
    refine rm_put (F' := upd F 0 1) g hM hbm fX5_88 (by decide) rfl dX5_car_35 ?_
    intro h_2 hM
    refine r_aload_n g dX5_car_38 rfl ?_
    refine rm_get g hM fX5_88 rfl dX5_car_39 ?_
    refine r_topi (y := 1) rfl ?_
    refine r_if_le 47 g dX5_car_42 (by decide) (fun c42 => absurd c42 (by decide)) (fun c42 => ?_)
    refine r_iconst (v := 0) g dX5_car_45 (by decide) ?_
    try have q2r : inR p 1 5 = _ := q2
    have hs : sCar s f p = (1, 0, s) := by unfold sCar; rw [if_pos (by first | (rw [q]; rfl) | (rw [q, q2r]; rfl))]
    exact r_iret g hr (Nat.le_refl _) (Nat.le_refl _) dX5_car_46 (KP_i (c := 1) hM (by rw [hs]; exact hI) rfl (by rw [hs]; rfl) (fun z => by rw [hs] at z; cases z) SameG.rf)
  · skip
    have q := b2_t c6
    refine r_iload_n g dX5_car_9 rfl ?_
    refine r_iconst (v := 1) g dX5_car_10 (by decide) ?_
    refine r_iconst (v := 5) g dX5_car_11 (by decide) ?_
    refine r_pS g kX5_91 (ok_m_isIn _ _ _ _ p 1 5) rfl rfl hnx hR (by decide) (Nat.zero_le _) (Nat.zero_le _) rfl rfl dX5_car_12 ?_
    refine r_if_ne 22 g dX5_car_15 (by decide) (fun c15 => ?_) (fun c15 => ?_)
    · skip
      have q2 := b2_t c15
      refine r_aload_n g dX5_car_22 rfl ?_
      refine rm_get g hM fX5_95 rfl dX5_car_23 ?_
      refine r_topi (y := (nI (s.1 2))) hI.2.2.1 ?_
      refine r_iconst (v := 4) g dX5_car_26 (by decide) ?_
      refine r_icmp_ne 34 g dX5_car_27 (by decide) (fun c27 => ?_) (fun c27 => ?_)
      · skip
        have q3 : ¬ s.1 2 = 4 := fun z => c27 (by rw [z]; rfl)
        have q4 : s.1 2 < 4 := by omega
        refine r_iconst (v := 0) g dX5_car_34 (by decide) ?_
        refine rm_put (F' := upd F 0 0) g hM hbm fX5_88 (by decide) rfl dX5_car_35 ?_
        intro h_4 hM
        refine r_aload_n g dX5_car_38 rfl ?_
        refine rm_get g hM fX5_88 rfl dX5_car_39 ?_
        refine r_topi (y := 0) rfl ?_
        refine r_if_le 47 g dX5_car_42 (by decide) (fun c42 => ?_) (fun c42 => absurd c42 (by decide))
        refine r_aload_n g dX5_car_47 rfl ?_
        refine rm_get g hM fX5_7 rfl dX5_car_48 ?_
        refine r_aload_n g dX5_car_51 rfl ?_
        refine rm_get g hM fX5_95 rfl dX5_car_52 ?_
        refine r_topi (y := (nI (s.1 2))) hI.2.2.1 ?_
        refine r_iload_n g dX5_car_55 rfl ?_
        refine rm_iast 4 (j := s.1 2) g hM hbm rfl (by decide) rfl rfl (show s.1 2 < 4 by omega) dX5_car_56 ?_
        intro h_5 hM
        refine r_aload_n g dX5_car_57 rfl ?_
        refine rm_get g hM fX5_13 rfl dX5_car_58 ?_
        refine r_aload_n g dX5_car_61 rfl ?_
        refine rm_get g hM fX5_95 rfl dX5_car_62 ?_
        refine r_topi (y := (nI (s.1 2))) hI.2.2.1 ?_
        refine r_iload_n g dX5_car_65 rfl ?_
        refine rm_iast 5 (j := s.1 2) g hM hbm rfl (by decide) rfl rfl (show s.1 2 < 4 by omega) dX5_car_66 ?_
        intro h_6 hM
        refine r_aload_n g dX5_car_67 rfl ?_
        refine rm_get g hM fX5_16 rfl dX5_car_68 ?_
        refine r_aload_n g dX5_car_71 rfl ?_
        refine rm_get g hM fX5_95 rfl dX5_car_72 ?_
        refine r_topi (y := (nI (s.1 2))) hI.2.2.1 ?_
        refine r_aload_n g dX5_car_75 rfl ?_
        refine rm_get g hM fX5_105 rfl dX5_car_76 ?_
        refine r_topi (y := (nI (s.1 1))) hI.2.1 ?_
        refine rm_iast 6 (j := s.1 2) g hM hbm rfl (by decide) rfl rfl (show s.1 2 < 4 by omega) dX5_car_79 ?_
        intro h_7 hM
        refine r_aload_n g dX5_car_80 rfl ?_
        refine rm_get g hM fX5_19 rfl dX5_car_81 ?_
        refine r_aload_n g dX5_car_84 rfl ?_
        refine rm_get g hM fX5_95 rfl dX5_car_85 ?_
        refine r_topi (y := (nI (s.1 2))) hI.2.2.1 ?_
        refine r_iconst (v := 0) g dX5_car_88 (by decide) ?_
        refine rm_iast 7 (j := s.1 2) g hM hbm rfl (by decide) rfl rfl (show s.1 2 < 4 by omega) dX5_car_89 ?_
        intro h_8 hM
        refine r_aload_n g dX5_car_90 rfl ?_
        refine rm_get g hM fX5_22 rfl dX5_car_91 ?_
        refine r_aload_n g dX5_car_94 rfl ?_
        refine rm_get g hM fX5_95 rfl dX5_car_95 ?_
        refine r_topi (y := (nI (s.1 2))) hI.2.2.1 ?_
        refine r_aload_n g dX5_car_98 rfl ?_
        refine rm_get g hM fX5_84 rfl dX5_car_99 ?_
        refine r_topi (y := (nI (s.1 0))) hI.1 ?_
        refine r_iconst (v := 1) g dX5_car_102 (by decide) ?_
        refine r_isub g dX5_car_103 ?_
        refine rm_iast 8 (j := s.1 2) g hM hbm rfl (by decide) rfl rfl (show s.1 2 < 4 by omega) dX5_car_104 ?_
        intro h_9 hM
        refine r_aload_n g dX5_car_105 rfl ?_
        refine rm_get g hM fX5_25 rfl dX5_car_106 ?_
        refine r_aload_n g dX5_car_109 rfl ?_
        refine rm_get g hM fX5_95 rfl dX5_car_110 ?_
        refine r_topi (y := (nI (s.1 2))) hI.2.2.1 ?_
        refine r_iconst (v := 0) g dX5_car_113 (by decide) ?_
        refine rm_zast 9 (j := s.1 2) g hM hbm rfl rfl rfl (show s.1 2 < 4 by omega) rfl dX5_car_114 ?_
        intro h_10 hM
        refine r_aload_n g dX5_car_115 rfl ?_
        refine r_dup g dX5_car_116 rfl ?_
        refine rm_get g hM fX5_95 rfl dX5_car_117 ?_
        refine r_topi (y := (nI (s.1 2))) hI.2.2.1 ?_
        refine r_iconst (v := 1) g dX5_car_120 (by decide) ?_
        refine r_iadd g dX5_car_121 ?_
        refine r_topi (y := (nI ((s.1 2) + 1))) (nI_add (s.1 2) 1) ?_
        refine rm_put (F' := upd (upd F 0 0) 3 (nI ((s.1 2) + 1))) g hM hbm fX5_95 (by decide) rfl dX5_car_122 ?_
        intro h_12 hM
        refine r_aload_n g dX5_car_125 rfl ?_
        refine rm_get g hM fX5_95 rfl dX5_car_126 ?_
        refine r_topi (y := (nI ((s.1 2) + 1))) rfl ?_
        refine r_iconst (v := 1) g dX5_car_129 (by decide) ?_
        refine r_isub g dX5_car_130 ?_
        have q2r : inR p 1 5 = _ := q2
        have hfe := (inB_at (by omega) q).2
        have hpe := (inR_at (by decide) (by decide) q2r).2.2
        have hs : sCar s f p = (0, nI (s.1 2), (up1 s.1 2 (s.1 2 + 1), fun c => if c = s.1 2 then newCar s f p else s.2.1 c, s.2.2)) := by unfold sCar; rw [if_neg (by rw [q, q2r]; decide), if_neg q3]
        exact r_iret g hr (Nat.le_refl _) (Nat.le_refl _) dX5_car_131 (KP_i (c := 0) hM (by rw [hs]; exact MI_car hI hn1 q4 hfe hpe) rfl (by rw [hs]; rfl) (fun _ => by rw [hs]; exact nI_pred _) (SameG.up (SameG.up (SameG.up (SameG.up (SameG.up (SameG.up SameG.rf (by decide)) (by decide)) (by decide)) (by decide)) (by decide)) (by decide)))
      · skip
        have q3 : s.1 2 = 4 := (nI_c (c := 4) (by omega) (by decide)).mp c27
        refine r_iconst (v := 2) g dX5_car_30 (by decide) ?_
        refine r_goto 35 g dX5_car_31 (by decide) ?_
        refine rm_put (F' := upd F 0 2) g hM hbm fX5_88 (by decide) rfl dX5_car_35 ?_
        intro h_14 hM
        refine r_aload_n g dX5_car_38 rfl ?_
        refine rm_get g hM fX5_88 rfl dX5_car_39 ?_
        refine r_topi (y := 2) rfl ?_
        refine r_if_le 47 g dX5_car_42 (by decide) (fun c42 => absurd c42 (by decide)) (fun c42 => ?_)
        refine r_iconst (v := 0) g dX5_car_45 (by decide) ?_
        have q2r : inR p 1 5 = _ := q2
        have hs : sCar s f p = (2, 0, s) := by unfold sCar; rw [if_neg (by rw [q, q2r]; decide), if_pos q3]
        exact r_iret g hr (Nat.le_refl _) (Nat.le_refl _) dX5_car_46 (KP_i (c := 2) hM (by rw [hs]; exact hI) rfl (by rw [hs]; rfl) (fun z => by rw [hs] at z; cases z) SameG.rf)
    · skip
      have q2 := b2_f c15
      refine r_iconst (v := 1) g dX5_car_18 (by decide) ?_
      refine r_goto 35 g dX5_car_19 (by decide) ?_
      refine rm_put (F' := upd F 0 1) g hM hbm fX5_88 (by decide) rfl dX5_car_35 ?_
      intro h_16 hM
      refine r_aload_n g dX5_car_38 rfl ?_
      refine rm_get g hM fX5_88 rfl dX5_car_39 ?_
      refine r_topi (y := 1) rfl ?_
      refine r_if_le 47 g dX5_car_42 (by decide) (fun c42 => absurd c42 (by decide)) (fun c42 => ?_)
      refine r_iconst (v := 0) g dX5_car_45 (by decide) ?_
      try have q2r : inR p 1 5 = _ := q2
      have hs : sCar s f p = (1, 0, s) := by unfold sCar; rw [if_pos (by first | (rw [q]; rfl) | (rw [q, q2r]; rfl))]
      exact r_iret g hr (Nat.le_refl _) (Nat.le_refl _) dX5_car_46 (KP_i (c := 1) hM (by rw [hs]; exact hI) rfl (by rw [hs]; rfl) (fun z => by rw [hs] at z; cases z) SameG.rf)
theorem nar_le1 (n : Nat) (h : n ≤ 1) : narrow .boolean (.int (nI n)) = .int (nI n) := by
  match n, h with
  | 0, _ => rfl
  | 1, _ => rfl
theorem MI_free {F : Nat → Int32} {A : Nat → Nat → Int32} {s : AS} (hI : MI F A s) {j : Nat} {f x : Int32} {a b : Nat} (hf : f = nI a) (hx : x = nI b) : MI (upd F 0 0) (upA (upA A 5 (upd (A 5) j f)) 6 (upd (A 6) j x)) (s.1, up2 (up2 s.2.1 j 1 a) j 2 b, s.2.2) := by
  obtain ⟨h1, h2, h3, h4, h5, h6, h7, h8⟩ := hI
  refine ⟨h1, h2, h3, h4, h5, fun c hc => ?_, h7, h8⟩
  have h9 := h6 c hc
  by_cases e : c = j
  · subst e; simp [up2, upA, upd, h9, hf, hx]
  · simp [up2, upA, upd, h9, e]
theorem MI_zone {F : Nat → Int32} {A : Nat → Nat → Int32} {s : AS} (hI : MI F A s) {j : Nat} {f x : Int32} {a b : Nat} (hf : f = nI a) (hx : x = nI b) : MI (upd F 0 0) (upA (upA A 7 (upd (A 7) j f)) 8 (upd (A 8) j x)) (s.1, up2 (up2 s.2.1 j 3 a) j 4 b, s.2.2) := by
  obtain ⟨h1, h2, h3, h4, h5, h6, h7, h8⟩ := hI
  refine ⟨h1, h2, h3, h4, h5, fun c hc => ?_, h7, h8⟩
  have h9 := h6 c hc
  by_cases e : c = j
  · subst e; simp [up2, upA, upd, h9, hf, hx]
  · simp [up2, upA, upd, h9, e]
theorem MI_sleep {F : Nat → Int32} {A : Nat → Nat → Int32} {s : AS} (hI : MI F A s) {j : Nat} {f : Int32} {a : Nat} (hf : f = nI a) : MI (upd F 0 0) (upA A 9 (upd (A 9) j f)) (s.1, up2 s.2.1 j 5 a, s.2.2) := by
  obtain ⟨h1, h2, h3, h4, h5, h6, h7, h8⟩ := hI
  refine ⟨h1, h2, h3, h4, h5, fun c hc => ?_, h7, h8⟩
  have h9 := h6 c hc
  by_cases e : c = j
  · subst e; simp [up2, upA, upd, h9, hf]
  · simp [up2, upA, upd, h9, e]
theorem MI_urgent {F : Nat → Int32} {A : Nat → Nat → Int32} {s : AS} (hI : MI F A s) {j : Nat} (hj : j < s.1 3) {f : Int32} {a : Nat} (hf : f = nI a) : MI (upd F 0 0) (upA A 15 (upd (A 15) j f)) (s.1, s.2.1, up2 s.2.2 j 4 a) := by
  obtain ⟨h1, h2, h3, h4, h5, h6, h7, h8⟩ := hI
  refine ⟨h1, h2, h3, h4, ?_, h6, fun c hc => ?_, fun c hc => ?_⟩
  · refine h5.trans (congrArg nI (cnt_cong fun k hk => ?_))
    simp [isOp, up2]
  · have h9 := h7 c hc
    by_cases e : c = j
    · subst e; simp [up2, upA, upd, h9, hf]
    · simp [up2, upA, upd, h9, e]
  · have hc2 : s.1 3 ≤ c := hc
    show upd (A 15) j f c = 0
    rw [pk_un (by omega)]; exact h8 c hc2
theorem MI_begin {F : Nat → Int32} {A : Nat → Nat → Int32} {s : AS} (hI : MI F A s) {j : Nat} {f : Int32} {a : Nat} (hf : f = beI a) : MI (upd F 0 0) (upA A 16 (upd (A 16) j f)) (s.1, s.2.1, up2 s.2.2 j 5 a) := by
  obtain ⟨h1, h2, h3, h4, h5, h6, h7, h8⟩ := hI
  refine ⟨h1, h2, h3, h4, ?_, h6, fun c hc => ?_, h8⟩
  · refine h5.trans (congrArg nI (cnt_cong fun k hk => ?_))
    simp [isOp, up2]
  · have h9 := h7 c hc
    by_cases e : c = j
    · subst e; simp [up2, upA, upd, h9, hf]
    · simp [up2, upA, upd, h9, e]
theorem cnt_off {p q : Nat → Bool} {j : Nat} (hp : p j = true) (hq : q j = false) (ho : ∀ k, k ≠ j → q k = p k) : ∀ n, j < n → cnt q n + 1 = cnt p n
  | 0, h => absurd h (Nat.not_lt_zero _)
  | n + 1, h => by
    unfold cnt
    by_cases e : j = n
    · subst e
      rw [hp, hq, cnt_cong (p := q) (q := p) (fun k hk => ho k (by omega))]
      simp
    · rw [ho n (fun z => e z.symm)]
      have := cnt_off hp hq ho n (by omega)
      omega
theorem nOp_done {s : AS} {j : Nat} (hj : j < s.1 3) (hop : s.2.2 j 3 = 1) : nOp (s.1, s.2.1, up2 s.2.2 j 3 0) + 1 = nOp s := by
  refine cnt_off (j := j) (p := isOp s) (q := isOp (s.1, s.2.1, up2 s.2.2 j 3 0)) ?_ ?_ (fun k hk => ?_) _ hj
  · simp [isOp, hop]
  · simp [isOp, up2]
  · simp [isOp, up2, hk]
theorem MI_done {F : Nat → Int32} {A : Nat → Nat → Int32} {s : AS} (hI : MI F A s) {j : Nat} (hj : j < s.1 3) (hop : s.2.2 j 3 = 1) : MI (upd (upd F 0 0) 17 (nI (nOp s) - 1)) (upA A 14 (upd (A 14) j 0)) (s.1, s.2.1, up2 s.2.2 j 3 0) := by
  obtain ⟨h1, h2, h3, h4, h5, h6, h7, h8⟩ := hI
  refine ⟨h1, h2, h3, h4, ?_, h6, fun c hc => ?_, h8⟩
  · show nI (nOp s) - 1 = _
    rw [← nOp_done hj hop]
    exact nI_pred _
  · have h9 := h7 c hc
    by_cases e : c = j
    · subst e; simp [up2, upA, upd, h9]; rfl
    · simp [up2, upA, upd, h9, e]
theorem MI_pass {F : Nat → Int32} {A : Nat → Nat → Int32} {s : AS} (hI : MI F A s) {x : Int32} {j : Nat} (hx : nI (s.1 1) + x = nI (s.1 1 + j)) : MI (upd (upd F 0 0) 2 (nI (s.1 1) + x)) A (up1 s.1 1 (s.1 1 + j), s.2.1, s.2.2) := by
  obtain ⟨h1, h2, h3, h4, h5, h6, h7, h8⟩ := hI
  exact ⟨h1, hx, h3, h4, h5, h6, h7, h8⟩
theorem nOp_call {s : AS} {f t : Int32} : nOp (up1 s.1 3 (s.1 3 + 1), s.2.1, fun k => if k = s.1 3 then newCall s f t else s.2.2 k) = nOp s + 1 := by
  show cnt _ (s.1 3 + 1) = _
  unfold cnt
  rw [if_pos (by simp [isOp, newCall])]
  exact congrArg (· + 1) (cnt_cong fun k hk => by simp [isOp, Nat.ne_of_lt hk])
theorem MI_call {F : Nat → Int32} {A : Nat → Nat → Int32} {s : AS} (hI : MI F A s) {f t : Int32} (hf : f = nI (iN f)) (ht : t = nI (iN t)) : MI (upd (upd (upd F 0 0) 17 (nI (nOp s + 1))) 10 (nI (s.1 3 + 1))) (upA (upA (upA (upA (upA A 11 (upd (A 11) (s.1 3) f)) 12 (upd (A 12) (s.1 3) t)) 13 (upd (A 13) (s.1 3) (nI (s.1 1)))) 14 (upd (A 14) (s.1 3) 1)) 16 (upd (A 16) (s.1 3) (-1))) (up1 s.1 3 (s.1 3 + 1), s.2.1, fun k => if k = s.1 3 then newCall s f t else s.2.2 k) := by
  obtain ⟨h1, h2, h3, h4, h5, h6, h7, h8⟩ := hI
  refine ⟨h1, h2, h3, rfl, by rw [nOp_call]; rfl, h6, fun c hc => ?_, fun c hc => h8 c (by have hc2 : s.1 3 + 1 ≤ c := hc; omega)⟩
  have hc2 : c < s.1 3 + 1 := hc
  by_cases e : c = s.1 3
  · subst e
    simp only [if_true]
    exact ⟨pk_us.trans hf, pk_us.trans ht, pk_us, pk_us, h8 _ (Nat.le_refl _), pk_us⟩
  · have h9 := h7 c (by omega)
    simp only [if_neg e]
    exact ⟨(pk_un e).trans h9.1, (pk_un e).trans h9.2.1, (pk_un e).trans h9.2.2.1, (pk_un e).trans h9.2.2.2.1, h9.2.2.2.2.1, (pk_un e).trans h9.2.2.2.2.2⟩
set_option maxHeartbeats 4000000 in
set_option maxRecDepth 100000 in
theorem ok_m_free (l : Launch) (G : Nat → ClassId) (D : va_G) (base : Nat) {h : Hp} {nx m : Nat} {F : Nat → Int32} {A : Nat → Nat → Int32} {B : Nat → Int64} (s : AS) (hA : AI s) (hI : MI F A s) (hM : MO h m F A B) (hbm : base ≤ m) (c f x : Int32) : MetP l G D base miX5_free 2 0 0 [.ref m, .int c, .int f, .int x] h nx (KP h nx m A B true (sFree s c f x)) := by
  refine MetP_of (by decide +kernel) rfl ?_
  intro k g hr hR hcl hcg hcd hcb hcn hnx
  subst hcl; subst hcg; subst hcd; subst hcb
  have hM := MS.rf hM
  obtain ⟨⟨hn1, hn2⟩, ht, hnc, hN, -⟩ := id hA
  show Sf k 0 0 h nx 0 [some (.ref m), some (.int c), some (.int f), some (.int x)] []
  refine r_aload_n g dX5_free_0 rfl ?_
  refine r_aload_n g dX5_free_1 rfl ?_
  refine r_iload_n g dX5_free_2 rfl ?_
  refine r_pV g kX5_108 (ok_m_isCar _ _ _ _ hM.1 hI.2.2.1 (by omega) c) hM.1.1 rfl rfl rfl hnx hR (by decide) (Nat.zero_le _) (Nat.zero_le _) rfl rfl dX5_free_3 ?_
  refine r_if_eq 27 g dX5_free_6 (by decide) (fun c6 => ?_) (fun c6 => ?_)
  · skip
    have q := b2_f c6
    refine r_iconst (v := 1) g dX5_free_27 (by decide) ?_
    refine r_goto 32 g dX5_free_28 (by decide) ?_
    refine rm_put (F' := upd F 0 1) g hM hbm fX5_88 (by decide) rfl dX5_free_32 ?_
    intro h_2 hM
    refine r_aload_n g dX5_free_35 rfl ?_
    refine rm_get g hM fX5_88 rfl dX5_free_36 ?_
    refine r_topi (y := 1) rfl ?_
    refine r_if_ne 56 g dX5_free_39 (by decide) (fun c39 => ?_) (fun c39 => absurd c39 (by decide))
    have hs : sFree s c f x = (1, 0, s) := by unfold sFree; rw [if_pos (by first | (rw [q]; rfl) | (rw [q, q2]; rfl) | (rw [q, q2, q3r]; rfl))]
    exact r_vret g hr (Nat.le_refl _) (Nat.le_refl _) dX5_free_56 (KP_v (c := 1) hM (by rw [hs]; exact hI) rfl (by rw [hs]; rfl) SameG.rf)
  · skip
    have q := b2_t c6
    refine r_aload_n g dX5_free_9 rfl ?_
    refine r_iload_n g dX5_free_10 rfl ?_
    refine r_pV g kX5_101 (ok_m_isFloor _ _ _ _ hM.1 hI.1 (by omega) f) hM.1.1 rfl rfl rfl hnx hR (by decide) (Nat.zero_le _) (Nat.zero_le _) rfl rfl dX5_free_11 ?_
    refine r_if_eq 27 g dX5_free_14 (by decide) (fun c14 => ?_) (fun c14 => ?_)
    · skip
      have q2 := b2_f c14
      refine r_iconst (v := 1) g dX5_free_27 (by decide) ?_
      refine r_goto 32 g dX5_free_28 (by decide) ?_
      refine rm_put (F' := upd F 0 1) g hM hbm fX5_88 (by decide) rfl dX5_free_32 ?_
      intro h_4 hM
      refine r_aload_n g dX5_free_35 rfl ?_
      refine rm_get g hM fX5_88 rfl dX5_free_36 ?_
      refine r_topi (y := 1) rfl ?_
      refine r_if_ne 56 g dX5_free_39 (by decide) (fun c39 => ?_) (fun c39 => absurd c39 (by decide))
      have hs : sFree s c f x = (1, 0, s) := by unfold sFree; rw [if_pos (by first | (rw [q]; rfl) | (rw [q, q2]; rfl) | (rw [q, q2, q3r]; rfl))]
      exact r_vret g hr (Nat.le_refl _) (Nat.le_refl _) dX5_free_56 (KP_v (c := 1) hM (by rw [hs]; exact hI) rfl (by rw [hs]; rfl) SameG.rf)
    · skip
      have q2 := b2_t c14
      refine r_iload_n g dX5_free_17 rfl ?_
      refine r_iconst (v := 0) g dX5_free_18 (by decide) ?_
      refine r_ldc g dX5_free_19 vX5_111 ?_
      refine r_pS g kX5_91 (ok_m_isIn _ _ _ _ x 0 100000) rfl rfl hnx hR (by decide) (Nat.zero_le _) (Nat.zero_le _) rfl rfl dX5_free_21 ?_
      refine r_if_ne 31 g dX5_free_24 (by decide) (fun c24 => ?_) (fun c24 => ?_)
      · skip
        have q3r : inR x 0 100000 = true := b2_t c24
        refine r_iconst (v := 0) g dX5_free_31 (by decide) ?_
        refine rm_put (F' := upd F 0 0) g hM hbm fX5_88 (by decide) rfl dX5_free_32 ?_
        intro h_6 hM
        refine r_aload_n g dX5_free_35 rfl ?_
        refine rm_get g hM fX5_88 rfl dX5_free_36 ?_
        refine r_topi (y := 0) rfl ?_
        refine r_if_ne 56 g dX5_free_39 (by decide) (fun c39 => absurd c39 (by decide)) (fun c39 => ?_)
        refine r_aload_n g dX5_free_42 rfl ?_
        refine rm_get g hM fX5_13 rfl dX5_free_43 ?_
        have hci := inB_at (by omega) q
        refine r_iload_n g dX5_free_46 rfl ?_
        refine r_iload_n g dX5_free_47 rfl ?_
        refine rm_iast 5 (j := iN c) g hM hbm rfl (by decide) rfl hci.2 (show iN c < 4 by omega) dX5_free_48 ?_
        intro h_7 hM
        refine r_aload_n g dX5_free_49 rfl ?_
        refine rm_get g hM fX5_16 rfl dX5_free_50 ?_
        refine r_iload_n g dX5_free_53 rfl ?_
        refine r_iload_n g dX5_free_54 rfl ?_
        refine rm_iast 6 (j := iN c) g hM hbm rfl (by decide) rfl hci.2 (show iN c < 4 by omega) dX5_free_55 ?_
        intro h_8 hM
        have hfe := (inB_at (by omega) q2).2
        have hxe := (inR_at (by decide) (by decide) q3r).2.2
        have hs : sFree s c f x = (0, 0, (s.1, up2 (up2 s.2.1 (iN c) 1 (iN f)) (iN c) 2 (iN x), s.2.2)) := by unfold sFree; rw [if_neg (by rw [q, q2, q3r]; decide)]
        exact r_vret g hr (Nat.le_refl _) (Nat.le_refl _) dX5_free_56 (KP_v (c := 0) hM (by rw [hs]; exact MI_free hI hfe hxe) rfl (by rw [hs]; rfl) (SameG.up (SameG.up SameG.rf (by decide)) (by decide)))
      · skip
        have q3r : inR x 0 100000 = false := b2_f c24
        refine r_iconst (v := 1) g dX5_free_27 (by decide) ?_
        refine r_goto 32 g dX5_free_28 (by decide) ?_
        refine rm_put (F' := upd F 0 1) g hM hbm fX5_88 (by decide) rfl dX5_free_32 ?_
        intro h_10 hM
        refine r_aload_n g dX5_free_35 rfl ?_
        refine rm_get g hM fX5_88 rfl dX5_free_36 ?_
        refine r_topi (y := 1) rfl ?_
        refine r_if_ne 56 g dX5_free_39 (by decide) (fun c39 => ?_) (fun c39 => absurd c39 (by decide))
        have hs : sFree s c f x = (1, 0, s) := by unfold sFree; rw [if_pos (by first | (rw [q]; rfl) | (rw [q, q2]; rfl) | (rw [q, q2, q3r]; rfl))]
        exact r_vret g hr (Nat.le_refl _) (Nat.le_refl _) dX5_free_56 (KP_v (c := 1) hM (by rw [hs]; exact hI) rfl (by rw [hs]; rfl) SameG.rf)
set_option maxHeartbeats 4000000 in
set_option maxRecDepth 100000 in
theorem ok_m_zone (l : Launch) (G : Nat → ClassId) (D : va_G) (base : Nat) {h : Hp} {nx m : Nat} {F : Nat → Int32} {A : Nat → Nat → Int32} {B : Nat → Int64} (s : AS) (hA : AI s) (hI : MI F A s) (hM : MO h m F A B) (hbm : base ≤ m) (c a b : Int32) : MetP l G D base miX5_zone 2 0 0 [.ref m, .int c, .int a, .int b] h nx (KP h nx m A B true (sZone s c a b)) := by
  refine MetP_of (by decide +kernel) rfl ?_
  intro k g hr hR hcl hcg hcd hcb hcn hnx
  subst hcl; subst hcg; subst hcd; subst hcb
  have hM := MS.rf hM
  obtain ⟨⟨hn1, hn2⟩, ht, hnc, hN, -⟩ := id hA
  show Sf k 0 0 h nx 0 [some (.ref m), some (.int c), some (.int a), some (.int b)] []
  refine r_aload_n g dX5_zone_0 rfl ?_
  refine r_aload_n g dX5_zone_1 rfl ?_
  refine r_iload_n g dX5_zone_2 rfl ?_
  refine r_pV g kX5_108 (ok_m_isCar _ _ _ _ hM.1 hI.2.2.1 (by omega) c) hM.1.1 rfl rfl rfl hnx hR (by decide) (Nat.zero_le _) (Nat.zero_le _) rfl rfl dX5_zone_3 ?_
  refine r_if_eq 30 g dX5_zone_6 (by decide) (fun c6 => ?_) (fun c6 => ?_)
  · skip
    have q := b2_f c6
    refine r_iconst (v := 1) g dX5_zone_30 (by decide) ?_
    refine r_goto 35 g dX5_zone_31 (by decide) ?_
    refine rm_put (F' := upd F 0 1) g hM hbm fX5_88 (by decide) rfl dX5_zone_35 ?_
    intro h_2 hM
    refine r_aload_n g dX5_zone_38 rfl ?_
    refine rm_get g hM fX5_88 rfl dX5_zone_39 ?_
    refine r_topi (y := 1) rfl ?_
    refine r_if_ne 59 g dX5_zone_42 (by decide) (fun c42 => ?_) (fun c42 => absurd c42 (by decide))
    have hs : sZone s c a b = (1, 0, s) := by unfold sZone; rw [if_pos (by first | (rw [q]; rfl) | (rw [q, q2]; rfl) | (rw [q, q2, q3]; rfl) | (rw [q, q2, q3, decide_eq_false c27]; rfl))]
    exact r_vret g hr (Nat.le_refl _) (Nat.le_refl _) dX5_zone_59 (KP_v (c := 1) hM (by rw [hs]; exact hI) rfl (by rw [hs]; rfl) SameG.rf)
  · skip
    have q := b2_t c6
    refine r_aload_n g dX5_zone_9 rfl ?_
    refine r_iload_n g dX5_zone_10 rfl ?_
    refine r_pV g kX5_101 (ok_m_isFloor _ _ _ _ hM.1 hI.1 (by omega) a) hM.1.1 rfl rfl rfl hnx hR (by decide) (Nat.zero_le _) (Nat.zero_le _) rfl rfl dX5_zone_11 ?_
    refine r_if_eq 30 g dX5_zone_14 (by decide) (fun c14 => ?_) (fun c14 => ?_)
    · skip
      have q2 := b2_f c14
      refine r_iconst (v := 1) g dX5_zone_30 (by decide) ?_
      refine r_goto 35 g dX5_zone_31 (by decide) ?_
      refine rm_put (F' := upd F 0 1) g hM hbm fX5_88 (by decide) rfl dX5_zone_35 ?_
      intro h_4 hM
      refine r_aload_n g dX5_zone_38 rfl ?_
      refine rm_get g hM fX5_88 rfl dX5_zone_39 ?_
      refine r_topi (y := 1) rfl ?_
      refine r_if_ne 59 g dX5_zone_42 (by decide) (fun c42 => ?_) (fun c42 => absurd c42 (by decide))
      have hs : sZone s c a b = (1, 0, s) := by unfold sZone; rw [if_pos (by first | (rw [q]; rfl) | (rw [q, q2]; rfl) | (rw [q, q2, q3]; rfl) | (rw [q, q2, q3, decide_eq_false c27]; rfl))]
      exact r_vret g hr (Nat.le_refl _) (Nat.le_refl _) dX5_zone_59 (KP_v (c := 1) hM (by rw [hs]; exact hI) rfl (by rw [hs]; rfl) SameG.rf)
    · skip
      have q2 := b2_t c14
      refine r_aload_n g dX5_zone_17 rfl ?_
      refine r_iload_n g dX5_zone_18 rfl ?_
      refine r_pV g kX5_101 (ok_m_isFloor _ _ _ _ hM.1 hI.1 (by omega) b) hM.1.1 rfl rfl rfl hnx hR (by decide) (Nat.zero_le _) (Nat.zero_le _) rfl rfl dX5_zone_19 ?_
      refine r_if_eq 30 g dX5_zone_22 (by decide) (fun c22 => ?_) (fun c22 => ?_)
      · skip
        have q3 := b2_f c22
        refine r_iconst (v := 1) g dX5_zone_30 (by decide) ?_
        refine r_goto 35 g dX5_zone_31 (by decide) ?_
        refine rm_put (F' := upd F 0 1) g hM hbm fX5_88 (by decide) rfl dX5_zone_35 ?_
        intro h_6 hM
        refine r_aload_n g dX5_zone_38 rfl ?_
        refine rm_get g hM fX5_88 rfl dX5_zone_39 ?_
        refine r_topi (y := 1) rfl ?_
        refine r_if_ne 59 g dX5_zone_42 (by decide) (fun c42 => ?_) (fun c42 => absurd c42 (by decide))
        have hs : sZone s c a b = (1, 0, s) := by unfold sZone; rw [if_pos (by first | (rw [q]; rfl) | (rw [q, q2]; rfl) | (rw [q, q2, q3]; rfl) | (rw [q, q2, q3, decide_eq_false c27]; rfl))]
        exact r_vret g hr (Nat.le_refl _) (Nat.le_refl _) dX5_zone_59 (KP_v (c := 1) hM (by rw [hs]; exact hI) rfl (by rw [hs]; rfl) SameG.rf)
      · skip
        have q3 := b2_t c22
        refine r_iload_n g dX5_zone_25 rfl ?_
        refine r_iload_n g dX5_zone_26 rfl ?_
        refine r_icmp_le 34 g dX5_zone_27 (by decide) (fun c27 => ?_) (fun c27 => ?_)
        · skip
          refine r_iconst (v := 0) g dX5_zone_34 (by decide) ?_
          refine rm_put (F' := upd F 0 0) g hM hbm fX5_88 (by decide) rfl dX5_zone_35 ?_
          intro h_8 hM
          refine r_aload_n g dX5_zone_38 rfl ?_
          refine rm_get g hM fX5_88 rfl dX5_zone_39 ?_
          refine r_topi (y := 0) rfl ?_
          refine r_if_ne 59 g dX5_zone_42 (by decide) (fun c42 => absurd c42 (by decide)) (fun c42 => ?_)
          refine r_aload_n g dX5_zone_45 rfl ?_
          refine rm_get g hM fX5_19 rfl dX5_zone_46 ?_
          have hci := inB_at (by omega) q
          refine r_iload_n g dX5_zone_49 rfl ?_
          refine r_iload_n g dX5_zone_50 rfl ?_
          refine rm_iast 7 (j := iN c) g hM hbm rfl (by decide) rfl hci.2 (show iN c < 4 by omega) dX5_zone_51 ?_
          intro h_9 hM
          refine r_aload_n g dX5_zone_52 rfl ?_
          refine rm_get g hM fX5_22 rfl dX5_zone_53 ?_
          refine r_iload_n g dX5_zone_56 rfl ?_
          refine r_iload_n g dX5_zone_57 rfl ?_
          refine rm_iast 8 (j := iN c) g hM hbm rfl (by decide) rfl hci.2 (show iN c < 4 by omega) dX5_zone_58 ?_
          intro h_10 hM
          have hae := (inB_at (by omega) q2).2
          have hbe := (inB_at (by omega) q3).2
          have hs : sZone s c a b = (0, 0, (s.1, up2 (up2 s.2.1 (iN c) 3 (iN a)) (iN c) 4 (iN b), s.2.2)) := by unfold sZone; rw [if_neg (by rw [q, q2, q3, decide_eq_true c27]; decide)]
          exact r_vret g hr (Nat.le_refl _) (Nat.le_refl _) dX5_zone_59 (KP_v (c := 0) hM (by rw [hs]; exact MI_zone hI hae hbe) rfl (by rw [hs]; rfl) (SameG.up (SameG.up SameG.rf (by decide)) (by decide)))
        · skip
          refine r_iconst (v := 1) g dX5_zone_30 (by decide) ?_
          refine r_goto 35 g dX5_zone_31 (by decide) ?_
          refine rm_put (F' := upd F 0 1) g hM hbm fX5_88 (by decide) rfl dX5_zone_35 ?_
          intro h_12 hM
          refine r_aload_n g dX5_zone_38 rfl ?_
          refine rm_get g hM fX5_88 rfl dX5_zone_39 ?_
          refine r_topi (y := 1) rfl ?_
          refine r_if_ne 59 g dX5_zone_42 (by decide) (fun c42 => ?_) (fun c42 => absurd c42 (by decide))
          have hs : sZone s c a b = (1, 0, s) := by unfold sZone; rw [if_pos (by first | (rw [q]; rfl) | (rw [q, q2]; rfl) | (rw [q, q2, q3]; rfl) | (rw [q, q2, q3, decide_eq_false c27]; rfl))]
          exact r_vret g hr (Nat.le_refl _) (Nat.le_refl _) dX5_zone_59 (KP_v (c := 1) hM (by rw [hs]; exact hI) rfl (by rw [hs]; rfl) SameG.rf)
set_option maxHeartbeats 4000000 in
set_option maxRecDepth 100000 in
theorem ok_m_sleep (l : Launch) (G : Nat → ClassId) (D : va_G) (base : Nat) {h : Hp} {nx m : Nat} {F : Nat → Int32} {A : Nat → Nat → Int32} {B : Nat → Int64} (s : AS) (hA : AI s) (hI : MI F A s) (hM : MO h m F A B) (hbm : base ≤ m) (c : Int32) (on : Bool) : MetP l G D base miX5_sleep 2 0 0 [.ref m, .int c, .int (b2 on)] h nx (KP h nx m A B false (sSleep s c on)) := by
  refine MetP_of (by decide +kernel) rfl ?_
  intro k g hr hR hcl hcg hcd hcb hcn hnx
  subst hcl; subst hcg; subst hcd; subst hcb
  have hM := MS.rf hM
  obtain ⟨⟨hn1, hn2⟩, ht, hnc, hN, -⟩ := id hA
  have hz := nar_le1
  show Sf k 0 0 h nx 0 [some (.ref m), some (.int c), some (.int (b2 on)), none] []
  refine r_aload_n g dX5_sleep_0 rfl ?_
  refine r_aload_n g dX5_sleep_1 rfl ?_
  refine r_iload_n g dX5_sleep_2 rfl ?_
  refine r_pV g kX5_108 (ok_m_isCar _ _ _ _ hM.1 hI.2.2.1 (by omega) c) hM.1.1 rfl rfl rfl hnx hR (by decide) (Nat.zero_le _) (Nat.zero_le _) rfl rfl dX5_sleep_3 ?_
  refine r_if_eq 13 g dX5_sleep_6 (by decide) (fun c6 => ?_) (fun c6 => ?_)
  · skip
    have q := b2_f c6
    refine r_iconst (v := 1) g dX5_sleep_13 (by decide) ?_
    refine rm_put (F' := upd F 0 1) g hM hbm fX5_88 (by decide) rfl dX5_sleep_14 ?_
    intro h_2 hM
    refine r_aload_n g dX5_sleep_17 rfl ?_
    refine rm_get g hM fX5_88 rfl dX5_sleep_18 ?_
    refine r_topi (y := 1) rfl ?_
    refine r_if_le 26 g dX5_sleep_21 (by decide) (fun c21 => absurd c21 (by decide)) (fun c21 => ?_)
    refine r_iconst (v := 0) g dX5_sleep_24 (by decide) ?_
    have hs : sSleep s c on = (1, 0, s) := by unfold sSleep; rw [if_pos q]
    exact r_zret g hr (Nat.le_refl _) (Nat.le_refl _) dX5_sleep_25 rfl (KP_i (c := 1) hM (by rw [hs]; exact hI) rfl (by rw [hs]; rfl) (fun z => by rw [hs] at z; cases z) SameG.rf)
  · skip
    have q := b2_t c6
    refine r_iconst (v := 0) g dX5_sleep_9 (by decide) ?_
    refine r_goto 14 g dX5_sleep_10 (by decide) ?_
    refine rm_put (F' := upd F 0 0) g hM hbm fX5_88 (by decide) rfl dX5_sleep_14 ?_
    intro h_4 hM
    refine r_aload_n g dX5_sleep_17 rfl ?_
    refine rm_get g hM fX5_88 rfl dX5_sleep_18 ?_
    refine r_topi (y := 0) rfl ?_
    refine r_if_le 26 g dX5_sleep_21 (by decide) (fun c21 => ?_) (fun c21 => absurd c21 (by decide))
    refine r_aload_n g dX5_sleep_26 rfl ?_
    refine rm_get g hM fX5_25 rfl dX5_sleep_27 ?_
    have hci := inB_at (by omega) q
    have h51 := (hA.2.2.2.2.1 _ hci.1).2.2.2.2
    refine r_iload_n g dX5_sleep_30 rfl ?_
    refine rm_zald 9 (j := iN c) g hM rfl rfl hci.2 (show iN c < 4 by omega) dX5_sleep_31 ?_
    refine r_topi (y := (nI (s.2.1 (iN c) 5))) (hI.2.2.2.2.2.1 (iN c) (by omega)).2.2.2.2.2 ?_
    refine r_istore_n g dX5_sleep_32 rfl rfl rfl ?_
    refine r_aload_n g dX5_sleep_33 rfl ?_
    refine rm_get g hM fX5_25 rfl dX5_sleep_34 ?_
    refine r_iload_n g dX5_sleep_37 rfl ?_
    refine r_iload_n g dX5_sleep_38 rfl ?_
    refine rm_zast 9 (j := iN c) g hM hbm rfl rfl hci.2 (show iN c < 4 by omega) (b2_nar on) dX5_sleep_39 ?_
    intro h_5 hM
    refine r_iload_n g dX5_sleep_40 rfl ?_
    have hs : sSleep s c on = (0, nI (s.2.1 (iN c) 5), (s.1, up2 s.2.1 (iN c) 5 (if on = true then 1 else 0), s.2.2)) := by unfold sSleep; rw [if_neg (by rw [q]; decide)]
    exact r_zret g hr (Nat.le_refl _) (Nat.le_refl _) dX5_sleep_41 (hz _ (by omega)) (KP_i (c := 0) hM (by rw [hs]; exact MI_sleep hI (b2_nI on)) rfl (by rw [hs]; rfl) (fun _ => by rw [hs]) (SameG.up SameG.rf (by decide)))
set_option maxHeartbeats 4000000 in
set_option maxRecDepth 100000 in
theorem ok_m_urgent (l : Launch) (G : Nat → ClassId) (D : va_G) (base : Nat) {h : Hp} {nx m : Nat} {F : Nat → Int32} {A : Nat → Nat → Int32} {B : Nat → Int64} (s : AS) (hA : AI s) (hI : MI F A s) (hM : MO h m F A B) (hbm : base ≤ m) (x : Int32) (on : Bool) : MetP l G D base miX5_urgent 2 0 0 [.ref m, .int x, .int (b2 on)] h nx (KP h nx m A B false (sUrgent s x on)) := by
  refine MetP_of (by decide +kernel) rfl ?_
  intro k g hr hR hcl hcg hcd hcb hcn hnx
  subst hcl; subst hcg; subst hcd; subst hcb
  have hM := MS.rf hM
  obtain ⟨⟨hn1, hn2⟩, ht, hnc, hN, -⟩ := id hA
  have hz := nar_le1
  show Sf k 0 0 h nx 0 [some (.ref m), some (.int x), some (.int (b2 on)), none] []
  refine r_aload_n g dX5_urgent_0 rfl ?_
  refine r_aload_n g dX5_urgent_1 rfl ?_
  refine r_iload_n g dX5_urgent_2 rfl ?_
  refine r_pV g kX5_115 (ok_m_isOpenCall _ _ _ _ s hA hI hM.1 x) hM.1.1 rfl rfl rfl hnx hR (by decide) (Nat.zero_le _) (Nat.zero_le _) rfl rfl dX5_urgent_3 ?_
  refine r_if_eq 13 g dX5_urgent_6 (by decide) (fun c6 => ?_) (fun c6 => ?_)
  · skip
    have q := b2_f c6
    refine r_iconst (v := 1) g dX5_urgent_13 (by decide) ?_
    refine rm_put (F' := upd F 0 1) g hM hbm fX5_88 (by decide) rfl dX5_urgent_14 ?_
    intro h_2 hM
    refine r_aload_n g dX5_urgent_17 rfl ?_
    refine rm_get g hM fX5_88 rfl dX5_urgent_18 ?_
    refine r_topi (y := 1) rfl ?_
    refine r_if_le 26 g dX5_urgent_21 (by decide) (fun c21 => absurd c21 (by decide)) (fun c21 => ?_)
    refine r_iconst (v := 0) g dX5_urgent_24 (by decide) ?_
    have hs : sUrgent s x on = (1, 0, s) := by unfold sUrgent; rw [if_pos q]
    exact r_zret g hr (Nat.le_refl _) (Nat.le_refl _) dX5_urgent_25 rfl (KP_i (c := 1) hM (by rw [hs]; exact hI) rfl (by rw [hs]; rfl) (fun z => by rw [hs] at z; cases z) SameG.rf)
  · skip
    have q := b2_t c6
    refine r_iconst (v := 0) g dX5_urgent_9 (by decide) ?_
    refine r_goto 14 g dX5_urgent_10 (by decide) ?_
    refine rm_put (F' := upd F 0 0) g hM hbm fX5_88 (by decide) rfl dX5_urgent_14 ?_
    intro h_4 hM
    refine r_aload_n g dX5_urgent_17 rfl ?_
    refine rm_get g hM fX5_88 rfl dX5_urgent_18 ?_
    refine r_topi (y := 0) rfl ?_
    refine r_if_le 26 g dX5_urgent_21 (by decide) (fun c21 => ?_) (fun c21 => absurd c21 (by decide))
    refine r_aload_n g dX5_urgent_26 rfl ?_
    refine rm_get g hM fX5_41 rfl dX5_urgent_27 ?_
    have hci := opB_at hA q
    have h51 := (hA.2.2.2.2.2.1 _ hci.1).2.2.2.2.1
    refine r_iload_n g dX5_urgent_30 rfl ?_
    refine rm_zald 15 (j := iN x) g hM rfl rfl hci.2.1 (show iN x < 400 by omega) dX5_urgent_31 ?_
    refine r_topi (y := (nI (s.2.2 (iN x) 4))) (hI.2.2.2.2.2.2.1 (iN x) (by omega)).2.2.2.2.1 ?_
    refine r_istore_n g dX5_urgent_32 rfl rfl rfl ?_
    refine r_aload_n g dX5_urgent_33 rfl ?_
    refine rm_get g hM fX5_41 rfl dX5_urgent_34 ?_
    refine r_iload_n g dX5_urgent_37 rfl ?_
    refine r_iload_n g dX5_urgent_38 rfl ?_
    refine rm_zast 15 (j := iN x) g hM hbm rfl rfl hci.2.1 (show iN x < 400 by omega) (b2_nar on) dX5_urgent_39 ?_
    intro h_5 hM
    refine r_iload_n g dX5_urgent_40 rfl ?_
    have hs : sUrgent s x on = (0, nI (s.2.2 (iN x) 4), (s.1, s.2.1, up2 s.2.2 (iN x) 4 (if on = true then 1 else 0))) := by unfold sUrgent; rw [if_neg (by rw [q]; decide)]
    exact r_zret g hr (Nat.le_refl _) (Nat.le_refl _) dX5_urgent_41 (hz _ (by omega)) (KP_i (c := 0) hM (by rw [hs]; exact MI_urgent hI hci.1 (b2_nI on)) rfl (by rw [hs]; rfl) (fun _ => by rw [hs]) (SameG.up SameG.rf (by decide)))
set_option maxHeartbeats 4000000 in
set_option maxRecDepth 100000 in
theorem ok_m_done (l : Launch) (G : Nat → ClassId) (D : va_G) (base : Nat) {h : Hp} {nx m : Nat} {F : Nat → Int32} {A : Nat → Nat → Int32} {B : Nat → Int64} (s : AS) (hA : AI s) (hI : MI F A s) (hM : MO h m F A B) (hbm : base ≤ m) (x : Int32) : MetP l G D base miX5_done 2 0 0 [.ref m, .int x] h nx (KP h nx m A B true (sDone s x)) := by
  refine MetP_of (by decide +kernel) rfl ?_
  intro k g hr hR hcl hcg hcd hcb hcn hnx
  subst hcl; subst hcg; subst hcd; subst hcb
  have hM := MS.rf hM
  obtain ⟨⟨hn1, hn2⟩, ht, hnc, hN, -⟩ := id hA
  show Sf k 0 0 h nx 0 [some (.ref m), some (.int x)] []
  refine r_aload_n g dX5_done_0 rfl ?_
  refine r_aload_n g dX5_done_1 rfl ?_
  refine r_iload_n g dX5_done_2 rfl ?_
  refine r_pV g kX5_115 (ok_m_isOpenCall _ _ _ _ s hA hI hM.1 x) hM.1.1 rfl rfl rfl hnx hR (by decide) (Nat.zero_le _) (Nat.zero_le _) rfl rfl dX5_done_3 ?_
  refine r_if_eq 13 g dX5_done_6 (by decide) (fun c6 => ?_) (fun c6 => ?_)
  · skip
    have q := b2_f c6
    refine r_iconst (v := 1) g dX5_done_13 (by decide) ?_
    refine rm_put (F' := upd F 0 1) g hM hbm fX5_88 (by decide) rfl dX5_done_14 ?_
    intro h_2 hM
    refine r_aload_n g dX5_done_17 rfl ?_
    refine rm_get g hM fX5_88 rfl dX5_done_18 ?_
    refine r_topi (y := 1) rfl ?_
    refine r_if_ne 41 g dX5_done_21 (by decide) (fun c21 => ?_) (fun c21 => absurd c21 (by decide))
    have hs : sDone s x = (1, 0, s) := by unfold sDone; rw [if_pos q]
    exact r_vret g hr (Nat.le_refl _) (Nat.le_refl _) dX5_done_41 (KP_v (c := 1) hM (by rw [hs]; exact hI) rfl (by rw [hs]; rfl) SameG.rf)
  · skip
    have q := b2_t c6
    refine r_iconst (v := 0) g dX5_done_9 (by decide) ?_
    refine r_goto 14 g dX5_done_10 (by decide) ?_
    refine rm_put (F' := upd F 0 0) g hM hbm fX5_88 (by decide) rfl dX5_done_14 ?_
    intro h_4 hM
    refine r_aload_n g dX5_done_17 rfl ?_
    refine rm_get g hM fX5_88 rfl dX5_done_18 ?_
    refine r_topi (y := 0) rfl ?_
    refine r_if_ne 41 g dX5_done_21 (by decide) (fun c21 => absurd c21 (by decide)) (fun c21 => ?_)
    refine r_aload_n g dX5_done_24 rfl ?_
    refine rm_get g hM fX5_38 rfl dX5_done_25 ?_
    have hci := opB_at hA q
    refine r_iload_n g dX5_done_28 rfl ?_
    refine r_iconst (v := 0) g dX5_done_29 (by decide) ?_
    refine rm_zast 14 (j := iN x) g hM hbm rfl rfl hci.2.1 (show iN x < 400 by omega) rfl dX5_done_30 ?_
    intro h_5 hM
    refine r_aload_n g dX5_done_31 rfl ?_
    refine r_dup g dX5_done_32 rfl ?_
    refine rm_get g hM fX5_112 rfl dX5_done_33 ?_
    refine r_topi (y := (nI (nOp s))) hI.2.2.2.2.1 ?_
    refine r_iconst (v := 1) g dX5_done_36 (by decide) ?_
    refine r_isub g dX5_done_37 ?_
    refine rm_put (F' := upd (upd F 0 0) 17 ((nI (nOp s)) - 1)) g hM hbm fX5_112 (by decide) rfl dX5_done_38 ?_
    intro h_7 hM
    have hs : sDone s x = (0, 0, (s.1, s.2.1, up2 s.2.2 (iN x) 3 0)) := by unfold sDone; rw [if_neg (by rw [q]; decide)]
    exact r_vret g hr (Nat.le_refl _) (Nat.le_refl _) dX5_done_41 (KP_v (c := 0) hM (by rw [hs]; exact MI_done hI hci.1 hci.2.2) rfl (by rw [hs]; rfl) (SameG.up SameG.rf (by decide)))
theorem pass_at {t : Nat} {x : Int32} (ht : t ≤ 100000) (h : inR x 1 1000 = true) : nI t + x = nI (t + iN x) ∧ (nI t + x ≤ 100000 ↔ t + iN x ≤ 100000) := by
  obtain ⟨h1, h2, h3⟩ := inR_at (by decide) (by decide) h
  have e : nI t + x = nI (t + iN x) := by rw [h3, iN_nI (by omega)]; exact nI_add _ _
  exact ⟨e, by rw [e]; exact nI_leI (b := 100000) (by omega) (by decide)⟩
set_option maxHeartbeats 4000000 in
set_option maxRecDepth 100000 in
theorem ok_m_pass (l : Launch) (G : Nat → ClassId) (D : va_G) (base : Nat) {h : Hp} {nx m : Nat} {F : Nat → Int32} {A : Nat → Nat → Int32} {B : Nat → Int64} (s : AS) (hA : AI s) (hI : MI F A s) (hM : MO h m F A B) (hbm : base ≤ m) (x : Int32) : MetP l G D base miX5_pass 2 0 0 [.ref m, .int x] h nx (KP h nx m A B false (sPass s x)) := by
  refine MetP_of (by decide +kernel) rfl ?_
  intro k g hr hR hcl hcg hcd hcb hcn hnx
  subst hcl; subst hcg; subst hcd; subst hcb
  have hM := MS.rf hM
  obtain ⟨⟨hn1, hn2⟩, ht, hnc, hN, -⟩ := id hA
  show Sf k 0 0 h nx 0 [some (.ref m), some (.int x)] []
  refine r_aload_n g dX5_pass_0 rfl ?_
  refine r_iload_n g dX5_pass_1 rfl ?_
  refine r_iconst (v := 1) g dX5_pass_2 (by decide) ?_
  refine r_sipush (v := 1000) g dX5_pass_3 (by decide) ?_
  refine r_pS g kX5_91 (ok_m_isIn _ _ _ _ x 1 1000) rfl rfl hnx hR (by decide) (Nat.zero_le _) (Nat.zero_le _) rfl rfl dX5_pass_6 ?_
  refine r_if_eq 23 g dX5_pass_9 (by decide) (fun c9 => ?_) (fun c9 => ?_)
  · skip
    have q : inR x 1 1000 = false := b2_f c9
    refine r_iconst (v := 1) g dX5_pass_23 (by decide) ?_
    refine r_goto 28 g dX5_pass_24 (by decide) ?_
    refine rm_put (F' := upd F 0 1) g hM hbm fX5_88 (by decide) rfl dX5_pass_28 ?_
    intro h_2 hM
    refine r_aload_n g dX5_pass_31 rfl ?_
    refine rm_get g hM fX5_88 rfl dX5_pass_32 ?_
    refine r_topi (y := 1) rfl ?_
    refine r_if_le 40 g dX5_pass_35 (by decide) (fun c35 => absurd c35 (by decide)) (fun c35 => ?_)
    refine r_iconst (v := 0) g dX5_pass_38 (by decide) ?_
    have hs : sPass s x = (1, 0, s) := by unfold sPass; first | rw [if_pos q] | (rw [if_neg (by rw [q]; decide), if_pos (Nat.lt_of_not_le (fun z => c20 ((pass_at ht q).2.mpr z)))])
    exact r_iret g hr (Nat.le_refl _) (Nat.le_refl _) dX5_pass_39 (KP_i (c := 1) hM (by rw [hs]; exact hI) rfl (by rw [hs]; rfl) (fun z => by rw [hs] at z; cases z) SameG.rf)
  · skip
    have q : inR x 1 1000 = true := b2_t c9
    refine r_aload_n g dX5_pass_12 rfl ?_
    refine rm_get g hM fX5_105 rfl dX5_pass_13 ?_
    refine r_topi (y := (nI (s.1 1))) hI.2.1 ?_
    refine r_iload_n g dX5_pass_16 rfl ?_
    refine r_iadd g dX5_pass_17 ?_
    refine r_ldc g dX5_pass_18 vX5_111 ?_
    refine r_icmp_le 27 g dX5_pass_20 (by decide) (fun c20 => ?_) (fun c20 => ?_)
    · skip
      refine r_iconst (v := 0) g dX5_pass_27 (by decide) ?_
      refine rm_put (F' := upd F 0 0) g hM hbm fX5_88 (by decide) rfl dX5_pass_28 ?_
      intro h_4 hM
      refine r_aload_n g dX5_pass_31 rfl ?_
      refine rm_get g hM fX5_88 rfl dX5_pass_32 ?_
      refine r_topi (y := 0) rfl ?_
      refine r_if_le 40 g dX5_pass_35 (by decide) (fun c35 => ?_) (fun c35 => absurd c35 (by decide))
      refine r_aload_n g dX5_pass_40 rfl ?_
      refine r_dup g dX5_pass_41 rfl ?_
      refine rm_get g hM fX5_105 rfl dX5_pass_42 ?_
      refine r_topi (y := (nI (s.1 1))) hI.2.1 ?_
      refine r_iload_n g dX5_pass_45 rfl ?_
      refine r_iadd g dX5_pass_46 ?_
      refine rm_put (F' := upd (upd F 0 0) 2 ((nI (s.1 1)) + x)) g hM hbm fX5_105 (by decide) rfl dX5_pass_47 ?_
      intro h_6 hM
      refine r_aload_n g dX5_pass_50 rfl ?_
      refine rm_get g hM fX5_105 rfl dX5_pass_51 ?_
      refine r_topi (y := ((nI (s.1 1)) + x)) rfl ?_
      have hp := pass_at ht q
      have hle := hp.2.mp c20
      have hs : sPass s x = (0, nI (s.1 1 + iN x), (up1 s.1 1 (s.1 1 + iN x), s.2.1, s.2.2)) := by unfold sPass; rw [if_neg (by rw [q]; decide), if_neg (by omega)]
      exact r_iret g hr (Nat.le_refl _) (Nat.le_refl _) dX5_pass_54 (KP_i (c := 0) hM (by rw [hs]; exact MI_pass hI hp.1) rfl (by rw [hs]; rfl) (fun _ => by rw [hs]; exact hp.1) SameG.rf)
    · skip
      refine r_iconst (v := 1) g dX5_pass_23 (by decide) ?_
      refine r_goto 28 g dX5_pass_24 (by decide) ?_
      refine rm_put (F' := upd F 0 1) g hM hbm fX5_88 (by decide) rfl dX5_pass_28 ?_
      intro h_8 hM
      refine r_aload_n g dX5_pass_31 rfl ?_
      refine rm_get g hM fX5_88 rfl dX5_pass_32 ?_
      refine r_topi (y := 1) rfl ?_
      refine r_if_le 40 g dX5_pass_35 (by decide) (fun c35 => absurd c35 (by decide)) (fun c35 => ?_)
      refine r_iconst (v := 0) g dX5_pass_38 (by decide) ?_
      have hs : sPass s x = (1, 0, s) := by unfold sPass; first | rw [if_pos q] | (rw [if_neg (by rw [q]; decide), if_pos (Nat.lt_of_not_le (fun z => c20 ((pass_at ht q).2.mpr z)))])
      exact r_iret g hr (Nat.le_refl _) (Nat.le_refl _) dX5_pass_39 (KP_i (c := 1) hM (by rw [hs]; exact hI) rfl (by rw [hs]; rfl) (fun z => by rw [hs] at z; cases z) SameG.rf)
set_option maxHeartbeats 4000000 in
set_option maxRecDepth 100000 in
theorem ok_m_call (l : Launch) (G : Nat → ClassId) (D : va_G) (base : Nat) {h : Hp} {nx m : Nat} {F : Nat → Int32} {A : Nat → Nat → Int32} {B : Nat → Int64} (s : AS) (hA : AI s) (hI : MI F A s) (hM : MO h m F A B) (hbm : base ≤ m) (f t : Int32) : MetP l G D base miX5_call 2 0 0 [.ref m, .int f, .int t] h nx (KP h nx m A B false (sCall s f t)) := by
  refine MetP_of (by decide +kernel) rfl ?_
  intro k g hr hR hcl hcg hcd hcb hcn hnx
  subst hcl; subst hcg; subst hcd; subst hcb
  have hM := MS.rf hM
  obtain ⟨⟨hn1, hn2⟩, ht, hnc, hN, -, -, hop6, -⟩ := id hA
  show Sf k 0 0 h nx 0 [some (.ref m), some (.int f), some (.int t)] []
  refine r_aload_n g dX5_call_0 rfl ?_
  refine r_aload_n g dX5_call_1 rfl ?_
  refine r_iload_n g dX5_call_2 rfl ?_
  refine r_pV g kX5_101 (ok_m_isFloor _ _ _ _ hM.1 hI.1 (by omega) f) hM.1.1 rfl rfl rfl hnx hR (by decide) (Nat.zero_le _) (Nat.zero_le _) rfl rfl dX5_call_3 ?_
  refine r_if_eq 22 g dX5_call_6 (by decide) (fun c6 => ?_) (fun c6 => ?_)
  · skip
    have q := b2_f c6
    refine r_iconst (v := 1) g dX5_call_22 (by decide) ?_
    refine r_goto 50 g dX5_call_23 (by decide) ?_
    refine rm_put (F' := upd F 0 1) g hM hbm fX5_88 (by decide) rfl dX5_call_50 ?_
    intro h_2 hM
    refine r_aload_n g dX5_call_53 rfl ?_
    refine rm_get g hM fX5_88 rfl dX5_call_54 ?_
    refine r_topi (y := 1) rfl ?_
    refine r_if_le 62 g dX5_call_57 (by decide) (fun c57 => absurd c57 (by decide)) (fun c57 => ?_)
    refine r_iconst (v := 0) g dX5_call_60 (by decide) ?_
    have hs : sCall s f t = (1, 0, s) := by unfold sCall; rw [if_pos (by first | (rw [q]; rfl) | (rw [q, q2]; rfl) | (rw [q, q2, decide_eq_true c19]; rfl))]
    exact r_iret g hr (Nat.le_refl _) (Nat.le_refl _) dX5_call_61 (KP_i (c := 1) hM (by rw [hs]; exact hI) rfl (by rw [hs]; rfl) (fun z => by rw [hs] at z; cases z) SameG.rf)
  · skip
    have q := b2_t c6
    refine r_aload_n g dX5_call_9 rfl ?_
    refine r_iload_n g dX5_call_10 rfl ?_
    refine r_pV g kX5_101 (ok_m_isFloor _ _ _ _ hM.1 hI.1 (by omega) t) hM.1.1 rfl rfl rfl hnx hR (by decide) (Nat.zero_le _) (Nat.zero_le _) rfl rfl dX5_call_11 ?_
    refine r_if_eq 22 g dX5_call_14 (by decide) (fun c14 => ?_) (fun c14 => ?_)
    · skip
      have q2 := b2_f c14
      refine r_iconst (v := 1) g dX5_call_22 (by decide) ?_
      refine r_goto 50 g dX5_call_23 (by decide) ?_
      refine rm_put (F' := upd F 0 1) g hM hbm fX5_88 (by decide) rfl dX5_call_50 ?_
      intro h_4 hM
      refine r_aload_n g dX5_call_53 rfl ?_
      refine rm_get g hM fX5_88 rfl dX5_call_54 ?_
      refine r_topi (y := 1) rfl ?_
      refine r_if_le 62 g dX5_call_57 (by decide) (fun c57 => absurd c57 (by decide)) (fun c57 => ?_)
      refine r_iconst (v := 0) g dX5_call_60 (by decide) ?_
      have hs : sCall s f t = (1, 0, s) := by unfold sCall; rw [if_pos (by first | (rw [q]; rfl) | (rw [q, q2]; rfl) | (rw [q, q2, decide_eq_true c19]; rfl))]
      exact r_iret g hr (Nat.le_refl _) (Nat.le_refl _) dX5_call_61 (KP_i (c := 1) hM (by rw [hs]; exact hI) rfl (by rw [hs]; rfl) (fun z => by rw [hs] at z; cases z) SameG.rf)
    · skip
      have q2 := b2_t c14
      refine r_iload_n g dX5_call_17 rfl ?_
      refine r_iload_n g dX5_call_18 rfl ?_
      refine r_icmp_ne 26 g dX5_call_19 (by decide) (fun c19 => ?_) (fun c19 => ?_)
      · skip
        refine r_aload_n g dX5_call_26 rfl ?_
        refine rm_get g hM fX5_112 rfl dX5_call_27 ?_
        refine r_topi (y := (nI (nOp s))) hI.2.2.2.2.1 ?_
        refine r_bipush (v := 6) g dX5_call_30 (by decide) ?_
        refine r_icmp_eq 45 g dX5_call_32 (by decide) (fun c32 => ?_) (fun c32 => ?_)
        · skip
          have q4 : nOp s = 6 := (nI_c (c := 6) (by omega) (by decide)).mp c32
          refine r_iconst (v := 2) g dX5_call_45 (by decide) ?_
          refine r_goto 50 g dX5_call_46 (by decide) ?_
          refine rm_put (F' := upd F 0 2) g hM hbm fX5_88 (by decide) rfl dX5_call_50 ?_
          intro h_6 hM
          refine r_aload_n g dX5_call_53 rfl ?_
          refine rm_get g hM fX5_88 rfl dX5_call_54 ?_
          refine r_topi (y := 2) rfl ?_
          refine r_if_le 62 g dX5_call_57 (by decide) (fun c57 => absurd c57 (by decide)) (fun c57 => ?_)
          refine r_iconst (v := 0) g dX5_call_60 (by decide) ?_
          have hs : sCall s f t = (2, 0, s) := by unfold sCall; rw [if_neg (by rw [q, q2, decide_eq_false c19]; decide), if_pos (by first | exact Or.inl q4 | exact Or.inr q5)]
          exact r_iret g hr (Nat.le_refl _) (Nat.le_refl _) dX5_call_61 (KP_i (c := 2) hM (by rw [hs]; exact hI) rfl (by rw [hs]; rfl) (fun z => by rw [hs] at z; cases z) SameG.rf)
        · skip
          have q4 : ¬ nOp s = 6 := fun z => c32 (by rw [z]; rfl)
          refine r_aload_n g dX5_call_35 rfl ?_
          refine rm_get g hM fX5_98 rfl dX5_call_36 ?_
          refine r_topi (y := (nI (s.1 3))) hI.2.2.2.1 ?_
          refine r_sipush (v := 400) g dX5_call_39 (by decide) ?_
          refine r_icmp_ne 49 g dX5_call_42 (by decide) (fun c42 => ?_) (fun c42 => ?_)
          · skip
            have q5 : ¬ s.1 3 = 400 := fun z => c42 (by rw [z]; rfl)
            have q6 : s.1 3 < 400 := by omega
            refine r_iconst (v := 0) g dX5_call_49 (by decide) ?_
            refine rm_put (F' := upd F 0 0) g hM hbm fX5_88 (by decide) rfl dX5_call_50 ?_
            intro h_8 hM
            refine r_aload_n g dX5_call_53 rfl ?_
            refine rm_get g hM fX5_88 rfl dX5_call_54 ?_
            refine r_topi (y := 0) rfl ?_
            refine r_if_le 62 g dX5_call_57 (by decide) (fun c57 => ?_) (fun c57 => absurd c57 (by decide))
            refine r_aload_n g dX5_call_62 rfl ?_
            refine rm_get g hM fX5_29 rfl dX5_call_63 ?_
            refine r_aload_n g dX5_call_66 rfl ?_
            refine rm_get g hM fX5_98 rfl dX5_call_67 ?_
            refine r_topi (y := (nI (s.1 3))) hI.2.2.2.1 ?_
            refine r_iload_n g dX5_call_70 rfl ?_
            refine rm_iast 11 (j := s.1 3) g hM hbm rfl (by decide) rfl rfl (show s.1 3 < 400 by omega) dX5_call_71 ?_
            intro h_9 hM
            refine r_aload_n g dX5_call_72 rfl ?_
            refine rm_get g hM fX5_32 rfl dX5_call_73 ?_
            refine r_aload_n g dX5_call_76 rfl ?_
            refine rm_get g hM fX5_98 rfl dX5_call_77 ?_
            refine r_topi (y := (nI (s.1 3))) hI.2.2.2.1 ?_
            refine r_iload_n g dX5_call_80 rfl ?_
            refine rm_iast 12 (j := s.1 3) g hM hbm rfl (by decide) rfl rfl (show s.1 3 < 400 by omega) dX5_call_81 ?_
            intro h_10 hM
            refine r_aload_n g dX5_call_82 rfl ?_
            refine rm_get g hM fX5_35 rfl dX5_call_83 ?_
            refine r_aload_n g dX5_call_86 rfl ?_
            refine rm_get g hM fX5_98 rfl dX5_call_87 ?_
            refine r_topi (y := (nI (s.1 3))) hI.2.2.2.1 ?_
            refine r_aload_n g dX5_call_90 rfl ?_
            refine rm_get g hM fX5_105 rfl dX5_call_91 ?_
            refine r_topi (y := (nI (s.1 1))) hI.2.1 ?_
            refine rm_iast 13 (j := s.1 3) g hM hbm rfl (by decide) rfl rfl (show s.1 3 < 400 by omega) dX5_call_94 ?_
            intro h_11 hM
            refine r_aload_n g dX5_call_95 rfl ?_
            refine rm_get g hM fX5_38 rfl dX5_call_96 ?_
            refine r_aload_n g dX5_call_99 rfl ?_
            refine rm_get g hM fX5_98 rfl dX5_call_100 ?_
            refine r_topi (y := (nI (s.1 3))) hI.2.2.2.1 ?_
            refine r_iconst (v := 1) g dX5_call_103 (by decide) ?_
            refine rm_zast 14 (j := s.1 3) g hM hbm rfl rfl rfl (show s.1 3 < 400 by omega) rfl dX5_call_104 ?_
            intro h_12 hM
            refine r_aload_n g dX5_call_105 rfl ?_
            refine rm_get g hM fX5_44 rfl dX5_call_106 ?_
            refine r_aload_n g dX5_call_109 rfl ?_
            refine rm_get g hM fX5_98 rfl dX5_call_110 ?_
            refine r_topi (y := (nI (s.1 3))) hI.2.2.2.1 ?_
            refine r_iconst (v := (-1)) g dX5_call_113 (by decide) ?_
            refine rm_iast 16 (j := s.1 3) g hM hbm rfl (by decide) rfl rfl (show s.1 3 < 400 by omega) dX5_call_114 ?_
            intro h_13 hM
            refine r_aload_n g dX5_call_115 rfl ?_
            refine r_dup g dX5_call_116 rfl ?_
            refine rm_get g hM fX5_112 rfl dX5_call_117 ?_
            refine r_topi (y := (nI (nOp s))) hI.2.2.2.2.1 ?_
            refine r_iconst (v := 1) g dX5_call_120 (by decide) ?_
            refine r_iadd g dX5_call_121 ?_
            refine r_topi (y := (nI ((nOp s) + 1))) (nI_add (nOp s) 1) ?_
            refine rm_put (F' := upd (upd F 0 0) 17 (nI ((nOp s) + 1))) g hM hbm fX5_112 (by decide) rfl dX5_call_122 ?_
            intro h_15 hM
            refine r_aload_n g dX5_call_125 rfl ?_
            refine r_dup g dX5_call_126 rfl ?_
            refine rm_get g hM fX5_98 rfl dX5_call_127 ?_
            refine r_topi (y := (nI (s.1 3))) hI.2.2.2.1 ?_
            refine r_iconst (v := 1) g dX5_call_130 (by decide) ?_
            refine r_iadd g dX5_call_131 ?_
            refine r_topi (y := (nI ((s.1 3) + 1))) (nI_add (s.1 3) 1) ?_
            refine rm_put (F' := upd (upd (upd F 0 0) 17 (nI ((nOp s) + 1))) 10 (nI ((s.1 3) + 1))) g hM hbm fX5_98 (by decide) rfl dX5_call_132 ?_
            intro h_17 hM
            refine r_aload_n g dX5_call_135 rfl ?_
            refine rm_get g hM fX5_98 rfl dX5_call_136 ?_
            refine r_topi (y := (nI ((s.1 3) + 1))) rfl ?_
            refine r_iconst (v := 1) g dX5_call_139 (by decide) ?_
            refine r_isub g dX5_call_140 ?_
            have hfe := (inB_at (by omega) q).2
            have hte := (inB_at (by omega) q2).2
            have hs : sCall s f t = (0, nI (s.1 3), (up1 s.1 3 (s.1 3 + 1), s.2.1, fun k => if k = s.1 3 then newCall s f t else s.2.2 k)) := by unfold sCall; rw [if_neg (by rw [q, q2, decide_eq_false c19]; decide), if_neg (by rintro (z | z); exact q4 z; exact q5 z)]
            exact r_iret g hr (Nat.le_refl _) (Nat.le_refl _) dX5_call_141 (KP_i (c := 0) hM (by rw [hs]; exact MI_call hI hfe hte) rfl (by rw [hs]; rfl) (fun _ => by rw [hs]; exact nI_pred _) (SameG.up (SameG.up (SameG.up (SameG.up (SameG.up SameG.rf (by decide)) (by decide)) (by decide)) (by decide)) (by decide)))
          · skip
            have q5 : s.1 3 = 400 := (nI_c (c := 400) (by omega) (by decide)).mp c42
            refine r_iconst (v := 2) g dX5_call_45 (by decide) ?_
            refine r_goto 50 g dX5_call_46 (by decide) ?_
            refine rm_put (F' := upd F 0 2) g hM hbm fX5_88 (by decide) rfl dX5_call_50 ?_
            intro h_19 hM
            refine r_aload_n g dX5_call_53 rfl ?_
            refine rm_get g hM fX5_88 rfl dX5_call_54 ?_
            refine r_topi (y := 2) rfl ?_
            refine r_if_le 62 g dX5_call_57 (by decide) (fun c57 => absurd c57 (by decide)) (fun c57 => ?_)
            refine r_iconst (v := 0) g dX5_call_60 (by decide) ?_
            have hs : sCall s f t = (2, 0, s) := by unfold sCall; rw [if_neg (by rw [q, q2, decide_eq_false c19]; decide), if_pos (by first | exact Or.inl q4 | exact Or.inr q5)]
            exact r_iret g hr (Nat.le_refl _) (Nat.le_refl _) dX5_call_61 (KP_i (c := 2) hM (by rw [hs]; exact hI) rfl (by rw [hs]; rfl) (fun z => by rw [hs] at z; cases z) SameG.rf)
      · skip
        refine r_iconst (v := 1) g dX5_call_22 (by decide) ?_
        refine r_goto 50 g dX5_call_23 (by decide) ?_
        refine rm_put (F' := upd F 0 1) g hM hbm fX5_88 (by decide) rfl dX5_call_50 ?_
        intro h_21 hM
        refine r_aload_n g dX5_call_53 rfl ?_
        refine rm_get g hM fX5_88 rfl dX5_call_54 ?_
        refine r_topi (y := 1) rfl ?_
        refine r_if_le 62 g dX5_call_57 (by decide) (fun c57 => absurd c57 (by decide)) (fun c57 => ?_)
        refine r_iconst (v := 0) g dX5_call_60 (by decide) ?_
        have hs : sCall s f t = (1, 0, s) := by unfold sCall; rw [if_pos (by first | (rw [q]; rfl) | (rw [q, q2]; rfl) | (rw [q, q2, decide_eq_true c19]; rfl))]
        exact r_iret g hr (Nat.le_refl _) (Nat.le_refl _) dX5_call_61 (KP_i (c := 1) hM (by rw [hs]; exact hI) rfl (by rw [hs]; rfl) (fun z => by rw [hs] at z; cases z) SameG.rf)
theorem way_n {a b : Nat} (h : ¬ b ≤ a) : nI b - nI a = nI (b - a) := pk_sub (by omega)
def dist (a b : Nat) : Nat := if a < b then b - a else a - b
set_option maxHeartbeats 4000000 in
set_option maxRecDepth 100000 in
theorem ok_m_way (l : Launch) (G : Nat → ClassId) (D : va_G) (base : Nat) {h : Hp} {nx : Nat} {a b : Nat} (ha : a < 2 ^ 31) (hb : b < 2 ^ 31) : MetP l G D base miX5_way 0 0 0 [.int (nI a), .int (nI b)] h nx (Kv (.int (nI (dist a b))) h nx) := by
  refine MetP_of (by decide +kernel) rfl ?_
  intro k g hr hR hcl hcg hcd hcb hcn hnx
  subst hcl; subst hcg; subst hcd; subst hcb
  show Sf k 0 0 h nx 0 [some (.int (nI a)), some (.int (nI b))] []
  refine r_iload_n g dX5_way_0 rfl ?_
  refine r_iload_n g dX5_way_1 rfl ?_
  refine r_icmp_ge 11 g dX5_way_2 (by decide) (fun c2 => ?_) (fun c2 => ?_)
  · skip
    have q := (nI_leI hb ha).mp c2
    refine r_iload_n g dX5_way_11 rfl ?_
    refine r_iload_n g dX5_way_12 rfl ?_
    refine r_isub g dX5_way_13 ?_
    refine r_topi (y := (nI (dist a b))) (by rw [pk_sub (by omega)]; unfold dist; rw [if_neg (by omega)]) ?_
    exact r_iret g hr (Nat.le_refl _) (Nat.le_refl _) dX5_way_14 ⟨rfl, rfl, rfl⟩
  · skip
    have q : ¬ b ≤ a := fun z => c2 ((nI_leI hb ha).mpr z)
    refine r_iload_n g dX5_way_5 rfl ?_
    refine r_iload_n g dX5_way_6 rfl ?_
    refine r_isub g dX5_way_7 ?_
    refine r_topi (y := (nI (dist a b))) (by rw [pk_sub (by omega)]; unfold dist; rw [if_pos (by omega)]) ?_
    refine r_goto 14 g dX5_way_8 (by decide) ?_
    exact r_iret g hr (Nat.le_refl _) (Nat.le_refl _) dX5_way_14 ⟨rfl, rfl, rfl⟩
set_option maxHeartbeats 4000000 in
set_option maxRecDepth 100000 in
theorem ok_m_isWithin (l : Launch) (G : Nat → ClassId) (D : va_G) (base : Nat) {h : Hp} {nx m : Nat} {F : Nat → Int32} {A : Nat → Nat → Int32} {B : Nat → Int64} (s : AS) (hA : AI s) (hI : MI F A s) (hM : MO h m F A B) {c j : Nat} (hc : c < s.1 2) (hj : j < s.1 3) : MetP l G D base miX5_isWithin 1 0 0 [.ref m, .int (nI c), .int (nI j)] h nx (Kv (.int (b2 (witB s c j))) h nx) := by
  refine MetP_of (by decide +kernel) rfl ?_
  intro k g hr hR hcl hcg hcd hcb hcn hnx
  subst hcl; subst hcg; subst hcd; subst hcb
  have hM := MS.rf hM
  obtain ⟨⟨hn1, hn2⟩, ht, hnc, hN, -⟩ := id hA
  have hcc := hA.2.2.2.2.1 c hc
  have hkk := hA.2.2.2.2.2.1 j hj
  show Sf k 0 0 h nx 0 [some (.ref m), some (.int (nI c)), some (.int (nI j))] []
  refine r_aload_n g dX5_isWithin_0 rfl ?_
  refine rm_get g hM fX5_29 rfl dX5_isWithin_1 ?_
  refine r_iload_n g dX5_isWithin_4 rfl ?_
  refine rm_iald 11 (j := j) g hM rfl (by decide) rfl rfl (show j < 400 by omega) dX5_isWithin_5 ?_
  refine r_topi (y := (nI (s.2.2 j 0))) (hI.2.2.2.2.2.2.1 j (by omega)).1 ?_
  refine r_aload_n g dX5_isWithin_6 rfl ?_
  refine rm_get g hM fX5_19 rfl dX5_isWithin_7 ?_
  refine r_iload_n g dX5_isWithin_10 rfl ?_
  refine rm_iald 7 (j := c) g hM rfl (by decide) rfl rfl (show c < 4 by omega) dX5_isWithin_11 ?_
  refine r_topi (y := (nI (s.2.1 c 3))) (hI.2.2.2.2.2.1 c (by omega)).2.2.2.1 ?_
  refine r_aload_n g dX5_isWithin_12 rfl ?_
  refine rm_get g hM fX5_22 rfl dX5_isWithin_13 ?_
  refine r_iload_n g dX5_isWithin_16 rfl ?_
  refine rm_iald 8 (j := c) g hM rfl (by decide) rfl rfl (show c < 4 by omega) dX5_isWithin_17 ?_
  refine r_topi (y := (nI (s.2.1 c 4))) (hI.2.2.2.2.2.1 c (by omega)).2.2.2.2.1 ?_
  refine r_pS g kX5_91 (ok_m_isIn _ _ _ _ (nI (s.2.2 j 0)) (nI (s.2.1 c 3)) (nI (s.2.1 c 4))) rfl rfl hnx hR (by decide) (Nat.zero_le _) (Nat.zero_le _) rfl rfl dX5_isWithin_18 ?_
  refine r_topi (y := (b2 (decide (s.2.1 c 3 ≤ s.2.2 j 0 ∧ s.2.2 j 0 ≤ s.2.1 c 4)))) (by rw [dI3 (by omega) (by omega) (by omega)]) ?_
  refine r_if_eq 52 g dX5_isWithin_21 (by decide) (fun c21 => ?_) (fun c21 => ?_)
  · skip
    have q := of_decide_eq_false (b2_f c21)
    refine r_iconst (v := 0) g dX5_isWithin_52 (by decide) ?_
    exact r_zret g hr (Nat.le_refl _) (Nat.le_refl _) dX5_isWithin_53 rfl ⟨congrArg (fun z => some (Value.int z)) (by unfold witB; first | exact b2_no (fun z => q z.1) | exact b2_no (fun z => q2 z.2)), rfl, rfl⟩
  · skip
    have q := of_decide_eq_true (b2_t c21)
    refine r_aload_n g dX5_isWithin_24 rfl ?_
    refine rm_get g hM fX5_32 rfl dX5_isWithin_25 ?_
    refine r_iload_n g dX5_isWithin_28 rfl ?_
    refine rm_iald 12 (j := j) g hM rfl (by decide) rfl rfl (show j < 400 by omega) dX5_isWithin_29 ?_
    refine r_topi (y := (nI (s.2.2 j 1))) (hI.2.2.2.2.2.2.1 j (by omega)).2.1 ?_
    refine r_aload_n g dX5_isWithin_30 rfl ?_
    refine rm_get g hM fX5_19 rfl dX5_isWithin_31 ?_
    refine r_iload_n g dX5_isWithin_34 rfl ?_
    refine rm_iald 7 (j := c) g hM rfl (by decide) rfl rfl (show c < 4 by omega) dX5_isWithin_35 ?_
    refine r_topi (y := (nI (s.2.1 c 3))) (hI.2.2.2.2.2.1 c (by omega)).2.2.2.1 ?_
    refine r_aload_n g dX5_isWithin_36 rfl ?_
    refine rm_get g hM fX5_22 rfl dX5_isWithin_37 ?_
    refine r_iload_n g dX5_isWithin_40 rfl ?_
    refine rm_iald 8 (j := c) g hM rfl (by decide) rfl rfl (show c < 4 by omega) dX5_isWithin_41 ?_
    refine r_topi (y := (nI (s.2.1 c 4))) (hI.2.2.2.2.2.1 c (by omega)).2.2.2.2.1 ?_
    refine r_pS g kX5_91 (ok_m_isIn _ _ _ _ (nI (s.2.2 j 1)) (nI (s.2.1 c 3)) (nI (s.2.1 c 4))) rfl rfl hnx hR (by decide) (Nat.zero_le _) (Nat.zero_le _) rfl rfl dX5_isWithin_42 ?_
    refine r_topi (y := (b2 (decide (s.2.1 c 3 ≤ s.2.2 j 1 ∧ s.2.2 j 1 ≤ s.2.1 c 4)))) (by rw [dI3 (by omega) (by omega) (by omega)]) ?_
    refine r_if_eq 52 g dX5_isWithin_45 (by decide) (fun c45 => ?_) (fun c45 => ?_)
    · skip
      have q2 := of_decide_eq_false (b2_f c45)
      refine r_iconst (v := 0) g dX5_isWithin_52 (by decide) ?_
      exact r_zret g hr (Nat.le_refl _) (Nat.le_refl _) dX5_isWithin_53 rfl ⟨congrArg (fun z => some (Value.int z)) (by unfold witB; first | exact b2_no (fun z => q z.1) | exact b2_no (fun z => q2 z.2)), rfl, rfl⟩
    · skip
      have q2 := of_decide_eq_true (b2_t c45)
      refine r_iconst (v := 1) g dX5_isWithin_48 (by decide) ?_
      refine r_goto 53 g dX5_isWithin_49 (by decide) ?_
      exact r_zret g hr (Nat.le_refl _) (Nat.le_refl _) dX5_isWithin_53 rfl ⟨congrArg (fun z => some (Value.int z)) (by unfold witB; exact b2_of ⟨q, q2⟩), rfl, rfl⟩
theorem wgt_le {s : AS} (hA : AI s) (k : Nat) : wgt s k ≤ 13336 := by
  have := hA.2.1
  unfold wgt
  split <;> omega
theorem nI_1r (n : Nat) : nI n + nI 1 = nI (n + 1) := nI_add n 1
set_option maxHeartbeats 4000000 in
set_option maxRecDepth 100000 in
theorem ok_m_weightOf (l : Launch) (G : Nat → ClassId) (D : va_G) (base : Nat) {h : Hp} {nx m : Nat} {F : Nat → Int32} {A : Nat → Nat → Int32} {B : Nat → Int64} (s : AS) (hA : AI s) (hI : MI F A s) (hM : MO h m F A B) {j : Nat} (hj : j < s.1 3) : MetP l G D base miX5_weightOf 0 0 0 [.ref m, .int (nI j)] h nx (Kv (.int (nI (wgt s j))) h nx) := by
  refine MetP_of (by decide +kernel) rfl ?_
  intro k g hr hR hcl hcg hcd hcb hcn hnx
  subst hcl; subst hcg; subst hcd; subst hcb
  have hM := MS.rf hM
  obtain ⟨⟨hn1, hn2⟩, ht, hnc, hN, -⟩ := id hA
  have hkk := hA.2.2.2.2.2.1 j hj
  show Sf k 0 0 h nx 0 [some (.ref m), some (.int (nI j))] []
  refine r_iconst (v := 1) g dX5_weightOf_0 (by decide) ?_
  refine r_aload_n g dX5_weightOf_1 rfl ?_
  refine rm_get g hM fX5_105 rfl dX5_weightOf_2 ?_
  refine r_topi (y := (nI (s.1 1))) hI.2.1 ?_
  refine r_aload_n g dX5_weightOf_5 rfl ?_
  refine rm_get g hM fX5_35 rfl dX5_weightOf_6 ?_
  refine r_iload_n g dX5_weightOf_9 rfl ?_
  refine rm_iald 13 (j := j) g hM rfl (by decide) rfl rfl (show j < 400 by omega) dX5_weightOf_10 ?_
  refine r_topi (y := (nI (s.2.2 j 2))) (hI.2.2.2.2.2.2.1 j (by omega)).2.2.1 ?_
  refine r_isub g dX5_weightOf_11 ?_
  refine r_topi (y := (nI (s.1 1 - s.2.2 j 2))) (pk_sub (by omega)) ?_
  refine r_bipush (v := 30) g dX5_weightOf_12 (by decide) ?_
  refine r_idiv g dX5_weightOf_14 (by decide) ?_
  refine r_topi (y := (nI ((s.1 1 - s.2.2 j 2) / 30))) (pk_div (d := 30) (by omega) (by decide) (by decide)) ?_
  refine r_iadd g dX5_weightOf_15 ?_
  refine r_topi (y := (nI (1 + ((s.1 1 - s.2.2 j 2) / 30)))) (nI_add 1 ((s.1 1 - s.2.2 j 2) / 30)) ?_
  refine r_aload_n g dX5_weightOf_16 rfl ?_
  refine rm_get g hM fX5_41 rfl dX5_weightOf_17 ?_
  refine r_iload_n g dX5_weightOf_20 rfl ?_
  refine rm_zald 15 (j := j) g hM rfl rfl rfl (show j < 400 by omega) dX5_weightOf_21 ?_
  refine r_topi (y := (nI (s.2.2 j 4))) (hI.2.2.2.2.2.2.1 j (by omega)).2.2.2.2.1 ?_
  refine r_if_eq 29 g dX5_weightOf_22 (by decide) (fun c22 => ?_) (fun c22 => ?_)
  · skip
    have q := eq0 (by omega) c22
    refine r_iconst (v := 1) g dX5_weightOf_29 (by decide) ?_
    refine r_imul g dX5_weightOf_30 ?_
    refine r_topi (y := (nI (wgt s j))) (by first | exact (pk_mul _ 1).trans (by unfold wgt; rw [q]; rfl) | exact (pk_mul _ 4).trans (by unfold wgt; rw [q]; rfl)) ?_
    exact r_iret g hr (Nat.le_refl _) (Nat.le_refl _) dX5_weightOf_31 ⟨rfl, rfl, rfl⟩
  · skip
    have q := nz1 (by omega) c22
    refine r_iconst (v := 4) g dX5_weightOf_25 (by decide) ?_
    refine r_goto 30 g dX5_weightOf_26 (by decide) ?_
    refine r_imul g dX5_weightOf_30 ?_
    refine r_topi (y := (nI (wgt s j))) (by first | exact (pk_mul _ 1).trans (by unfold wgt; rw [q]; rfl) | exact (pk_mul _ 4).trans (by unfold wgt; rw [q]; rfl)) ?_
    exact r_iret g hr (Nat.le_refl _) (Nat.le_refl _) dX5_weightOf_31 ⟨rfl, rfl, rfl⟩
theorem carsZ_lt (s : AS) (k z : Nat) : ∀ n, carsZ s k z n < 2 ^ n
  | 0 => by simp [carsZ]
  | n + 1 => by
    have := carsZ_lt s k z n
    unfold carsZ
    split <;> omega
theorem or_pow {a n : Nat} (h : a < 2 ^ n) : a ||| 2 ^ n = a + 2 ^ n := by
  have := Nat.two_pow_add_eq_or_of_lt h 1
  rw [Nat.mul_one] at this
  rw [Nat.or_comm, ← this, Nat.add_comm]
theorem nI_or (a b : Nat) : nI a ||| nI b = nI (a ||| b) := by
  apply Int32.toBitVec_inj.mp
  rw [Int32.toBitVec_or]
  show BitVec.ofNat 32 a ||| BitVec.ofNat 32 b = BitVec.ofNat 32 (a ||| b)
  exact (BitVec.ofNat_or).symm
theorem shl1 : ∀ {i : Nat}, i < 31 → (1 : Int32) <<< (nI i &&& 31) = nI (2 ^ i) := by
  intro i hi
  have h : ∀ i, i < 31 → (1 : Int32) <<< (nI i &&& 31) = nI (2 ^ i) := by decide +kernel
  exact h i hi
theorem cz_1 {s : AS} {k z i : Nat} (h1 : mayB s i k = true) (h2 : s.2.1 i 5 = z) : nI (carsZ s k z i) ||| nI (2 ^ i) = nI (carsZ s k z (i + 1)) := by
  rw [nI_or, or_pow (carsZ_lt s k z i)]
  show _ = nI (_ + _)
  rw [if_pos ⟨h1, h2⟩]
theorem cz_0 {s : AS} {k z i : Nat} (h : mayB s i k = false ∨ ¬ s.2.1 i 5 = z) : carsZ s k z i = carsZ s k z (i + 1) := by
  show _ = _ + _
  rw [if_neg (fun q => h.elim (fun h => absurd (h.symm.trans q.1) (by decide)) (fun h => h q.2))]
  rfl
theorem or0 (a : Nat) : nI a ||| 0 = nI a := by rw [show (0 : Int32) = nI 0 from rfl, nI_or, Nat.or_zero]
theorem may_t {s : AS} {i k : Nat} (h1 : witB s i k = true) (h2 : s.2.2 k 5 = 4 ∨ s.2.2 k 5 = i) : mayB s i k = true := by unfold mayB; rw [h1, decide_eq_true h2]; rfl
theorem may_f {s : AS} {i k : Nat} (h : witB s i k = false ∨ ¬ (s.2.2 k 5 = 4 ∨ s.2.2 k 5 = i)) : mayB s i k = false := by
  unfold mayB
  rcases h with h | h
  · rw [h]; rfl
  · rw [decide_eq_false h, Bool.and_false]
set_option maxHeartbeats 4000000 in
set_option maxRecDepth 100000 in
theorem ok_m_carsOf (l : Launch) (G : Nat → ClassId) (D : va_G) (base : Nat) {h : Hp} {nx m : Nat} {F : Nat → Int32} {A : Nat → Nat → Int32} {B : Nat → Int64} (s : AS) (hA : AI s) (hI : MI F A s) (hM : MO h m F A B) {j : Nat} (hj : j < s.1 3) : MetP l G D base miX5_carsOf 2 0 0 [.ref m, .int (nI j)] h nx (Kv (.int (nI (carsN s j))) h nx) := by
  refine MetP_of (by decide +kernel) rfl ?_
  intro k g hr hR hcl hcg hcd hcb hcn hnx
  subst hcl; subst hcg; subst hcd; subst hcb
  have hM := MS.rf hM
  obtain ⟨⟨hn1, hn2⟩, ht, hnc, hN, -⟩ := id hA
  have hkk := hA.2.2.2.2.2.1 j hj
  show Sf k 0 0 h nx 0 [some (.ref m), some (.int (nI j)), none, none, none] []
  have hbe := hkk.2.2.2.2.2.1
  have loop : ∀ d i, i + d = s.1 2 → Sf k 0 0 h nx 7 [some (.ref m), some (.int (nI j)), some (.int (nI (carsZ s j 0 i))), some (.int (nI (carsZ s j 1 i))), some (.int (nI i))] [] := by
    intro d
    induction d with
    | zero =>
      intro i hi
      have hi2 : i = s.1 2 := by omega
      refine r_iload g dX5_carsOf_7 rfl ?_
      refine r_aload_n g dX5_carsOf_9 rfl ?_
      refine rm_get g hM fX5_95 rfl dX5_carsOf_10 ?_
      refine r_topi (y := (nI (s.1 2))) hI.2.2.1 ?_
      refine r_icmp_ge 95 g dX5_carsOf_13 (by decide) (fun c13 => ?_) (fun c13 => absurd (nI_le (by omega) (by omega)) c13)
      refine r_iload_n g dX5_carsOf_95 rfl ?_
      refine r_if_eq 103 g dX5_carsOf_96 (by decide) (fun c96 => ?_) (fun c96 => ?_)
      · skip
        have q7 : carsZ s j 0 (s.1 2) = 0 := eq0 (by have := carsZ_lt s j 0 (s.1 2); have := Nat.pow_le_pow_right (n := 2) (by decide) hnc; omega) (by rw [← hi2]; exact c96)
        refine r_iload_n g dX5_carsOf_103 rfl ?_
        exact r_iret g hr (Nat.le_refl _) (Nat.le_refl _) dX5_carsOf_104 ⟨congrArg (fun z => some (Value.int z)) (by rw [hi2]; unfold carsN; first | rw [if_pos q7] | rw [if_neg q7]), rfl, rfl⟩
      · skip
        have q7 : ¬ carsZ s j 0 (s.1 2) = 0 := fun z => c96 (by rw [hi2, z]; rfl)
        refine r_iload_n g dX5_carsOf_99 rfl ?_
        refine r_goto 104 g dX5_carsOf_100 (by decide) ?_
        exact r_iret g hr (Nat.le_refl _) (Nat.le_refl _) dX5_carsOf_104 ⟨congrArg (fun z => some (Value.int z)) (by rw [hi2]; unfold carsN; first | rw [if_pos q7] | rw [if_neg q7]), rfl, rfl⟩
    | succ d ih =>
      intro i hi
      refine r_iload g dX5_carsOf_7 rfl ?_
      refine r_aload_n g dX5_carsOf_9 rfl ?_
      refine rm_get g hM fX5_95 rfl dX5_carsOf_10 ?_
      refine r_topi (y := (nI (s.1 2))) hI.2.2.1 ?_
      refine r_icmp_ge 95 g dX5_carsOf_13 (by decide) (fun c13 => absurd c13 (nI_ge (by omega) (by omega))) (fun c13 => ?_)
      refine r_aload_n g dX5_carsOf_16 rfl ?_
      refine r_iload g dX5_carsOf_17 rfl ?_
      refine r_iload_n g dX5_carsOf_19 rfl ?_
      refine r_pV g kX5_118 (ok_m_isWithin _ _ _ _ s hA hI hM.1 (c := i) (j := j) (by omega) hj) hM.1.1 rfl rfl rfl hnx hR (by decide) (Nat.zero_le _) (Nat.zero_le _) rfl rfl dX5_carsOf_20 ?_
      refine r_if_eq 89 g dX5_carsOf_23 (by decide) (fun c23 => ?_) (fun c23 => ?_)
      · skip
        have q := b2_f c23
        refine r_iinc (v := (nI (i + 1))) g dX5_carsOf_89 rfl (nI_add i 1) rfl rfl ?_
        refine r_goto 7 g dX5_carsOf_92 (by decide) ?_
        rw [cz_0 (z := 0) (Or.inl (by first | exact q3 | exact may_f (Or.inl q))), cz_0 (z := 1) (Or.inl (by first | exact q3 | exact may_f (Or.inl q)))]
        exact ih (i + 1) (by omega)
      · skip
        have q := b2_t c23
        refine r_aload_n g dX5_carsOf_26 rfl ?_
        refine rm_get g hM fX5_44 rfl dX5_carsOf_27 ?_
        refine r_iload_n g dX5_carsOf_30 rfl ?_
        refine rm_iald 16 (j := j) g hM rfl (by decide) rfl rfl (show j < 400 by omega) dX5_carsOf_31 ?_
        refine r_topi (y := (beI (s.2.2 j 5))) (hI.2.2.2.2.2.2.1 j (by omega)).2.2.2.2.2 ?_
        refine r_iconst (v := (-1)) g dX5_carsOf_32 (by decide) ?_
        refine r_icmp_eq 47 g dX5_carsOf_33 (by decide) (fun c33 => ?_) (fun c33 => ?_)
        · skip
          have q2 := (beI_m hbe).mp c33
          have q3 := may_t q (Or.inl q2)
          refine r_iload_n g dX5_carsOf_47 rfl ?_
          refine r_aload_n g dX5_carsOf_48 rfl ?_
          refine rm_get g hM fX5_25 rfl dX5_carsOf_49 ?_
          refine r_iload g dX5_carsOf_52 rfl ?_
          refine rm_zald 9 (j := i) g hM rfl rfl rfl (show i < 4 by omega) dX5_carsOf_54 ?_
          refine r_topi (y := (nI (s.2.1 i 5))) (hI.2.2.2.2.2.1 i (by omega)).2.2.2.2.2 ?_
          have h51 := (hA.2.2.2.2.1 i (by omega)).2.2.2.2
          refine r_if_eq 62 g dX5_carsOf_55 (by decide) (fun c55 => ?_) (fun c55 => ?_)
          · skip
            have q5 := eq0 (by omega) c55
            refine r_iconst (v := 1) g dX5_carsOf_62 (by decide) ?_
            refine r_iload g dX5_carsOf_63 rfl ?_
            refine r_ishl g dX5_carsOf_65 ?_
            refine r_topi (y := (nI (2 ^ i))) (shl1 (by omega)) ?_
            refine r_ior g dX5_carsOf_66 ?_
            refine r_topi (y := (nI (carsZ s j 0 (i + 1)))) (by first | exact cz_1 q3 q5 | (rw [or0]; exact congrArg nI (cz_0 (Or.inr (by omega))))) ?_
            refine r_istore_n g dX5_carsOf_67 rfl rfl rfl ?_
            refine r_iload_n g dX5_carsOf_68 rfl ?_
            refine r_aload_n g dX5_carsOf_69 rfl ?_
            refine rm_get g hM fX5_25 rfl dX5_carsOf_70 ?_
            refine r_iload g dX5_carsOf_73 rfl ?_
            refine rm_zald 9 (j := i) g hM rfl rfl rfl (show i < 4 by omega) dX5_carsOf_75 ?_
            refine r_topi (y := (nI (s.2.1 i 5))) (hI.2.2.2.2.2.1 i (by omega)).2.2.2.2.2 ?_
            refine r_if_eq 86 g dX5_carsOf_76 (by decide) (fun c76 => ?_) (fun c76 => ?_)
            · skip
              have q6 := eq0 (by omega) c76
              refine r_iconst (v := 0) g dX5_carsOf_86 (by decide) ?_
              refine r_ior g dX5_carsOf_87 ?_
              refine r_topi (y := (nI (carsZ s j 1 (i + 1)))) (by first | exact cz_1 q3 q6 | (rw [or0]; exact congrArg nI (cz_0 (Or.inr (by omega))))) ?_
              refine r_istore_n g dX5_carsOf_88 rfl rfl rfl ?_
              refine r_iinc (v := (nI (i + 1))) g dX5_carsOf_89 rfl (nI_add i 1) rfl rfl ?_
              refine r_goto 7 g dX5_carsOf_92 (by decide) ?_
              exact ih (i + 1) (by omega)
            · skip
              have q6 := nz1 h51 c76
              refine r_iconst (v := 1) g dX5_carsOf_79 (by decide) ?_
              refine r_iload g dX5_carsOf_80 rfl ?_
              refine r_ishl g dX5_carsOf_82 ?_
              refine r_topi (y := (nI (2 ^ i))) (shl1 (by omega)) ?_
              refine r_goto 87 g dX5_carsOf_83 (by decide) ?_
              refine r_ior g dX5_carsOf_87 ?_
              refine r_topi (y := (nI (carsZ s j 1 (i + 1)))) (by first | exact cz_1 q3 q6 | (rw [or0]; exact congrArg nI (cz_0 (Or.inr (by omega))))) ?_
              refine r_istore_n g dX5_carsOf_88 rfl rfl rfl ?_
              refine r_iinc (v := (nI (i + 1))) g dX5_carsOf_89 rfl (nI_add i 1) rfl rfl ?_
              refine r_goto 7 g dX5_carsOf_92 (by decide) ?_
              exact ih (i + 1) (by omega)
          · skip
            have q5 := nz1 h51 c55
            refine r_iconst (v := 0) g dX5_carsOf_58 (by decide) ?_
            refine r_goto 66 g dX5_carsOf_59 (by decide) ?_
            refine r_ior g dX5_carsOf_66 ?_
            refine r_topi (y := (nI (carsZ s j 0 (i + 1)))) (by first | exact cz_1 q3 q5 | (rw [or0]; exact congrArg nI (cz_0 (Or.inr (by omega))))) ?_
            refine r_istore_n g dX5_carsOf_67 rfl rfl rfl ?_
            refine r_iload_n g dX5_carsOf_68 rfl ?_
            refine r_aload_n g dX5_carsOf_69 rfl ?_
            refine rm_get g hM fX5_25 rfl dX5_carsOf_70 ?_
            refine r_iload g dX5_carsOf_73 rfl ?_
            refine rm_zald 9 (j := i) g hM rfl rfl rfl (show i < 4 by omega) dX5_carsOf_75 ?_
            refine r_topi (y := (nI (s.2.1 i 5))) (hI.2.2.2.2.2.1 i (by omega)).2.2.2.2.2 ?_
            refine r_if_eq 86 g dX5_carsOf_76 (by decide) (fun c76 => ?_) (fun c76 => ?_)
            · skip
              have q6 := eq0 (by omega) c76
              refine r_iconst (v := 0) g dX5_carsOf_86 (by decide) ?_
              refine r_ior g dX5_carsOf_87 ?_
              refine r_topi (y := (nI (carsZ s j 1 (i + 1)))) (by first | exact cz_1 q3 q6 | (rw [or0]; exact congrArg nI (cz_0 (Or.inr (by omega))))) ?_
              refine r_istore_n g dX5_carsOf_88 rfl rfl rfl ?_
              refine r_iinc (v := (nI (i + 1))) g dX5_carsOf_89 rfl (nI_add i 1) rfl rfl ?_
              refine r_goto 7 g dX5_carsOf_92 (by decide) ?_
              exact ih (i + 1) (by omega)
            · skip
              have q6 := nz1 h51 c76
              refine r_iconst (v := 1) g dX5_carsOf_79 (by decide) ?_
              refine r_iload g dX5_carsOf_80 rfl ?_
              refine r_ishl g dX5_carsOf_82 ?_
              refine r_topi (y := (nI (2 ^ i))) (shl1 (by omega)) ?_
              refine r_goto 87 g dX5_carsOf_83 (by decide) ?_
              refine r_ior g dX5_carsOf_87 ?_
              refine r_topi (y := (nI (carsZ s j 1 (i + 1)))) (by first | exact cz_1 q3 q6 | (rw [or0]; exact congrArg nI (cz_0 (Or.inr (by omega))))) ?_
              refine r_istore_n g dX5_carsOf_88 rfl rfl rfl ?_
              refine r_iinc (v := (nI (i + 1))) g dX5_carsOf_89 rfl (nI_add i 1) rfl rfl ?_
              refine r_goto 7 g dX5_carsOf_92 (by decide) ?_
              exact ih (i + 1) (by omega)
        · skip
          have q2 : ¬ s.2.2 j 5 = 4 := fun z => c33 ((beI_m hbe).mpr z)
          refine r_aload_n g dX5_carsOf_36 rfl ?_
          refine rm_get g hM fX5_44 rfl dX5_carsOf_37 ?_
          refine r_iload_n g dX5_carsOf_40 rfl ?_
          refine rm_iald 16 (j := j) g hM rfl (by decide) rfl rfl (show j < 400 by omega) dX5_carsOf_41 ?_
          refine r_topi (y := (beI (s.2.2 j 5))) (hI.2.2.2.2.2.2.1 j (by omega)).2.2.2.2.2 ?_
          refine r_iload g dX5_carsOf_42 rfl ?_
          refine r_icmp_ne 89 g dX5_carsOf_44 (by decide) (fun c44 => ?_) (fun c44 => ?_)
          · skip
            have q3 := may_f (i := i) (Or.inr (fun z => z.elim q2 (fun z => c44 ((beI_c hbe (by omega)).mpr z))))
            refine r_iinc (v := (nI (i + 1))) g dX5_carsOf_89 rfl (nI_add i 1) rfl rfl ?_
            refine r_goto 7 g dX5_carsOf_92 (by decide) ?_
            rw [cz_0 (z := 0) (Or.inl (by first | exact q3 | exact may_f (Or.inl q))), cz_0 (z := 1) (Or.inl (by first | exact q3 | exact may_f (Or.inl q)))]
            exact ih (i + 1) (by omega)
          · skip
            have q3 := may_t q (Or.inr ((beI_c hbe (by omega)).mp c44))
            refine r_iload_n g dX5_carsOf_47 rfl ?_
            refine r_aload_n g dX5_carsOf_48 rfl ?_
            refine rm_get g hM fX5_25 rfl dX5_carsOf_49 ?_
            refine r_iload g dX5_carsOf_52 rfl ?_
            refine rm_zald 9 (j := i) g hM rfl rfl rfl (show i < 4 by omega) dX5_carsOf_54 ?_
            refine r_topi (y := (nI (s.2.1 i 5))) (hI.2.2.2.2.2.1 i (by omega)).2.2.2.2.2 ?_
            have h51 := (hA.2.2.2.2.1 i (by omega)).2.2.2.2
            refine r_if_eq 62 g dX5_carsOf_55 (by decide) (fun c55 => ?_) (fun c55 => ?_)
            · skip
              have q5 := eq0 (by omega) c55
              refine r_iconst (v := 1) g dX5_carsOf_62 (by decide) ?_
              refine r_iload g dX5_carsOf_63 rfl ?_
              refine r_ishl g dX5_carsOf_65 ?_
              refine r_topi (y := (nI (2 ^ i))) (shl1 (by omega)) ?_
              refine r_ior g dX5_carsOf_66 ?_
              refine r_topi (y := (nI (carsZ s j 0 (i + 1)))) (by first | exact cz_1 q3 q5 | (rw [or0]; exact congrArg nI (cz_0 (Or.inr (by omega))))) ?_
              refine r_istore_n g dX5_carsOf_67 rfl rfl rfl ?_
              refine r_iload_n g dX5_carsOf_68 rfl ?_
              refine r_aload_n g dX5_carsOf_69 rfl ?_
              refine rm_get g hM fX5_25 rfl dX5_carsOf_70 ?_
              refine r_iload g dX5_carsOf_73 rfl ?_
              refine rm_zald 9 (j := i) g hM rfl rfl rfl (show i < 4 by omega) dX5_carsOf_75 ?_
              refine r_topi (y := (nI (s.2.1 i 5))) (hI.2.2.2.2.2.1 i (by omega)).2.2.2.2.2 ?_
              refine r_if_eq 86 g dX5_carsOf_76 (by decide) (fun c76 => ?_) (fun c76 => ?_)
              · skip
                have q6 := eq0 (by omega) c76
                refine r_iconst (v := 0) g dX5_carsOf_86 (by decide) ?_
                refine r_ior g dX5_carsOf_87 ?_
                refine r_topi (y := (nI (carsZ s j 1 (i + 1)))) (by first | exact cz_1 q3 q6 | (rw [or0]; exact congrArg nI (cz_0 (Or.inr (by omega))))) ?_
                refine r_istore_n g dX5_carsOf_88 rfl rfl rfl ?_
                refine r_iinc (v := (nI (i + 1))) g dX5_carsOf_89 rfl (nI_add i 1) rfl rfl ?_
                refine r_goto 7 g dX5_carsOf_92 (by decide) ?_
                exact ih (i + 1) (by omega)
              · skip
                have q6 := nz1 h51 c76
                refine r_iconst (v := 1) g dX5_carsOf_79 (by decide) ?_
                refine r_iload g dX5_carsOf_80 rfl ?_
                refine r_ishl g dX5_carsOf_82 ?_
                refine r_topi (y := (nI (2 ^ i))) (shl1 (by omega)) ?_
                refine r_goto 87 g dX5_carsOf_83 (by decide) ?_
                refine r_ior g dX5_carsOf_87 ?_
                refine r_topi (y := (nI (carsZ s j 1 (i + 1)))) (by first | exact cz_1 q3 q6 | (rw [or0]; exact congrArg nI (cz_0 (Or.inr (by omega))))) ?_
                refine r_istore_n g dX5_carsOf_88 rfl rfl rfl ?_
                refine r_iinc (v := (nI (i + 1))) g dX5_carsOf_89 rfl (nI_add i 1) rfl rfl ?_
                refine r_goto 7 g dX5_carsOf_92 (by decide) ?_
                exact ih (i + 1) (by omega)
            · skip
              have q5 := nz1 h51 c55
              refine r_iconst (v := 0) g dX5_carsOf_58 (by decide) ?_
              refine r_goto 66 g dX5_carsOf_59 (by decide) ?_
              refine r_ior g dX5_carsOf_66 ?_
              refine r_topi (y := (nI (carsZ s j 0 (i + 1)))) (by first | exact cz_1 q3 q5 | (rw [or0]; exact congrArg nI (cz_0 (Or.inr (by omega))))) ?_
              refine r_istore_n g dX5_carsOf_67 rfl rfl rfl ?_
              refine r_iload_n g dX5_carsOf_68 rfl ?_
              refine r_aload_n g dX5_carsOf_69 rfl ?_
              refine rm_get g hM fX5_25 rfl dX5_carsOf_70 ?_
              refine r_iload g dX5_carsOf_73 rfl ?_
              refine rm_zald 9 (j := i) g hM rfl rfl rfl (show i < 4 by omega) dX5_carsOf_75 ?_
              refine r_topi (y := (nI (s.2.1 i 5))) (hI.2.2.2.2.2.1 i (by omega)).2.2.2.2.2 ?_
              refine r_if_eq 86 g dX5_carsOf_76 (by decide) (fun c76 => ?_) (fun c76 => ?_)
              · skip
                have q6 := eq0 (by omega) c76
                refine r_iconst (v := 0) g dX5_carsOf_86 (by decide) ?_
                refine r_ior g dX5_carsOf_87 ?_
                refine r_topi (y := (nI (carsZ s j 1 (i + 1)))) (by first | exact cz_1 q3 q6 | (rw [or0]; exact congrArg nI (cz_0 (Or.inr (by omega))))) ?_
                refine r_istore_n g dX5_carsOf_88 rfl rfl rfl ?_
                refine r_iinc (v := (nI (i + 1))) g dX5_carsOf_89 rfl (nI_add i 1) rfl rfl ?_
                refine r_goto 7 g dX5_carsOf_92 (by decide) ?_
                exact ih (i + 1) (by omega)
              · skip
                have q6 := nz1 h51 c76
                refine r_iconst (v := 1) g dX5_carsOf_79 (by decide) ?_
                refine r_iload g dX5_carsOf_80 rfl ?_
                refine r_ishl g dX5_carsOf_82 ?_
                refine r_topi (y := (nI (2 ^ i))) (shl1 (by omega)) ?_
                refine r_goto 87 g dX5_carsOf_83 (by decide) ?_
                refine r_ior g dX5_carsOf_87 ?_
                refine r_topi (y := (nI (carsZ s j 1 (i + 1)))) (by first | exact cz_1 q3 q6 | (rw [or0]; exact congrArg nI (cz_0 (Or.inr (by omega))))) ?_
                refine r_istore_n g dX5_carsOf_88 rfl rfl rfl ?_
                refine r_iinc (v := (nI (i + 1))) g dX5_carsOf_89 rfl (nI_add i 1) rfl rfl ?_
                refine r_goto 7 g dX5_carsOf_92 (by decide) ?_
                exact ih (i + 1) (by omega)
  refine r_iconst (v := 0) g dX5_carsOf_0 (by decide) ?_
  refine r_istore_n g dX5_carsOf_1 rfl rfl rfl ?_
  refine r_iconst (v := 0) g dX5_carsOf_2 (by decide) ?_
  refine r_istore_n g dX5_carsOf_3 rfl rfl rfl ?_
  refine r_iconst (v := 0) g dX5_carsOf_4 (by decide) ?_
  refine r_istore g dX5_carsOf_5 rfl rfl rfl ?_
  exact loop (s.1 2) 0 (by omega)
set_option maxHeartbeats 4000000 in
set_option maxRecDepth 100000 in
theorem ok_m_open (l : Launch) (G : Nat → ClassId) (D : va_G) (base : Nat) {h : Hp} {nx m : Nat} {F : Nat → Int32} {A : Nat → Nat → Int32} {B : Nat → Int64} (s : AS) (hA : AI s) (hI : MI F A s) (hM : MO h m F A B) (hbm : base ≤ m) : MetP l G D base miX5_open 0 0 0 [.ref m] h nx (KP h nx m A B false (0, nI (nOp s), s)) := by
  refine MetP_of (by decide +kernel) rfl ?_
  intro k g hr hR hcl hcg hcd hcb hcn hnx
  subst hcl; subst hcg; subst hcd; subst hcb
  have hM := MS.rf hM
  obtain ⟨⟨hn1, hn2⟩, ht, hnc, hN, -, -, hop6, -⟩ := id hA
  show Sf k 0 0 h nx 0 [some (.ref m)] []
  refine r_aload_n g dX5_open_0 rfl ?_
  refine r_iconst (v := 0) g dX5_open_1 (by decide) ?_
  refine rm_put (F' := upd F 0 0) g hM hbm fX5_88 (by decide) rfl dX5_open_2 ?_
  intro h_2 hM
  refine r_aload_n g dX5_open_5 rfl ?_
  refine rm_get g hM fX5_112 rfl dX5_open_6 ?_
  refine r_topi (y := (nI (nOp s))) hI.2.2.2.2.1 ?_
  exact r_iret g hr (Nat.le_refl _) (Nat.le_refl _) dX5_open_9 (KP_i (r := (0, nI (nOp s), s)) (c := 0) hM hI rfl rfl (fun _ => rfl) SameG.rf)
set_option maxHeartbeats 4000000 in
set_option maxRecDepth 100000 in
theorem ok_m_weight (l : Launch) (G : Nat → ClassId) (D : va_G) (base : Nat) {h : Hp} {nx m : Nat} {F : Nat → Int32} {A : Nat → Nat → Int32} {B : Nat → Int64} (s : AS) (hA : AI s) (hI : MI F A s) (hM : MO h m F A B) (hbm : base ≤ m) (x : Int32) : MetP l G D base miX5_weight 3 0 0 [.ref m, .int x] h nx (KP h nx m A B false ((sWeight s x).1, (sWeight s x).2, s)) := by
  refine MetP_of (by decide +kernel) rfl ?_
  intro k g hr hR hcl hcg hcd hcb hcn hnx
  subst hcl; subst hcg; subst hcd; subst hcb
  have hM := MS.rf hM
  obtain ⟨⟨hn1, hn2⟩, ht, hnc, hN, -⟩ := id hA
  show Sf k 0 0 h nx 0 [some (.ref m), some (.int x)] []
  refine r_aload_n g dX5_weight_0 rfl ?_
  refine r_aload_n g dX5_weight_1 rfl ?_
  refine r_iload_n g dX5_weight_2 rfl ?_
  refine r_pV g kX5_115 (ok_m_isOpenCall _ _ _ _ s hA hI hM.1 x) hM.1.1 rfl rfl rfl hnx hR (by decide) (Nat.zero_le _) (Nat.zero_le _) rfl rfl dX5_weight_3 ?_
  refine r_if_eq 13 g dX5_weight_6 (by decide) (fun c6 => ?_) (fun c6 => ?_)
  · skip
    have q := b2_f c6
    refine r_iconst (v := 1) g dX5_weight_13 (by decide) ?_
    refine rm_put (F' := upd F 0 1) g hM hbm fX5_88 (by decide) rfl dX5_weight_14 ?_
    intro h_2 hM
    refine r_aload_n g dX5_weight_17 rfl ?_
    refine rm_get g hM fX5_88 rfl dX5_weight_18 ?_
    refine r_topi (y := 1) rfl ?_
    refine r_if_le 28 g dX5_weight_21 (by decide) (fun c21 => absurd c21 (by decide)) (fun c21 => ?_)
    refine r_iconst (v := 0) g dX5_weight_24 (by decide) ?_
    refine r_goto 33 g dX5_weight_25 (by decide) ?_
    have hs : sWeight s x = (1, 0) := by unfold sWeight; rw [if_pos q]
    exact r_iret g hr (Nat.le_refl _) (Nat.le_refl _) dX5_weight_33 (KP_i (c := 1) hM hI rfl (by rw [hs]; rfl) (fun z => by rw [hs] at z; cases z) SameG.rf)
  · skip
    have q := b2_t c6
    refine r_iconst (v := 0) g dX5_weight_9 (by decide) ?_
    refine r_goto 14 g dX5_weight_10 (by decide) ?_
    refine rm_put (F' := upd F 0 0) g hM hbm fX5_88 (by decide) rfl dX5_weight_14 ?_
    intro h_4 hM
    refine r_aload_n g dX5_weight_17 rfl ?_
    refine rm_get g hM fX5_88 rfl dX5_weight_18 ?_
    refine r_topi (y := 0) rfl ?_
    refine r_if_le 28 g dX5_weight_21 (by decide) (fun c21 => ?_) (fun c21 => absurd c21 (by decide))
    have hci := opB_at hA q
    refine r_aload_n g dX5_weight_28 rfl ?_
    refine r_iload_n g dX5_weight_29 rfl ?_
    refine r_topi (y := (nI (iN x))) hci.2.1 ?_
    refine r_pV g kX5_126 (ok_m_weightOf _ _ _ _ s hA (hI.F0 0) hM.1 (j := iN x) hci.1) hM.1.1 rfl rfl rfl hnx hR (by decide) (Nat.zero_le _) (Nat.zero_le _) rfl rfl dX5_weight_30 ?_
    have hs : sWeight s x = (0, nI (wgt s (iN x))) := by unfold sWeight; rw [if_neg (by rw [q]; decide)]
    exact r_iret g hr (Nat.le_refl _) (Nat.le_refl _) dX5_weight_33 (KP_i (c := 0) hM hI rfl (by rw [hs]; rfl) (fun _ => by rw [hs]) SameG.rf)
set_option maxHeartbeats 4000000 in
set_option maxRecDepth 100000 in
theorem ok_m_cars (l : Launch) (G : Nat → ClassId) (D : va_G) (base : Nat) {h : Hp} {nx m : Nat} {F : Nat → Int32} {A : Nat → Nat → Int32} {B : Nat → Int64} (s : AS) (hA : AI s) (hI : MI F A s) (hM : MO h m F A B) (hbm : base ≤ m) (x : Int32) : MetP l G D base miX5_cars 3 0 0 [.ref m, .int x] h nx (KP h nx m A B false ((sCars s x).1, (sCars s x).2, s)) := by
  refine MetP_of (by decide +kernel) rfl ?_
  intro k g hr hR hcl hcg hcd hcb hcn hnx
  subst hcl; subst hcg; subst hcd; subst hcb
  have hM := MS.rf hM
  obtain ⟨⟨hn1, hn2⟩, ht, hnc, hN, -⟩ := id hA
  show Sf k 0 0 h nx 0 [some (.ref m), some (.int x)] []
  refine r_aload_n g dX5_cars_0 rfl ?_
  refine r_aload_n g dX5_cars_1 rfl ?_
  refine r_iload_n g dX5_cars_2 rfl ?_
  refine r_pV g kX5_115 (ok_m_isOpenCall _ _ _ _ s hA hI hM.1 x) hM.1.1 rfl rfl rfl hnx hR (by decide) (Nat.zero_le _) (Nat.zero_le _) rfl rfl dX5_cars_3 ?_
  refine r_if_eq 13 g dX5_cars_6 (by decide) (fun c6 => ?_) (fun c6 => ?_)
  · skip
    have q := b2_f c6
    refine r_iconst (v := 1) g dX5_cars_13 (by decide) ?_
    refine rm_put (F' := upd F 0 1) g hM hbm fX5_88 (by decide) rfl dX5_cars_14 ?_
    intro h_2 hM
    refine r_aload_n g dX5_cars_17 rfl ?_
    refine rm_get g hM fX5_88 rfl dX5_cars_18 ?_
    refine r_topi (y := 1) rfl ?_
    refine r_if_le 28 g dX5_cars_21 (by decide) (fun c21 => absurd c21 (by decide)) (fun c21 => ?_)
    refine r_iconst (v := 0) g dX5_cars_24 (by decide) ?_
    refine r_goto 33 g dX5_cars_25 (by decide) ?_
    have hs : sCars s x = (1, 0) := by unfold sCars; rw [if_pos q]
    exact r_iret g hr (Nat.le_refl _) (Nat.le_refl _) dX5_cars_33 (KP_i (c := 1) hM hI rfl (by rw [hs]; rfl) (fun z => by rw [hs] at z; cases z) SameG.rf)
  · skip
    have q := b2_t c6
    refine r_iconst (v := 0) g dX5_cars_9 (by decide) ?_
    refine r_goto 14 g dX5_cars_10 (by decide) ?_
    refine rm_put (F' := upd F 0 0) g hM hbm fX5_88 (by decide) rfl dX5_cars_14 ?_
    intro h_4 hM
    refine r_aload_n g dX5_cars_17 rfl ?_
    refine rm_get g hM fX5_88 rfl dX5_cars_18 ?_
    refine r_topi (y := 0) rfl ?_
    refine r_if_le 28 g dX5_cars_21 (by decide) (fun c21 => ?_) (fun c21 => absurd c21 (by decide))
    have hci := opB_at hA q
    refine r_aload_n g dX5_cars_28 rfl ?_
    refine r_iload_n g dX5_cars_29 rfl ?_
    refine r_topi (y := (nI (iN x))) hci.2.1 ?_
    refine r_pV g kX5_142 (ok_m_carsOf _ _ _ _ s hA (hI.F0 0) hM.1 (j := iN x) hci.1) hM.1.1 rfl rfl rfl hnx hR (by decide) (Nat.zero_le _) (Nat.zero_le _) rfl rfl dX5_cars_30 ?_
    have hs : sCars s x = (0, nI (carsN s (iN x))) := by unfold sCars; rw [if_neg (by rw [q]; decide)]
    exact r_iret g hr (Nat.le_refl _) (Nat.le_refl _) dX5_cars_33 (KP_i (c := 0) hM hI rfl (by rw [hs]; rfl) (fun _ => by rw [hs]) SameG.rf)
theorem left_1 {p : Nat → Bool} {i : Nat} (h : p i = true) : nI (cnt p i) + 1 = nI (cnt p (i + 1)) := by
  show _ = nI (_ + _)
  rw [if_pos h]
  exact nI_1 _
theorem left_0 {p : Nat → Bool} {i : Nat} (h : p i = false) : nI (cnt p i) + 0 = nI (cnt p (i + 1)) := by
  show _ = nI (_ + _)
  rw [if_neg (by rw [h]; decide)]
  exact nI_add _ 0
def leftB (s : AS) (k : Nat) : Bool := isOp s k && decide (carsN s k = 0)
theorem leftB_t {s : AS} {k : Nat} (h : s.2.2 k 3 = 1) (h2 : carsN s k = 0) : leftB s k = true := by unfold leftB isOp; rw [decide_eq_true h, decide_eq_true h2]; rfl
theorem leftB_f {s : AS} {k : Nat} (h : ¬ s.2.2 k 3 = 1 ∨ ¬ carsN s k = 0) : leftB s k = false := by
  unfold leftB isOp
  rcases h with h | h
  · rw [decide_eq_false h]; rfl
  · rw [decide_eq_false h, Bool.and_false]
theorem carsN_lt {s : AS} (hA : AI s) (k : Nat) : carsN s k < 16 := by
  have h0 := carsZ_lt s k 0 (s.1 2)
  have h1 := carsZ_lt s k 1 (s.1 2)
  have := Nat.pow_le_pow_right (n := 2) (by decide) hA.2.2.1
  unfold carsN
  split <;> omega
set_option maxHeartbeats 4000000 in
set_option maxRecDepth 100000 in
theorem ok_m_left (l : Launch) (G : Nat → ClassId) (D : va_G) (base : Nat) {h0 : Hp} {nx m : Nat} {F : Nat → Int32} {A : Nat → Nat → Int32} {B : Nat → Int64} (s : AS) (hA : AI s) (hI : MI F A s) (hM : MO h0 m F A B) (hbm : base ≤ m) : MetP l G D base miX5_left 3 0 0 [.ref m] h0 nx (KP h0 nx m A B false (0, nI (leftN s), s)) := by
  refine MetP_of (by decide +kernel) rfl ?_
  intro k g hr hR hcl hcg hcd hcb hcn hnx
  subst hcl; subst hcg; subst hcd; subst hcb
  have hM := MS.rf hM
  obtain ⟨h, hh⟩ : ∃ z, z = h0 := ⟨_, rfl⟩
  rw [← hh]
  have hM : MS h0 h m F A B := by rw [hh]; exact hM
  obtain ⟨⟨hn1, hn2⟩, ht, hnc, hN, -⟩ := id hA
  show Sf k 0 0 h nx 0 [some (.ref m), none, none] []
  have loop : ∀ h, MS h0 h m (upd F 0 0) A B → ∀ d i, i + d = s.1 3 → Sf k 0 0 h nx 9 [some (.ref m), some (.int (nI (cnt (leftB s) i))), some (.int (nI i))] [] := by
    intro h hM d
    induction d with
    | zero =>
      intro i hi
      have hi2 : i = s.1 3 := by omega
      refine r_iload_n g dX5_left_9 rfl ?_
      refine r_aload_n g dX5_left_10 rfl ?_
      refine rm_get g hM fX5_98 rfl dX5_left_11 ?_
      refine r_topi (y := (nI (s.1 3))) hI.2.2.2.1 ?_
      refine r_icmp_ge 48 g dX5_left_14 (by decide) (fun c14 => ?_) (fun c14 => absurd (nI_le (by omega) (by omega)) c14)
      refine r_iload_n g dX5_left_48 rfl ?_
      exact r_iret g hr (Nat.le_refl _) (Nat.le_refl _) dX5_left_49 (KP_i (r := (0, nI (leftN s), s)) (c := 0) hM hI rfl rfl (fun _ => by rw [hi2]; rfl) SameG.rf)
    | succ d ih =>
      intro i hi
      have hkk := hA.2.2.2.2.2.1 i (by omega)
      refine r_iload_n g dX5_left_9 rfl ?_
      refine r_aload_n g dX5_left_10 rfl ?_
      refine rm_get g hM fX5_98 rfl dX5_left_11 ?_
      refine r_topi (y := (nI (s.1 3))) hI.2.2.2.1 ?_
      refine r_icmp_ge 48 g dX5_left_14 (by decide) (fun c14 => absurd c14 (nI_ge (by omega) (by omega))) (fun c14 => ?_)
      refine r_iload_n g dX5_left_17 rfl ?_
      refine r_aload_n g dX5_left_18 rfl ?_
      refine rm_get g hM fX5_38 rfl dX5_left_19 ?_
      refine r_iload_n g dX5_left_22 rfl ?_
      refine rm_zald 14 (j := i) g hM rfl rfl rfl (show i < 400 by omega) dX5_left_23 ?_
      refine r_topi (y := (nI (s.2.2 i 3))) (hI.2.2.2.2.2.2.1 i (by omega)).2.2.2.1 ?_
      refine r_if_eq 39 g dX5_left_24 (by decide) (fun c24 => ?_) (fun c24 => ?_)
      · skip
        have q := eq0 (by omega) c24
        have q3 := leftB_f (s := s) (k := i) (Or.inl (by omega))
        refine r_iconst (v := 0) g dX5_left_39 (by decide) ?_
        refine r_iadd g dX5_left_40 ?_
        refine r_topi (y := (nI (cnt (leftB s) (i + 1)))) (by first | exact left_1 q3 | exact left_0 q3) ?_
        refine r_istore_n g dX5_left_41 rfl rfl rfl ?_
        refine r_iinc (v := (nI (i + 1))) g dX5_left_42 rfl (nI_add i 1) rfl rfl ?_
        refine r_goto 9 g dX5_left_45 (by decide) ?_
        exact ih (i + 1) (by omega)
      · skip
        have q := nz1 (by omega) c24
        refine r_aload_n g dX5_left_27 rfl ?_
        refine r_iload_n g dX5_left_28 rfl ?_
        refine r_pV g kX5_142 (ok_m_carsOf _ _ _ _ s hA (hI.F0 0) hM.1 (j := i) (by omega)) hM.1.1 rfl rfl rfl hnx hR (by decide) (Nat.zero_le _) (Nat.zero_le _) rfl rfl dX5_left_29 ?_
        refine r_if_ne 39 g dX5_left_32 (by decide) (fun c32 => ?_) (fun c32 => ?_)
        · skip
          have q3 := leftB_f (s := s) (k := i) (Or.inr (fun z => c32 (by rw [z]; rfl)))
          refine r_iconst (v := 0) g dX5_left_39 (by decide) ?_
          refine r_iadd g dX5_left_40 ?_
          refine r_topi (y := (nI (cnt (leftB s) (i + 1)))) (by first | exact left_1 q3 | exact left_0 q3) ?_
          refine r_istore_n g dX5_left_41 rfl rfl rfl ?_
          refine r_iinc (v := (nI (i + 1))) g dX5_left_42 rfl (nI_add i 1) rfl rfl ?_
          refine r_goto 9 g dX5_left_45 (by decide) ?_
          exact ih (i + 1) (by omega)
        · skip
          have q2 := eq0 (by have := carsN_lt hA i; omega) c32
          have q3 := leftB_t q q2
          refine r_iconst (v := 1) g dX5_left_35 (by decide) ?_
          refine r_goto 40 g dX5_left_36 (by decide) ?_
          refine r_iadd g dX5_left_40 ?_
          refine r_topi (y := (nI (cnt (leftB s) (i + 1)))) (by first | exact left_1 q3 | exact left_0 q3) ?_
          refine r_istore_n g dX5_left_41 rfl rfl rfl ?_
          refine r_iinc (v := (nI (i + 1))) g dX5_left_42 rfl (nI_add i 1) rfl rfl ?_
          refine r_goto 9 g dX5_left_45 (by decide) ?_
          exact ih (i + 1) (by omega)
  refine r_aload_n g dX5_left_0 rfl ?_
  refine r_iconst (v := 0) g dX5_left_1 (by decide) ?_
  refine rm_put (F' := upd F 0 0) g hM hbm fX5_88 (by decide) rfl dX5_left_2 ?_
  intro h_2 hM
  refine r_iconst (v := 0) g dX5_left_5 (by decide) ?_
  refine r_istore_n g dX5_left_6 rfl rfl rfl ?_
  refine r_iconst (v := 0) g dX5_left_7 (by decide) ?_
  refine r_istore_n g dX5_left_8 rfl rfl rfl ?_
  exact loop _ hM (s.1 3) 0 (by omega)
end
section
theorem oth_t1 {s : AS} {k c i : Nat} (h : othB s k c i = true) : (1 : Int32) = b2 (othB s k c (i + 1)) := by
  unfold othB; rw [h]; rfl
theorem oth_t2 {s : AS} {k c i : Nat} (h1 : i ≠ k) (h2 : s.2.2 i 3 = 1) (h3 : s.2.2 i 5 = c) : (1 : Int32) = b2 (othB s k c (i + 1)) := by
  unfold othB isOp; rw [decide_eq_true h1, decide_eq_true h2, decide_eq_true h3, Bool.true_and, Bool.true_and, Bool.or_true]; rfl
theorem oth_f {s : AS} {k c i : Nat} (h : othB s k c i = false) (h2 : i = k ∨ ¬ s.2.2 i 3 = 1 ∨ ¬ s.2.2 i 5 = c) : (0 : Int32) = b2 (othB s k c (i + 1)) := by
  unfold othB isOp; rw [h, Bool.false_or]
  rcases h2 with h2 | h2 | h2
  · rw [decide_eq_false (p := i ≠ k) (fun z => z h2)]; rfl
  · rw [decide_eq_false h2, Bool.and_false]; rfl
  · rw [decide_eq_false h2, Bool.and_false]; rfl
theorem beI_lt {a : Nat} (h : a < 4) : nI a = beI a := (if_neg (by omega)).symm
set_option maxHeartbeats 4000000 in
set_option maxRecDepth 100000 in
theorem ok_m_begin (l : Launch) (G : Nat → ClassId) (D : va_G) (base : Nat) {h : Hp} {nx m : Nat} {F : Nat → Int32} {A : Nat → Nat → Int32} {B : Nat → Int64} (s : AS) (hA : AI s) (hI : MI F A s) (hM : MO h m F A B) (hbm : base ≤ m) (x c : Int32) : MetP l G D base miX5_begin 2 0 0 [.ref m, .int x, .int c] h nx (KP h nx m A B false (sBegin s x c)) := by
  refine MetP_of (by decide +kernel) rfl ?_
  intro k g hr hR hcl hcg hcd hcb hcn hnx
  subst hcl; subst hcg; subst hcd; subst hcb
  have hM := MS.rf hM
  obtain ⟨⟨hn1, hn2⟩, ht, hnc, hN, -⟩ := id hA
  show Sf k 0 0 h nx 0 [some (.ref m), some (.int x), some (.int c), none, none] []
  refine r_aload_n g dX5_begin_0 rfl ?_
  refine r_aload_n g dX5_begin_1 rfl ?_
  refine r_iload_n g dX5_begin_2 rfl ?_
  refine r_pV g kX5_115 (ok_m_isOpenCall _ _ _ _ s hA hI hM.1 x) hM.1.1 rfl rfl rfl hnx hR (by decide) (Nat.zero_le _) (Nat.zero_le _) rfl rfl dX5_begin_3 ?_
  refine r_if_eq 22 g dX5_begin_6 (by decide) (fun c6 => ?_) (fun c6 => ?_)
  · skip
    have q := b2_f c6
    refine r_iconst (v := 1) g dX5_begin_22 (by decide) ?_
    refine r_goto 27 g dX5_begin_23 (by decide) ?_
    refine rm_put (F' := upd F 0 1) g hM hbm fX5_88 (by decide) rfl dX5_begin_27 ?_
    intro h_2 hM
    refine r_aload_n g dX5_begin_30 rfl ?_
    refine rm_get g hM fX5_88 rfl dX5_begin_31 ?_
    refine r_topi (y := 1) rfl ?_
    refine r_if_le 39 g dX5_begin_34 (by decide) (fun c34 => absurd c34 (by decide)) (fun c34 => ?_)
    refine r_iconst (v := 0) g dX5_begin_37 (by decide) ?_
    have hs : sBegin s x c = (1, 0, s) := by unfold sBegin; rw [if_pos (by first | (rw [q]; rfl) | (rw [q, decide_eq_false c11, qc]; rfl))]
    exact r_zret g hr (Nat.le_refl _) (Nat.le_refl _) dX5_begin_38 rfl (KP_i (c := 1) hM (by rw [hs]; exact hI) rfl (by rw [hs]; rfl) (fun z => by rw [hs] at z; cases z) SameG.rf)
  · skip
    have q := b2_t c6
    refine r_iload_n g dX5_begin_9 rfl ?_
    refine r_iconst (v := (-1)) g dX5_begin_10 (by decide) ?_
    refine r_icmp_eq 26 g dX5_begin_11 (by decide) (fun c11 => ?_) (fun c11 => ?_)
    · skip
      refine r_iconst (v := 0) g dX5_begin_26 (by decide) ?_
      refine rm_put (F' := upd F 0 0) g hM hbm fX5_88 (by decide) rfl dX5_begin_27 ?_
      intro h_4 hM
      refine r_aload_n g dX5_begin_30 rfl ?_
      refine rm_get g hM fX5_88 rfl dX5_begin_31 ?_
      refine r_topi (y := 0) rfl ?_
      refine r_if_le 39 g dX5_begin_34 (by decide) (fun c34 => ?_) (fun c34 => absurd c34 (by decide))
      refine r_iload_n g dX5_begin_39 rfl ?_
      refine r_iconst (v := (-1)) g dX5_begin_40 (by decide) ?_
      refine r_icmp_eq 116 g dX5_begin_41 (by decide) (fun c41 => ?_) (fun c41 => absurd c11 c41)
      have hci := opB_at hA q
      refine r_aload_n g dX5_begin_116 rfl ?_
      refine rm_get g hM fX5_44 rfl dX5_begin_117 ?_
      refine r_iload_n g dX5_begin_120 rfl ?_
      refine r_iload_n g dX5_begin_121 rfl ?_
      refine rm_iast 16 (j := iN x) g hM hbm rfl (by decide) rfl hci.2.1 (show iN x < 400 by omega) dX5_begin_122 ?_
      intro h_5 hM
      refine r_iconst (v := 1) g dX5_begin_123 (by decide) ?_
      have hs : sBegin s x c = (0, 1, (s.1, s.2.1, up2 s.2.2 (iN x) 5 4)) := by unfold sBegin; rw [if_neg (by rw [q, decide_eq_true c11, Bool.true_or]; decide), if_pos c11]
      exact r_zret g hr (Nat.le_refl _) (Nat.le_refl _) dX5_begin_124 rfl (KP_i (c := 0) hM (by rw [hs]; exact MI_begin hI c11) rfl (by rw [hs]; rfl) (fun _ => by rw [hs]) (SameG.up SameG.rf (by decide)))
    · skip
      refine r_aload_n g dX5_begin_14 rfl ?_
      refine r_iload_n g dX5_begin_15 rfl ?_
      refine r_pV g kX5_108 (ok_m_isCar _ _ _ _ hM.1 hI.2.2.1 (by omega) c) hM.1.1 rfl rfl rfl hnx hR (by decide) (Nat.zero_le _) (Nat.zero_le _) rfl rfl dX5_begin_16 ?_
      refine r_if_ne 26 g dX5_begin_19 (by decide) (fun c19 => ?_) (fun c19 => ?_)
      · skip
        have qc := b2_t c19
        refine r_iconst (v := 0) g dX5_begin_26 (by decide) ?_
        refine rm_put (F' := upd F 0 0) g hM hbm fX5_88 (by decide) rfl dX5_begin_27 ?_
        intro h_7 hM
        refine r_aload_n g dX5_begin_30 rfl ?_
        refine rm_get g hM fX5_88 rfl dX5_begin_31 ?_
        refine r_topi (y := 0) rfl ?_
        refine r_if_le 39 g dX5_begin_34 (by decide) (fun c34 => ?_) (fun c34 => absurd c34 (by decide))
        refine r_iload_n g dX5_begin_39 rfl ?_
        refine r_iconst (v := (-1)) g dX5_begin_40 (by decide) ?_
        refine r_icmp_eq 116 g dX5_begin_41 (by decide) (fun c41 => absurd c41 c11) (fun c41 => ?_)
        have hcc := inB_at (by omega) qc
        have hci := opB_at hA q
        have loop : ∀ d i, i + d = s.1 3 → Sf k 0 0 h_7 nx 49 [some (.ref m), some (.int x), some (.int c), some (.int (b2 (othB s (iN x) (iN c) i))), some (.int (nI i))] [] := by
          intro d
          induction d with
          | zero =>
            intro i hi
            have hi2 : i = s.1 3 := by omega
            refine r_iload g dX5_begin_49 rfl ?_
            refine r_aload_n g dX5_begin_51 rfl ?_
            refine rm_get g hM fX5_98 rfl dX5_begin_52 ?_
            refine r_topi (y := (nI (s.1 3))) hI.2.2.2.1 ?_
            refine r_icmp_ge 101 g dX5_begin_55 (by decide) (fun c55 => ?_) (fun c55 => absurd (nI_le (by omega) (by omega)) c55)
            refine r_iload_n g dX5_begin_101 rfl ?_
            refine r_if_ne 114 g dX5_begin_102 (by decide) (fun c102 => ?_) (fun c102 => ?_)
            · skip
              have qo := b2_t c102
              rw [hi2] at qo
              refine r_iconst (v := 0) g dX5_begin_114 (by decide) ?_
              have hs : sBegin s x c = (0, 0, s) := by unfold sBegin; rw [if_neg (by rw [q, decide_eq_false c11, qc]; decide), if_neg c11, if_pos (by first | (rw [qo]; rfl) | (rw [qo, qw]; rfl))]
              exact r_zret g hr (Nat.le_refl _) (Nat.le_refl _) dX5_begin_115 rfl (KP_i (c := 0) hM (by rw [hs]; exact hI) rfl (by rw [hs]; rfl) (fun _ => by rw [hs]) SameG.rf)
            · skip
              have qo := b2_f c102
              rw [hi2] at qo
              refine r_aload_n g dX5_begin_105 rfl ?_
              refine r_iload_n g dX5_begin_106 rfl ?_
              refine r_topi (y := (nI (iN c))) hcc.2 ?_
              refine r_iload_n g dX5_begin_107 rfl ?_
              refine r_topi (y := (nI (iN x))) hci.2.1 ?_
              refine r_pV g kX5_118 (ok_m_isWithin _ _ _ _ s hA (hI.F0 0) hM.1 (c := iN c) (j := iN x) hcc.1 hci.1) hM.1.1 rfl rfl rfl hnx hR (by decide) (Nat.zero_le _) (Nat.zero_le _) rfl rfl dX5_begin_108 ?_
              refine r_if_ne 116 g dX5_begin_111 (by decide) (fun c111 => ?_) (fun c111 => ?_)
              · skip
                have qw := b2_t c111
                refine r_aload_n g dX5_begin_116 rfl ?_
                refine rm_get g hM fX5_44 rfl dX5_begin_117 ?_
                refine r_iload_n g dX5_begin_120 rfl ?_
                refine r_iload_n g dX5_begin_121 rfl ?_
                refine rm_iast 16 (j := iN x) g hM hbm rfl (by decide) rfl hci.2.1 (show iN x < 400 by omega) dX5_begin_122 ?_
                intro h_8 hM
                refine r_iconst (v := 1) g dX5_begin_123 (by decide) ?_
                have hs : sBegin s x c = (0, 1, (s.1, s.2.1, up2 s.2.2 (iN x) 5 (iN c))) := by unfold sBegin; rw [if_neg (by rw [q, decide_eq_false c11, qc]; decide), if_neg c11, if_neg (by rw [qo, qw]; decide)]
                exact r_zret g hr (Nat.le_refl _) (Nat.le_refl _) dX5_begin_124 rfl (KP_i (c := 0) hM (by rw [hs]; exact MI_begin hI (hcc.2.trans (beI_lt (by omega)))) rfl (by rw [hs]; rfl) (fun _ => by rw [hs]) (SameG.up SameG.rf (by decide)))
              · skip
                have qw := b2_f c111
                refine r_iconst (v := 0) g dX5_begin_114 (by decide) ?_
                have hs : sBegin s x c = (0, 0, s) := by unfold sBegin; rw [if_neg (by rw [q, decide_eq_false c11, qc]; decide), if_neg c11, if_pos (by first | (rw [qo]; rfl) | (rw [qo, qw]; rfl))]
                exact r_zret g hr (Nat.le_refl _) (Nat.le_refl _) dX5_begin_115 rfl (KP_i (c := 0) hM (by rw [hs]; exact hI) rfl (by rw [hs]; rfl) (fun _ => by rw [hs]) SameG.rf)
          | succ d ih =>
            intro i hi
            have hkk := hA.2.2.2.2.2.1 i (by omega)
            refine r_iload g dX5_begin_49 rfl ?_
            refine r_aload_n g dX5_begin_51 rfl ?_
            refine rm_get g hM fX5_98 rfl dX5_begin_52 ?_
            refine r_topi (y := (nI (s.1 3))) hI.2.2.2.1 ?_
            refine r_icmp_ge 101 g dX5_begin_55 (by decide) (fun c55 => absurd c55 (nI_ge (by omega) (by omega))) (fun c55 => ?_)
            refine r_iload_n g dX5_begin_58 rfl ?_
            refine r_if_ne 89 g dX5_begin_59 (by decide) (fun c59 => ?_) (fun c59 => ?_)
            · skip
              have qo := b2_t c59
              refine r_iconst (v := 1) g dX5_begin_89 (by decide) ?_
              refine r_topi (y := (b2 (othB s (iN x) (iN c) (i + 1)))) (by first | exact oth_t1 qo | exact oth_t2 q1 q2 q5) ?_
              refine r_goto 94 g dX5_begin_90 (by decide) ?_
              refine r_istore_n g dX5_begin_94 rfl rfl rfl ?_
              refine r_iinc (v := (nI (i + 1))) g dX5_begin_95 rfl (nI_add i 1) rfl rfl ?_
              refine r_goto 49 g dX5_begin_98 (by decide) ?_
              exact ih (i + 1) (by omega)
            · skip
              have qo := b2_f c59
              refine r_iload g dX5_begin_62 rfl ?_
              refine r_iload_n g dX5_begin_64 rfl ?_
              refine r_topi (y := (nI (iN x))) hci.2.1 ?_
              refine r_icmp_eq 93 g dX5_begin_65 (by decide) (fun c65 => ?_) (fun c65 => ?_)
              · skip
                have q1 := (nI_c (by omega) (by omega)).mp c65
                refine r_iconst (v := 0) g dX5_begin_93 (by decide) ?_
                refine r_topi (y := (b2 (othB s (iN x) (iN c) (i + 1)))) (by first | exact oth_f qo (Or.inr (Or.inr q5)) | exact oth_f qo (Or.inr (Or.inl q2)) | exact oth_f qo (Or.inl q1)) ?_
                refine r_istore_n g dX5_begin_94 rfl rfl rfl ?_
                refine r_iinc (v := (nI (i + 1))) g dX5_begin_95 rfl (nI_add i 1) rfl rfl ?_
                refine r_goto 49 g dX5_begin_98 (by decide) ?_
                exact ih (i + 1) (by omega)
              · skip
                have q1 : ¬ i = iN x := fun z => c65 (by rw [z])
                refine r_aload_n g dX5_begin_68 rfl ?_
                refine rm_get g hM fX5_38 rfl dX5_begin_69 ?_
                refine r_iload g dX5_begin_72 rfl ?_
                refine rm_zald 14 (j := i) g hM rfl rfl rfl (show i < 400 by omega) dX5_begin_74 ?_
                refine r_topi (y := (nI (s.2.2 i 3))) (hI.2.2.2.2.2.2.1 i (by omega)).2.2.2.1 ?_
                refine r_if_eq 93 g dX5_begin_75 (by decide) (fun c75 => ?_) (fun c75 => ?_)
                · skip
                  have q2 : ¬ s.2.2 i 3 = 1 := by have := eq0 (by omega) c75; omega
                  refine r_iconst (v := 0) g dX5_begin_93 (by decide) ?_
                  refine r_topi (y := (b2 (othB s (iN x) (iN c) (i + 1)))) (by first | exact oth_f qo (Or.inr (Or.inr q5)) | exact oth_f qo (Or.inr (Or.inl q2)) | exact oth_f qo (Or.inl q1)) ?_
                  refine r_istore_n g dX5_begin_94 rfl rfl rfl ?_
                  refine r_iinc (v := (nI (i + 1))) g dX5_begin_95 rfl (nI_add i 1) rfl rfl ?_
                  refine r_goto 49 g dX5_begin_98 (by decide) ?_
                  exact ih (i + 1) (by omega)
                · skip
                  have q2 := nz1 (by omega) c75
                  refine r_aload_n g dX5_begin_78 rfl ?_
                  refine rm_get g hM fX5_44 rfl dX5_begin_79 ?_
                  refine r_iload g dX5_begin_82 rfl ?_
                  refine rm_iald 16 (j := i) g hM rfl (by decide) rfl rfl (show i < 400 by omega) dX5_begin_84 ?_
                  refine r_topi (y := (beI (s.2.2 i 5))) (hI.2.2.2.2.2.2.1 i (by omega)).2.2.2.2.2 ?_
                  refine r_iload_n g dX5_begin_85 rfl ?_
                  refine r_topi (y := (nI (iN c))) hcc.2 ?_
                  refine r_icmp_ne 93 g dX5_begin_86 (by decide) (fun c86 => ?_) (fun c86 => ?_)
                  · skip
                    have q5 : ¬ s.2.2 i 5 = iN c := fun z => c86 ((beI_c (by omega) (by omega)).mpr z)
                    refine r_iconst (v := 0) g dX5_begin_93 (by decide) ?_
                    refine r_topi (y := (b2 (othB s (iN x) (iN c) (i + 1)))) (by first | exact oth_f qo (Or.inr (Or.inr q5)) | exact oth_f qo (Or.inr (Or.inl q2)) | exact oth_f qo (Or.inl q1)) ?_
                    refine r_istore_n g dX5_begin_94 rfl rfl rfl ?_
                    refine r_iinc (v := (nI (i + 1))) g dX5_begin_95 rfl (nI_add i 1) rfl rfl ?_
                    refine r_goto 49 g dX5_begin_98 (by decide) ?_
                    exact ih (i + 1) (by omega)
                  · skip
                    have q5 := (beI_c (by omega) (by omega)).mp c86
                    refine r_iconst (v := 1) g dX5_begin_89 (by decide) ?_
                    refine r_topi (y := (b2 (othB s (iN x) (iN c) (i + 1)))) (by first | exact oth_t1 qo | exact oth_t2 q1 q2 q5) ?_
                    refine r_goto 94 g dX5_begin_90 (by decide) ?_
                    refine r_istore_n g dX5_begin_94 rfl rfl rfl ?_
                    refine r_iinc (v := (nI (i + 1))) g dX5_begin_95 rfl (nI_add i 1) rfl rfl ?_
                    refine r_goto 49 g dX5_begin_98 (by decide) ?_
                    exact ih (i + 1) (by omega)
        refine r_iconst (v := 0) g dX5_begin_44 (by decide) ?_
        refine r_istore_n g dX5_begin_45 rfl rfl rfl ?_
        refine r_iconst (v := 0) g dX5_begin_46 (by decide) ?_
        refine r_istore g dX5_begin_47 rfl rfl rfl ?_
        exact loop (s.1 3) 0 (by omega)
      · skip
        have qc := b2_f c19
        refine r_iconst (v := 1) g dX5_begin_22 (by decide) ?_
        refine r_goto 27 g dX5_begin_23 (by decide) ?_
        refine rm_put (F' := upd F 0 1) g hM hbm fX5_88 (by decide) rfl dX5_begin_27 ?_
        intro h_10 hM
        refine r_aload_n g dX5_begin_30 rfl ?_
        refine rm_get g hM fX5_88 rfl dX5_begin_31 ?_
        refine r_topi (y := 1) rfl ?_
        refine r_if_le 39 g dX5_begin_34 (by decide) (fun c34 => absurd c34 (by decide)) (fun c34 => ?_)
        refine r_iconst (v := 0) g dX5_begin_37 (by decide) ?_
        have hs : sBegin s x c = (1, 0, s) := by unfold sBegin; rw [if_pos (by first | (rw [q]; rfl) | (rw [q, decide_eq_false c11, qc]; rfl))]
        exact r_zret g hr (Nat.le_refl _) (Nat.le_refl _) dX5_begin_38 rfl (KP_i (c := 1) hM (by rw [hs]; exact hI) rfl (by rw [hs]; rfl) (fun z => by rw [hs] at z; cases z) SameG.rf)
/-- the reference holds the giving r -/
def MG (A : Nat → Nat → Int32) (r : GR) : Prop := (∀ j, j < 400 → A 18 j = beI (r.1 j 0) ∧ r.1 j 0 ≤ 4 ∧ (r.1 j 0 ≠ 4 → A 19 j = nI (r.1 j 1) ∧ A 20 j = nI (r.1 j 2) ∧ A 21 j = nI (r.1 j 3))) ∧
  (∀ c, c < 4 → A 23 c = nI (r.2.2 c) ∧ r.2.2 c ≤ 6 ∧ ∀ i, i < r.2.2 c → A 22 (6 * c + i) = nI (r.2.1 c i))
theorem MG.same {A A' : Nat → Nat → Int32} {r : GR} (h : MG A r) (hs : SameG A A') : MG A' r := by
  unfold MG
  rw [hs 18 (by decide) (by decide), hs 19 (by decide) (by decide), hs 20 (by decide) (by decide), hs 21 (by decide) (by decide), hs 22 (by decide) (by decide), hs 23 (by decide) (by decide)]
  exact h
theorem nn_at {x : Int32} (h : 0 ≤ x) : x = nI (iN x) ∧ iN x < 2 ^ 31 := by
  obtain ⟨j, hj, rfl⟩ := nI_of (x := x) (fun q => by rw [Int32.lt_iff_toInt_lt] at q; rw [Int32.le_iff_toInt_le] at h; omega)
  rw [iN_nI hj]; exact ⟨rfl, hj⟩
set_option maxHeartbeats 4000000 in
set_option maxRecDepth 100000 in
theorem ok_m_wasCall (l : Launch) (G : Nat → ClassId) (D : va_G) (base : Nat) {h : Hp} {nx m : Nat} {F : Nat → Int32} {A : Nat → Nat → Int32} {B : Nat → Int64} (s : AS) (hA : AI s) (hI : MI F A s) (hM : MO h m F A B) (hbm : base ≤ m) (x : Int32) : MetP l G D base miX5_wasCall 1 0 0 [.ref m, .int x] h nx (KM (some (.int (b2 (inB x (s.1 3))))) h m (upd F 0 (b2 (!inB x (s.1 3)))) A B nx) := by
  refine MetP_of (by decide +kernel) rfl ?_
  intro k g hr hR hcl hcg hcd hcb hcn hnx
  subst hcl; subst hcg; subst hcd; subst hcb
  have hM := MS.rf hM
  obtain ⟨⟨hn1, hn2⟩, ht, hnc, hN, -⟩ := id hA
  show Sf k 0 0 h nx 0 [some (.ref m), some (.int x)] []
  refine r_aload_n g dX5_wasCall_0 rfl ?_
  refine r_iload_n g dX5_wasCall_1 rfl ?_
  refine r_iconst (v := 0) g dX5_wasCall_2 (by decide) ?_
  refine r_aload_n g dX5_wasCall_3 rfl ?_
  refine rm_get g hM fX5_98 rfl dX5_wasCall_4 ?_
  refine r_topi (y := (nI (s.1 3))) hI.2.2.2.1 ?_
  refine r_iconst (v := 1) g dX5_wasCall_7 (by decide) ?_
  refine r_isub g dX5_wasCall_8 ?_
  refine r_pS g kX5_91 (ok_m_isIn _ _ _ _ x 0 ((nI (s.1 3)) - 1)) rfl rfl hnx hR (by decide) (Nat.zero_le _) (Nat.zero_le _) rfl rfl dX5_wasCall_9 ?_
  refine r_topi (y := (b2 (inB x (s.1 3)))) (by rw [inB_sub (by omega)]) ?_
  refine r_if_eq 19 g dX5_wasCall_12 (by decide) (fun c12 => ?_) (fun c12 => ?_)
  · skip
    have q := b2_f c12
    refine r_iconst (v := 1) g dX5_wasCall_19 (by decide) ?_
    refine rm_put (F' := upd F 0 1) g hM hbm fX5_88 (by decide) rfl dX5_wasCall_20 ?_
    intro h_2 hM
    refine r_aload_n g dX5_wasCall_23 rfl ?_
    refine rm_get g hM fX5_88 rfl dX5_wasCall_24 ?_
    refine r_topi (y := 1) rfl ?_
    refine r_if_ne 34 g dX5_wasCall_27 (by decide) (fun c27 => ?_) (fun c27 => absurd c27 (by decide))
    refine r_iconst (v := 0) g dX5_wasCall_34 (by decide) ?_
    exact r_zret g hr (Nat.le_refl _) (Nat.le_refl _) dX5_wasCall_35 rfl ⟨by rw [q]; rfl, rfl, by rw [q]; exact hM⟩
  · skip
    have q := b2_t c12
    refine r_iconst (v := 0) g dX5_wasCall_15 (by decide) ?_
    refine r_goto 20 g dX5_wasCall_16 (by decide) ?_
    refine rm_put (F' := upd F 0 0) g hM hbm fX5_88 (by decide) rfl dX5_wasCall_20 ?_
    intro h_4 hM
    refine r_aload_n g dX5_wasCall_23 rfl ?_
    refine rm_get g hM fX5_88 rfl dX5_wasCall_24 ?_
    refine r_topi (y := 0) rfl ?_
    refine r_if_ne 34 g dX5_wasCall_27 (by decide) (fun c27 => absurd c27 (by decide)) (fun c27 => ?_)
    refine r_iconst (v := 1) g dX5_wasCall_30 (by decide) ?_
    refine r_goto 35 g dX5_wasCall_31 (by decide) ?_
    exact r_zret g hr (Nat.le_refl _) (Nat.le_refl _) dX5_wasCall_35 rfl ⟨by rw [q]; rfl, rfl, by rw [q]; exact hM⟩
set_option maxHeartbeats 4000000 in
set_option maxRecDepth 100000 in
theorem ok_m_carOf (l : Launch) (G : Nat → ClassId) (D : va_G) (base : Nat) {h : Hp} {nx m : Nat} {F : Nat → Int32} {A : Nat → Nat → Int32} {B : Nat → Int64} (s : AS) (hA : AI s) (hI : MI F A s) (hM : MO h m F A B) (hbm : base ≤ m) (r : GR) (hg : MG A r) (x : Int32) : MetP l G D base miX5_carOf 2 0 0 [.ref m, .int x] h nx (KP h nx m A B false ((sCarOf s r x).1, (sCarOf s r x).2, s)) := by
  refine MetP_of (by decide +kernel) rfl ?_
  intro k g hr hR hcl hcg hcd hcb hcn hnx
  subst hcl; subst hcg; subst hcd; subst hcb
  have hM := MS.rf hM
  obtain ⟨⟨hn1, hn2⟩, ht, hnc, hN, -⟩ := id hA
  show Sf k 0 0 h nx 0 [some (.ref m), some (.int x)] []
  refine r_aload_n g dX5_carOf_0 rfl ?_
  refine r_iload_n g dX5_carOf_1 rfl ?_
  refine r_mV g kX5_156 hM (ok_m_wasCall _ _ _ _ s hA hI hM.1 hbm x) rfl rfl rfl hnx hR (by decide) (Nat.zero_le _) (Nat.zero_le _) rfl rfl dX5_carOf_2 ?_
  intro h_1 hM
  refine r_if_eq 17 g dX5_carOf_5 (by decide) (fun c5 => ?_) (fun c5 => ?_)
  · skip
    have q := b2_f c5
    refine r_iconst (v := 0) g dX5_carOf_17 (by decide) ?_
    have hs : sCarOf s r x = (1, 0) := by unfold sCarOf; rw [if_pos q]
    exact r_iret g hr (Nat.le_refl _) (Nat.le_refl _) dX5_carOf_18 (KP_i (c := 1) hM (by rw [hs]; exact hI) (by first | rfl | (rw [q]; rfl)) (by rw [hs]; rfl) (fun z => by rw [hs] at z; cases z) SameG.rf)
  · skip
    have q := b2_t c5
    have hci := inB_at (by omega) q
    refine r_aload_n g dX5_carOf_8 rfl ?_
    refine rm_get g hM fX5_47 rfl dX5_carOf_9 ?_
    refine r_iload_n g dX5_carOf_12 rfl ?_
    refine rm_iald 18 (j := iN x) g hM rfl (by decide) rfl hci.2 (show iN x < 400 by omega) dX5_carOf_13 ?_
    refine r_topi (y := (beI (r.1 (iN x) 0))) (hg.1 (iN x) (by omega)).1 ?_
    refine r_goto 18 g dX5_carOf_14 (by decide) ?_
    have hs : sCarOf s r x = (0, beI (r.1 (iN x) 0)) := by unfold sCarOf; rw [if_neg (by rw [q]; decide)]
    exact r_iret g hr (Nat.le_refl _) (Nat.le_refl _) dX5_carOf_18 (KP_i (c := 0) hM (by rw [hs]; exact hI) (by first | rfl | (rw [q]; rfl)) (by rw [hs]; rfl) (fun _ => by rw [hs]) SameG.rf)
set_option maxHeartbeats 4000000 in
set_option maxRecDepth 100000 in
theorem ok_m_turn (l : Launch) (G : Nat → ClassId) (D : va_G) (base : Nat) {h : Hp} {nx m : Nat} {F : Nat → Int32} {A : Nat → Nat → Int32} {B : Nat → Int64} (s : AS) (hA : AI s) (hI : MI F A s) (hM : MO h m F A B) (hbm : base ≤ m) (r : GR) (hg : MG A r) (c x : Int32) : MetP l G D base miX5_turn 2 0 0 [.ref m, .int c, .int x] h nx (KP h nx m A B false ((sTurn s r c x).1, (sTurn s r c x).2, s)) := by
  refine MetP_of (by decide +kernel) rfl ?_
  intro k g hr hR hcl hcg hcd hcb hcn hnx
  subst hcl; subst hcg; subst hcd; subst hcb
  have hM := MS.rf hM
  obtain ⟨⟨hn1, hn2⟩, ht, hnc, hN, -⟩ := id hA
  show Sf k 0 0 h nx 0 [some (.ref m), some (.int c), some (.int x)] []
  refine r_aload_n g dX5_turn_0 rfl ?_
  refine r_aload_n g dX5_turn_1 rfl ?_
  refine r_iload_n g dX5_turn_2 rfl ?_
  refine r_pV g kX5_108 (ok_m_isCar _ _ _ _ hM.1 hI.2.2.1 (by omega) c) hM.1.1 rfl rfl rfl hnx hR (by decide) (Nat.zero_le _) (Nat.zero_le _) rfl rfl dX5_turn_3 ?_
  refine r_if_eq 13 g dX5_turn_6 (by decide) (fun c6 => ?_) (fun c6 => ?_)
  · skip
    have q := b2_f c6
    refine r_iconst (v := 1) g dX5_turn_13 (by decide) ?_
    refine r_goto 18 g dX5_turn_14 (by decide) ?_
    refine rm_put (F' := upd F 0 1) g hM hbm fX5_88 (by decide) rfl dX5_turn_18 ?_
    intro h_2 hM
    refine r_aload_n g dX5_turn_21 rfl ?_
    refine rm_get g hM fX5_88 rfl dX5_turn_22 ?_
    refine r_topi (y := 1) rfl ?_
    refine r_if_le 32 g dX5_turn_25 (by decide) (fun c25 => absurd c25 (by decide)) (fun c25 => ?_)
    refine r_iconst (v := 0) g dX5_turn_28 (by decide) ?_
    refine r_goto 57 g dX5_turn_29 (by decide) ?_
    have hs : sTurn s r c x = (1, 0) := by unfold sTurn; rw [if_pos (by first | (rw [q]; rfl) | (rw [q, q2]; rfl))]
    exact r_iret g hr (Nat.le_refl _) (Nat.le_refl _) dX5_turn_57 (KP_i (c := 1) hM (by rw [hs]; exact hI) (by first | rfl | (rw [q]; rfl)) (by rw [hs]; rfl) (fun z => by rw [hs] at z; cases z) SameG.rf)
  · skip
    have q := b2_t c6
    refine r_iload_n g dX5_turn_9 rfl ?_
    refine r_if_ge 17 g dX5_turn_10 (by decide) (fun c10 => ?_) (fun c10 => ?_)
    · skip
      have q2 : decide (0 ≤ x) = true := decide_eq_true c10
      refine r_iconst (v := 0) g dX5_turn_17 (by decide) ?_
      refine rm_put (F' := upd F 0 0) g hM hbm fX5_88 (by decide) rfl dX5_turn_18 ?_
      intro h_4 hM
      refine r_aload_n g dX5_turn_21 rfl ?_
      refine rm_get g hM fX5_88 rfl dX5_turn_22 ?_
      refine r_topi (y := 0) rfl ?_
      refine r_if_le 32 g dX5_turn_25 (by decide) (fun c25 => ?_) (fun c25 => absurd c25 (by decide))
      have hci := inB_at (by omega) q
      have hx := nn_at (of_decide_eq_true q2)
      have hgc := hg.2 (iN c) (by omega)
      refine r_iload_n g dX5_turn_32 rfl ?_
      refine r_aload_n g dX5_turn_33 rfl ?_
      refine rm_get g hM fX5_62 rfl dX5_turn_34 ?_
      refine r_iload_n g dX5_turn_37 rfl ?_
      refine rm_iald 23 (j := iN c) g hM rfl (by decide) rfl hci.2 (show iN c < 4 by omega) dX5_turn_38 ?_
      refine r_topi (y := (nI (r.2.2 (iN c)))) hgc.1 ?_
      refine r_icmp_ge 56 g dX5_turn_39 (by decide) (fun c39 => ?_) (fun c39 => ?_)
      · skip
        have q3 : ¬ iN x < r.2.2 (iN c) := fun z => absurd c39 (by rw [hx.1]; exact nI_ge z (by omega))
        refine r_iconst (v := (-1)) g dX5_turn_56 (by decide) ?_
        have hs : sTurn s r c x = (0, -1) := by unfold sTurn; rw [if_neg (by rw [q, q2]; decide), if_neg q3]
        exact r_iret g hr (Nat.le_refl _) (Nat.le_refl _) dX5_turn_57 (KP_i (c := 0) hM (by rw [hs]; exact hI) (by first | rfl | (rw [q]; rfl)) (by rw [hs]; rfl) (fun _ => by rw [hs]) SameG.rf)
      · skip
        have q3 : iN x < r.2.2 (iN c) := Nat.lt_of_not_le (fun z => c39 (by rw [hx.1]; exact nI_le z hx.2))
        refine r_aload_n g dX5_turn_42 rfl ?_
        refine rm_get g hM fX5_59 rfl dX5_turn_43 ?_
        refine r_bipush (v := 6) g dX5_turn_46 (by decide) ?_
        refine r_iload_n g dX5_turn_48 rfl ?_
        refine r_topi (y := (nI (iN c))) hci.2 ?_
        refine r_imul g dX5_turn_49 ?_
        refine r_topi (y := (nI (6 * (iN c)))) (pk_mul 6 (iN c)) ?_
        refine r_iload_n g dX5_turn_50 rfl ?_
        refine r_topi (y := (nI (iN x))) hx.1 ?_
        refine r_iadd g dX5_turn_51 ?_
        refine r_topi (y := (nI ((6 * (iN c)) + (iN x)))) (nI_add (6 * (iN c)) (iN x)) ?_
        refine rm_iald 22 (j := (6 * (iN c)) + (iN x)) g hM rfl (by decide) rfl rfl (show 6 * iN c + iN x < 24 by have := hgc.2.1; omega) dX5_turn_52 ?_
        refine r_topi (y := (nI (r.2.1 (iN c) (iN x)))) (hgc.2.2 (iN x) q3) ?_
        refine r_goto 57 g dX5_turn_53 (by decide) ?_
        have hs : sTurn s r c x = (0, nI (r.2.1 (iN c) (iN x))) := by unfold sTurn; rw [if_neg (by rw [q, q2]; decide), if_pos q3]
        exact r_iret g hr (Nat.le_refl _) (Nat.le_refl _) dX5_turn_57 (KP_i (c := 0) hM (by rw [hs]; exact hI) (by first | rfl | (rw [q]; rfl)) (by rw [hs]; rfl) (fun _ => by rw [hs]) SameG.rf)
    · skip
      have q2 : decide (0 ≤ x) = false := decide_eq_false c10
      refine r_iconst (v := 1) g dX5_turn_13 (by decide) ?_
      refine r_goto 18 g dX5_turn_14 (by decide) ?_
      refine rm_put (F' := upd F 0 1) g hM hbm fX5_88 (by decide) rfl dX5_turn_18 ?_
      intro h_6 hM
      refine r_aload_n g dX5_turn_21 rfl ?_
      refine rm_get g hM fX5_88 rfl dX5_turn_22 ?_
      refine r_topi (y := 1) rfl ?_
      refine r_if_le 32 g dX5_turn_25 (by decide) (fun c25 => absurd c25 (by decide)) (fun c25 => ?_)
      refine r_iconst (v := 0) g dX5_turn_28 (by decide) ?_
      refine r_goto 57 g dX5_turn_29 (by decide) ?_
      have hs : sTurn s r c x = (1, 0) := by unfold sTurn; rw [if_pos (by first | (rw [q]; rfl) | (rw [q, q2]; rfl))]
      exact r_iret g hr (Nat.le_refl _) (Nat.le_refl _) dX5_turn_57 (KP_i (c := 1) hM (by rw [hs]; exact hI) (by first | rfl | (rw [q]; rfl)) (by rw [hs]; rfl) (fun z => by rw [hs] at z; cases z) SameG.rf)
set_option maxHeartbeats 4000000 in
set_option maxRecDepth 100000 in
theorem ok_m_told (l : Launch) (G : Nat → ClassId) (D : va_G) (base : Nat) {h : Hp} {nx m : Nat} {F : Nat → Int32} {A : Nat → Nat → Int32} {B : Nat → Int64} (s : AS) (hA : AI s) (hI : MI F A s) (hM : MO h m F A B) (hbm : base ≤ m) (r : GR) (hg : MG A r) (x w : Int32) : MetP l G D base miX5_told 1 0 0 [.ref m, .int x, .int w] h nx (KP h nx m A B false ((sTold s r x w).1, (sTold s r x w).2, s)) := by
  refine MetP_of (by decide +kernel) rfl ?_
  intro k g hr hR hcl hcg hcd hcb hcn hnx
  subst hcl; subst hcg; subst hcd; subst hcb
  have hM := MS.rf hM
  obtain ⟨⟨hn1, hn2⟩, ht, hnc, hN, -⟩ := id hA
  show Sf k 0 0 h nx 0 [some (.ref m), some (.int x), some (.int w)] []
  refine r_aload_n g dX5_told_0 rfl ?_
  refine r_iload_n g dX5_told_1 rfl ?_
  refine r_iconst (v := 0) g dX5_told_2 (by decide) ?_
  refine r_aload_n g dX5_told_3 rfl ?_
  refine rm_get g hM fX5_98 rfl dX5_told_4 ?_
  refine r_topi (y := (nI (s.1 3))) hI.2.2.2.1 ?_
  refine r_iconst (v := 1) g dX5_told_7 (by decide) ?_
  refine r_isub g dX5_told_8 ?_
  refine r_pS g kX5_91 (ok_m_isIn _ _ _ _ x 0 ((nI (s.1 3)) - 1)) rfl rfl hnx hR (by decide) (Nat.zero_le _) (Nat.zero_le _) rfl rfl dX5_told_9 ?_
  refine r_topi (y := (b2 (inB x (s.1 3)))) (by rw [inB_sub (by omega)]) ?_
  refine r_if_eq 24 g dX5_told_12 (by decide) (fun c12 => ?_) (fun c12 => ?_)
  · skip
    have q := b2_f c12
    refine r_iconst (v := 1) g dX5_told_24 (by decide) ?_
    refine r_goto 29 g dX5_told_25 (by decide) ?_
    refine rm_put (F' := upd F 0 1) g hM hbm fX5_88 (by decide) rfl dX5_told_29 ?_
    intro h_2 hM
    refine r_aload_n g dX5_told_32 rfl ?_
    refine rm_get g hM fX5_88 rfl dX5_told_33 ?_
    refine r_topi (y := 1) rfl ?_
    refine r_if_le 41 g dX5_told_36 (by decide) (fun c36 => absurd c36 (by decide)) (fun c36 => ?_)
    refine r_iconst (v := 0) g dX5_told_39 (by decide) ?_
    have hs : sTold s r x w = (1, 0) := by unfold sTold; rw [if_pos (by first | (rw [q]; rfl) | (rw [q, q2]; rfl))]
    exact r_iret g hr (Nat.le_refl _) (Nat.le_refl _) dX5_told_40 (KP_i (c := 1) hM (by rw [hs]; exact hI) (by first | rfl | (rw [q]; rfl)) (by rw [hs]; rfl) (fun z => by rw [hs] at z; cases z) SameG.rf)
  · skip
    have q := b2_t c12
    refine r_iload_n g dX5_told_15 rfl ?_
    refine r_iconst (v := 0) g dX5_told_16 (by decide) ?_
    refine r_iconst (v := 2) g dX5_told_17 (by decide) ?_
    refine r_pS g kX5_91 (ok_m_isIn _ _ _ _ w 0 2) rfl rfl hnx hR (by decide) (Nat.zero_le _) (Nat.zero_le _) rfl rfl dX5_told_18 ?_
    refine r_if_ne 28 g dX5_told_21 (by decide) (fun c21 => ?_) (fun c21 => ?_)
    · skip
      have q2 : inR w 0 2 = true := b2_t c21
      refine r_iconst (v := 0) g dX5_told_28 (by decide) ?_
      refine rm_put (F' := upd F 0 0) g hM hbm fX5_88 (by decide) rfl dX5_told_29 ?_
      intro h_4 hM
      refine r_aload_n g dX5_told_32 rfl ?_
      refine rm_get g hM fX5_88 rfl dX5_told_33 ?_
      refine r_topi (y := 0) rfl ?_
      refine r_if_le 41 g dX5_told_36 (by decide) (fun c36 => ?_) (fun c36 => absurd c36 (by decide))
      have hci := inB_at (by omega) q
      have hw := inR_at (by decide) (by decide) q2
      have hgc := hg.1 (iN x) (by omega)
      refine r_aload_n g dX5_told_41 rfl ?_
      refine rm_get g hM fX5_47 rfl dX5_told_42 ?_
      refine r_iload_n g dX5_told_45 rfl ?_
      refine rm_iald 18 (j := iN x) g hM rfl (by decide) rfl hci.2 (show iN x < 400 by omega) dX5_told_46 ?_
      refine r_topi (y := (beI (r.1 (iN x) 0))) hgc.1 ?_
      refine r_iconst (v := (-1)) g dX5_told_47 (by decide) ?_
      refine r_icmp_ne 55 g dX5_told_48 (by decide) (fun c48 => ?_) (fun c48 => ?_)
      · skip
        have q3 : ¬ r.1 (iN x) 0 = 4 := fun z => c48 ((beI_m hgc.2.1).mpr z)
        have hg3 := hgc.2.2 q3
        refine r_iload_n g dX5_told_55 rfl ?_
        refine r_if_ne 68 g dX5_told_56 (by decide) (fun c56 => ?_) (fun c56 => ?_)
        · skip
          have q4 : ¬ iN w = 0 := fun z => c56 (by rw [hw.2.2, z]; rfl)
          refine r_iload_n g dX5_told_68 rfl ?_
          refine r_iconst (v := 1) g dX5_told_69 (by decide) ?_
          refine r_icmp_ne 82 g dX5_told_70 (by decide) (fun c70 => ?_) (fun c70 => ?_)
          · skip
            have q5 : ¬ iN w = 1 := fun z => c70 (by rw [hw.2.2, z]; rfl)
            have q4 : iN w = 2 := by omega
            refine r_aload_n g dX5_told_82 rfl ?_
            refine rm_get g hM fX5_56 rfl dX5_told_83 ?_
            refine r_iload_n g dX5_told_86 rfl ?_
            refine rm_iald 21 (j := iN x) g hM rfl (by decide) rfl hci.2 (show iN x < 400 by omega) dX5_told_87 ?_
            refine r_topi (y := (nI (r.1 (iN x) 3))) hg3.2.2 ?_
            have hs : sTold s r x w = (0, (nI (r.1 (iN x) 3))) := by unfold sTold; rw [if_neg (by rw [q, q2]; decide), if_neg q3, q4]
            exact r_iret g hr (Nat.le_refl _) (Nat.le_refl _) dX5_told_88 (KP_i (c := 0) hM (by rw [hs]; exact hI) (by first | rfl | (rw [q]; rfl)) (by rw [hs]; rfl) (fun _ => by rw [hs]) SameG.rf)
          · skip
            have q4 : iN w = 1 := by rw [c70]; rfl
            refine r_aload_n g dX5_told_73 rfl ?_
            refine rm_get g hM fX5_53 rfl dX5_told_74 ?_
            refine r_iload_n g dX5_told_77 rfl ?_
            refine rm_iald 20 (j := iN x) g hM rfl (by decide) rfl hci.2 (show iN x < 400 by omega) dX5_told_78 ?_
            refine r_topi (y := (nI (r.1 (iN x) 2))) hg3.2.1 ?_
            refine r_goto 88 g dX5_told_79 (by decide) ?_
            have hs : sTold s r x w = (0, (nI (r.1 (iN x) 2))) := by unfold sTold; rw [if_neg (by rw [q, q2]; decide), if_neg q3, q4]
            exact r_iret g hr (Nat.le_refl _) (Nat.le_refl _) dX5_told_88 (KP_i (c := 0) hM (by rw [hs]; exact hI) (by first | rfl | (rw [q]; rfl)) (by rw [hs]; rfl) (fun _ => by rw [hs]) SameG.rf)
        · skip
          have q4 : iN w = 0 := by rw [c56]; rfl
          refine r_aload_n g dX5_told_59 rfl ?_
          refine rm_get g hM fX5_50 rfl dX5_told_60 ?_
          refine r_iload_n g dX5_told_63 rfl ?_
          refine rm_iald 19 (j := iN x) g hM rfl (by decide) rfl hci.2 (show iN x < 400 by omega) dX5_told_64 ?_
          refine r_topi (y := (nI (r.1 (iN x) 1))) hg3.1 ?_
          refine r_goto 88 g dX5_told_65 (by decide) ?_
          have hs : sTold s r x w = (0, (nI (r.1 (iN x) 1))) := by unfold sTold; rw [if_neg (by rw [q, q2]; decide), if_neg q3, q4]
          exact r_iret g hr (Nat.le_refl _) (Nat.le_refl _) dX5_told_88 (KP_i (c := 0) hM (by rw [hs]; exact hI) (by first | rfl | (rw [q]; rfl)) (by rw [hs]; rfl) (fun _ => by rw [hs]) SameG.rf)
      · skip
        have q3 := (beI_m hgc.2.1).mp c48
        refine r_iconst (v := (-1)) g dX5_told_51 (by decide) ?_
        refine r_goto 88 g dX5_told_52 (by decide) ?_
        have hs : sTold s r x w = (0, -1) := by unfold sTold; rw [if_neg (by rw [q, q2]; decide), if_pos q3]
        exact r_iret g hr (Nat.le_refl _) (Nat.le_refl _) dX5_told_88 (KP_i (c := 0) hM (by rw [hs]; exact hI) (by first | rfl | (rw [q]; rfl)) (by rw [hs]; rfl) (fun _ => by rw [hs]) SameG.rf)
    · skip
      have q2 : inR w 0 2 = false := b2_f c21
      refine r_iconst (v := 1) g dX5_told_24 (by decide) ?_
      refine r_goto 29 g dX5_told_25 (by decide) ?_
      refine rm_put (F' := upd F 0 1) g hM hbm fX5_88 (by decide) rfl dX5_told_29 ?_
      intro h_6 hM
      refine r_aload_n g dX5_told_32 rfl ?_
      refine rm_get g hM fX5_88 rfl dX5_told_33 ?_
      refine r_topi (y := 1) rfl ?_
      refine r_if_le 41 g dX5_told_36 (by decide) (fun c36 => absurd c36 (by decide)) (fun c36 => ?_)
      refine r_iconst (v := 0) g dX5_told_39 (by decide) ?_
      have hs : sTold s r x w = (1, 0) := by unfold sTold; rw [if_pos (by first | (rw [q]; rfl) | (rw [q, q2]; rfl))]
      exact r_iret g hr (Nat.le_refl _) (Nat.le_refl _) dX5_told_40 (KP_i (c := 1) hM (by rw [hs]; exact hI) (by first | rfl | (rw [q]; rfl)) (by rw [hs]; rfl) (fun z => by rw [hs] at z; cases z) SameG.rf)
end
section
/-! 10: the giving, over numbers: rows by all orders, then all ways to deal out (as the reference does it) -/
/-- the rows of a set of slots, by least first -/
def permsF : Nat → Nat → List (List Nat)
  | 0, _ => [[]]
  | f + 1, S => if S = 0 then [[]] else (List.range 6).flatMap (fun i => if S.testBit i = true then (permsF f (S - 2 ^ i)).map (fun p => i :: p) else [])
def perms (S : Nat) : List (List Nat) := permsF 6 S
/-- the slots of a set, ascending -/
def elems (S n : Nat) : List Nat := (List.range n).filter (fun i => S.testBit i)
/-- the next order, as the reference finds it: i + 1 (0: none) .. -/
def ndI (o : Nat → Nat) : Nat → Nat
  | 0 => 0
  | m + 1 => if o (m + 1) < o m then ndI o m else m + 1
def ndJ (o : Nat → Nat) (v : Nat) : Nat → Nat
  | 0 => 0
  | m + 1 => if o (m + 1) < v then ndJ o v m else m + 1
def swp (o : Nat → Nat) (a b : Nat) : Nat → Nat := fun q => if q = b then o a else if q = a then o b else o q
def revF : Nat → (Nat → Nat) → Nat → Nat → Nat → Nat
  | 0, o, _, _ => o
  | f + 1, o, a, b => if a < b then revF f (swp o a b) (a + 1) (b - 1) else o
def nxtF (o : Nat → Nat) (n : Nat) : Option (Nat → Nat) := match ndI o (n - 1) with
  | 0 => none
  | i + 1 => some (revF n (swp o i (ndJ o (o i) (n - 1))) (i + 1) (n - 1))
def nxtL (p : List Nat) : Option (List Nat) := (nxtF (fun i => p.getD i 0) p.length).map (fun o => (List.range p.length).map o)
def chainB : List (List Nat) → Bool
  | [] => true
  | [p] => decide (nxtL p = none)
  | p :: q :: r => decide (nxtL p = some q) && chainB (q :: r)
/-- the orders come one behind the other -/
theorem chain_all : ∀ S, S < 64 → chainB (perms S) = true ∧ (perms S).head? = some (elems S 6) ∧ ∀ p ∈ perms S, p.length = (elems S 6).length ∧ ∀ x ∈ p, x < 6 ∧ S.testBit x = true := by decide +kernel
/-- the first least of a list -/
def bst {α : Type} (f : α → Nat) (p : α) (a : Option (Nat × α)) : Option (Nat × α) := match a with
  | none => some (f p, p)
  | some b => if f p < b.1 then some (f p, p) else some b
def brs {α : Type} (f : α → Nat) (ok : α → Bool) : List α → Option (Nat × α) → Option (Nat × α)
  | [], a => a
  | p :: ps, a => brs f ok ps (if ok p = true then bst f p a else a)
theorem bst_n {α : Type} (f : α → Nat) (p : α) : bst f p none = some (f p, p) := rfl
theorem bst_s {α : Type} (f : α → Nat) (p : α) (b : Nat × α) : bst f p (some b) = if f p < b.1 then some (f p, p) else some b := rfl
theorem brs_cons {α : Type} (f : α → Nat) (ok : α → Bool) (p : α) (ps : List α) (a : Option (Nat × α)) : brs f ok (p :: ps) a = brs f ok ps (if ok p = true then bst f p a else a) := rfl
def rowC (sp : Nat) (fr to w : Nat → Nat) : Nat → Nat → List Nat → Nat
  | _, _, [] => 0
  | pl, t, i :: r => (w i * (t + dist pl (fr i) * sp) + (t + dist pl (fr i) * sp + (3 + dist (fr i) (to i) * sp))) + rowC sp fr to w (to i) (t + dist pl (fr i) * sp + (3 + dist (fr i) (to i) * sp) + 3) r
/-- PICK and SET of a slot in a row -/
def rowE (sp : Nat) (fr to : Nat → Nat) : Nat → Nat → List Nat → Nat → Nat × Nat
  | _, _, [], _ => (0, 0)
  | pl, t, i :: r, j => if j = i then (t + dist pl (fr i) * sp, t + dist pl (fr i) * sp + (3 + dist (fr i) (to i) * sp)) else rowE sp fr to (to i) (t + dist pl (fr i) * sp + (3 + dist (fr i) (to i) * sp) + 3) r j
def gB (s : AS) (k : Nat) : Bool := isOp s k && !decide (carsN s k = 0)
def gL (s : AS) : List Nat := (List.range (s.1 3)).filter (gB s)
def gn (s : AS) : Nat := (gL s).length
def gk (s : AS) (i : Nat) : Nat := (gL s).getD i 0
def gfr (s : AS) (i : Nat) : Nat := s.2.2 (gk s i) 0
def gto (s : AS) (i : Nat) : Nat := s.2.2 (gk s i) 1
def gw (s : AS) (i : Nat) : Nat := wgt s (gk s i)
def gdl (s : AS) (c : Nat) : Nat := s.2.1 c 2 - s.1 1
/-- the slot of the call that the car has begun, among a set's first n; 6: none -/
def firstF (s : AS) (c S : Nat) : Nat → Nat
  | 0 => 6
  | n + 1 => if S.testBit n = true ∧ s.2.2 (gk s n) 5 = c then n else firstF s c S n
def okF (first : Nat) (p : List Nat) : Bool := decide (first = 6) || decide (p.getD 0 0 = first)
def gcost (s : AS) (c : Nat) (p : List Nat) : Nat := rowC (s.2.1 c 0) (gfr s) (gto s) (gw s) (s.2.1 c 1) (gdl s c) p
def gbest (s : AS) (c S : Nat) : Option (Nat × List Nat) := brs (gcost s c) (okF (firstF s c S (gn s))) (perms S) none
def gcst (s : AS) (c S : Nat) : Nat := ((gbest s c S).getD (0, [])).1
def grow (s : AS) (c S : Nat) : List Nat := ((gbest s c S).getD (0, [])).2
def setO (d : List Nat) (c : Nat) : Nat → Nat
  | 0 => 0
  | n + 1 => setO d c n + (if d.getD n 0 = c then 2 ^ n else 0)
def gtotF (s : AS) (d : List Nat) : Nat → Nat
  | 0 => 0
  | c + 1 => gtotF s d c + gcst s c (setO d c (gn s))
def gtot (s : AS) (d : List Nat) : Nat := gtotF s d (s.1 2)
def ggoodF (s : AS) (d : List Nat) : Nat → Bool
  | 0 => true
  | n + 1 => ggoodF s d n && (carsN s (gk s n)).testBit (d.getD n 0)
def ggood (s : AS) (d : List Nat) : Bool := ggoodF s d (gn s)
def dig (n w : Nat) : List Nat := (List.range n).map (fun i => w / 4 ^ (n - 1 - i) % 4)
def gways (s : AS) : List (List Nat) := (List.range (4 ^ gn s)).map (dig (gn s))
def gway (s : AS) : Option (Nat × List Nat) := brs (gtot s) (ggood s) (gways s) none
def gsum (s : AS) : Nat := ((gway s).getD (0, [])).1
def gd (s : AS) : List Nat := ((gway s).getD (0, [])).2
def gRow (s : AS) (c : Nat) : List Nat := if c < s.1 2 then grow s c (setO (gd s) c (gn s)) else []
def gE (s : AS) (c j : Nat) : Nat × Nat := rowE (s.2.1 c 0) (gfr s) (gto s) (s.2.1 c 1) (gdl s c) (gRow s c) j
def gres (s : AS) : GR := (fun k q => if (gL s).idxOf k < gn s then (match q with
    | 0 => (gd s).getD ((gL s).idxOf k) 0
    | 1 => (gE s ((gd s).getD ((gL s).idxOf k) 0) ((gL s).idxOf k)).1
    | 2 => (gE s ((gd s).getD ((gL s).idxOf k) 0) ((gL s).idxOf k)).2
    | _ => gw s ((gL s).idxOf k)) else 4,
  fun c i => gk s ((gRow s c).getD i 0), fun c => (gRow s c).length)
end
section
theorem setO_lt (d : List Nat) (c : Nat) : ∀ n, setO d c n < 2 ^ n
  | 0 => by simp [setO]
  | n + 1 => by
    have := setO_lt d c n
    unfold setO
    split <;> omega
theorem so_1 {d : List Nat} {c i : Nat} (h : d.getD i 0 = c) : nI (setO d c i) ||| nI (2 ^ i) = nI (setO d c (i + 1)) := by
  rw [nI_or, or_pow (setO_lt d c i)]
  show _ = nI (_ + _)
  rw [if_pos h]
theorem so_0 {d : List Nat} {c i : Nat} (h : ¬ d.getD i 0 = c) : nI (setO d c i) ||| 0 = nI (setO d c (i + 1)) := by
  rw [or0]
  show _ = nI (_ + _)
  rw [if_neg h]
  rfl
set_option maxHeartbeats 4000000 in
set_option maxRecDepth 100000 in
theorem ok_m_setOf (l : Launch) (G : Nat → ClassId) (D : va_G) (base : Nat) {h : Hp} {nx m : Nat} {F : Nat → Int32} {A : Nat → Nat → Int32} {B : Nat → Int64} (hM : MO h m F A B) {n c : Nat} {d : List Nat} (hF : F 24 = nI n) (hn : n ≤ 6) (hc : c < 4) (hd : ∀ i, i < n → A 30 i = nI (d.getD i 0) ∧ d.getD i 0 < 4) : MetP l G D base miX5_setOf 0 0 0 [.ref m, .int (nI c)] h nx (Kv (.int (nI (setO d c n))) h nx) := by
  refine MetP_of (by decide +kernel) rfl ?_
  intro k g hr hR hcl hcg hcd hcb hcn hnx
  subst hcl; subst hcg; subst hcd; subst hcb
  have hM := MS.rf hM
  show Sf k 0 0 h nx 0 [some (.ref m), some (.int (nI c)), none, none] []
  have loop : ∀ e i, i + e = n → Sf k 0 0 h nx 4 [some (.ref m), some (.int (nI c)), some (.int (nI (setO d c i))), some (.int (nI i))] [] := by
    intro e
    induction e with
    | zero =>
      intro i hi
      have hi2 : i = n := by omega
      refine r_iload_n g dX5_setOf_4 rfl ?_
      refine r_aload_n g dX5_setOf_5 rfl ?_
      refine rm_get g hM fX5_130 rfl dX5_setOf_6 ?_
      refine r_topi (y := (nI n)) hF ?_
      refine r_icmp_ge 38 g dX5_setOf_9 (by decide) (fun c9 => ?_) (fun c9 => absurd (nI_le (by omega) (by omega)) c9)
      refine r_iload_n g dX5_setOf_38 rfl ?_
      exact r_iret g hr (Nat.le_refl _) (Nat.le_refl _) dX5_setOf_39 ⟨by rw [hi2], rfl, rfl⟩
    | succ e ih =>
      intro i hi
      refine r_iload_n g dX5_setOf_4 rfl ?_
      refine r_aload_n g dX5_setOf_5 rfl ?_
      refine rm_get g hM fX5_130 rfl dX5_setOf_6 ?_
      refine r_topi (y := (nI n)) hF ?_
      refine r_icmp_ge 38 g dX5_setOf_9 (by decide) (fun c9 => absurd c9 (nI_ge (by omega) (by omega))) (fun c9 => ?_)
      refine r_iload_n g dX5_setOf_12 rfl ?_
      refine r_aload_n g dX5_setOf_13 rfl ?_
      refine rm_get g hM fX5_81 rfl dX5_setOf_14 ?_
      refine r_iload_n g dX5_setOf_17 rfl ?_
      refine rm_iald 30 (j := i) g hM rfl (by decide) rfl rfl (show i < 6 by omega) dX5_setOf_18 ?_
      refine r_topi (y := (nI (d.getD i 0))) (hd i (by omega)).1 ?_
      refine r_iload_n g dX5_setOf_19 rfl ?_
      refine r_icmp_ne 29 g dX5_setOf_20 (by decide) (fun c20 => ?_) (fun c20 => ?_)
      · skip
        have q : ¬ d.getD i 0 = c := fun z => c20 (by rw [z])
        refine r_iconst (v := 0) g dX5_setOf_29 (by decide) ?_
        refine r_ior g dX5_setOf_30 ?_
        refine r_topi (y := (nI (setO d c (i + 1)))) (by first | exact so_1 q | exact so_0 q) ?_
        refine r_istore_n g dX5_setOf_31 rfl rfl rfl ?_
        refine r_iinc (v := (nI (i + 1))) g dX5_setOf_32 rfl (nI_add i 1) rfl rfl ?_
        refine r_goto 4 g dX5_setOf_35 (by decide) ?_
        exact ih (i + 1) (by omega)
      · skip
        have q := (nI_c (by have := (hd i (by omega)).2; omega) (by omega)).mp c20
        refine r_iconst (v := 1) g dX5_setOf_23 (by decide) ?_
        refine r_iload_n g dX5_setOf_24 rfl ?_
        refine r_ishl g dX5_setOf_25 ?_
        refine r_topi (y := (nI (2 ^ i))) (shl1 (by omega)) ?_
        refine r_goto 30 g dX5_setOf_26 (by decide) ?_
        refine r_ior g dX5_setOf_30 ?_
        refine r_topi (y := (nI (setO d c (i + 1)))) (by first | exact so_1 q | exact so_0 q) ?_
        refine r_istore_n g dX5_setOf_31 rfl rfl rfl ?_
        refine r_iinc (v := (nI (i + 1))) g dX5_setOf_32 rfl (nI_add i 1) rfl rfl ?_
        refine r_goto 4 g dX5_setOf_35 (by decide) ?_
        exact ih (i + 1) (by omega)
  refine r_iconst (v := 0) g dX5_setOf_0 (by decide) ?_
  refine r_istore_n g dX5_setOf_1 rfl rfl rfl ?_
  refine r_iconst (v := 0) g dX5_setOf_2 (by decide) ?_
  refine r_istore_n g dX5_setOf_3 rfl rfl rfl ?_
  exact loop n 0 (by omega)
theorem dig_at {n w i : Nat} (h : i < n) : (dig n w).getD i 0 = w / 4 ^ (n - 1 - i) % 4 := by
  unfold dig
  simp [List.getD, h]
theorem dig_lt {n w i : Nat} (h : i < n) : (dig n w).getD i 0 < 4 := by rw [dig_at h]; exact Nat.mod_lt _ (by decide)
theorem div4 (w a : Nat) : w / 4 ^ a / 4 = w / 4 ^ (a + 1) := by rw [Nat.div_div_eq_div_mul, Nat.pow_succ]
theorem nI_m1 {j : Nat} (hj : j < 2 ^ 31) : nI j - 1 < 0 ↔ j = 0 := by
  match j, hj with
  | 0, _ => exact ⟨fun _ => rfl, fun _ => by decide⟩
  | j + 1, hj =>
    rw [nI_pred]
    exact ⟨fun q => absurd q (nI_pos (by omega)), fun q => by omega⟩
theorem nI_dec (j : Nat) : nI (j + 1) - 1 = nI j := nI_pred j
theorem nI_dec2 (j : Nat) : nI j + (-1) = nI j - 1 := by rw [Int32.sub_eq_add_neg]
theorem upA_upA (A : Nat → Nat → Int32) (kf : Nat) (f f2 : Nat → Int32) : upA (upA A kf f) kf f2 = upA A kf f2 := by
  funext q; unfold upA; by_cases h : q = kf <;> simp [h]
theorem upA_self (A : Nat → Nat → Int32) (kf : Nat) : upA A kf (A kf) = A := by
  funext q; unfold upA; by_cases h : q = kf <;> simp [h]
set_option maxHeartbeats 4000000 in
set_option maxRecDepth 100000 in
theorem ok_m_deal (l : Launch) (G : Nat → ClassId) (D : va_G) (base : Nat) {h0 : Hp} {nx m : Nat} {F : Nat → Int32} {A : Nat → Nat → Int32} {B : Nat → Int64} (hM : MO h0 m F A B) (hbm : base ≤ m) {n w : Nat} (hF : F 24 = nI n) (hn : n ≤ 6) (hw : w < 2 ^ 31) : MetP l G D base miX5_deal 0 0 0 [.ref m, .int (nI w)] h0 nx (fun v h' nx' => v = none ∧ nx = nx' ∧ ∃ f, MS h0 h' m F (upA A 30 f) B ∧ ∀ q, q < n → f q = nI ((dig n w).getD q 0)) := by
  refine MetP_of (by decide +kernel) rfl ?_
  intro k g hr hR hcl hcg hcd hcb hcn hnx
  subst hcl; subst hcg; subst hcd; subst hcb
  have hM := MS.rf hM
  obtain ⟨h, hh⟩ : ∃ z, z = h0 := ⟨_, rfl⟩
  rw [← hh]
  have hM : MS h0 h m F A B := by rw [hh]; exact hM
  show Sf k 0 0 h nx 0 [some (.ref m), some (.int (nI w)), none, none] []
  have loop : ∀ j (f : Nat → Int32) (h : Hp), MS h0 h m F (upA A 30 f) B → j ≤ n → (∀ q, j ≤ q → q < n → f q = nI ((dig n w).getD q 0)) → Sf k 0 0 h nx 9 [some (.ref m), none, some (.int (nI (w / 4 ^ (n - j)))), some (.int (nI j - 1))] [] := by
    intro j
    induction j with
    | zero =>
      intro f h hM hj hf
      refine r_iload_n g dX5_deal_9 rfl ?_
      refine r_if_lt 32 g dX5_deal_10 (by decide) (fun c10 => ?_) (fun c10 => absurd ((nI_m1 (by omega)).mpr rfl) c10)
      exact r_vret g hr (Nat.le_refl _) (Nat.le_refl _) dX5_deal_32 ⟨rfl, rfl, f, hM, fun q hq => hf q (Nat.zero_le _) hq⟩
    | succ j ih =>
      intro f h hM hj hf
      have hw4 : w / 4 ^ (n - (j + 1)) < 2 ^ 31 := Nat.lt_of_le_of_lt (Nat.div_le_self _ _) (by omega)
      refine r_iload_n g dX5_deal_9 rfl ?_
      refine r_if_lt 32 g dX5_deal_10 (by decide) (fun c10 => absurd ((nI_m1 (by omega)).mp c10) (by omega)) (fun c10 => ?_)
      refine r_aload_n g dX5_deal_13 rfl ?_
      refine rm_get g hM fX5_81 rfl dX5_deal_14 ?_
      refine r_iload_n g dX5_deal_17 rfl ?_
      refine r_topi (y := (nI j)) (nI_dec j) ?_
      refine r_iload_n g dX5_deal_18 rfl ?_
      refine r_iconst (v := 4) g dX5_deal_19 (by decide) ?_
      refine r_irem g dX5_deal_20 (by decide) ?_
      refine r_topi (y := (nI (w / 4 ^ (n - (j + 1)) % 4))) (pk_rem (d := 4) hw4 (by decide) (by decide)) ?_
      refine rm_iast 30 (j := j) g hM hbm rfl (by decide) rfl rfl (show j < 6 by omega) dX5_deal_21 ?_
      intro h_1 hM
      refine r_iload_n g dX5_deal_22 rfl ?_
      refine r_iconst (v := 4) g dX5_deal_23 (by decide) ?_
      refine r_idiv g dX5_deal_24 (by decide) ?_
      refine r_topi (y := (nI (w / 4 ^ (n - (j + 1)) / 4))) (pk_div (d := 4) hw4 (by decide) (by decide)) ?_
      refine r_istore_n g dX5_deal_25 rfl rfl rfl ?_
      refine r_iinc (v := (nI j - 1)) g dX5_deal_26 rfl (by rw [nI_dec]; exact nI_dec2 j) rfl rfl ?_
      refine r_goto 9 g dX5_deal_29 (by decide) ?_
      rw [div4, show n - (j + 1) + 1 = n - j by omega]
      refine r_le (ls2 := [some (.ref m), none, some (.int (nI (w / 4 ^ (n - j)))), some (.int (nI j - 1))]) ⟨rfl, rfl, rfl, trivial⟩ ?_
      refine ih (upd f j (nI (w / 4 ^ (n - (j + 1)) % 4))) _ (by rw [← upA_upA]; exact hM) (by omega) (fun q h1 h2 => ?_)
      by_cases e : q = j
      · subst e; rw [pk_us, dig_at h2, show n - (q + 1) = n - 1 - q by omega]
      · rw [pk_un e]; exact hf q (by omega) h2
  refine r_iload_n g dX5_deal_0 rfl ?_
  refine r_istore_n g dX5_deal_1 rfl rfl rfl ?_
  refine r_aload_n g dX5_deal_2 rfl ?_
  refine rm_get g hM fX5_130 rfl dX5_deal_3 ?_
  refine r_topi (y := (nI n)) hF ?_
  refine r_iconst (v := 1) g dX5_deal_6 (by decide) ?_
  refine r_isub g dX5_deal_7 ?_
  refine r_topi (y := (nI n - 1)) rfl ?_
  refine r_istore_n g dX5_deal_8 rfl rfl rfl ?_
  refine r_le (ls2 := [some (.ref m), none, some (.int (nI (w / 4 ^ (n - n)))), some (.int (nI n - 1))]) ⟨rfl, by rw [Nat.sub_self, Nat.pow_zero, Nat.div_one], rfl, trivial⟩ ?_
  exact loop n (A 30) h (by rw [upA_self]; exact hM) (Nat.le_refl _) (fun q h1 h2 => by omega)
theorem nI_decb {b : Nat} (h : 0 < b) : nI b + (-1) = nI (b - 1) := by
  match b, h with
  | b + 1, _ => exact pk_m1 b
theorem nI_m2 {n : Nat} (h : 0 < n) : nI n - 2 = nI (n - 1) - 1 := by
  match n, h with
  | n + 1, _ =>
    show nI (n + 1) - 2 = nI n - 1
    rw [← nI_1 n]
    have : ∀ x : Int32, x + 1 - 2 = x - 1 := fun x => by
      rw [Int32.sub_eq_add_neg, Int32.add_assoc, show (1 : Int32) + -2 = -1 by decide, ← Int32.sub_eq_add_neg]
    exact this _
set_option maxHeartbeats 4000000 in
set_option maxRecDepth 100000 in
theorem ok_m_nextOrder (l : Launch) (G : Nat → ClassId) (D : va_G) (base : Nat) {h0 : Hp} {nx m : Nat} {F : Nat → Int32} {A : Nat → Nat → Int32} {B : Nat → Int64} (hM : MO h0 m F A B) (hbm : base ≤ m) {n : Nat} {o : Nat → Nat} (hn : n ≤ 6) (ho : ∀ q, q < n → A 29 q = nI (o q) ∧ o q < 2 ^ 31) : MetP l G D base miX5_nextOrder 0 0 0 [.ref m, .int (nI n)] h0 nx (fun v h' nx' => nx = nx' ∧ ∃ f, MS h0 h' m F (upA A 29 f) B ∧ (match nxtF o n with | none => v = some (.int 0) | some o2 => v = some (.int 1) ∧ ∀ q, q < n → f q = nI (o2 q))) := by
  refine MetP_of (by decide +kernel) rfl ?_
  intro k g hr hR hcl hcg hcd hcb hcn hnx
  subst hcl; subst hcg; subst hcd; subst hcb
  have hM := MS.rf hM
  obtain ⟨h, hh⟩ : ∃ z, z = h0 := ⟨_, rfl⟩
  rw [← hh]
  have hM : MS h0 h m F A B := by rw [hh]; exact hM
  show Sf k 0 0 h nx 0 [some (.ref m), some (.int (nI n)), none, none, none, none, none] []
  have loop3 : ∀ (fu a b : Nat) (o1 : Nat → Nat) (f : Nat → Int32) (h : Hp) (i j t : Int32), MS h0 h m F (upA A 29 f) B → b ≤ a + 2 * fu → b < n ∧ a ≤ n → (∀ q, q < n → f q = nI (o1 q)) → nxtF o n = some (revF fu o1 a b) → Sf k 0 0 h nx 100 [some (.ref m), some (.int (nI n)), some (.int i), some (.int j), some (.int t), some (.int (nI a)), some (.int (nI b))] [] := by
    intro fu
    induction fu with
    | zero =>
      intro a b o1 f h i j t hM hab hb hf hx
      refine r_iload g dX5_nextOrder_100 rfl ?_
      refine r_iload g dX5_nextOrder_102 rfl ?_
      refine r_icmp_ge 148 g dX5_nextOrder_104 (by decide) (fun c104 => ?_) (fun c104 => absurd (nI_le (by omega) (by omega)) c104)
      refine r_iconst (v := 1) g dX5_nextOrder_148 (by decide) ?_
      exact r_zret g hr (Nat.le_refl _) (Nat.le_refl _) dX5_nextOrder_149 rfl ⟨rfl, f, hM, by rw [hx]; exact ⟨rfl, hf⟩⟩
    | succ fu ih =>
      intro a b o1 f h i j t hM hab hb hf hx
      refine r_iload g dX5_nextOrder_100 rfl ?_
      refine r_iload g dX5_nextOrder_102 rfl ?_
      refine r_icmp_ge 148 g dX5_nextOrder_104 (by decide) (fun c104 => ?_) (fun c104 => ?_)
      · skip
        have q : ¬ a < b := fun z => absurd c104 (nI_ge z (by omega))
        rw [show revF (fu + 1) o1 a b = o1 from if_neg q] at hx
        refine r_iconst (v := 1) g dX5_nextOrder_148 (by decide) ?_
        exact r_zret g hr (Nat.le_refl _) (Nat.le_refl _) dX5_nextOrder_149 rfl ⟨rfl, f, hM, by rw [hx]; exact ⟨rfl, hf⟩⟩
      · skip
        have q : a < b := Nat.lt_of_not_le (fun z => c104 (nI_le z (by omega)))
        rw [show revF (fu + 1) o1 a b = revF fu (swp o1 a b) (a + 1) (b - 1) from if_pos q] at hx
        refine r_aload_n g dX5_nextOrder_107 rfl ?_
        refine rm_get g hM fX5_78 rfl dX5_nextOrder_108 ?_
        refine r_iload g dX5_nextOrder_111 rfl ?_
        refine rm_iald 29 (j := a) g hM rfl (by decide) rfl rfl (show a < 6 by omega) dX5_nextOrder_113 ?_
        refine r_topi (y := (f a)) rfl ?_
        refine r_istore g dX5_nextOrder_114 rfl rfl rfl ?_
        refine r_aload_n g dX5_nextOrder_116 rfl ?_
        refine rm_get g hM fX5_78 rfl dX5_nextOrder_117 ?_
        refine r_iload g dX5_nextOrder_120 rfl ?_
        refine r_aload_n g dX5_nextOrder_122 rfl ?_
        refine rm_get g hM fX5_78 rfl dX5_nextOrder_123 ?_
        refine r_iload g dX5_nextOrder_126 rfl ?_
        refine rm_iald 29 (j := b) g hM rfl (by decide) rfl rfl (show b < 6 by omega) dX5_nextOrder_128 ?_
        refine r_topi (y := (f b)) rfl ?_
        refine rm_iast 29 (j := a) g hM hbm rfl (by decide) rfl rfl (show a < 6 by omega) dX5_nextOrder_129 ?_
        intro h_1 hM
        refine r_aload_n g dX5_nextOrder_130 rfl ?_
        refine rm_get g hM fX5_78 rfl dX5_nextOrder_131 ?_
        refine r_iload g dX5_nextOrder_134 rfl ?_
        refine r_iload g dX5_nextOrder_136 rfl ?_
        refine rm_iast 29 (j := b) g hM hbm rfl (by decide) rfl rfl (show b < 6 by omega) dX5_nextOrder_138 ?_
        intro h_2 hM
        refine r_iinc (v := (nI (a + 1))) g dX5_nextOrder_139 rfl (nI_add a 1) rfl rfl ?_
        refine r_iinc (v := (nI (b - 1))) g dX5_nextOrder_142 rfl (nI_decb (by omega)) rfl rfl ?_
        refine r_goto 100 g dX5_nextOrder_145 (by decide) ?_
        simp only [upA_upA, upA_eq] at hM
        refine ih (a + 1) (b - 1) (swp o1 a b) (upd (upd f a (f b)) b (f a)) _ _ _ _ hM (by omega) ⟨by omega, by omega⟩ (fun r hr2 => ?_) hx
        unfold swp
        by_cases e : r = b
        · subst e; rw [pk_us, if_pos rfl]; exact hf a (by omega)
        · rw [pk_un e, if_neg e]
          by_cases e2 : r = a
          · subst e2; rw [pk_us, if_pos rfl]; exact hf b (by omega)
          · rw [pk_un e2, if_neg e2]; exact hf r hr2
  have loop2 : ∀ (i : Nat), ndI o (n - 1) = i + 1 → i + 1 < n → ∀ j, i ≤ j → j < n → ndJ o (o i) (n - 1) = ndJ o (o i) j → Sf k 0 0 h nx 41 [some (.ref m), some (.int (nI n)), some (.int (nI i)), some (.int (nI j)), none, none, none] [] := by
    intro i hi1 hi2 j
    induction j with
    | zero =>
      intro hij hj hJ
      refine r_aload_n g dX5_nextOrder_41 rfl ?_
      refine rm_get g hM fX5_78 rfl dX5_nextOrder_42 ?_
      refine r_iload_n g dX5_nextOrder_45 rfl ?_
      refine rm_iald 29 (j := 0) g hM rfl (by decide) rfl rfl (show 0 < 6 by omega) dX5_nextOrder_46 ?_
      refine r_topi (y := (nI (o 0))) (ho 0 (by omega)).1 ?_
      refine r_aload_n g dX5_nextOrder_47 rfl ?_
      refine rm_get g hM fX5_78 rfl dX5_nextOrder_48 ?_
      refine r_iload_n g dX5_nextOrder_51 rfl ?_
      refine rm_iald 29 (j := i) g hM rfl (by decide) rfl rfl (show i < 6 by omega) dX5_nextOrder_52 ?_
      refine r_topi (y := (nI (o i))) (ho i (by omega)).1 ?_
      refine r_icmp_ge 62 g dX5_nextOrder_53 (by decide) (fun c53 => ?_) (fun c53 => ?_)
      · skip
        have q : ¬ o (0) < o i := fun z => absurd c53 (nI_ge z (ho i (by omega)).2)
        have hJ2 : ndJ o (o i) (n - 1) = 0 := hJ
        refine r_aload_n g dX5_nextOrder_62 rfl ?_
        refine rm_get g hM fX5_78 rfl dX5_nextOrder_63 ?_
        refine r_iload_n g dX5_nextOrder_66 rfl ?_
        refine rm_iald 29 (j := i) g hM rfl (by decide) rfl rfl (show i < 6 by omega) dX5_nextOrder_67 ?_
        refine r_topi (y := (nI (o i))) (ho i (by omega)).1 ?_
        refine r_istore g dX5_nextOrder_68 rfl rfl rfl ?_
        refine r_aload_n g dX5_nextOrder_70 rfl ?_
        refine rm_get g hM fX5_78 rfl dX5_nextOrder_71 ?_
        refine r_iload_n g dX5_nextOrder_74 rfl ?_
        refine r_aload_n g dX5_nextOrder_75 rfl ?_
        refine rm_get g hM fX5_78 rfl dX5_nextOrder_76 ?_
        refine r_iload_n g dX5_nextOrder_79 rfl ?_
        refine rm_iald 29 (j := 0) g hM rfl (by decide) rfl rfl (show 0 < 6 by omega) dX5_nextOrder_80 ?_
        refine r_topi (y := (nI (o 0))) (ho 0 (by omega)).1 ?_
        refine rm_iast 29 (j := i) g hM hbm rfl (by decide) rfl rfl (show i < 6 by omega) dX5_nextOrder_81 ?_
        intro h_3 hM
        refine r_aload_n g dX5_nextOrder_82 rfl ?_
        refine rm_get g hM fX5_78 rfl dX5_nextOrder_83 ?_
        refine r_iload_n g dX5_nextOrder_86 rfl ?_
        refine r_iload g dX5_nextOrder_87 rfl ?_
        refine rm_iast 29 (j := 0) g hM hbm rfl (by decide) rfl rfl (show 0 < 6 by omega) dX5_nextOrder_89 ?_
        intro h_4 hM
        refine r_iload_n g dX5_nextOrder_90 rfl ?_
        refine r_iconst (v := 1) g dX5_nextOrder_91 (by decide) ?_
        refine r_iadd g dX5_nextOrder_92 ?_
        refine r_topi (y := (nI (i + 1))) (nI_add i 1) ?_
        refine r_istore g dX5_nextOrder_93 rfl rfl rfl ?_
        refine r_iload_n g dX5_nextOrder_95 rfl ?_
        refine r_iconst (v := 1) g dX5_nextOrder_96 (by decide) ?_
        refine r_isub g dX5_nextOrder_97 ?_
        refine r_topi (y := (nI (n - 1))) (pk_sub (b := 1) (by omega)) ?_
        refine r_istore g dX5_nextOrder_98 rfl rfl rfl ?_
        simp only [upA_upA, upA_eq] at hM
        refine loop3 n (i + 1) (n - 1) (swp o i (0)) (upd (upd (A 29) i (nI (o (0)))) (0) (nI (o i))) _ _ _ _ hM (by omega) ⟨by omega, by omega⟩ (fun r hr2 => ?_) (by unfold nxtF; rw [hi1]; show some (revF n (swp o i (ndJ o (o i) (n - 1))) (i + 1) (n - 1)) = _; rw [hJ2])
        unfold swp
        by_cases e : r = 0
        · subst e; rw [pk_us, if_pos rfl]
        · rw [pk_un e, if_neg e]
          by_cases e2 : r = i
          · subst e2; rw [pk_us, if_pos rfl]
          · rw [pk_un e2, if_neg e2]; exact (ho r hr2).1
      · skip
        have q : o (0) < o i := Nat.lt_of_not_le (fun z => c53 (nI_le z (ho _ (by omega)).2))
        have hi0 : i = 0 := by omega
        rw [hi0] at q
        exact absurd q (Nat.lt_irrefl _)
    | succ j ih =>
      intro hij hj hJ
      refine r_aload_n g dX5_nextOrder_41 rfl ?_
      refine rm_get g hM fX5_78 rfl dX5_nextOrder_42 ?_
      refine r_iload_n g dX5_nextOrder_45 rfl ?_
      refine rm_iald 29 (j := (j + 1)) g hM rfl (by decide) rfl rfl (show j + 1 < 6 by omega) dX5_nextOrder_46 ?_
      refine r_topi (y := (nI (o (j + 1)))) (ho (j + 1) (by omega)).1 ?_
      refine r_aload_n g dX5_nextOrder_47 rfl ?_
      refine rm_get g hM fX5_78 rfl dX5_nextOrder_48 ?_
      refine r_iload_n g dX5_nextOrder_51 rfl ?_
      refine rm_iald 29 (j := i) g hM rfl (by decide) rfl rfl (show i < 6 by omega) dX5_nextOrder_52 ?_
      refine r_topi (y := (nI (o i))) (ho i (by omega)).1 ?_
      refine r_icmp_ge 62 g dX5_nextOrder_53 (by decide) (fun c53 => ?_) (fun c53 => ?_)
      · skip
        have q : ¬ o (j + 1) < o i := fun z => absurd c53 (nI_ge z (ho i (by omega)).2)
        have hJ2 : ndJ o (o i) (n - 1) = j + 1 := hJ.trans (if_neg q)
        refine r_aload_n g dX5_nextOrder_62 rfl ?_
        refine rm_get g hM fX5_78 rfl dX5_nextOrder_63 ?_
        refine r_iload_n g dX5_nextOrder_66 rfl ?_
        refine rm_iald 29 (j := i) g hM rfl (by decide) rfl rfl (show i < 6 by omega) dX5_nextOrder_67 ?_
        refine r_topi (y := (nI (o i))) (ho i (by omega)).1 ?_
        refine r_istore g dX5_nextOrder_68 rfl rfl rfl ?_
        refine r_aload_n g dX5_nextOrder_70 rfl ?_
        refine rm_get g hM fX5_78 rfl dX5_nextOrder_71 ?_
        refine r_iload_n g dX5_nextOrder_74 rfl ?_
        refine r_aload_n g dX5_nextOrder_75 rfl ?_
        refine rm_get g hM fX5_78 rfl dX5_nextOrder_76 ?_
        refine r_iload_n g dX5_nextOrder_79 rfl ?_
        refine rm_iald 29 (j := (j + 1)) g hM rfl (by decide) rfl rfl (show j + 1 < 6 by omega) dX5_nextOrder_80 ?_
        refine r_topi (y := (nI (o (j + 1)))) (ho (j + 1) (by omega)).1 ?_
        refine rm_iast 29 (j := i) g hM hbm rfl (by decide) rfl rfl (show i < 6 by omega) dX5_nextOrder_81 ?_
        intro h_5 hM
        refine r_aload_n g dX5_nextOrder_82 rfl ?_
        refine rm_get g hM fX5_78 rfl dX5_nextOrder_83 ?_
        refine r_iload_n g dX5_nextOrder_86 rfl ?_
        refine r_iload g dX5_nextOrder_87 rfl ?_
        refine rm_iast 29 (j := (j + 1)) g hM hbm rfl (by decide) rfl rfl (show j + 1 < 6 by omega) dX5_nextOrder_89 ?_
        intro h_6 hM
        refine r_iload_n g dX5_nextOrder_90 rfl ?_
        refine r_iconst (v := 1) g dX5_nextOrder_91 (by decide) ?_
        refine r_iadd g dX5_nextOrder_92 ?_
        refine r_topi (y := (nI (i + 1))) (nI_add i 1) ?_
        refine r_istore g dX5_nextOrder_93 rfl rfl rfl ?_
        refine r_iload_n g dX5_nextOrder_95 rfl ?_
        refine r_iconst (v := 1) g dX5_nextOrder_96 (by decide) ?_
        refine r_isub g dX5_nextOrder_97 ?_
        refine r_topi (y := (nI (n - 1))) (pk_sub (b := 1) (by omega)) ?_
        refine r_istore g dX5_nextOrder_98 rfl rfl rfl ?_
        simp only [upA_upA, upA_eq] at hM
        refine loop3 n (i + 1) (n - 1) (swp o i (j + 1)) (upd (upd (A 29) i (nI (o (j + 1)))) (j + 1) (nI (o i))) _ _ _ _ hM (by omega) ⟨by omega, by omega⟩ (fun r hr2 => ?_) (by unfold nxtF; rw [hi1]; show some (revF n (swp o i (ndJ o (o i) (n - 1))) (i + 1) (n - 1)) = _; rw [hJ2])
        unfold swp
        by_cases e : r = j + 1
        · subst e; rw [pk_us, if_pos rfl]
        · rw [pk_un e, if_neg e]
          by_cases e2 : r = i
          · subst e2; rw [pk_us, if_pos rfl]
          · rw [pk_un e2, if_neg e2]; exact (ho r hr2).1
      · skip
        have q : o (j + 1) < o i := Nat.lt_of_not_le (fun z => c53 (nI_le z (ho _ (by omega)).2))
        have hJ2 : ndJ o (o i) (n - 1) = ndJ o (o i) j := hJ.trans (if_pos q)
        have hij2 : i ≠ j + 1 := fun z => by rw [z] at q; exact absurd q (Nat.lt_irrefl _)
        refine r_iinc (v := (nI j)) g dX5_nextOrder_56 rfl (nI_decb (b := j + 1) (by omega)) rfl rfl ?_
        refine r_goto 41 g dX5_nextOrder_59 (by decide) ?_
        exact ih (by omega) (by omega) hJ2
  have after : ∀ ii, ndI o (n - 1) = ii → ii ≤ n - 1 → Sf k 0 0 h nx 31 [some (.ref m), some (.int (nI n)), some (.int (nI ii - 1)), none, none, none, none] [] := by
    intro ii h1 h2
    match ii, h1, h2 with
    | 0, h1, h2 =>
      refine r_iload_n g dX5_nextOrder_31 rfl ?_
      refine r_if_ge 37 g dX5_nextOrder_32 (by decide) (fun c32 => absurd c32 (by decide)) (fun c32 => ?_)
      refine r_iconst (v := 0) g dX5_nextOrder_35 (by decide) ?_
      exact r_zret g hr (Nat.le_refl _) (Nat.le_refl _) dX5_nextOrder_36 rfl ⟨rfl, A 29, by rw [upA_self]; exact hM, by unfold nxtF; rw [h1]⟩
    | i + 1, h1, h2 =>
      rw [nI_pred]
      refine r_iload_n g dX5_nextOrder_31 rfl ?_
      refine r_if_ge 37 g dX5_nextOrder_32 (by decide) (fun c32 => ?_) (fun c32 => absurd (nI_pos' (by omega)) c32)
      refine r_iload_n g dX5_nextOrder_37 rfl ?_
      refine r_iconst (v := 1) g dX5_nextOrder_38 (by decide) ?_
      refine r_isub g dX5_nextOrder_39 ?_
      refine r_topi (y := (nI (n - 1))) (pk_sub (b := 1) (by omega)) ?_
      refine r_istore_n g dX5_nextOrder_40 rfl rfl rfl ?_
      exact loop2 i h1 (by omega) (n - 1) (by omega) (by omega) rfl
  have loop1 : ∀ ii, ii ≤ n - 1 → ndI o (n - 1) = ndI o ii → Sf k 0 0 h nx 4 [some (.ref m), some (.int (nI n)), some (.int (nI ii - 1)), none, none, none, none] [] := by
    intro ii
    induction ii with
    | zero =>
      intro h1 h2
      refine r_iload_n g dX5_nextOrder_4 rfl ?_
      refine r_if_lt 31 g dX5_nextOrder_5 (by decide) (fun c5 => ?_) (fun c5 => absurd (show nI 0 - 1 < 0 by decide) c5)
      exact after 0 h2 (Nat.zero_le _)
    | succ i ih =>
      intro h1 h2
      rw [nI_pred]
      refine r_iload_n g dX5_nextOrder_4 rfl ?_
      refine r_if_lt 31 g dX5_nextOrder_5 (by decide) (fun c5 => absurd c5 (nI_pos (by omega))) (fun c5 => ?_)
      refine r_aload_n g dX5_nextOrder_8 rfl ?_
      refine rm_get g hM fX5_78 rfl dX5_nextOrder_9 ?_
      refine r_iload_n g dX5_nextOrder_12 rfl ?_
      refine rm_iald 29 (j := i) g hM rfl (by decide) rfl rfl (show i < 6 by omega) dX5_nextOrder_13 ?_
      refine r_topi (y := (nI (o i))) (ho i (by omega)).1 ?_
      refine r_aload_n g dX5_nextOrder_14 rfl ?_
      refine rm_get g hM fX5_78 rfl dX5_nextOrder_15 ?_
      refine r_iload_n g dX5_nextOrder_18 rfl ?_
      refine r_iconst (v := 1) g dX5_nextOrder_19 (by decide) ?_
      refine r_iadd g dX5_nextOrder_20 ?_
      refine r_topi (y := (nI (i + 1))) (nI_add i 1) ?_
      refine rm_iald 29 (j := i + 1) g hM rfl (by decide) rfl rfl (show i + 1 < 6 by omega) dX5_nextOrder_21 ?_
      refine r_topi (y := (nI (o (i + 1)))) (ho (i + 1) (by omega)).1 ?_
      refine r_icmp_le 31 g dX5_nextOrder_22 (by decide) (fun c22 => ?_) (fun c22 => ?_)
      · skip
        have q : ¬ o (i + 1) < o i := fun z => absurd c22 (nI_ge z (ho i (by omega)).2)
        have e9 := after (i + 1) (h2.trans (if_neg q)) h1
        rw [nI_pred] at e9
        exact e9
      · skip
        have q : o (i + 1) < o i := Nat.lt_of_not_le (fun z => c22 (nI_le z (ho _ (by omega)).2))
        refine r_iinc (v := (nI i - 1)) g dX5_nextOrder_25 rfl (nI_dec2 i) rfl rfl ?_
        refine r_goto 4 g dX5_nextOrder_28 (by decide) ?_
        exact ih (by omega) (h2.trans (if_pos q))
  rcases Nat.eq_zero_or_pos n with hz | hz
  · subst hz
    refine r_iload_n g dX5_nextOrder_0 rfl ?_
    refine r_iconst (v := 2) g dX5_nextOrder_1 (by decide) ?_
    refine r_isub g dX5_nextOrder_2 ?_
    refine r_topi (y := (-2)) (by decide) ?_
    refine r_istore_n g dX5_nextOrder_3 rfl rfl rfl ?_
    refine r_iload_n g dX5_nextOrder_4 rfl ?_
    refine r_if_lt 31 g dX5_nextOrder_5 (by decide) (fun c5 => ?_) (fun c5 => absurd c5 (by decide))
    refine r_iload_n g dX5_nextOrder_31 rfl ?_
    refine r_if_ge 37 g dX5_nextOrder_32 (by decide) (fun c32 => absurd c32 (by decide)) (fun c32 => ?_)
    refine r_iconst (v := 0) g dX5_nextOrder_35 (by decide) ?_
    exact r_zret g hr (Nat.le_refl _) (Nat.le_refl _) dX5_nextOrder_36 rfl ⟨rfl, A 29, by rw [upA_self]; exact hM, rfl⟩
  · skip
    refine r_iload_n g dX5_nextOrder_0 rfl ?_
    refine r_iconst (v := 2) g dX5_nextOrder_1 (by decide) ?_
    refine r_isub g dX5_nextOrder_2 ?_
    refine r_topi (y := (nI (n - 1) - 1)) (nI_m2 hz) ?_
    refine r_istore_n g dX5_nextOrder_3 rfl rfl rfl ?_
    exact loop1 (n - 1) (Nat.le_refl _) rfl
end
section
/-- the reference has listed the calls to be given -/
def P1 (F : Nat → Int32) (A : Nat → Nat → Int32) (s : AS) : Prop := MI F A s ∧ F 24 = nI (gn s) ∧ ∀ i, i < gn s → A 25 i = nI (gk s i) ∧ A 26 i = nI (carsN s (gk s i))
theorem MI.congr {F : Nat → Int32} {A A' : Nat → Nat → Int32} {s : AS} (h : MI F A s) (hA : ∀ kf, kf < 17 → A' kf = A kf) : MI F A' s := by
  unfold MI at h ⊢
  rw [hA 4 (by decide), hA 5 (by decide), hA 6 (by decide), hA 7 (by decide), hA 8 (by decide), hA 9 (by decide), hA 11 (by decide), hA 12 (by decide), hA 13 (by decide), hA 14 (by decide), hA 15 (by decide), hA 16 (by decide)]
  exact h
theorem P1.congr {F : Nat → Int32} {A A' : Nat → Nat → Int32} {s : AS} (h : P1 F A s) (hA : ∀ kf, kf < 17 ∨ kf = 25 ∨ kf = 26 → A' kf = A kf) : P1 F A' s := by
  refine ⟨h.1.congr (fun kf hk => hA kf (Or.inl hk)), h.2.1, ?_⟩
  rw [hA 25 (Or.inr (Or.inl rfl)), hA 26 (Or.inr (Or.inr rfl))]
  exact h.2.2
theorem filt_len (p : Nat → Bool) : ∀ n, ((List.range n).filter p).length = cnt p n
  | 0 => rfl
  | n + 1 => by
    rw [List.range_succ, List.filter_append, List.length_append, filt_len p n]
    show _ = cnt p n + _
    by_cases h : p n = true
    · simp [h]
    · simp [h]
theorem cnt_mono {p q : Nat → Bool} (h : ∀ k, p k = true → q k = true) : ∀ n, cnt p n ≤ cnt q n
  | 0 => Nat.le_refl _
  | n + 1 => by
    have := cnt_mono h n
    unfold cnt
    by_cases hp : p n = true
    · rw [if_pos hp, if_pos (h n hp)]; omega
    · rw [if_neg hp]; omega
theorem gn_le {s : AS} (hA : AI s) : gn s ≤ 6 := by
  refine Nat.le_trans ?_ hA.2.2.2.2.2.2.1
  unfold gn gL nOp
  rw [filt_len]
  exact cnt_mono (fun k hk => by unfold gB at hk; rw [Bool.and_eq_true] at hk; exact hk.1) _
theorem nd_inj {l : List Nat} (h : l.Nodup) {i j : Nat} (hi : i < l.length) (hj : j < l.length) (e : l[i] = l[j]) : i = j := by
  have h1 := List.pairwise_iff_getElem.mp h
  rcases Nat.lt_trichotomy i j with q | q | q
  · exact absurd e (h1 i j hi hj q)
  · exact q
  · exact absurd e.symm (h1 j i hj hi q)
theorem gk_mem {s : AS} {i : Nat} (h : i < gn s) : gk s i ∈ gL s := by
  unfold gk
  rw [List.getD_eq_getElem?_getD, List.getElem?_eq_getElem h]
  exact List.getElem_mem h
theorem gk_at {s : AS} {i : Nat} (h : i < gn s) : gk s i < s.1 3 ∧ isOp s (gk s i) = true ∧ carsN s (gk s i) ≠ 0 := by
  have h1 := gk_mem h
  unfold gL at h1
  rw [List.mem_filter, List.mem_range] at h1
  have h2 := h1.2
  unfold gB at h2
  rw [Bool.and_eq_true] at h2
  exact ⟨h1.1, h2.1, by simpa using h2.2⟩
theorem gL_nodup (s : AS) : (gL s).Nodup := List.Pairwise.filter _ List.nodup_range
theorem gk_inj {s : AS} {i j : Nat} (hi : i < gn s) (hj : j < gn s) (e : gk s i = gk s j) : i = j := by
  unfold gk at e
  rw [List.getD_eq_getElem?_getD, List.getD_eq_getElem?_getD, List.getElem?_eq_getElem hi, List.getElem?_eq_getElem hj] at e
  exact nd_inj (gL_nodup s) hi hj e
theorem dist_le {a b n : Nat} (ha : a < n) (hb : b < n) : dist a b ≤ n - 1 := by
  unfold dist
  split <;> omega
theorem dsp {a b n sp : Nat} (hn : n ≤ 60) (ha : a < n) (hb : b < n) (hs : sp ≤ 5) : dist a b * sp ≤ 295 := by
  have h1 := dist_le ha hb
  have h2 : dist a b * sp ≤ 59 * 5 := Nat.mul_le_mul (by omega) hs
  omega
theorem nI_sb {a b c : Nat} (h : a = b + c) : nI a - nI b = nI c := by
  rw [pk_sub (by omega)]
  congr 1
  omega
theorem drop_cons {p : List Nat} {i : Nat} (h : i < p.length) : p.drop i = p.getD i 0 :: p.drop (i + 1) := by
  rw [List.drop_eq_getElem_cons h, List.getD_eq_getElem?_getD, List.getElem?_eq_getElem h]
  rfl
theorem gmax {a b : Nat} (h : ¬ a ≤ b) : a = b + (a - b) := by omega
/-- the second of a row's slots: what it says -/
theorem rowE_step {sp : Nat} {fr to : Nat → Nat} {pl0 t0 pl tt x : Nat} {p q r : List Nat} (hq : q = x :: r) (hE : ∀ y, y ∈ q → rowE sp fr to pl0 t0 p y = rowE sp fr to pl tt q y) (hnd : q.Nodup) :
    rowE sp fr to pl0 t0 p x = (tt + dist pl (fr x) * sp, tt + dist pl (fr x) * sp + (3 + dist (fr x) (to x) * sp)) ∧ ∀ y, y ∈ r → rowE sp fr to pl0 t0 p y = rowE sp fr to (to x) (tt + dist pl (fr x) * sp + (3 + dist (fr x) (to x) * sp) + 3) r y := by
  subst hq
  refine ⟨(hE x List.mem_cons_self).trans (if_pos rfl), fun y hy => (hE y (List.mem_cons_of_mem _ hy)).trans (if_neg (fun e => ?_))⟩
  subst e
  exact (List.nodup_cons.mp hnd).1 hy
def gE0 (s : AS) (c : Nat) (p : List Nat) (j : Nat) : Nat × Nat := rowE (s.2.1 c 0) (gfr s) (gto s) (s.2.1 c 1) (gdl s c) p j
/-- i of the row's calls are noted -/
def Wr (A A1 : Nat → Nat → Int32) (s : AS) (c : Nat) (p : List Nat) (i : Nat) : Prop := (∀ kf, kf < 18 ∨ 22 < kf → A1 kf = A kf) ∧
  (∀ q, q < i → A1 18 (gk s (p.getD q 0)) = nI c ∧ A1 19 (gk s (p.getD q 0)) = nI (gE0 s c p (p.getD q 0)).1 ∧ A1 20 (gk s (p.getD q 0)) = nI (gE0 s c p (p.getD q 0)).2 ∧ A1 21 (gk s (p.getD q 0)) = nI (gw s (p.getD q 0)) ∧ A1 22 (6 * c + q) = nI (gk s (p.getD q 0))) ∧
  (∀ j, (∀ q, q < i → j ≠ gk s (p.getD q 0)) → A1 18 j = A 18 j ∧ A1 19 j = A 19 j ∧ A1 20 j = A 20 j ∧ A1 21 j = A 21 j) ∧ ∀ j, (j < 6 * c ∨ 6 * c + i ≤ j) → A1 22 j = A 22 j
theorem Wr.step {A A1 : Nat → Nat → Int32} {s : AS} {c : Nat} {p : List Nat} {i x pk st : Nat} (h : Wr A A1 s c p i) (hx : x = p.getD i 0) (hne : ∀ q, q < i → gk s (p.getD q 0) ≠ gk s x) (hE : gE0 s c p x = (pk, st)) :
    Wr A (upA (upA (upA (upA (upA A1 18 (upd (A1 18) (gk s x) (nI c))) 19 (upd (A1 19) (gk s x) (nI pk))) 20 (upd (A1 20) (gk s x) (nI st))) 21 (upd (A1 21) (gk s x) (nI (gw s x)))) 22 (upd (A1 22) (6 * c + i) (nI (gk s x)))) s c p (i + 1) := by
  obtain ⟨h1, h2, h3, h4⟩ := h
  refine ⟨fun kf hk => ?_, fun q hq => ?_, fun j hj => ?_, fun j hj => ?_⟩
  · rw [upA_ne (by omega), upA_ne (by omega), upA_ne (by omega), upA_ne (by omega), upA_ne (by omega)]
    exact h1 kf hk
  · by_cases e : q = i
    · subst e
      rw [← hx]
      refine ⟨pk_us, ?_, ?_, pk_us, pk_us⟩
      · rw [hE]; exact pk_us
      · rw [hE]; exact pk_us
    · have h9 := h2 q (by omega)
      have h8 := hne q (by omega)
      exact ⟨(pk_un h8).trans h9.1, (pk_un h8).trans h9.2.1, (pk_un h8).trans h9.2.2.1, (pk_un h8).trans h9.2.2.2.1, (pk_un (by omega)).trans h9.2.2.2.2⟩
  · have h9 := h3 j (fun q hq => hj q (by omega))
    have h8 : j ≠ gk s x := by have := hj i (Nat.lt_succ_self i); rw [← hx] at this; exact this
    exact ⟨(pk_un h8).trans h9.1, (pk_un h8).trans h9.2.1, (pk_un h8).trans h9.2.2.1, (pk_un h8).trans h9.2.2.2⟩
  · exact (pk_un (by omega)).trans (h4 j (by omega))
theorem nd_getD {p : List Nat} (h : p.Nodup) {i j : Nat} (hi : i < p.length) (hj : j < p.length) (e : p.getD i 0 = p.getD j 0) : i = j := by
  rw [List.getD_eq_getElem?_getD, List.getD_eq_getElem?_getD, List.getElem?_eq_getElem hi, List.getElem?_eq_getElem hj] at e
  exact nd_inj h hi hj e
set_option maxHeartbeats 4000000 in
set_option maxRecDepth 100000 in
theorem ok_m_sumOf0 (l : Launch) (G : Nat → ClassId) (D : va_G) (base : Nat) {h : Hp} {nx m : Nat} {F : Nat → Int32} {A : Nat → Nat → Int32} {B : Nat → Int64} (s : AS) (hA : AI s) (hP : P1 F A s) {c : Nat} {p : List Nat} (hc : c < s.1 2) (hp6 : p.length ≤ 6) (hord : ∀ q, q < p.length → A 29 q = nI (p.getD q 0) ∧ p.getD q 0 < gn s) (hM : MO h m F A B) : MetP l G D base miX5_sumOf 1 0 0 [.ref m, .int (nI c), .int (nI p.length), .int 0] h nx (Kv (.long (lN (gcost s c p))) h nx) := by
  refine MetP_of (by decide +kernel) rfl ?_
  intro k g hr hR hcl hcg hcd hcb hcn hnx
  subst hcl; subst hcg; subst hcd; subst hcb
  have hM := MS.rf hM
  have hI := hP.1
  obtain ⟨⟨hn1, hn2⟩, ht, hnc, hN, -⟩ := id hA
  have hcc := hA.2.2.2.2.1 c hc
  have hg6 := gn_le hA
  show Sf k 0 0 h nx 0 [some (.ref m), some (.int (nI c)), some (.int (nI p.length)), some (.int 0), none, none, none, none, none, none, none, none] []
  have loop : ∀ e i pl tt S, i + e = p.length → pl < s.1 0 → tt ≤ 100000 + 600 * i → S + rowC (s.2.1 c 0) (gfr s) (gto s) (gw s) pl tt (p.drop i) = gcost s c p → Sf k 0 0 h nx 42 [some (.ref m), some (.int (nI c)), some (.int (nI p.length)), some (.int 0), some (.int (nI (s.1 1 + tt))), some (.int (nI pl)), some (.long (lN S)), none, some (.int (nI i)), none, none, none] [] := by
    intro e
    induction e with
    | zero =>
      intro i pl tt S hi hpl htt hS
      have hi2 : i = p.length := by omega
      have hS2 : S = gcost s c p := by rw [hi2, List.drop_length] at hS; exact hS
      refine r_iload g dX5_sumOf_42 rfl ?_
      refine r_iload_n g dX5_sumOf_44 rfl ?_
      refine r_icmp_ge 230 g dX5_sumOf_45 (by decide) (fun c45 => ?_) (fun c45 => absurd (nI_le (by omega) (by omega)) c45)
      refine r_lload g dX5_sumOf_230 rfl ?_
      exact r_lret g hr (Nat.le_refl _) (Nat.le_refl _) dX5_sumOf_232 ⟨by rw [hS2], rfl, rfl⟩
    | succ e ih =>
      intro i pl tt S hi hpl htt hS
      obtain ⟨x, hx⟩ : ∃ x, x = p.getD i 0 := ⟨_, rfl⟩
      have hxg : x < gn s := by rw [hx]; exact (hord i (by omega)).2
      have hgk := gk_at hxg
      have hkk := hA.2.2.2.2.2.1 _ hgk.1
      have hf : gfr s x < s.1 0 := hkk.1
      have hto : gto s x < s.1 0 := hkk.2.1
      have hd1 := dsp (sp := s.2.1 c 0) hn2 hpl hf hcc.1.2
      have hd2 := dsp (sp := s.2.1 c 0) hn2 hf hto hcc.1.2
      have hwg : gw s x ≤ 13336 := wgt_le hA _
      have hdr := drop_cons (p := p) (i := i) (by omega)
      rw [← hx] at hdr
      refine r_iload g dX5_sumOf_42 rfl ?_
      refine r_iload_n g dX5_sumOf_44 rfl ?_
      refine r_icmp_ge 230 g dX5_sumOf_45 (by decide) (fun c45 => absurd c45 (nI_ge (by omega) (by omega))) (fun c45 => ?_)
      refine r_aload_n g dX5_sumOf_48 rfl ?_
      refine rm_get g hM fX5_65 rfl dX5_sumOf_49 ?_
      refine r_aload_n g dX5_sumOf_52 rfl ?_
      refine rm_get g hM fX5_78 rfl dX5_sumOf_53 ?_
      refine r_iload g dX5_sumOf_56 rfl ?_
      refine rm_iald 29 (j := i) g hM rfl (by decide) rfl rfl (show i < 6 by omega) dX5_sumOf_58 ?_
      refine r_topi (y := (nI x)) ((hord i (by omega)).1.trans (by rw [hx])) ?_
      refine rm_iald 25 (j := x) g hM rfl (by decide) rfl rfl (show x < 6 by omega) dX5_sumOf_59 ?_
      refine r_topi (y := (nI (gk s x))) (hP.2.2 x hxg).1 ?_
      refine r_istore g dX5_sumOf_60 rfl rfl rfl ?_
      refine r_iload g dX5_sumOf_62 rfl ?_
      refine r_iload g dX5_sumOf_64 rfl ?_
      refine r_aload_n g dX5_sumOf_66 rfl ?_
      refine rm_get g hM fX5_29 rfl dX5_sumOf_67 ?_
      refine r_iload g dX5_sumOf_70 rfl ?_
      refine rm_iald 11 (j := gk s x) g hM rfl (by decide) rfl rfl (show gk s x < 400 by omega) dX5_sumOf_72 ?_
      refine r_topi (y := (nI (gfr s x))) (hI.2.2.2.2.2.2.1 _ hgk.1).1 ?_
      refine r_pS g kX5_122 (ok_m_way _ _ _ _ (a := pl) (b := gfr s x) (by omega) (by omega)) rfl rfl hnx hR (by decide) (Nat.zero_le _) (Nat.zero_le _) rfl rfl dX5_sumOf_73 ?_
      refine r_aload_n g dX5_sumOf_76 rfl ?_
      refine rm_get g hM fX5_7 rfl dX5_sumOf_77 ?_
      refine r_iload_n g dX5_sumOf_80 rfl ?_
      refine rm_iald 4 (j := c) g hM rfl (by decide) rfl rfl (show c < 4 by omega) dX5_sumOf_81 ?_
      refine r_topi (y := (nI (s.2.1 c 0))) (hI.2.2.2.2.2.1 c hc).1 ?_
      refine r_imul g dX5_sumOf_82 ?_
      refine r_topi (y := (nI ((dist pl (gfr s x)) * (s.2.1 c 0)))) (pk_mul (dist pl (gfr s x)) (s.2.1 c 0)) ?_
      refine r_iadd g dX5_sumOf_83 ?_
      refine r_topi (y := (nI ((s.1 1 + tt) + ((dist pl (gfr s x)) * (s.2.1 c 0))))) (nI_add (s.1 1 + tt) ((dist pl (gfr s x)) * (s.2.1 c 0))) ?_
      refine r_istore g dX5_sumOf_84 rfl rfl rfl ?_
      refine r_iload g dX5_sumOf_86 rfl ?_
      refine r_aload_n g dX5_sumOf_88 rfl ?_
      refine rm_get g hM fX5_105 rfl dX5_sumOf_89 ?_
      refine r_topi (y := (nI (s.1 1))) hI.2.1 ?_
      refine r_isub g dX5_sumOf_92 ?_
      refine r_topi (y := (nI (tt + dist pl (gfr s x) * s.2.1 c 0))) (nI_sb (by omega)) ?_
      refine r_istore g dX5_sumOf_93 rfl rfl rfl ?_
      refine r_iload g dX5_sumOf_95 rfl ?_
      refine r_iconst (v := 3) g dX5_sumOf_97 (by decide) ?_
      refine r_aload_n g dX5_sumOf_98 rfl ?_
      refine rm_get g hM fX5_29 rfl dX5_sumOf_99 ?_
      refine r_iload g dX5_sumOf_102 rfl ?_
      refine rm_iald 11 (j := gk s x) g hM rfl (by decide) rfl rfl (show gk s x < 400 by omega) dX5_sumOf_104 ?_
      refine r_topi (y := (nI (gfr s x))) (hI.2.2.2.2.2.2.1 _ hgk.1).1 ?_
      refine r_aload_n g dX5_sumOf_105 rfl ?_
      refine rm_get g hM fX5_32 rfl dX5_sumOf_106 ?_
      refine r_iload g dX5_sumOf_109 rfl ?_
      refine rm_iald 12 (j := gk s x) g hM rfl (by decide) rfl rfl (show gk s x < 400 by omega) dX5_sumOf_111 ?_
      refine r_topi (y := (nI (gto s x))) (hI.2.2.2.2.2.2.1 _ hgk.1).2.1 ?_
      refine r_pS g kX5_122 (ok_m_way _ _ _ _ (a := gfr s x) (b := gto s x) (by omega) (by omega)) rfl rfl hnx hR (by decide) (Nat.zero_le _) (Nat.zero_le _) rfl rfl dX5_sumOf_112 ?_
      refine r_aload_n g dX5_sumOf_115 rfl ?_
      refine rm_get g hM fX5_7 rfl dX5_sumOf_116 ?_
      refine r_iload_n g dX5_sumOf_119 rfl ?_
      refine rm_iald 4 (j := c) g hM rfl (by decide) rfl rfl (show c < 4 by omega) dX5_sumOf_120 ?_
      refine r_topi (y := (nI (s.2.1 c 0))) (hI.2.2.2.2.2.1 c hc).1 ?_
      refine r_imul g dX5_sumOf_121 ?_
      refine r_topi (y := (nI ((dist (gfr s x) (gto s x)) * (s.2.1 c 0)))) (pk_mul (dist (gfr s x) (gto s x)) (s.2.1 c 0)) ?_
      refine r_iadd g dX5_sumOf_122 ?_
      refine r_topi (y := (nI (3 + ((dist (gfr s x) (gto s x)) * (s.2.1 c 0))))) (nI_add 3 ((dist (gfr s x) (gto s x)) * (s.2.1 c 0))) ?_
      refine r_iadd g dX5_sumOf_123 ?_
      refine r_topi (y := (nI (((s.1 1 + tt) + ((dist pl (gfr s x)) * (s.2.1 c 0))) + (3 + ((dist (gfr s x) (gto s x)) * (s.2.1 c 0)))))) (nI_add ((s.1 1 + tt) + ((dist pl (gfr s x)) * (s.2.1 c 0))) (3 + ((dist (gfr s x) (gto s x)) * (s.2.1 c 0)))) ?_
      refine r_istore g dX5_sumOf_124 rfl rfl rfl ?_
      refine r_iload g dX5_sumOf_126 rfl ?_
      refine r_aload_n g dX5_sumOf_128 rfl ?_
      refine rm_get g hM fX5_105 rfl dX5_sumOf_129 ?_
      refine r_topi (y := (nI (s.1 1))) hI.2.1 ?_
      refine r_isub g dX5_sumOf_132 ?_
      refine r_topi (y := (nI (tt + dist pl (gfr s x) * s.2.1 c 0 + (3 + dist (gfr s x) (gto s x) * s.2.1 c 0)))) (nI_sb (by omega)) ?_
      refine r_istore g dX5_sumOf_133 rfl rfl rfl ?_
      refine r_iinc (v := (nI (((s.1 1 + tt) + ((dist pl (gfr s x)) * (s.2.1 c 0))) + (3 + ((dist (gfr s x) (gto s x)) * (s.2.1 c 0))) + 3))) g dX5_sumOf_135 rfl (nI_add (((s.1 1 + tt) + ((dist pl (gfr s x)) * (s.2.1 c 0))) + (3 + ((dist (gfr s x) (gto s x)) * (s.2.1 c 0)))) 3) rfl rfl ?_
      refine r_aload_n g dX5_sumOf_138 rfl ?_
      refine rm_get g hM fX5_32 rfl dX5_sumOf_139 ?_
      refine r_iload g dX5_sumOf_142 rfl ?_
      refine rm_iald 12 (j := gk s x) g hM rfl (by decide) rfl rfl (show gk s x < 400 by omega) dX5_sumOf_144 ?_
      refine r_topi (y := (nI (gto s x))) (hI.2.2.2.2.2.2.1 _ hgk.1).2.1 ?_
      refine r_istore g dX5_sumOf_145 rfl rfl rfl ?_
      refine r_lload g dX5_sumOf_147 rfl ?_
      refine r_aload_n g dX5_sumOf_149 rfl ?_
      refine r_iload g dX5_sumOf_150 rfl ?_
      refine r_pV g kX5_126 (ok_m_weightOf _ _ _ _ s hA hI hM.1 (j := gk s x) hgk.1) hM.1.1 rfl rfl rfl hnx hR (by decide) (Nat.zero_le _) (Nat.zero_le _) rfl rfl dX5_sumOf_152 ?_
      refine r_i2l g dX5_sumOf_155 ?_
      refine r_topl (y := (lN (gw s x))) (nI_l (show gw s x < 2 ^ 31 by omega)) ?_
      refine r_iload g dX5_sumOf_156 rfl ?_
      refine r_i2l g dX5_sumOf_158 ?_
      refine r_topl (y := (lN (tt + dist pl (gfr s x) * s.2.1 c 0))) (nI_l (by omega)) ?_
      refine r_lmul g dX5_sumOf_159 ?_
      refine r_topl (y := (lN (gw s x * (tt + dist pl (gfr s x) * s.2.1 c 0)))) (lN_mul _ _) ?_
      refine r_iload g dX5_sumOf_160 rfl ?_
      refine r_i2l g dX5_sumOf_162 ?_
      refine r_topl (y := (lN (tt + dist pl (gfr s x) * s.2.1 c 0 + (3 + dist (gfr s x) (gto s x) * s.2.1 c 0)))) (nI_l (by omega)) ?_
      refine r_ladd g dX5_sumOf_163 ?_
      refine r_topl (y := (lN (gw s x * (tt + dist pl (gfr s x) * s.2.1 c 0) + (tt + dist pl (gfr s x) * s.2.1 c 0 + (3 + dist (gfr s x) (gto s x) * s.2.1 c 0))))) (lN_add _ _) ?_
      refine r_ladd g dX5_sumOf_164 ?_
      refine r_topl (y := (lN (S + (gw s x * (tt + dist pl (gfr s x) * s.2.1 c 0) + (tt + dist pl (gfr s x) * s.2.1 c 0 + (3 + dist (gfr s x) (gto s x) * s.2.1 c 0)))))) (lN_add _ _) ?_
      refine r_lstore g dX5_sumOf_165 rfl rfl rfl ?_
      refine r_iload_n g dX5_sumOf_167 rfl ?_
      refine r_if_eq 224 g dX5_sumOf_168 (by decide) (fun c168 => ?_) (fun c168 => absurd c168 (by decide))
      refine r_iinc (v := (nI (i + 1))) g dX5_sumOf_224 rfl (nI_add i 1) rfl rfl ?_
      refine r_goto 42 g dX5_sumOf_227 (by decide) ?_
      have hS3 : S + (gw s x * (tt + dist pl (gfr s x) * s.2.1 c 0) + (tt + dist pl (gfr s x) * s.2.1 c 0 + (3 + dist (gfr s x) (gto s x) * s.2.1 c 0))) + rowC (s.2.1 c 0) (gfr s) (gto s) (gw s) (gto s x) (tt + dist pl (gfr s x) * s.2.1 c 0 + (3 + dist (gfr s x) (gto s x) * s.2.1 c 0) + 3) (p.drop (i + 1)) = gcost s c p := by rw [hdr] at hS; rw [← hS]; exact Nat.add_assoc _ _ _
      refine r_le (ls2 := [some (.ref m), some (.int (nI c)), some (.int (nI p.length)), some (.int 0), some (.int (nI (s.1 1 + (tt + dist pl (gfr s x) * s.2.1 c 0 + (3 + dist (gfr s x) (gto s x) * s.2.1 c 0) + 3)))), some (.int (nI (gto s x))), some (.long (lN (S + (gw s x * (tt + dist pl (gfr s x) * s.2.1 c 0) + (tt + dist pl (gfr s x) * s.2.1 c 0 + (3 + dist (gfr s x) (gto s x) * s.2.1 c 0)))))), none, some (.int (nI (i + 1))), none, none, none]) ⟨rfl, rfl, rfl, rfl, congrArg (fun z => Value.int (nI z)) (by omega), rfl, rfl, rfl, trivial⟩ ?_
      exact ih (i + 1) (gto s x) (tt + dist pl (gfr s x) * s.2.1 c 0 + (3 + dist (gfr s x) (gto s x) * s.2.1 c 0) + 3) (S + (gw s x * (tt + dist pl (gfr s x) * s.2.1 c 0) + (tt + dist pl (gfr s x) * s.2.1 c 0 + (3 + dist (gfr s x) (gto s x) * s.2.1 c 0)))) (by omega) hto (by omega) hS3
  refine r_aload_n g dX5_sumOf_0 rfl ?_
  refine rm_get g hM fX5_16 rfl dX5_sumOf_1 ?_
  refine r_iload_n g dX5_sumOf_4 rfl ?_
  refine rm_iald 6 (j := c) g hM rfl (by decide) rfl rfl (show c < 4 by omega) dX5_sumOf_5 ?_
  refine r_topi (y := (nI (s.2.1 c 2))) (hI.2.2.2.2.2.1 c hc).2.2.1 ?_
  refine r_aload_n g dX5_sumOf_6 rfl ?_
  refine rm_get g hM fX5_105 rfl dX5_sumOf_7 ?_
  refine r_topi (y := (nI (s.1 1))) hI.2.1 ?_
  refine r_icmp_le 22 g dX5_sumOf_10 (by decide) (fun c10 => ?_) (fun c10 => ?_)
  · skip
    have q := (nI_leI (by omega) (by omega)).mp c10
    have q9 : s.1 1 = s.1 1 + gdl s c := by unfold gdl; omega
    refine r_aload_n g dX5_sumOf_22 rfl ?_
    refine rm_get g hM fX5_105 rfl dX5_sumOf_23 ?_
    refine r_topi (y := (nI (s.1 1))) hI.2.1 ?_
    refine r_topi (y := (nI (s.1 1 + gdl s c))) (congrArg nI q9) ?_
    refine r_istore g dX5_sumOf_26 rfl rfl rfl ?_
    refine r_aload_n g dX5_sumOf_28 rfl ?_
    refine rm_get g hM fX5_13 rfl dX5_sumOf_29 ?_
    refine r_iload_n g dX5_sumOf_32 rfl ?_
    refine rm_iald 5 (j := c) g hM rfl (by decide) rfl rfl (show c < 4 by omega) dX5_sumOf_33 ?_
    refine r_topi (y := (nI (s.2.1 c 1))) (hI.2.2.2.2.2.1 c (by omega)).2.1 ?_
    refine r_istore g dX5_sumOf_34 rfl rfl rfl ?_
    refine r_lconst (v := 0) g dX5_sumOf_36 (by decide) ?_
    refine r_topl (y := lN 0) rfl ?_
    refine r_lstore g dX5_sumOf_37 rfl rfl rfl ?_
    refine r_iconst (v := 0) g dX5_sumOf_39 (by decide) ?_
    refine r_istore g dX5_sumOf_40 rfl rfl rfl ?_
    exact loop p.length 0 (s.2.1 c 1) (gdl s c) 0 (Nat.zero_add _) hcc.2.1 (by unfold gdl; omega) (Nat.zero_add _)
  · skip
    have q : ¬ s.2.1 c 2 ≤ s.1 1 := fun z => c10 (nI_le z (by omega))
    have q9 : s.2.1 c 2 = s.1 1 + gdl s c := gmax q
    refine r_aload_n g dX5_sumOf_13 rfl ?_
    refine rm_get g hM fX5_16 rfl dX5_sumOf_14 ?_
    refine r_iload_n g dX5_sumOf_17 rfl ?_
    refine rm_iald 6 (j := c) g hM rfl (by decide) rfl rfl (show c < 4 by omega) dX5_sumOf_18 ?_
    refine r_topi (y := (nI (s.2.1 c 2))) (hI.2.2.2.2.2.1 c hc).2.2.1 ?_
    refine r_goto 26 g dX5_sumOf_19 (by decide) ?_
    refine r_topi (y := (nI (s.1 1 + gdl s c))) (congrArg nI q9) ?_
    refine r_istore g dX5_sumOf_26 rfl rfl rfl ?_
    refine r_aload_n g dX5_sumOf_28 rfl ?_
    refine rm_get g hM fX5_13 rfl dX5_sumOf_29 ?_
    refine r_iload_n g dX5_sumOf_32 rfl ?_
    refine rm_iald 5 (j := c) g hM rfl (by decide) rfl rfl (show c < 4 by omega) dX5_sumOf_33 ?_
    refine r_topi (y := (nI (s.2.1 c 1))) (hI.2.2.2.2.2.1 c (by omega)).2.1 ?_
    refine r_istore g dX5_sumOf_34 rfl rfl rfl ?_
    refine r_lconst (v := 0) g dX5_sumOf_36 (by decide) ?_
    refine r_topl (y := lN 0) rfl ?_
    refine r_lstore g dX5_sumOf_37 rfl rfl rfl ?_
    refine r_iconst (v := 0) g dX5_sumOf_39 (by decide) ?_
    refine r_istore g dX5_sumOf_40 rfl rfl rfl ?_
    exact loop p.length 0 (s.2.1 c 1) (gdl s c) 0 (Nat.zero_add _) hcc.2.1 (by unfold gdl; omega) (Nat.zero_add _)
set_option maxHeartbeats 4000000 in
set_option maxRecDepth 100000 in
theorem ok_m_sumOf1 (l : Launch) (G : Nat → ClassId) (D : va_G) (base : Nat) {h0 : Hp} {nx m : Nat} {F : Nat → Int32} {A : Nat → Nat → Int32} {B : Nat → Int64} (s : AS) (hA : AI s) (hP : P1 F A s) {c : Nat} {p : List Nat} (hc : c < s.1 2) (hp6 : p.length ≤ 6) (hord : ∀ q, q < p.length → A 29 q = nI (p.getD q 0) ∧ p.getD q 0 < gn s) (hnd : p.Nodup) (hM : MO h0 m F A B) (hbm : base ≤ m) : MetP l G D base miX5_sumOf 1 0 0 [.ref m, .int (nI c), .int (nI p.length), .int 1] h0 nx (fun v h' nx' => (∃ z, v = some (.long z)) ∧ nx = nx' ∧ ∃ A1, MS h0 h' m F A1 B ∧ Wr A A1 s c p p.length) := by
  refine MetP_of (by decide +kernel) rfl ?_
  intro k g hr hR hcl hcg hcd hcb hcn hnx
  subst hcl; subst hcg; subst hcd; subst hcb
  have hM := MS.rf hM
  obtain ⟨h, hh⟩ : ∃ z, z = h0 := ⟨_, rfl⟩
  rw [← hh]
  have hM : MS h0 h m F A B := by rw [hh]; exact hM
  have hI := hP.1
  obtain ⟨⟨hn1, hn2⟩, ht, hnc, hN, -⟩ := id hA
  have hcc := hA.2.2.2.2.1 c hc
  have hg6 := gn_le hA
  show Sf k 0 0 h nx 0 [some (.ref m), some (.int (nI c)), some (.int (nI p.length)), some (.int 1), none, none, none, none, none, none, none, none] []
  have loop : ∀ e i pl tt S (A1 : Nat → Nat → Int32) (h : Hp), MS h0 h m F A1 B → Wr A A1 s c p i → i + e = p.length → pl < s.1 0 → tt ≤ 100000 + 600 * i → S + rowC (s.2.1 c 0) (gfr s) (gto s) (gw s) pl tt (p.drop i) = gcost s c p → (∀ y, y ∈ p.drop i → gE0 s c p y = rowE (s.2.1 c 0) (gfr s) (gto s) pl tt (p.drop i) y) → Sf k 0 0 h nx 42 [some (.ref m), some (.int (nI c)), some (.int (nI p.length)), some (.int 1), some (.int (nI (s.1 1 + tt))), some (.int (nI pl)), some (.long (lN S)), none, some (.int (nI i)), none, none, none] [] := by
    intro e
    induction e with
    | zero =>
      intro i pl tt S A1 h hM hW hi hpl htt hS hE
      have hi2 : i = p.length := by omega
      have hS2 : S = gcost s c p := by rw [hi2, List.drop_length] at hS; exact hS
      refine r_iload g dX5_sumOf_42 rfl ?_
      refine r_iload_n g dX5_sumOf_44 rfl ?_
      refine r_icmp_ge 230 g dX5_sumOf_45 (by decide) (fun c45 => ?_) (fun c45 => absurd (nI_le (by omega) (by omega)) c45)
      refine r_lload g dX5_sumOf_230 rfl ?_
      exact r_lret g hr (Nat.le_refl _) (Nat.le_refl _) dX5_sumOf_232 ⟨⟨_, rfl⟩, rfl, A1, hM, by rw [← hi2]; exact hW⟩
    | succ e ih =>
      intro i pl tt S A1 h hM hW hi hpl htt hS hE
      obtain ⟨x, hx⟩ : ∃ x, x = p.getD i 0 := ⟨_, rfl⟩
      have hxg : x < gn s := by rw [hx]; exact (hord i (by omega)).2
      have hgk := gk_at hxg
      have hkk := hA.2.2.2.2.2.1 _ hgk.1
      have hf : gfr s x < s.1 0 := hkk.1
      have hto : gto s x < s.1 0 := hkk.2.1
      have hd1 := dsp (sp := s.2.1 c 0) hn2 hpl hf hcc.1.2
      have hd2 := dsp (sp := s.2.1 c 0) hn2 hf hto hcc.1.2
      have hwg : gw s x ≤ 13336 := wgt_le hA _
      have hdr := drop_cons (p := p) (i := i) (by omega)
      rw [← hx] at hdr
      have hI1 : MI F A1 s := hI.congr (fun kf hk => hW.1 kf (Or.inl (by omega)))
      obtain ⟨hE1, hE2⟩ := rowE_step hdr hE (hnd.sublist (List.drop_sublist i p))
      have hnq : ∀ q, q < i → p.getD q 0 ≠ x := fun q hq z => absurd (nd_getD hnd (by omega) (by omega) (z.trans hx)) (by omega)
      refine r_iload g dX5_sumOf_42 rfl ?_
      refine r_iload_n g dX5_sumOf_44 rfl ?_
      refine r_icmp_ge 230 g dX5_sumOf_45 (by decide) (fun c45 => absurd c45 (nI_ge (by omega) (by omega))) (fun c45 => ?_)
      refine r_aload_n g dX5_sumOf_48 rfl ?_
      refine rm_get g hM fX5_65 rfl dX5_sumOf_49 ?_
      refine r_aload_n g dX5_sumOf_52 rfl ?_
      refine rm_get g hM fX5_78 rfl dX5_sumOf_53 ?_
      refine r_iload g dX5_sumOf_56 rfl ?_
      refine rm_iald 29 (j := i) g hM rfl (by decide) rfl rfl (show i < 6 by omega) dX5_sumOf_58 ?_
      refine r_topi (y := (nI x)) ((congrFun (hW.1 29 (by decide)) i).trans ((hord i (by omega)).1.trans (by rw [hx]))) ?_
      refine rm_iald 25 (j := x) g hM rfl (by decide) rfl rfl (show x < 6 by omega) dX5_sumOf_59 ?_
      refine r_topi (y := (nI (gk s x))) ((congrFun (hW.1 25 (by decide)) x).trans (hP.2.2 x hxg).1) ?_
      refine r_istore g dX5_sumOf_60 rfl rfl rfl ?_
      refine r_iload g dX5_sumOf_62 rfl ?_
      refine r_iload g dX5_sumOf_64 rfl ?_
      refine r_aload_n g dX5_sumOf_66 rfl ?_
      refine rm_get g hM fX5_29 rfl dX5_sumOf_67 ?_
      refine r_iload g dX5_sumOf_70 rfl ?_
      refine rm_iald 11 (j := gk s x) g hM rfl (by decide) rfl rfl (show gk s x < 400 by omega) dX5_sumOf_72 ?_
      refine r_topi (y := (nI (gfr s x))) (hI1.2.2.2.2.2.2.1 _ hgk.1).1 ?_
      refine r_pS g kX5_122 (ok_m_way _ _ _ _ (a := pl) (b := gfr s x) (by omega) (by omega)) rfl rfl hnx hR (by decide) (Nat.zero_le _) (Nat.zero_le _) rfl rfl dX5_sumOf_73 ?_
      refine r_aload_n g dX5_sumOf_76 rfl ?_
      refine rm_get g hM fX5_7 rfl dX5_sumOf_77 ?_
      refine r_iload_n g dX5_sumOf_80 rfl ?_
      refine rm_iald 4 (j := c) g hM rfl (by decide) rfl rfl (show c < 4 by omega) dX5_sumOf_81 ?_
      refine r_topi (y := (nI (s.2.1 c 0))) (hI1.2.2.2.2.2.1 c hc).1 ?_
      refine r_imul g dX5_sumOf_82 ?_
      refine r_topi (y := (nI ((dist pl (gfr s x)) * (s.2.1 c 0)))) (pk_mul (dist pl (gfr s x)) (s.2.1 c 0)) ?_
      refine r_iadd g dX5_sumOf_83 ?_
      refine r_topi (y := (nI ((s.1 1 + tt) + ((dist pl (gfr s x)) * (s.2.1 c 0))))) (nI_add (s.1 1 + tt) ((dist pl (gfr s x)) * (s.2.1 c 0))) ?_
      refine r_istore g dX5_sumOf_84 rfl rfl rfl ?_
      refine r_iload g dX5_sumOf_86 rfl ?_
      refine r_aload_n g dX5_sumOf_88 rfl ?_
      refine rm_get g hM fX5_105 rfl dX5_sumOf_89 ?_
      refine r_topi (y := (nI (s.1 1))) hI.2.1 ?_
      refine r_isub g dX5_sumOf_92 ?_
      refine r_topi (y := (nI (tt + dist pl (gfr s x) * s.2.1 c 0))) (nI_sb (by omega)) ?_
      refine r_istore g dX5_sumOf_93 rfl rfl rfl ?_
      refine r_iload g dX5_sumOf_95 rfl ?_
      refine r_iconst (v := 3) g dX5_sumOf_97 (by decide) ?_
      refine r_aload_n g dX5_sumOf_98 rfl ?_
      refine rm_get g hM fX5_29 rfl dX5_sumOf_99 ?_
      refine r_iload g dX5_sumOf_102 rfl ?_
      refine rm_iald 11 (j := gk s x) g hM rfl (by decide) rfl rfl (show gk s x < 400 by omega) dX5_sumOf_104 ?_
      refine r_topi (y := (nI (gfr s x))) (hI1.2.2.2.2.2.2.1 _ hgk.1).1 ?_
      refine r_aload_n g dX5_sumOf_105 rfl ?_
      refine rm_get g hM fX5_32 rfl dX5_sumOf_106 ?_
      refine r_iload g dX5_sumOf_109 rfl ?_
      refine rm_iald 12 (j := gk s x) g hM rfl (by decide) rfl rfl (show gk s x < 400 by omega) dX5_sumOf_111 ?_
      refine r_topi (y := (nI (gto s x))) (hI1.2.2.2.2.2.2.1 _ hgk.1).2.1 ?_
      refine r_pS g kX5_122 (ok_m_way _ _ _ _ (a := gfr s x) (b := gto s x) (by omega) (by omega)) rfl rfl hnx hR (by decide) (Nat.zero_le _) (Nat.zero_le _) rfl rfl dX5_sumOf_112 ?_
      refine r_aload_n g dX5_sumOf_115 rfl ?_
      refine rm_get g hM fX5_7 rfl dX5_sumOf_116 ?_
      refine r_iload_n g dX5_sumOf_119 rfl ?_
      refine rm_iald 4 (j := c) g hM rfl (by decide) rfl rfl (show c < 4 by omega) dX5_sumOf_120 ?_
      refine r_topi (y := (nI (s.2.1 c 0))) (hI1.2.2.2.2.2.1 c hc).1 ?_
      refine r_imul g dX5_sumOf_121 ?_
      refine r_topi (y := (nI ((dist (gfr s x) (gto s x)) * (s.2.1 c 0)))) (pk_mul (dist (gfr s x) (gto s x)) (s.2.1 c 0)) ?_
      refine r_iadd g dX5_sumOf_122 ?_
      refine r_topi (y := (nI (3 + ((dist (gfr s x) (gto s x)) * (s.2.1 c 0))))) (nI_add 3 ((dist (gfr s x) (gto s x)) * (s.2.1 c 0))) ?_
      refine r_iadd g dX5_sumOf_123 ?_
      refine r_topi (y := (nI (((s.1 1 + tt) + ((dist pl (gfr s x)) * (s.2.1 c 0))) + (3 + ((dist (gfr s x) (gto s x)) * (s.2.1 c 0)))))) (nI_add ((s.1 1 + tt) + ((dist pl (gfr s x)) * (s.2.1 c 0))) (3 + ((dist (gfr s x) (gto s x)) * (s.2.1 c 0)))) ?_
      refine r_istore g dX5_sumOf_124 rfl rfl rfl ?_
      refine r_iload g dX5_sumOf_126 rfl ?_
      refine r_aload_n g dX5_sumOf_128 rfl ?_
      refine rm_get g hM fX5_105 rfl dX5_sumOf_129 ?_
      refine r_topi (y := (nI (s.1 1))) hI.2.1 ?_
      refine r_isub g dX5_sumOf_132 ?_
      refine r_topi (y := (nI (tt + dist pl (gfr s x) * s.2.1 c 0 + (3 + dist (gfr s x) (gto s x) * s.2.1 c 0)))) (nI_sb (by omega)) ?_
      refine r_istore g dX5_sumOf_133 rfl rfl rfl ?_
      refine r_iinc (v := (nI (((s.1 1 + tt) + ((dist pl (gfr s x)) * (s.2.1 c 0))) + (3 + ((dist (gfr s x) (gto s x)) * (s.2.1 c 0))) + 3))) g dX5_sumOf_135 rfl (nI_add (((s.1 1 + tt) + ((dist pl (gfr s x)) * (s.2.1 c 0))) + (3 + ((dist (gfr s x) (gto s x)) * (s.2.1 c 0)))) 3) rfl rfl ?_
      refine r_aload_n g dX5_sumOf_138 rfl ?_
      refine rm_get g hM fX5_32 rfl dX5_sumOf_139 ?_
      refine r_iload g dX5_sumOf_142 rfl ?_
      refine rm_iald 12 (j := gk s x) g hM rfl (by decide) rfl rfl (show gk s x < 400 by omega) dX5_sumOf_144 ?_
      refine r_topi (y := (nI (gto s x))) (hI1.2.2.2.2.2.2.1 _ hgk.1).2.1 ?_
      refine r_istore g dX5_sumOf_145 rfl rfl rfl ?_
      refine r_lload g dX5_sumOf_147 rfl ?_
      refine r_aload_n g dX5_sumOf_149 rfl ?_
      refine r_iload g dX5_sumOf_150 rfl ?_
      refine r_pV g kX5_126 (ok_m_weightOf _ _ _ _ s hA hI1 hM.1 (j := gk s x) hgk.1) hM.1.1 rfl rfl rfl hnx hR (by decide) (Nat.zero_le _) (Nat.zero_le _) rfl rfl dX5_sumOf_152 ?_
      refine r_i2l g dX5_sumOf_155 ?_
      refine r_topl (y := (lN (gw s x))) (nI_l (show gw s x < 2 ^ 31 by omega)) ?_
      refine r_iload g dX5_sumOf_156 rfl ?_
      refine r_i2l g dX5_sumOf_158 ?_
      refine r_topl (y := (lN (tt + dist pl (gfr s x) * s.2.1 c 0))) (nI_l (by omega)) ?_
      refine r_lmul g dX5_sumOf_159 ?_
      refine r_topl (y := (lN (gw s x * (tt + dist pl (gfr s x) * s.2.1 c 0)))) (lN_mul _ _) ?_
      refine r_iload g dX5_sumOf_160 rfl ?_
      refine r_i2l g dX5_sumOf_162 ?_
      refine r_topl (y := (lN (tt + dist pl (gfr s x) * s.2.1 c 0 + (3 + dist (gfr s x) (gto s x) * s.2.1 c 0)))) (nI_l (by omega)) ?_
      refine r_ladd g dX5_sumOf_163 ?_
      refine r_topl (y := (lN (gw s x * (tt + dist pl (gfr s x) * s.2.1 c 0) + (tt + dist pl (gfr s x) * s.2.1 c 0 + (3 + dist (gfr s x) (gto s x) * s.2.1 c 0))))) (lN_add _ _) ?_
      refine r_ladd g dX5_sumOf_164 ?_
      refine r_topl (y := (lN (S + (gw s x * (tt + dist pl (gfr s x) * s.2.1 c 0) + (tt + dist pl (gfr s x) * s.2.1 c 0 + (3 + dist (gfr s x) (gto s x) * s.2.1 c 0)))))) (lN_add _ _) ?_
      refine r_lstore g dX5_sumOf_165 rfl rfl rfl ?_
      refine r_iload_n g dX5_sumOf_167 rfl ?_
      refine r_if_eq 224 g dX5_sumOf_168 (by decide) (fun c168 => absurd c168 (by decide)) (fun c168 => ?_)
      refine r_aload_n g dX5_sumOf_171 rfl ?_
      refine rm_get g hM fX5_47 rfl dX5_sumOf_172 ?_
      refine r_iload g dX5_sumOf_175 rfl ?_
      refine r_iload_n g dX5_sumOf_177 rfl ?_
      refine rm_iast 18 (j := gk s x) g hM hbm rfl (by decide) rfl rfl (show gk s x < 400 by omega) dX5_sumOf_178 ?_
      intro h_1 hM
      refine r_aload_n g dX5_sumOf_179 rfl ?_
      refine rm_get g hM fX5_50 rfl dX5_sumOf_180 ?_
      refine r_iload g dX5_sumOf_183 rfl ?_
      refine r_iload g dX5_sumOf_185 rfl ?_
      refine rm_iast 19 (j := gk s x) g hM hbm rfl (by decide) rfl rfl (show gk s x < 400 by omega) dX5_sumOf_187 ?_
      intro h_2 hM
      refine r_aload_n g dX5_sumOf_188 rfl ?_
      refine rm_get g hM fX5_53 rfl dX5_sumOf_189 ?_
      refine r_iload g dX5_sumOf_192 rfl ?_
      refine r_iload g dX5_sumOf_194 rfl ?_
      refine rm_iast 20 (j := gk s x) g hM hbm rfl (by decide) rfl rfl (show gk s x < 400 by omega) dX5_sumOf_196 ?_
      intro h_3 hM
      refine r_aload_n g dX5_sumOf_197 rfl ?_
      refine rm_get g hM fX5_56 rfl dX5_sumOf_198 ?_
      refine r_iload g dX5_sumOf_201 rfl ?_
      refine r_aload_n g dX5_sumOf_203 rfl ?_
      refine r_iload g dX5_sumOf_204 rfl ?_
      refine r_pV g kX5_126 (ok_m_weightOf _ _ _ _ s hA (hI1.congr (fun kf hk => by rw [upA_ne (by omega), upA_ne (by omega), upA_ne (by omega)])) hM.1 (j := gk s x) hgk.1) hM.1.1 rfl rfl rfl hnx hR (by decide) (Nat.zero_le _) (Nat.zero_le _) rfl rfl dX5_sumOf_206 ?_
      refine rm_iast 21 (j := gk s x) g hM hbm rfl (by decide) rfl rfl (show gk s x < 400 by omega) dX5_sumOf_209 ?_
      intro h_4 hM
      refine r_aload_n g dX5_sumOf_210 rfl ?_
      refine rm_get g hM fX5_59 rfl dX5_sumOf_211 ?_
      refine r_bipush (v := 6) g dX5_sumOf_214 (by decide) ?_
      refine r_iload_n g dX5_sumOf_216 rfl ?_
      refine r_imul g dX5_sumOf_217 ?_
      refine r_topi (y := (nI (6 * c))) (pk_mul 6 c) ?_
      refine r_iload g dX5_sumOf_218 rfl ?_
      refine r_iadd g dX5_sumOf_220 ?_
      refine r_topi (y := (nI ((6 * c) + i))) (nI_add (6 * c) i) ?_
      refine r_iload g dX5_sumOf_221 rfl ?_
      refine rm_iast 22 (j := (6 * c) + i) g hM hbm rfl (by decide) rfl rfl (show 6 * c + i < 24 by omega) dX5_sumOf_223 ?_
      intro h_5 hM
      refine r_iinc (v := (nI (i + 1))) g dX5_sumOf_224 rfl (nI_add i 1) rfl rfl ?_
      refine r_goto 42 g dX5_sumOf_227 (by decide) ?_
      have hS3 : S + (gw s x * (tt + dist pl (gfr s x) * s.2.1 c 0) + (tt + dist pl (gfr s x) * s.2.1 c 0 + (3 + dist (gfr s x) (gto s x) * s.2.1 c 0))) + rowC (s.2.1 c 0) (gfr s) (gto s) (gw s) (gto s x) (tt + dist pl (gfr s x) * s.2.1 c 0 + (3 + dist (gfr s x) (gto s x) * s.2.1 c 0) + 3) (p.drop (i + 1)) = gcost s c p := by rw [hdr] at hS; rw [← hS]; exact Nat.add_assoc _ _ _
      refine r_le (ls2 := [some (.ref m), some (.int (nI c)), some (.int (nI p.length)), some (.int 1), some (.int (nI (s.1 1 + (tt + dist pl (gfr s x) * s.2.1 c 0 + (3 + dist (gfr s x) (gto s x) * s.2.1 c 0) + 3)))), some (.int (nI (gto s x))), some (.long (lN (S + (gw s x * (tt + dist pl (gfr s x) * s.2.1 c 0) + (tt + dist pl (gfr s x) * s.2.1 c 0 + (3 + dist (gfr s x) (gto s x) * s.2.1 c 0)))))), none, some (.int (nI (i + 1))), none, none, none]) ⟨rfl, rfl, rfl, rfl, congrArg (fun z => Value.int (nI z)) (by omega), rfl, rfl, rfl, trivial⟩ ?_
      exact ih (i + 1) (gto s x) (tt + dist pl (gfr s x) * s.2.1 c 0 + (3 + dist (gfr s x) (gto s x) * s.2.1 c 0) + 3) (S + (gw s x * (tt + dist pl (gfr s x) * s.2.1 c 0) + (tt + dist pl (gfr s x) * s.2.1 c 0 + (3 + dist (gfr s x) (gto s x) * s.2.1 c 0)))) _ _ hM (hW.step hx (fun q hq z => hnq q hq (gk_inj (hord q (by omega)).2 hxg z)) hE1) (by omega) hto (by omega) hS3 hE2
  refine r_aload_n g dX5_sumOf_0 rfl ?_
  refine rm_get g hM fX5_16 rfl dX5_sumOf_1 ?_
  refine r_iload_n g dX5_sumOf_4 rfl ?_
  refine rm_iald 6 (j := c) g hM rfl (by decide) rfl rfl (show c < 4 by omega) dX5_sumOf_5 ?_
  refine r_topi (y := (nI (s.2.1 c 2))) (hI.2.2.2.2.2.1 c hc).2.2.1 ?_
  refine r_aload_n g dX5_sumOf_6 rfl ?_
  refine rm_get g hM fX5_105 rfl dX5_sumOf_7 ?_
  refine r_topi (y := (nI (s.1 1))) hI.2.1 ?_
  refine r_icmp_le 22 g dX5_sumOf_10 (by decide) (fun c10 => ?_) (fun c10 => ?_)
  · skip
    have q := (nI_leI (by omega) (by omega)).mp c10
    have q9 : s.1 1 = s.1 1 + gdl s c := by unfold gdl; omega
    refine r_aload_n g dX5_sumOf_22 rfl ?_
    refine rm_get g hM fX5_105 rfl dX5_sumOf_23 ?_
    refine r_topi (y := (nI (s.1 1))) hI.2.1 ?_
    refine r_topi (y := (nI (s.1 1 + gdl s c))) (congrArg nI q9) ?_
    refine r_istore g dX5_sumOf_26 rfl rfl rfl ?_
    refine r_aload_n g dX5_sumOf_28 rfl ?_
    refine rm_get g hM fX5_13 rfl dX5_sumOf_29 ?_
    refine r_iload_n g dX5_sumOf_32 rfl ?_
    refine rm_iald 5 (j := c) g hM rfl (by decide) rfl rfl (show c < 4 by omega) dX5_sumOf_33 ?_
    refine r_topi (y := (nI (s.2.1 c 1))) (hI.2.2.2.2.2.1 c (by omega)).2.1 ?_
    refine r_istore g dX5_sumOf_34 rfl rfl rfl ?_
    refine r_lconst (v := 0) g dX5_sumOf_36 (by decide) ?_
    refine r_topl (y := lN 0) rfl ?_
    refine r_lstore g dX5_sumOf_37 rfl rfl rfl ?_
    refine r_iconst (v := 0) g dX5_sumOf_39 (by decide) ?_
    refine r_istore g dX5_sumOf_40 rfl rfl rfl ?_
    exact loop p.length 0 (s.2.1 c 1) (gdl s c) 0 A h hM ⟨fun _ _ => rfl, fun q hq => absurd hq (Nat.not_lt_zero _), fun _ _ => ⟨rfl, rfl, rfl, rfl⟩, fun _ _ => rfl⟩ (Nat.zero_add _) hcc.2.1 (by unfold gdl; omega) (Nat.zero_add _) (fun _ _ => rfl)
  · skip
    have q : ¬ s.2.1 c 2 ≤ s.1 1 := fun z => c10 (nI_le z (by omega))
    have q9 : s.2.1 c 2 = s.1 1 + gdl s c := gmax q
    refine r_aload_n g dX5_sumOf_13 rfl ?_
    refine rm_get g hM fX5_16 rfl dX5_sumOf_14 ?_
    refine r_iload_n g dX5_sumOf_17 rfl ?_
    refine rm_iald 6 (j := c) g hM rfl (by decide) rfl rfl (show c < 4 by omega) dX5_sumOf_18 ?_
    refine r_topi (y := (nI (s.2.1 c 2))) (hI.2.2.2.2.2.1 c hc).2.2.1 ?_
    refine r_goto 26 g dX5_sumOf_19 (by decide) ?_
    refine r_topi (y := (nI (s.1 1 + gdl s c))) (congrArg nI q9) ?_
    refine r_istore g dX5_sumOf_26 rfl rfl rfl ?_
    refine r_aload_n g dX5_sumOf_28 rfl ?_
    refine rm_get g hM fX5_13 rfl dX5_sumOf_29 ?_
    refine r_iload_n g dX5_sumOf_32 rfl ?_
    refine rm_iald 5 (j := c) g hM rfl (by decide) rfl rfl (show c < 4 by omega) dX5_sumOf_33 ?_
    refine r_topi (y := (nI (s.2.1 c 1))) (hI.2.2.2.2.2.1 c (by omega)).2.1 ?_
    refine r_istore g dX5_sumOf_34 rfl rfl rfl ?_
    refine r_lconst (v := 0) g dX5_sumOf_36 (by decide) ?_
    refine r_topl (y := lN 0) rfl ?_
    refine r_lstore g dX5_sumOf_37 rfl rfl rfl ?_
    refine r_iconst (v := 0) g dX5_sumOf_39 (by decide) ?_
    refine r_istore g dX5_sumOf_40 rfl rfl rfl ?_
    exact loop p.length 0 (s.2.1 c 1) (gdl s c) 0 A h hM ⟨fun _ _ => rfl, fun q hq => absurd hq (Nat.not_lt_zero _), fun _ _ => ⟨rfl, rfl, rfl, rfl⟩, fun _ _ => rfl⟩ (Nat.zero_add _) hcc.2.1 (by unfold gdl; omega) (Nat.zero_add _) (fun _ _ => rfl)
end
section
theorem s_l9 : ∀ n, n < 32 → ((nI n &&& 31).toBitVec.smod 32).toNat = n := by decide +kernel
theorem sh_n {S i : Nat} (hS : S < 2 ^ 31) (hi : i < 32) : nI S >>> (nI i &&& 31) = nI (S / 2 ^ i) := pk_shrN hS _ i (s_l9 i hi)
theorem and_1 {n : Nat} (h : n < 2 ^ 31) : nI n &&& 1 = nI (n % 2) := pk_andN (k := 1) (by omega) rfl
theorem tb_1 {S i : Nat} (h : S / 2 ^ i % 2 = 1) : S.testBit i = true := by rw [Nat.testBit_eq_decide_div_mod_eq, decide_eq_true h]
theorem tb_0 {S i : Nat} (h : ¬ S / 2 ^ i % 2 = 1) : S.testBit i = false := by rw [Nat.testBit_eq_decide_div_mod_eq, decide_eq_false h]
theorem elems_1 {S i : Nat} (h : S.testBit i = true) : elems S (i + 1) = elems S i ++ [i] := by
  unfold elems
  rw [List.range_succ, List.filter_append]
  simp [h]
theorem elems_0 {S i : Nat} (h : S.testBit i = false) : elems S (i + 1) = elems S i := by
  unfold elems
  rw [List.range_succ, List.filter_append]
  simp [h]
theorem elems_len (S : Nat) : ∀ n, (elems S n).length ≤ n
  | 0 => Nat.le_refl _
  | n + 1 => by
    have := elems_len S n
    by_cases h : S.testBit n = true
    · rw [elems_1 h, List.length_append]; simp; omega
    · rw [elems_0 (by simpa using h)]; omega
theorem elems_up {S n : Nat} (h : S < 2 ^ n) : ∀ k, elems S (n + k) = elems S n
  | 0 => rfl
  | k + 1 => by
    rw [← Nat.add_assoc, elems_0 (Nat.testBit_lt_two_pow (Nat.lt_of_lt_of_le h (Nat.pow_le_pow_right (by decide) (by omega)))), elems_up h k]
theorem elems_6 {S n : Nat} (h : S < 2 ^ n) (hn : n ≤ 6) : elems S n = elems S 6 := by
  have := elems_up h (6 - n)
  rw [show n + (6 - n) = 6 by omega] at this
  exact this.symm
theorem getD_app {l : List Nat} {x q : Nat} : (l ++ [x]).getD q 0 = if q < l.length then l.getD q 0 else if q = l.length then x else 0 := by
  rw [List.getD_eq_getElem?_getD, List.getD_eq_getElem?_getD]
  by_cases h : q < l.length
  · rw [if_pos h, List.getElem?_append_left h]
  · rw [if_neg h, List.getElem?_append_right (by omega)]
    by_cases h2 : q = l.length
    · subst h2; simp
    · rw [if_neg h2, List.getElem?_eq_none (by simp; omega)]; rfl
def fI (f : Nat) : Int32 := if f = 6 then -1 else nI f
theorem firstF_1 {s : AS} {c S n : Nat} (h : S.testBit n = true ∧ s.2.2 (gk s n) 5 = c) : firstF s c S (n + 1) = n := if_pos h
theorem firstF_0 {s : AS} {c S n : Nat} (h : ¬ (S.testBit n = true ∧ s.2.2 (gk s n) 5 = c)) : firstF s c S (n + 1) = firstF s c S n := if_neg h
theorem firstF_at (s : AS) (c S : Nat) : ∀ n, n ≤ 6 → firstF s c S n = 6 ∨ (firstF s c S n < n ∧ S.testBit (firstF s c S n) = true ∧ s.2.2 (gk s (firstF s c S n)) 5 = c)
  | 0, _ => Or.inl rfl
  | n + 1, h => by
    unfold firstF
    by_cases q : S.testBit n = true ∧ s.2.2 (gk s n) 5 = c
    · rw [if_pos q]; exact Or.inr ⟨by omega, q.1, q.2⟩
    · rw [if_neg q]
      rcases firstF_at s c S n (by omega) with z | z
      · exact Or.inl z
      · exact Or.inr ⟨by omega, z.2⟩
theorem ne_of_bit : ∀ S, S < 64 → ∀ f, f < 6 → S.testBit f = true → 0 < (elems S 6).length := by decide +kernel
theorem lc_lt {a b : Int64} : lg_cmp a b < 0 ↔ ¬ b ≤ a := by
  rw [← lg_cmp_ge, Int32.not_le]
/-- what stands for a best row in best and bestRows -/
def Rp (A1 : Nat → Nat → Int32) (B1 : Nat → Int64) (t : Nat) (a : Option (Nat × List Nat)) : Prop := match a with
  | none => B1 t = -1
  | some b => B1 t = lN b.1 ∧ b.1 < 2 ^ 62 ∧ ∀ i, i < b.2.length → A1 28 (6 * t + i) = nI (b.2.getD i 0)
/-- nothing but order, the row at t, its best -/
def FrR (A : Nat → Nat → Int32) (B : Nat → Int64) (A1 : Nat → Nat → Int32) (B1 : Nat → Int64) (t : Nat) : Prop := (∀ kf, kf ≠ 28 → kf ≠ 29 → A1 kf = A kf) ∧ (∀ j, (j < 6 * t ∨ 6 * t + 6 ≤ j) → A1 28 j = A 28 j) ∧ ∀ j, j ≠ t → B1 j = B j
theorem rowC_le {s : AS} (hA : AI s) {c : Nat} (hc : c < s.1 2) : ∀ (p : List Nat) (pl tt : Nat), pl < s.1 0 → tt + 600 * p.length ≤ 104000 → (∀ x, x ∈ p → x < gn s) → rowC (s.2.1 c 0) (gfr s) (gto s) (gw s) pl tt p ≤ p.length * 2000000000
  | [], _, _, _, _, _ => Nat.zero_le _
  | x :: r, pl, tt, hpl, htt, hx => by
    have hxg := hx x List.mem_cons_self
    have hkk := hA.2.2.2.2.2.1 _ (gk_at hxg).1
    have hcc := hA.2.2.2.2.1 c hc
    have hf : gfr s x < s.1 0 := hkk.1
    have hto : gto s x < s.1 0 := hkk.2.1
    have hd1 := dsp (sp := s.2.1 c 0) hA.1.2 hpl hf hcc.1.2
    have hd2 := dsp (sp := s.2.1 c 0) hA.1.2 hf hto hcc.1.2
    have hwg : gw s x ≤ 13336 := wgt_le hA _
    rw [List.length_cons] at htt
    have ih := rowC_le hA hc r (gto s x) (tt + dist pl (gfr s x) * s.2.1 c 0 + (3 + dist (gfr s x) (gto s x) * s.2.1 c 0) + 3) hto (by omega) (fun y hy => hx y (List.mem_cons_of_mem _ hy))
    have hm : gw s x * (tt + dist pl (gfr s x) * s.2.1 c 0) ≤ 13336 * 105000 := Nat.mul_le_mul hwg (by omega)
    rw [List.length_cons]
    show _ + _ ≤ _
    omega
theorem gcost_lt {s : AS} (hA : AI s) {c : Nat} (hc : c < s.1 2) {p : List Nat} (hp : p.length ≤ 6) (hx : ∀ x, x ∈ p → x < gn s) : gcost s c p < 2 ^ 40 := by
  have hcc := hA.2.2.2.2.1 c hc
  have := rowC_le hA hc p (s.2.1 c 1) (gdl s c) hcc.2.1 (by unfold gdl; omega) hx
  unfold gcost
  omega
theorem nxtL_some {p q : List Nat} (h : nxtL p = some q) : ∃ o, nxtF (fun i => p.getD i 0) p.length = some o ∧ ∀ i, i < p.length → q.getD i 0 = o i := by
  unfold nxtL at h
  cases ho : nxtF (fun i => p.getD i 0) p.length with
  | none => rw [ho] at h; cases h
  | some o =>
    rw [ho] at h
    refine ⟨o, rfl, fun i hi => ?_⟩
    have h2 := Option.some.inj h
    rw [← h2, List.getD_eq_getElem?_getD, List.getElem?_map, List.getElem?_range hi]
    rfl
theorem nxtL_none {p : List Nat} (h : nxtL p = none) : nxtF (fun i => p.getD i 0) p.length = none := by
  unfold nxtL at h
  cases ho : nxtF (fun i => p.getD i 0) p.length with
  | none => rfl
  | some o => rw [ho] at h; cases h
theorem mem_getD {p : List Nat} {i : Nat} (h : i < p.length) : p.getD i 0 ∈ p := by
  rw [List.getD_eq_getElem?_getD, List.getElem?_eq_getElem h]
  exact List.getElem_mem h
theorem bit_lt {S n x : Nat} (hS : S < 2 ^ n) (h : S.testBit x = true) : x < n := by
  rcases Nat.lt_or_ge x n with q | q
  · exact q
  · rw [Nat.testBit_lt_two_pow (Nat.lt_of_lt_of_le hS (Nat.pow_le_pow_right (by decide) q))] at h
    cases h
set_option maxHeartbeats 4000000 in
set_option maxRecDepth 100000 in
theorem ok_m_findRows (l : Launch) (G : Nat → ClassId) (D : va_G) (base : Nat) {h0 : Hp} {nx m : Nat} {F : Nat → Int32} {A : Nat → Nat → Int32} {B : Nat → Int64} (s : AS) (hA : AI s) (hP : P1 F A s) {c S : Nat} (hc : c < s.1 2) (hS : S < 2 ^ gn s) (hM : MO h0 m F A B) (hbm : base ≤ m) : MetP l G D base miX5_findRows 3 0 0 [.ref m, .int (nI c), .int (nI S)] h0 nx (fun v h' nx' => v = none ∧ nx = nx' ∧ ∃ A1 B1, MS h0 h' m F A1 B1 ∧ FrR A B A1 B1 (64 * c + S) ∧ Rp A1 B1 (64 * c + S) (gbest s c S)) := by
  refine MetP_of (by decide +kernel) rfl ?_
  intro k g hr hR hcl hcg hcd hcb hcn hnx
  subst hcl; subst hcg; subst hcd; subst hcb
  have hM := MS.rf hM
  obtain ⟨h, hh⟩ : ∃ z, z = h0 := ⟨_, rfl⟩
  rw [← hh]
  have hM : MS h0 h m F A B := by rw [hh]; exact hM
  have hI := hP.1
  obtain ⟨⟨hn1, hn2⟩, ht, hnc, hN, -⟩ := id hA
  have hg6 := gn_le hA
  have hS64 : S < 64 := Nat.lt_of_lt_of_le hS (Nat.pow_le_pow_right (n := 2) (by decide) hg6)
  show Sf k 0 0 h nx 0 [some (.ref m), some (.int (nI c)), some (.int (nI S)), none, none, none, none, none, none, none] []
  have loop2 : ∀ (ff n6 : Nat) (rest : List (List Nat)) (p : List Nat) (a : Option (Nat × List Nat)) (A1 : Nat → Nat → Int32) (B1 : Nat → Int64) (h : Hp), MS h0 h m F A1 B1 → FrR A B A1 B1 (64 * c + S) → Rp A1 B1 (64 * c + S) a → chainB (p :: rest) = true → (∀ q, q ∈ p :: rest → q.length = n6 ∧ ∀ x ∈ q, x < gn s) → (∀ q, q < p.length → A1 29 q = nI (p.getD q 0)) → brs (gcost s c) (okF ff) (p :: rest) a = gbest s c S → (ff = 6 ∨ ff < 6 ∧ 0 < n6) → n6 ≤ 6 → Sf k 0 0 h nx 90 [some (.ref m), some (.int (nI c)), some (.int (nI S)), some (.int (nI p.length)), some (.int (fI ff)), some (.int (nI (64 * c + S))), some (.int 1), none, none, none] [] := by
    intro ff n6 rest
    induction rest with
    | nil =>
      intro p a A1 B1 h hM hF hRp hch hl hord hbr hff hn66
      have hpl := (hl p List.mem_cons_self).1
      have hpg := (hl p List.mem_cons_self).2
      have hP1 : P1 F A1 s := hP.congr (fun kf hk => hF.1 kf (by omega) (by omega))
      have hcz := gcost_lt hA hc (by omega) hpg
      have turn : ∀ (a2 : Option (Nat × List Nat)) (A2 : Nat → Nat → Int32) (B2 : Nat → Int64) (h : Hp) (z9 : List (Option Value)), MS h0 h m F A2 B2 → FrR A B A2 B2 (64 * c + S) → Rp A2 B2 (64 * c + S) a2 → (∀ q, q < p.length → A2 29 q = nI (p.getD q 0)) → brs (gcost s c) (okF ff) [] a2 = gbest s c S → Sf k 0 0 h nx 189 [some (.ref m), some (.int (nI c)), some (.int (nI S)), some (.int (nI p.length)), some (.int (fI ff)), some (.int (nI (64 * c + S))), some (.int 1), none, none, none] [] := by
        intro a2 A2 B2 h _ hM hF hRp hord hbr
        refine r_aload_n g dX5_findRows_189 rfl ?_
        refine r_iload_n g dX5_findRows_190 rfl ?_
        refine r_callV g kX5_139 (ok_m_nextOrder _ _ _ _ hM.1 hbm (n := p.length) (o := fun i => p.getD i 0) (by omega) (fun q hq => ⟨hord q hq, by have := hpg _ (mem_getD hq); show p.getD q 0 < 2 ^ 31; omega⟩)) hM.1.1 rfl rfl rfl hnx hR (by decide) (Nat.zero_le _) (Nat.zero_le _) rfl rfl dX5_findRows_191 ?_
        rintro v9 h_1 nx9 ⟨rfl, f9, hM9, hv9⟩ -
        have hM := hM.then hM9
        have hno := nxtL_none (of_decide_eq_true hch)
        rw [hno] at hv9
        subst hv9
        refine r_istore g dX5_findRows_194 rfl rfl rfl ?_
        refine r_goto 90 g dX5_findRows_196 (by decide) ?_
        refine r_iload g dX5_findRows_90 rfl ?_
        refine r_if_eq 199 g dX5_findRows_92 (by decide) (fun c92 => ?_) (fun c92 => absurd c92 (by decide))
        exact r_vret g hr (Nat.le_refl _) (Nat.le_refl _) dX5_findRows_199 ⟨rfl, rfl, upA A2 29 f9, B2, hM, ⟨fun kf h1 h2 => (upA_ne h2).trans (hF.1 kf h1 h2), hF.2⟩, by rw [← hbr]; exact hRp⟩
      rw [brs_cons] at hbr
      have bad : okF ff p = false → Sf k 0 0 h nx 189 [some (.ref m), some (.int (nI c)), some (.int (nI S)), some (.int (nI p.length)), some (.int (fI ff)), some (.int (nI (64 * c + S))), some (.int 1), none, none, none] [] := by
        intro hok
        rw [if_neg (by rw [hok]; decide)] at hbr
        exact turn a A1 B1 h [] hM hF hRp hord hbr
      have good : okF ff p = true → Sf k 0 0 h nx 111 [some (.ref m), some (.int (nI c)), some (.int (nI S)), some (.int (nI p.length)), some (.int (fI ff)), some (.int (nI (64 * c + S))), some (.int 1), none, none, none] [] := by
        intro hok
        rw [if_pos hok] at hbr
        have take : ∀ (h : Hp), MS h0 h m F A1 B1 → brs (gcost s c) (okF ff) [] (some (gcost s c p, p)) = gbest s c S → Sf k 0 0 h nx 145 [some (.ref m), some (.int (nI c)), some (.int (nI S)), some (.int (nI p.length)), some (.int (fI ff)), some (.int (nI (64 * c + S))), some (.int 1), some (.long (lN (gcost s c p))), none, none] [] := by
          intro h hM hbr
          have loop3 : ∀ e i (f : Nat → Int32) (h : Hp), MS h0 h m F (upA A1 28 f) (vp_updL B1 (64 * c + S) (lN (gcost s c p))) → i + e = p.length → (∀ q, q < i → f (6 * (64 * c + S) + q) = nI (p.getD q 0)) → (∀ j, (j < 6 * (64 * c + S) ∨ 6 * (64 * c + S) + 6 ≤ j) → f j = A 28 j) → Sf k 0 0 h nx 157 [some (.ref m), some (.int (nI c)), some (.int (nI S)), some (.int (nI p.length)), some (.int (fI ff)), some (.int (nI (64 * c + S))), some (.int 1), some (.long (lN (gcost s c p))), none, some (.int (nI i))] [] := by
            intro e
            induction e with
            | zero =>
              intro i f h hM hi hf1 hf2
              refine r_iload g dX5_findRows_157 rfl ?_
              refine r_iload_n g dX5_findRows_159 rfl ?_
              refine r_icmp_ge 189 g dX5_findRows_160 (by decide) (fun c160 => ?_) (fun c160 => absurd (nI_le (by omega) (by omega)) c160)
              refine r_le (ls2 := [some (.ref m), some (.int (nI c)), some (.int (nI S)), some (.int (nI p.length)), some (.int (fI ff)), some (.int (nI (64 * c + S))), some (.int 1), none, none, none]) ⟨rfl, rfl, rfl, rfl, rfl, rfl, rfl, trivial⟩ ?_
              exact turn (some (gcost s c p, p)) _ _ h [] hM ⟨fun kf h1 h2 => (upA_ne h1).trans (hF.1 kf h1 h2), hf2, fun j hj => (pk_uLn hj).trans (hF.2.2 j hj)⟩ ⟨pk_uLs, by show gcost s c p < 2 ^ 62; omega, fun i2 hi2 => hf1 i2 (by have hi3 : i2 < p.length := hi2; omega)⟩ hord hbr
            | succ e ih3 =>
              intro i f h hM hi hf1 hf2
              refine r_iload g dX5_findRows_157 rfl ?_
              refine r_iload_n g dX5_findRows_159 rfl ?_
              refine r_icmp_ge 189 g dX5_findRows_160 (by decide) (fun c160 => absurd c160 (nI_ge (by omega) (by omega))) (fun c160 => ?_)
              refine r_aload_n g dX5_findRows_163 rfl ?_
              refine rm_get g hM fX5_75 rfl dX5_findRows_164 ?_
              refine r_bipush (v := 6) g dX5_findRows_167 (by decide) ?_
              refine r_iload g dX5_findRows_169 rfl ?_
              refine r_imul g dX5_findRows_171 ?_
              refine r_topi (y := (nI (6 * (64 * c + S)))) (pk_mul 6 (64 * c + S)) ?_
              refine r_iload g dX5_findRows_172 rfl ?_
              refine r_iadd g dX5_findRows_174 ?_
              refine r_topi (y := (nI ((6 * (64 * c + S)) + i))) (nI_add (6 * (64 * c + S)) i) ?_
              refine r_aload_n g dX5_findRows_175 rfl ?_
              refine rm_get g hM fX5_78 rfl dX5_findRows_176 ?_
              refine r_iload g dX5_findRows_179 rfl ?_
              refine rm_iald 29 (j := i) g hM rfl (by decide) rfl rfl (show i < 6 by omega) dX5_findRows_181 ?_
              refine r_topi (y := (nI (p.getD i 0))) (hord i (by omega)) ?_
              refine rm_iast 28 (j := (6 * (64 * c + S)) + i) g hM hbm rfl (by decide) rfl rfl (show 6 * (64 * c + S) + i < 1536 by omega) dX5_findRows_182 ?_
              intro h_2 hM
              refine r_iinc (v := (nI (i + 1))) g dX5_findRows_183 rfl (nI_add i 1) rfl rfl ?_
              refine r_goto 157 g dX5_findRows_186 (by decide) ?_
              simp only [upA_upA, upA_eq] at hM
              exact ih3 (i + 1) _ _ hM (by omega) (fun q hq => by
                by_cases e9 : q = i
                · subst e9; exact pk_us
                · exact (pk_un (by omega)).trans (hf1 q (by omega))) (fun j hj => (pk_un (by omega)).trans (hf2 j hj))
          refine r_aload_n g dX5_findRows_145 rfl ?_
          refine rm_get g hM fX5_71 rfl dX5_findRows_146 ?_
          refine r_iload g dX5_findRows_149 rfl ?_
          refine r_lload g dX5_findRows_151 rfl ?_
          refine rm_last (j := 64 * c + S) g hM hbm rfl (show 64 * c + S < 256 by omega) dX5_findRows_153 ?_
          intro h_3 hM
          refine r_iconst (v := 0) g dX5_findRows_154 (by decide) ?_
          refine r_istore g dX5_findRows_155 rfl rfl rfl ?_
          exact loop3 p.length 0 (A1 28) _ (by rw [upA_self]; exact hM) (Nat.zero_add _) (fun q hq => absurd hq (Nat.not_lt_zero _)) (fun j hj => hF.2.1 j hj)
        cases a with
        | none =>
          refine r_aload_n g dX5_findRows_111 rfl ?_
          refine r_iload_n g dX5_findRows_112 rfl ?_
          refine r_iload_n g dX5_findRows_113 rfl ?_
          refine r_iconst (v := 0) g dX5_findRows_114 (by decide) ?_
          refine r_pV g kX5_135 (ok_m_sumOf0 _ _ _ _ s hA hP1 hc (p := p) (by omega) (fun q hq => ⟨hord q hq, hpg _ (mem_getD hq)⟩) hM.1) hM.1.1 rfl rfl rfl hnx hR (by decide) (Nat.zero_le _) (Nat.zero_le _) rfl rfl dX5_findRows_115 ?_
          refine r_lstore g dX5_findRows_118 rfl rfl rfl ?_
          refine r_aload_n g dX5_findRows_120 rfl ?_
          refine rm_get g hM fX5_71 rfl dX5_findRows_121 ?_
          refine r_iload g dX5_findRows_124 rfl ?_
          refine rm_lald (j := 64 * c + S) g hM rfl (show 64 * c + S < 256 by omega) dX5_findRows_126 ?_
          refine r_topl (y := (-1)) hRp ?_
          refine r_lconst (v := 0) g dX5_findRows_127 (by decide) ?_
          refine r_lcmp g dX5_findRows_128 ?_
          refine r_if_lt 145 g dX5_findRows_129 (by decide) (fun c129 => ?_) (fun c129 => absurd (show lg_cmp (-1) 0 < 0 by decide) c129)
          exact take h hM hbr
        | some b =>
          rw [bst_s] at hbr
          refine r_aload_n g dX5_findRows_111 rfl ?_
          refine r_iload_n g dX5_findRows_112 rfl ?_
          refine r_iload_n g dX5_findRows_113 rfl ?_
          refine r_iconst (v := 0) g dX5_findRows_114 (by decide) ?_
          refine r_pV g kX5_135 (ok_m_sumOf0 _ _ _ _ s hA hP1 hc (p := p) (by omega) (fun q hq => ⟨hord q hq, hpg _ (mem_getD hq)⟩) hM.1) hM.1.1 rfl rfl rfl hnx hR (by decide) (Nat.zero_le _) (Nat.zero_le _) rfl rfl dX5_findRows_115 ?_
          refine r_lstore g dX5_findRows_118 rfl rfl rfl ?_
          refine r_aload_n g dX5_findRows_120 rfl ?_
          refine rm_get g hM fX5_71 rfl dX5_findRows_121 ?_
          refine r_iload g dX5_findRows_124 rfl ?_
          refine rm_lald (j := 64 * c + S) g hM rfl (show 64 * c + S < 256 by omega) dX5_findRows_126 ?_
          refine r_topl (y := (lN b.1)) hRp.1 ?_
          refine r_lconst (v := 0) g dX5_findRows_127 (by decide) ?_
          refine r_lcmp g dX5_findRows_128 ?_
          refine r_if_lt 145 g dX5_findRows_129 (by decide) (fun c129 => absurd ((pk_lLE (a := 0) (by omega) (by have := hRp.2.1; omega)).mpr (Nat.zero_le _)) (lc_lt.mp c129)) (fun c129 => ?_)
          refine r_lload g dX5_findRows_132 rfl ?_
          refine r_aload_n g dX5_findRows_134 rfl ?_
          refine rm_get g hM fX5_71 rfl dX5_findRows_135 ?_
          refine r_iload g dX5_findRows_138 rfl ?_
          refine rm_lald (j := 64 * c + S) g hM rfl (show 64 * c + S < 256 by omega) dX5_findRows_140 ?_
          refine r_topl (y := (lN b.1)) hRp.1 ?_
          refine r_lcmp g dX5_findRows_141 ?_
          refine r_if_ge 189 g dX5_findRows_142 (by decide) (fun c142 => ?_) (fun c142 => ?_)
          · skip
            have q : ¬ gcost s c p < b.1 := fun z => absurd ((lg_cmp_ge _ _).mp c142) (by rw [pk_lLE (by have := hRp.2.1; omega) (by omega)]; omega)
            rw [if_neg q] at hbr
            refine r_le (ls2 := [some (.ref m), some (.int (nI c)), some (.int (nI S)), some (.int (nI p.length)), some (.int (fI ff)), some (.int (nI (64 * c + S))), some (.int 1), none, none, none]) ⟨rfl, rfl, rfl, rfl, rfl, rfl, rfl, trivial⟩ ?_
            exact turn (some b) A1 B1 h [] hM hF hRp hord hbr
          · skip
            have q : gcost s c p < b.1 := Nat.lt_of_not_le (fun z => c142 ((lg_cmp_ge _ _).mpr ((pk_lLE (by have := hRp.2.1; omega) (by omega)).mpr z)))
            rw [if_pos q] at hbr
            exact take h hM hbr
      rcases hff with hff | ⟨hff, hn6⟩
      · subst hff
        refine r_le (ls2 := [some (.ref m), some (.int (nI c)), some (.int (nI S)), some (.int (nI p.length)), some (.int (-1)), some (.int (nI (64 * c + S))), some (.int 1), none, none, none]) ⟨rfl, rfl, rfl, rfl, rfl, rfl, rfl, trivial⟩ ?_
        refine r_iload g dX5_findRows_90 rfl ?_
        refine r_if_eq 199 g dX5_findRows_92 (by decide) (fun c92 => absurd c92 (by decide)) (fun c92 => ?_)
        refine r_iload g dX5_findRows_95 rfl ?_
        refine r_if_lt 111 g dX5_findRows_97 (by decide) (fun c97 => ?_) (fun c97 => absurd (show (-1 : Int32) < 0 by decide) c97)
        exact good rfl
      · skip
        have hfe : fI ff = nI ff := if_neg (by omega)
        have hp0 := hpg _ (mem_getD (p := p) (i := 0) (by omega))
        rw [hfe] at good bad ⊢
        refine r_iload g dX5_findRows_90 rfl ?_
        refine r_if_eq 199 g dX5_findRows_92 (by decide) (fun c92 => absurd c92 (by decide)) (fun c92 => ?_)
        refine r_iload g dX5_findRows_95 rfl ?_
        refine r_if_lt 111 g dX5_findRows_97 (by decide) (fun c97 => absurd c97 (nI_pos (by omega))) (fun c97 => ?_)
        refine r_aload_n g dX5_findRows_100 rfl ?_
        refine rm_get g hM fX5_78 rfl dX5_findRows_101 ?_
        refine r_iconst (v := 0) g dX5_findRows_104 (by decide) ?_
        refine rm_iald 29 (j := 0) g hM rfl (by decide) rfl rfl (show 0 < 6 by omega) dX5_findRows_105 ?_
        refine r_topi (y := (nI (p.getD 0 0))) (hord 0 (by omega)) ?_
        refine r_iload g dX5_findRows_106 rfl ?_
        refine r_icmp_ne 189 g dX5_findRows_108 (by decide) (fun c108 => ?_) (fun c108 => ?_)
        · skip
          have q : ¬ p.getD 0 0 = ff := fun z => c108 (by rw [z])
          exact bad (by unfold okF; rw [decide_eq_false q, decide_eq_false (by omega)]; rfl)
        · skip
          have q := (nI_c (by omega) (by omega)).mp c108
          exact good (by unfold okF; rw [decide_eq_true q, Bool.or_true])
    | cons q9 rest ih =>
      intro p a A1 B1 h hM hF hRp hch hl hord hbr hff hn66
      have hpl := (hl p List.mem_cons_self).1
      have hpg := (hl p List.mem_cons_self).2
      have hP1 : P1 F A1 s := hP.congr (fun kf hk => hF.1 kf (by omega) (by omega))
      have hcz := gcost_lt hA hc (by omega) hpg
      have turn : ∀ (a2 : Option (Nat × List Nat)) (A2 : Nat → Nat → Int32) (B2 : Nat → Int64) (h : Hp) (z9 : List (Option Value)), MS h0 h m F A2 B2 → FrR A B A2 B2 (64 * c + S) → Rp A2 B2 (64 * c + S) a2 → (∀ q, q < p.length → A2 29 q = nI (p.getD q 0)) → brs (gcost s c) (okF ff) (q9 :: rest) a2 = gbest s c S → Sf k 0 0 h nx 189 [some (.ref m), some (.int (nI c)), some (.int (nI S)), some (.int (nI p.length)), some (.int (fI ff)), some (.int (nI (64 * c + S))), some (.int 1), none, none, none] [] := by
        intro a2 A2 B2 h _ hM hF hRp hord hbr
        refine r_aload_n g dX5_findRows_189 rfl ?_
        refine r_iload_n g dX5_findRows_190 rfl ?_
        refine r_callV g kX5_139 (ok_m_nextOrder _ _ _ _ hM.1 hbm (n := p.length) (o := fun i => p.getD i 0) (by omega) (fun q hq => ⟨hord q hq, by have := hpg _ (mem_getD hq); show p.getD q 0 < 2 ^ 31; omega⟩)) hM.1.1 rfl rfl rfl hnx hR (by decide) (Nat.zero_le _) (Nat.zero_le _) rfl rfl dX5_findRows_191 ?_
        rintro v9 h_4 nx9 ⟨rfl, f9, hM9, hv9⟩ -
        have hM := hM.then hM9
        have hch2 : decide (nxtL p = some q9) = true ∧ chainB (q9 :: rest) = true := by rw [← Bool.and_eq_true]; exact hch
        obtain ⟨o9, ho9, hq9⟩ := nxtL_some (of_decide_eq_true hch2.1)
        rw [ho9] at hv9
        obtain ⟨rfl, hf9⟩ := hv9
        refine r_istore g dX5_findRows_194 rfl rfl rfl ?_
        refine r_goto 90 g dX5_findRows_196 (by decide) ?_
        have hlq := hl q9 (List.mem_cons_of_mem _ List.mem_cons_self)
        rw [show p.length = q9.length by rw [hpl, hlq.1]]
        exact ih q9 a2 _ B2 _ hM ⟨fun kf h1 h2 => (upA_ne h2).trans (hF.1 kf h1 h2), hF.2⟩ hRp hch2.2 (fun q hq => hl q (List.mem_cons_of_mem _ hq)) (fun q hq => (hf9 q (by rw [hpl, ← hlq.1]; exact hq)).trans (congrArg nI (hq9 q (by rw [hpl, ← hlq.1]; exact hq)).symm)) hbr hff hn66
      rw [brs_cons] at hbr
      have bad : okF ff p = false → Sf k 0 0 h nx 189 [some (.ref m), some (.int (nI c)), some (.int (nI S)), some (.int (nI p.length)), some (.int (fI ff)), some (.int (nI (64 * c + S))), some (.int 1), none, none, none] [] := by
        intro hok
        rw [if_neg (by rw [hok]; decide)] at hbr
        exact turn a A1 B1 h [] hM hF hRp hord hbr
      have good : okF ff p = true → Sf k 0 0 h nx 111 [some (.ref m), some (.int (nI c)), some (.int (nI S)), some (.int (nI p.length)), some (.int (fI ff)), some (.int (nI (64 * c + S))), some (.int 1), none, none, none] [] := by
        intro hok
        rw [if_pos hok] at hbr
        have take : ∀ (h : Hp), MS h0 h m F A1 B1 → brs (gcost s c) (okF ff) (q9 :: rest) (some (gcost s c p, p)) = gbest s c S → Sf k 0 0 h nx 145 [some (.ref m), some (.int (nI c)), some (.int (nI S)), some (.int (nI p.length)), some (.int (fI ff)), some (.int (nI (64 * c + S))), some (.int 1), some (.long (lN (gcost s c p))), none, none] [] := by
          intro h hM hbr
          have loop3 : ∀ e i (f : Nat → Int32) (h : Hp), MS h0 h m F (upA A1 28 f) (vp_updL B1 (64 * c + S) (lN (gcost s c p))) → i + e = p.length → (∀ q, q < i → f (6 * (64 * c + S) + q) = nI (p.getD q 0)) → (∀ j, (j < 6 * (64 * c + S) ∨ 6 * (64 * c + S) + 6 ≤ j) → f j = A 28 j) → Sf k 0 0 h nx 157 [some (.ref m), some (.int (nI c)), some (.int (nI S)), some (.int (nI p.length)), some (.int (fI ff)), some (.int (nI (64 * c + S))), some (.int 1), some (.long (lN (gcost s c p))), none, some (.int (nI i))] [] := by
            intro e
            induction e with
            | zero =>
              intro i f h hM hi hf1 hf2
              refine r_iload g dX5_findRows_157 rfl ?_
              refine r_iload_n g dX5_findRows_159 rfl ?_
              refine r_icmp_ge 189 g dX5_findRows_160 (by decide) (fun c160 => ?_) (fun c160 => absurd (nI_le (by omega) (by omega)) c160)
              refine r_le (ls2 := [some (.ref m), some (.int (nI c)), some (.int (nI S)), some (.int (nI p.length)), some (.int (fI ff)), some (.int (nI (64 * c + S))), some (.int 1), none, none, none]) ⟨rfl, rfl, rfl, rfl, rfl, rfl, rfl, trivial⟩ ?_
              exact turn (some (gcost s c p, p)) _ _ h [] hM ⟨fun kf h1 h2 => (upA_ne h1).trans (hF.1 kf h1 h2), hf2, fun j hj => (pk_uLn hj).trans (hF.2.2 j hj)⟩ ⟨pk_uLs, by show gcost s c p < 2 ^ 62; omega, fun i2 hi2 => hf1 i2 (by have hi3 : i2 < p.length := hi2; omega)⟩ hord hbr
            | succ e ih3 =>
              intro i f h hM hi hf1 hf2
              refine r_iload g dX5_findRows_157 rfl ?_
              refine r_iload_n g dX5_findRows_159 rfl ?_
              refine r_icmp_ge 189 g dX5_findRows_160 (by decide) (fun c160 => absurd c160 (nI_ge (by omega) (by omega))) (fun c160 => ?_)
              refine r_aload_n g dX5_findRows_163 rfl ?_
              refine rm_get g hM fX5_75 rfl dX5_findRows_164 ?_
              refine r_bipush (v := 6) g dX5_findRows_167 (by decide) ?_
              refine r_iload g dX5_findRows_169 rfl ?_
              refine r_imul g dX5_findRows_171 ?_
              refine r_topi (y := (nI (6 * (64 * c + S)))) (pk_mul 6 (64 * c + S)) ?_
              refine r_iload g dX5_findRows_172 rfl ?_
              refine r_iadd g dX5_findRows_174 ?_
              refine r_topi (y := (nI ((6 * (64 * c + S)) + i))) (nI_add (6 * (64 * c + S)) i) ?_
              refine r_aload_n g dX5_findRows_175 rfl ?_
              refine rm_get g hM fX5_78 rfl dX5_findRows_176 ?_
              refine r_iload g dX5_findRows_179 rfl ?_
              refine rm_iald 29 (j := i) g hM rfl (by decide) rfl rfl (show i < 6 by omega) dX5_findRows_181 ?_
              refine r_topi (y := (nI (p.getD i 0))) (hord i (by omega)) ?_
              refine rm_iast 28 (j := (6 * (64 * c + S)) + i) g hM hbm rfl (by decide) rfl rfl (show 6 * (64 * c + S) + i < 1536 by omega) dX5_findRows_182 ?_
              intro h_5 hM
              refine r_iinc (v := (nI (i + 1))) g dX5_findRows_183 rfl (nI_add i 1) rfl rfl ?_
              refine r_goto 157 g dX5_findRows_186 (by decide) ?_
              simp only [upA_upA, upA_eq] at hM
              exact ih3 (i + 1) _ _ hM (by omega) (fun q hq => by
                by_cases e9 : q = i
                · subst e9; exact pk_us
                · exact (pk_un (by omega)).trans (hf1 q (by omega))) (fun j hj => (pk_un (by omega)).trans (hf2 j hj))
          refine r_aload_n g dX5_findRows_145 rfl ?_
          refine rm_get g hM fX5_71 rfl dX5_findRows_146 ?_
          refine r_iload g dX5_findRows_149 rfl ?_
          refine r_lload g dX5_findRows_151 rfl ?_
          refine rm_last (j := 64 * c + S) g hM hbm rfl (show 64 * c + S < 256 by omega) dX5_findRows_153 ?_
          intro h_6 hM
          refine r_iconst (v := 0) g dX5_findRows_154 (by decide) ?_
          refine r_istore g dX5_findRows_155 rfl rfl rfl ?_
          exact loop3 p.length 0 (A1 28) _ (by rw [upA_self]; exact hM) (Nat.zero_add _) (fun q hq => absurd hq (Nat.not_lt_zero _)) (fun j hj => hF.2.1 j hj)
        cases a with
        | none =>
          refine r_aload_n g dX5_findRows_111 rfl ?_
          refine r_iload_n g dX5_findRows_112 rfl ?_
          refine r_iload_n g dX5_findRows_113 rfl ?_
          refine r_iconst (v := 0) g dX5_findRows_114 (by decide) ?_
          refine r_pV g kX5_135 (ok_m_sumOf0 _ _ _ _ s hA hP1 hc (p := p) (by omega) (fun q hq => ⟨hord q hq, hpg _ (mem_getD hq)⟩) hM.1) hM.1.1 rfl rfl rfl hnx hR (by decide) (Nat.zero_le _) (Nat.zero_le _) rfl rfl dX5_findRows_115 ?_
          refine r_lstore g dX5_findRows_118 rfl rfl rfl ?_
          refine r_aload_n g dX5_findRows_120 rfl ?_
          refine rm_get g hM fX5_71 rfl dX5_findRows_121 ?_
          refine r_iload g dX5_findRows_124 rfl ?_
          refine rm_lald (j := 64 * c + S) g hM rfl (show 64 * c + S < 256 by omega) dX5_findRows_126 ?_
          refine r_topl (y := (-1)) hRp ?_
          refine r_lconst (v := 0) g dX5_findRows_127 (by decide) ?_
          refine r_lcmp g dX5_findRows_128 ?_
          refine r_if_lt 145 g dX5_findRows_129 (by decide) (fun c129 => ?_) (fun c129 => absurd (show lg_cmp (-1) 0 < 0 by decide) c129)
          exact take h hM hbr
        | some b =>
          rw [bst_s] at hbr
          refine r_aload_n g dX5_findRows_111 rfl ?_
          refine r_iload_n g dX5_findRows_112 rfl ?_
          refine r_iload_n g dX5_findRows_113 rfl ?_
          refine r_iconst (v := 0) g dX5_findRows_114 (by decide) ?_
          refine r_pV g kX5_135 (ok_m_sumOf0 _ _ _ _ s hA hP1 hc (p := p) (by omega) (fun q hq => ⟨hord q hq, hpg _ (mem_getD hq)⟩) hM.1) hM.1.1 rfl rfl rfl hnx hR (by decide) (Nat.zero_le _) (Nat.zero_le _) rfl rfl dX5_findRows_115 ?_
          refine r_lstore g dX5_findRows_118 rfl rfl rfl ?_
          refine r_aload_n g dX5_findRows_120 rfl ?_
          refine rm_get g hM fX5_71 rfl dX5_findRows_121 ?_
          refine r_iload g dX5_findRows_124 rfl ?_
          refine rm_lald (j := 64 * c + S) g hM rfl (show 64 * c + S < 256 by omega) dX5_findRows_126 ?_
          refine r_topl (y := (lN b.1)) hRp.1 ?_
          refine r_lconst (v := 0) g dX5_findRows_127 (by decide) ?_
          refine r_lcmp g dX5_findRows_128 ?_
          refine r_if_lt 145 g dX5_findRows_129 (by decide) (fun c129 => absurd ((pk_lLE (a := 0) (by omega) (by have := hRp.2.1; omega)).mpr (Nat.zero_le _)) (lc_lt.mp c129)) (fun c129 => ?_)
          refine r_lload g dX5_findRows_132 rfl ?_
          refine r_aload_n g dX5_findRows_134 rfl ?_
          refine rm_get g hM fX5_71 rfl dX5_findRows_135 ?_
          refine r_iload g dX5_findRows_138 rfl ?_
          refine rm_lald (j := 64 * c + S) g hM rfl (show 64 * c + S < 256 by omega) dX5_findRows_140 ?_
          refine r_topl (y := (lN b.1)) hRp.1 ?_
          refine r_lcmp g dX5_findRows_141 ?_
          refine r_if_ge 189 g dX5_findRows_142 (by decide) (fun c142 => ?_) (fun c142 => ?_)
          · skip
            have q : ¬ gcost s c p < b.1 := fun z => absurd ((lg_cmp_ge _ _).mp c142) (by rw [pk_lLE (by have := hRp.2.1; omega) (by omega)]; omega)
            rw [if_neg q] at hbr
            refine r_le (ls2 := [some (.ref m), some (.int (nI c)), some (.int (nI S)), some (.int (nI p.length)), some (.int (fI ff)), some (.int (nI (64 * c + S))), some (.int 1), none, none, none]) ⟨rfl, rfl, rfl, rfl, rfl, rfl, rfl, trivial⟩ ?_
            exact turn (some b) A1 B1 h [] hM hF hRp hord hbr
          · skip
            have q : gcost s c p < b.1 := Nat.lt_of_not_le (fun z => c142 ((lg_cmp_ge _ _).mpr ((pk_lLE (by have := hRp.2.1; omega) (by omega)).mpr z)))
            rw [if_pos q] at hbr
            exact take h hM hbr
      rcases hff with hff | ⟨hff, hn6⟩
      · subst hff
        refine r_le (ls2 := [some (.ref m), some (.int (nI c)), some (.int (nI S)), some (.int (nI p.length)), some (.int (-1)), some (.int (nI (64 * c + S))), some (.int 1), none, none, none]) ⟨rfl, rfl, rfl, rfl, rfl, rfl, rfl, trivial⟩ ?_
        refine r_iload g dX5_findRows_90 rfl ?_
        refine r_if_eq 199 g dX5_findRows_92 (by decide) (fun c92 => absurd c92 (by decide)) (fun c92 => ?_)
        refine r_iload g dX5_findRows_95 rfl ?_
        refine r_if_lt 111 g dX5_findRows_97 (by decide) (fun c97 => ?_) (fun c97 => absurd (show (-1 : Int32) < 0 by decide) c97)
        exact good rfl
      · skip
        have hfe : fI ff = nI ff := if_neg (by omega)
        have hp0 := hpg _ (mem_getD (p := p) (i := 0) (by omega))
        rw [hfe] at good bad ⊢
        refine r_iload g dX5_findRows_90 rfl ?_
        refine r_if_eq 199 g dX5_findRows_92 (by decide) (fun c92 => absurd c92 (by decide)) (fun c92 => ?_)
        refine r_iload g dX5_findRows_95 rfl ?_
        refine r_if_lt 111 g dX5_findRows_97 (by decide) (fun c97 => absurd c97 (nI_pos (by omega))) (fun c97 => ?_)
        refine r_aload_n g dX5_findRows_100 rfl ?_
        refine rm_get g hM fX5_78 rfl dX5_findRows_101 ?_
        refine r_iconst (v := 0) g dX5_findRows_104 (by decide) ?_
        refine rm_iald 29 (j := 0) g hM rfl (by decide) rfl rfl (show 0 < 6 by omega) dX5_findRows_105 ?_
        refine r_topi (y := (nI (p.getD 0 0))) (hord 0 (by omega)) ?_
        refine r_iload g dX5_findRows_106 rfl ?_
        refine r_icmp_ne 189 g dX5_findRows_108 (by decide) (fun c108 => ?_) (fun c108 => ?_)
        · skip
          have q : ¬ p.getD 0 0 = ff := fun z => c108 (by rw [z])
          exact bad (by unfold okF; rw [decide_eq_false q, decide_eq_false (by omega)]; rfl)
        · skip
          have q := (nI_c (by omega) (by omega)).mp c108
          exact good (by unfold okF; rw [decide_eq_true q, Bool.or_true])
  have loop1 : ∀ e i (f : Nat → Int32) (h : Hp), MS h0 h m F (upA A 29 f) B → i + e = gn s → (∀ q, q < (elems S i).length → f q = nI ((elems S i).getD q 0)) → Sf k 0 0 h nx 8 [some (.ref m), some (.int (nI c)), some (.int (nI S)), some (.int (nI ((elems S i).length))), some (.int (fI (firstF s c S i))), some (.int (nI i)), none, none, none, none] [] := by
    intro e
    induction e with
    | zero =>
      intro i f h hM hi hf
      have hi2 : i = gn s := by omega
      refine r_iload g dX5_findRows_8 rfl ?_
      refine r_aload_n g dX5_findRows_10 rfl ?_
      refine rm_get g hM fX5_130 rfl dX5_findRows_11 ?_
      refine r_topi (y := (nI (gn s))) hP.2.1 ?_
      refine r_icmp_ge 69 g dX5_findRows_14 (by decide) (fun c14 => ?_) (fun c14 => absurd (nI_le (by omega) (by omega)) c14)
      refine r_bipush (v := 64) g dX5_findRows_69 (by decide) ?_
      refine r_iload_n g dX5_findRows_71 rfl ?_
      refine r_imul g dX5_findRows_72 ?_
      refine r_topi (y := (nI (64 * c))) (pk_mul 64 c) ?_
      refine r_iload_n g dX5_findRows_73 rfl ?_
      refine r_iadd g dX5_findRows_74 ?_
      refine r_topi (y := (nI ((64 * c) + S))) (nI_add (64 * c) S) ?_
      refine r_istore g dX5_findRows_75 rfl rfl rfl ?_
      refine r_aload_n g dX5_findRows_77 rfl ?_
      refine rm_get g hM fX5_71 rfl dX5_findRows_78 ?_
      refine r_iload g dX5_findRows_81 rfl ?_
      refine r_ldc2 g dX5_findRows_83 vX5_133 ?_
      refine rm_last (j := (64 * c) + S) g hM hbm rfl (show 64 * c + S < 256 by omega) dX5_findRows_86 ?_
      intro h_7 hM
      refine r_iconst (v := 1) g dX5_findRows_87 (by decide) ?_
      refine r_istore g dX5_findRows_88 rfl rfl rfl ?_
      subst hi2
      have hch := chain_all S (by omega)
      obtain ⟨rest, hps⟩ : ∃ rest, perms S = elems S 6 :: rest := by
        cases hq : perms S with
        | nil => rw [hq] at hch; exact absurd hch.2.1 (by simp)
        | cons a l => rw [hq] at hch; exact ⟨l, by rw [Option.some.inj hch.2.1]⟩
      have he6 : elems S (gn s) = elems S 6 := elems_6 hS hg6
      rw [hps] at hch
      rw [he6] at hf ⊢
      refine loop2 (firstF s c S (gn s)) (elems S 6).length rest (elems S 6) none _ _ _ hM ⟨fun kf h1 h2 => upA_ne h2, fun _ _ => rfl, fun j hj => pk_uLn hj⟩ pk_uLs hch.1 (fun q hq => ⟨(hch.2.2 q hq).1, fun x hx => bit_lt hS ((hch.2.2 q hq).2 x hx).2⟩) (fun q hq => hf q hq) (by unfold gbest; rw [hps]) ?_ (elems_len S 6)
      rcases firstF_at s c S (gn s) hg6 with z | z
      · exact Or.inl z
      · exact Or.inr ⟨by omega, ne_of_bit S (by omega) _ (by omega) z.2.1⟩
    | succ e ih =>
      intro i f h hM hi hf
      have hgk := gk_at (s := s) (i := i) (by omega)
      have hbe := (hA.2.2.2.2.2.1 _ hgk.1).2.2.2.2.2.1
      have hel := elems_len S i
      have hSd : S / 2 ^ i < 2 ^ 31 := Nat.lt_of_le_of_lt (Nat.div_le_self _ _) (by omega)
      refine r_iload g dX5_findRows_8 rfl ?_
      refine r_aload_n g dX5_findRows_10 rfl ?_
      refine rm_get g hM fX5_130 rfl dX5_findRows_11 ?_
      refine r_topi (y := (nI (gn s))) hP.2.1 ?_
      refine r_icmp_ge 69 g dX5_findRows_14 (by decide) (fun c14 => absurd c14 (nI_ge (by omega) (by omega))) (fun c14 => ?_)
      refine r_iload_n g dX5_findRows_17 rfl ?_
      refine r_iload g dX5_findRows_18 rfl ?_
      refine r_ishr g dX5_findRows_20 ?_
      refine r_topi (y := (nI (S / 2 ^ i))) (sh_n (by omega) (by omega)) ?_
      refine r_iconst (v := 1) g dX5_findRows_21 (by decide) ?_
      refine r_iand g dX5_findRows_22 ?_
      refine r_topi (y := (nI (S / 2 ^ i % 2))) (and_1 hSd) ?_
      refine r_iconst (v := 1) g dX5_findRows_23 (by decide) ?_
      refine r_icmp_ne 63 g dX5_findRows_24 (by decide) (fun c24 => ?_) (fun c24 => ?_)
      · skip
        have q := tb_0 (fun z => c24 (by rw [z]; rfl))
        refine r_iinc (v := (nI (i + 1))) g dX5_findRows_63 rfl (nI_add i 1) rfl rfl ?_
        refine r_goto 8 g dX5_findRows_66 (by decide) ?_
        rw [← elems_0 q, show firstF s c S i = firstF s c S (i + 1) from (if_neg (fun z => by rw [q] at z; exact absurd z.1 (by decide))).symm]
        exact ih (i + 1) f h hM (by omega) (by rw [elems_0 q]; exact hf)
      · skip
        have q := tb_1 ((nI_c (c := 1) (by omega) (by decide)).mp c24)
        refine r_aload_n g dX5_findRows_27 rfl ?_
        refine rm_get g hM fX5_78 rfl dX5_findRows_28 ?_
        refine r_iload_n g dX5_findRows_31 rfl ?_
        refine r_iload g dX5_findRows_32 rfl ?_
        refine rm_iast 29 (j := (elems S i).length) g hM hbm rfl (by decide) rfl rfl (show (elems S i).length < 6 by omega) dX5_findRows_34 ?_
        intro h_8 hM
        refine r_iinc (v := (nI ((elems S i).length + 1))) g dX5_findRows_35 rfl (nI_add ((elems S i).length) 1) rfl rfl ?_
        refine r_aload_n g dX5_findRows_38 rfl ?_
        refine rm_get g hM fX5_44 rfl dX5_findRows_39 ?_
        refine r_aload_n g dX5_findRows_42 rfl ?_
        refine rm_get g hM fX5_65 rfl dX5_findRows_43 ?_
        refine r_iload g dX5_findRows_46 rfl ?_
        refine rm_iald 25 (j := i) g hM rfl (by decide) rfl rfl (show i < 6 by omega) dX5_findRows_48 ?_
        refine r_topi (y := (nI (gk s i))) (hP.2.2 i (by omega)).1 ?_
        refine rm_iald 16 (j := gk s i) g hM rfl (by decide) rfl rfl (show gk s i < 400 by omega) dX5_findRows_49 ?_
        refine r_topi (y := (beI (s.2.2 (gk s i) 5))) (hI.2.2.2.2.2.2.1 _ hgk.1).2.2.2.2.2 ?_
        refine r_iload_n g dX5_findRows_50 rfl ?_
        refine r_icmp_ne 59 g dX5_findRows_51 (by decide) (fun c51 => ?_) (fun c51 => ?_)
        · skip
          have q2 : ¬ s.2.2 (gk s i) 5 = c := fun z => c51 ((beI_c hbe (by omega)).mpr z)
          refine r_iload g dX5_findRows_59 rfl ?_
          refine r_topi (y := (fI (firstF s c S (i + 1)))) (by first | (rw [firstF_1 ⟨q, q2⟩]; exact (if_neg (by omega)).symm) | rw [firstF_0 (fun z => q2 z.2)]) ?_
          refine r_istore g dX5_findRows_61 rfl rfl rfl ?_
          refine r_iinc (v := (nI (i + 1))) g dX5_findRows_63 rfl (nI_add i 1) rfl rfl ?_
          refine r_goto 8 g dX5_findRows_66 (by decide) ?_
          simp only [upA_upA, upA_eq] at hM
          have e1 : (elems S i).length + 1 = (elems S (i + 1)).length := by rw [elems_1 q, List.length_append]; rfl
          rw [e1]
          refine ih (i + 1) _ _ hM (by omega) (fun q9 hq9 => ?_)
          rw [elems_1 q, getD_app]
          by_cases e9 : q9 = (elems S i).length
          · rw [e9, pk_us, if_neg (Nat.lt_irrefl _), if_pos rfl]
          · rw [pk_un e9, if_pos (by omega)]; exact hf q9 (by omega)
        · skip
          have q2 := (beI_c hbe (by omega)).mp c51
          refine r_iload g dX5_findRows_54 rfl ?_
          refine r_goto 61 g dX5_findRows_56 (by decide) ?_
          refine r_topi (y := (fI (firstF s c S (i + 1)))) (by first | (rw [firstF_1 ⟨q, q2⟩]; exact (if_neg (by omega)).symm) | rw [firstF_0 (fun z => q2 z.2)]) ?_
          refine r_istore g dX5_findRows_61 rfl rfl rfl ?_
          refine r_iinc (v := (nI (i + 1))) g dX5_findRows_63 rfl (nI_add i 1) rfl rfl ?_
          refine r_goto 8 g dX5_findRows_66 (by decide) ?_
          simp only [upA_upA, upA_eq] at hM
          have e1 : (elems S i).length + 1 = (elems S (i + 1)).length := by rw [elems_1 q, List.length_append]; rfl
          rw [e1]
          refine ih (i + 1) _ _ hM (by omega) (fun q9 hq9 => ?_)
          rw [elems_1 q, getD_app]
          by_cases e9 : q9 = (elems S i).length
          · rw [e9, pk_us, if_neg (Nat.lt_irrefl _), if_pos rfl]
          · rw [pk_un e9, if_pos (by omega)]; exact hf q9 (by omega)
  refine r_iconst (v := 0) g dX5_findRows_0 (by decide) ?_
  refine r_istore_n g dX5_findRows_1 rfl rfl rfl ?_
  refine r_iconst (v := (-1)) g dX5_findRows_2 (by decide) ?_
  refine r_istore g dX5_findRows_3 rfl rfl rfl ?_
  refine r_iconst (v := 0) g dX5_findRows_5 (by decide) ?_
  refine r_istore g dX5_findRows_6 rfl rfl rfl ?_
  exact loop1 (gn s) 0 (A 29) h (by rw [upA_self]; exact hM) (Nat.zero_add _) (fun q hq => absurd hq (Nat.not_lt_zero _))
end
section
/-! 14: facts of the giving -/
theorem brs_append {α : Type} (f : α → Nat) (ok : α → Bool) : ∀ (l1 l2 : List α) (a : Option (Nat × α)), brs f ok (l1 ++ l2) a = brs f ok l2 (brs f ok l1 a)
  | [], _, _ => rfl
  | p :: ps, l2, a => by
    rw [List.cons_append, brs_cons, brs_cons]
    exact brs_append f ok ps l2 _
theorem bst_or {α : Type} (f : α → Nat) (p : α) (a : Option (Nat × α)) : bst f p a = a ∨ bst f p a = some (f p, p) := by
  cases a with
  | none => exact Or.inr rfl
  | some b =>
    rw [bst_s]
    split
    · exact Or.inr rfl
    · exact Or.inl rfl
theorem bst_ne {α : Type} (f : α → Nat) (p : α) (a : Option (Nat × α)) : bst f p a ≠ none := by
  cases a with
  | none => rw [bst_n]; exact fun h => by cases h
  | some b => rw [bst_s]; split <;> exact fun h => by cases h
theorem brs_at {α : Type} (f : α → Nat) (ok : α → Bool) : ∀ (l : List α) (a : Option (Nat × α)) (v : Nat) (r : α), brs f ok l a = some (v, r) → a = some (v, r) ∨ (r ∈ l ∧ ok r = true ∧ v = f r)
  | [], _, _, _, h => Or.inl h
  | p :: ps, a, v, r, h => by
    rw [brs_cons] at h
    rcases brs_at f ok ps _ v r h with h1 | ⟨h1, h2⟩
    · by_cases hp : ok p = true
      · rw [if_pos hp] at h1
        rcases bst_or f p a with e | e
        · rw [e] at h1; exact Or.inl h1
        · rw [e] at h1
          cases h1
          exact Or.inr ⟨List.mem_cons_self, hp, rfl⟩
      · rw [if_neg hp] at h1; exact Or.inl h1
    · exact Or.inr ⟨List.mem_cons_of_mem _ h1, h2⟩
theorem brs_some {α : Type} (f : α → Nat) (ok : α → Bool) : ∀ (l : List α) (a : Option (Nat × α)), (a ≠ none ∨ ∃ p, p ∈ l ∧ ok p = true) → brs f ok l a ≠ none
  | [], a, h => by
    rcases h with h | ⟨p, h, _⟩
    · exact h
    · cases h
  | p :: ps, a, h => by
    rw [brs_cons]
    apply brs_some f ok ps
    by_cases hp : ok p = true
    · rw [if_pos hp]; exact Or.inl (bst_ne f p a)
    · rw [if_neg hp]
      rcases h with h | ⟨q, h1, h2⟩
      · exact Or.inl h
      · rcases List.mem_cons.mp h1 with e | e
        · rw [e] at h2; exact absurd h2 hp
        · exact Or.inr ⟨q, e, h2⟩
theorem perms_nd : ∀ S, S < 64 → ∀ p ∈ perms S, p.Nodup := by decide +kernel
theorem perms_first : ∀ S, S < 64 → ∀ f, f < 6 → S.testBit f = true → ∃ p ∈ perms S, p.getD 0 0 = f := by
  have h : ∀ S, S < 64 → ∀ f, f < 6 → S.testBit f = true → (perms S).any (fun p => decide (p.getD 0 0 = f)) = true := by decide +kernel
  intro S hS f hf hb
  obtain ⟨p, h1, h2⟩ := List.any_eq_true.mp (h S hS f hf hb)
  exact ⟨p, h1, of_decide_eq_true h2⟩
theorem perms_all : ∀ S, S < 64 → ∀ p ∈ perms S, ∀ x, x < 6 → S.testBit x = true → x ∈ p := by decide +kernel
theorem perms_ne : ∀ S, S < 64 → perms S ≠ [] := by decide +kernel
theorem gbest_at {s : AS} (hA : AI s) {c S : Nat} (hc : c < s.1 2) (hS : S < 2 ^ gn s) : gbest s c S = some (gcst s c S, grow s c S) ∧ grow s c S ∈ perms S ∧ okF (firstF s c S (gn s)) (grow s c S) = true ∧ gcst s c S = gcost s c (grow s c S) := by
  have hg6 := gn_le hA
  have hS64 : S < 64 := Nat.lt_of_lt_of_le hS (Nat.pow_le_pow_right (n := 2) (by decide) hg6)
  have hne : gbest s c S ≠ none := by
    apply brs_some
    refine Or.inr ?_
    rcases firstF_at s c S (gn s) hg6 with z | z
    · cases hp : perms S with
      | nil => exact absurd hp (perms_ne S hS64)
      | cons p l => exact ⟨p, List.mem_cons_self, by unfold okF; rw [decide_eq_true z]; rfl⟩
    · obtain ⟨p, h1, h2⟩ := perms_first S hS64 _ (by omega) z.2.1
      exact ⟨p, h1, by unfold okF; rw [decide_eq_true h2, Bool.or_true]⟩
  cases hb : gbest s c S with
  | none => exact absurd hb hne
  | some b =>
    have e1 : gcst s c S = b.1 := by unfold gcst; rw [hb]; rfl
    have e2 : grow s c S = b.2 := by unfold grow; rw [hb]; rfl
    rcases brs_at _ _ _ _ b.1 b.2 hb with h | ⟨h1, h2, h3⟩
    · cases h
    · rw [e1, e2]
      exact ⟨rfl, h1, h2, h3⟩
theorem grow_at {s : AS} (hA : AI s) {c S : Nat} (hc : c < s.1 2) (hS : S < 2 ^ gn s) : (grow s c S).Nodup ∧ (grow s c S).length = (elems S (gn s)).length ∧ (∀ x, x ∈ grow s c S ↔ S.testBit x = true) := by
  have hg6 := gn_le hA
  have hS64 : S < 64 := Nat.lt_of_lt_of_le hS (Nat.pow_le_pow_right (n := 2) (by decide) hg6)
  obtain ⟨-, h1, -⟩ := gbest_at hA hc hS
  have hch := (chain_all S hS64).2.2 _ h1
  refine ⟨perms_nd S hS64 _ h1, by rw [elems_6 hS hg6]; exact hch.1, fun x => ⟨fun hx => (hch.2 x hx).2, fun hx => perms_all S hS64 _ h1 x ?_ hx⟩⟩
  have := bit_lt hS hx
  omega
theorem setO_bit (d : List Nat) (c : Nat) : ∀ n i, (setO d c n).testBit i = (decide (i < n) && decide (d.getD i 0 = c))
  | 0, i => by simp [setO]
  | n + 1, i => by
    have ih := setO_bit d c n i
    have hlt := setO_lt d c n
    unfold setO
    by_cases hd : d.getD n 0 = c
    · rw [if_pos hd, ← or_pow hlt, Nat.testBit_or, ih, Nat.testBit_two_pow]
      by_cases e : i = n
      · subst e; rw [decide_eq_true hd, decide_eq_true (rfl : i = i), Bool.or_true, Bool.and_true, decide_eq_true (Nat.lt_succ_self i)]
      · have e2 : ¬ n = i := fun z => e z.symm
        rw [decide_eq_false e2, Bool.or_false]
        congr 1
        exact decide_eq_decide.mpr (by omega)
    · rw [if_neg hd, Nat.add_zero, ih]
      by_cases e : i = n
      · subst e; rw [decide_eq_false hd, Bool.and_false, Bool.and_false]
      · congr 1
        exact decide_eq_decide.mpr (by omega)
theorem elems_setO (d : List Nat) (c n : Nat) : (elems (setO d c n) n).length = cnt (fun i => decide (d.getD i 0 = c)) n := by
  unfold elems
  rw [filt_len]
  exact cnt_cong (fun k hk => by rw [setO_bit, decide_eq_true hk, Bool.true_and])
def asg : Nat → List (List Nat)
  | 0 => [[]]
  | n + 1 => (List.range 4).flatMap (fun c => (asg n).map (fun d => c :: d))
theorem fm_congr {α β : Type} {f g : α → List β} : ∀ {l : List α}, (∀ a, a ∈ l → f a = g a) → l.flatMap f = l.flatMap g
  | [], _ => rfl
  | a :: l, h => by rw [List.flatMap_cons, List.flatMap_cons, h a List.mem_cons_self, fm_congr (fun b hb => h b (List.mem_cons_of_mem _ hb))]
theorem range_mul (b : Nat) : ∀ a, List.range (a * b) = (List.range a).flatMap (fun c => (List.range b).map (fun r => c * b + r))
  | 0 => by rw [Nat.zero_mul]; rfl
  | a + 1 => by
    rw [Nat.succ_mul, List.range_add, range_mul b a, List.range_succ, List.flatMap_append, List.flatMap_singleton]
theorem dig_cons {n c r : Nat} (hc : c < 4) (hr : r < 4 ^ n) : dig (n + 1) (c * 4 ^ n + r) = c :: dig n r := by
  unfold dig
  rw [List.range_succ_eq_map, List.map_cons, List.map_map]
  congr 1
  · show (c * 4 ^ n + r) / 4 ^ (n + 1 - 1 - 0) % 4 = c
    rw [show n + 1 - 1 - 0 = n by omega, Nat.mul_comm, Nat.mul_add_div (Nat.pow_pos (by decide)), Nat.div_eq_of_lt hr, Nat.add_zero, Nat.mod_eq_of_lt hc]
  · apply List.map_congr_left
    intro i hi
    have hi2 := List.mem_range.mp hi
    show (c * 4 ^ n + r) / 4 ^ (n + 1 - 1 - (i + 1)) % 4 = r / 4 ^ (n - 1 - i) % 4
    have e : 4 ^ n = 4 ^ (n - 1 - i) * (4 ^ i * 4) := by rw [← Nat.pow_succ, ← Nat.pow_add]; congr 1; omega
    rw [show n + 1 - 1 - (i + 1) = n - 1 - i by omega, e, show c * (4 ^ (n - 1 - i) * (4 ^ i * 4)) = 4 ^ (n - 1 - i) * (c * 4 ^ i * 4) by rw [Nat.mul_left_comm, Nat.mul_assoc], Nat.mul_add_div (Nat.pow_pos (by decide)), Nat.add_comm, Nat.add_mul_mod_self_right]
theorem asg_dig : ∀ n, asg n = (List.range (4 ^ n)).map (dig n)
  | 0 => rfl
  | n + 1 => by
    unfold asg
    rw [asg_dig n, Nat.pow_succ, Nat.mul_comm, range_mul, List.map_flatMap]
    refine fm_congr (fun c hc => ?_)
    rw [List.map_map, List.map_map]
    apply List.map_congr_left
    intro r hr
    exact (dig_cons (List.mem_range.mp hc) (List.mem_range.mp hr)).symm
theorem mem_asg : ∀ (n : Nat) (d : List Nat), d.length = n → (∀ x, x ∈ d → x < 4) → d ∈ asg n
  | 0, d, h, _ => by
    rw [List.length_eq_zero_iff.mp h]
    exact List.mem_cons_self
  | n + 1, d, h, hx => by
    match d, h, hx with
    | c :: d, h, hx =>
      unfold asg
      rw [List.mem_flatMap]
      exact ⟨c, List.mem_range.mpr (hx c List.mem_cons_self), List.mem_map.mpr ⟨d, mem_asg n d (Nat.succ.inj h) (fun x q => hx x (List.mem_cons_of_mem _ q)), rfl⟩⟩
theorem asg_mem : ∀ (n : Nat) (d : List Nat), d ∈ asg n → d.length = n ∧ ∀ x, x ∈ d → x < 4
  | 0, d, h => by
    have : d = [] := by simpa [asg] using h
    subst this
    exact ⟨rfl, fun x q => by cases q⟩
  | n + 1, d, h => by
    unfold asg at h
    rw [List.mem_flatMap] at h
    obtain ⟨c, hc, h⟩ := h
    obtain ⟨e, he, rfl⟩ := List.mem_map.mp h
    obtain ⟨h1, h2⟩ := asg_mem n e he
    refine ⟨by rw [List.length_cons, h1], fun x q => ?_⟩
    rcases List.mem_cons.mp q with z | z
    · rw [z]; exact List.mem_range.mp hc
    · exact h2 x z
theorem gways_asg {s : AS} (hA : AI s) : gways s = asg (gn s) := (asg_dig _).symm
theorem carsZ_bit {s : AS} {k z c : Nat} : ∀ n, (carsZ s k z n).testBit c = true → c < n
  | n, h => bit_lt (carsZ_lt s k z n) h
theorem carsN_bit {s : AS} {k c : Nat} (h : (carsN s k).testBit c = true) : c < s.1 2 := by
  unfold carsN at h
  split at h
  · exact carsZ_bit _ h
  · exact carsZ_bit _ h
theorem some_bit : ∀ x, x < 16 → x ≠ 0 → ∃ c, c < 4 ∧ x.testBit c = true := by decide +kernel
theorem ggood_iff {s : AS} {d : List Nat} : ∀ n, ggoodF s d n = true ↔ ∀ i, i < n → (carsN s (gk s i)).testBit (d.getD i 0) = true
  | 0 => ⟨fun _ i hi => absurd hi (Nat.not_lt_zero _), fun _ => rfl⟩
  | n + 1 => by
    unfold ggoodF
    rw [Bool.and_eq_true, ggood_iff n]
    constructor
    · rintro ⟨h1, h2⟩ i hi
      by_cases e : i = n
      · rw [e]; exact h2
      · exact h1 i (by omega)
    · exact fun h => ⟨fun i hi => h i (by omega), h n (by omega)⟩
theorem some_list (P : Nat → Nat → Prop) : ∀ n, (∀ i, i < n → ∃ c, c < 4 ∧ P i c) → ∃ d : List Nat, d.length = n ∧ (∀ x, x ∈ d → x < 4) ∧ ∀ i, i < n → P i (d.getD i 0)
  | 0, _ => ⟨[], rfl, ⟨fun _ q => absurd q List.not_mem_nil, fun i hi => absurd hi (Nat.not_lt_zero _)⟩⟩
  | n + 1, h => by
    obtain ⟨d, h1, h2, h3⟩ := some_list P n (fun i hi => h i (by omega))
    obtain ⟨c, hc, hp⟩ := h n (by omega)
    refine ⟨d ++ [c], by simp [h1], fun x q => ?_, fun i hi => ?_⟩
    · rcases List.mem_append.mp q with z | z
      · exact h2 x z
      · rw [List.mem_singleton.mp z]; exact hc
    · rw [getD_app]
      by_cases e : i = n
      · rw [if_neg (by omega), if_pos (by omega), e]; exact hp
      · rw [if_pos (by omega)]; exact h3 i (by omega)
theorem gway_at {s : AS} (hA : AI s) : gway s = some (gsum s, gd s) ∧ gd s ∈ asg (gn s) ∧ ggood s (gd s) = true ∧ gsum s = gtot s (gd s) := by
  have hne : gway s ≠ none := by
    apply brs_some
    refine Or.inr ?_
    obtain ⟨d, h1, h2, h3⟩ := some_list (fun i c => (carsN s (gk s i)).testBit c = true) (gn s) (fun i hi => some_bit _ (carsN_lt hA _) (gk_at hi).2.2)
    exact ⟨d, by rw [gways_asg hA]; exact mem_asg _ d h1 h2, (ggood_iff _).mpr h3⟩
  cases hb : gway s with
  | none => exact absurd hb hne
  | some b =>
    have e1 : gsum s = b.1 := by unfold gsum; rw [hb]; rfl
    have e2 : gd s = b.2 := by unfold gd; rw [hb]; rfl
    rcases brs_at _ _ _ _ b.1 b.2 hb with h | ⟨h1, h2, h3⟩
    · cases h
    · rw [e1, e2]
      rw [gways_asg hA] at h1
      exact ⟨rfl, h1, h2, h3⟩
theorem gd_at {s : AS} (hA : AI s) {i : Nat} (hi : i < gn s) : (gd s).getD i 0 < s.1 2 ∧ (carsN s (gk s i)).testBit ((gd s).getD i 0) = true := by
  have h := (ggood_iff _).mp (gway_at hA).2.2.1 i hi
  exact ⟨carsN_bit h, h⟩
theorem setO_gn (s : AS) (d : List Nat) (c : Nat) : setO d c (gn s) < 2 ^ gn s := setO_lt d c _
theorem gRow_mem {s : AS} (hA : AI s) {c x : Nat} (hc : c < s.1 2) : x ∈ gRow s c ↔ x < gn s ∧ (gd s).getD x 0 = c := by
  unfold gRow
  rw [if_pos hc, (grow_at hA hc (setO_gn s (gd s) c)).2.2 x, setO_bit, Bool.and_eq_true, decide_eq_true_iff, decide_eq_true_iff]
theorem gRow_len {s : AS} (hA : AI s) {c : Nat} (hc : c < s.1 2) : (gRow s c).length = cnt (fun i => decide ((gd s).getD i 0 = c)) (gn s) := by
  unfold gRow
  rw [if_pos hc, (grow_at hA hc (setO_gn s (gd s) c)).2.1, elems_setO]
theorem gRow_nd {s : AS} (hA : AI s) {c : Nat} (hc : c < s.1 2) : (gRow s c).Nodup := by
  unfold gRow
  rw [if_pos hc]
  exact (grow_at hA hc (setO_gn s (gd s) c)).1
theorem gRow_len6 {s : AS} (hA : AI s) (c : Nat) : (gRow s c).length ≤ 6 := by
  by_cases hc : c < s.1 2
  · rw [gRow_len hA hc]
    exact Nat.le_trans (cnt_le _ _) (gn_le hA)
  · unfold gRow
    rw [if_neg hc]
    exact Nat.zero_le _
theorem gtot_lt {s : AS} (hA : AI s) (d : List Nat) : ∀ c, c ≤ s.1 2 → gtotF s d c ≤ c * 2 ^ 40
  | 0, _ => Nat.zero_le _
  | c + 1, h => by
    have ih := gtot_lt hA d c (by omega)
    have hb := gbest_at hA (c := c) (by omega) (setO_gn s d c)
    have hg := grow_at hA (c := c) (by omega) (setO_gn s d c)
    have h1 : gcst s c (setO d c (gn s)) < 2 ^ 40 := by
      rw [hb.2.2.2]
      refine gcost_lt hA (by omega) ?_ (fun x hx => bit_lt (setO_gn s d c) ((hg.2.2 x).mp hx))
      rw [hg.2.1]
      exact Nat.le_trans (elems_len _ _) (gn_le hA)
    unfold gtotF
    omega
end
section
theorem gk_idx {s : AS} {j : Nat} (h : (gL s).idxOf j < gn s) : gk s ((gL s).idxOf j) = j := by
  unfold gk
  rw [List.getD_eq_getElem?_getD, List.getElem?_eq_getElem h]
  exact List.getElem_idxOf h
theorem idx_gk {s : AS} {i : Nat} (h : i < gn s) : (gL s).idxOf (gk s i) = i := by
  have h1 : (gL s).idxOf (gk s i) < gn s := List.idxOf_lt_length_of_mem (gk_mem h)
  exact gk_inj h1 h (gk_idx h1)
/-- the cars below c have been told -/
def IG (s : AS) (c : Nat) (A : Nat → Nat → Int32) : Prop :=
  (∀ c9, c9 < c → A 23 c9 = nI (gRow s c9).length ∧ ∀ i, i < (gRow s c9).length → A 22 (6 * c9 + i) = nI (gk s ((gRow s c9).getD i 0))) ∧
  (∀ i, i < gn s → (gd s).getD i 0 < c → A 18 (gk s i) = nI ((gd s).getD i 0) ∧ A 19 (gk s i) = nI (gE s ((gd s).getD i 0) i).1 ∧ A 20 (gk s i) = nI (gE s ((gd s).getD i 0) i).2 ∧ A 21 (gk s i) = nI (gw s i)) ∧
  ∀ j, j < 400 → (∀ i, i < gn s → (gd s).getD i 0 < c → j ≠ gk s i) → A 18 j = -1
theorem IG_end {s : AS} (hA : AI s) {A : Nat → Nat → Int32} (h : IG s 4 A) : MG A (gres s) := by
  obtain ⟨h1, h2, h3⟩ := h
  refine ⟨fun j hj => ?_, fun c hc => ⟨(h1 c hc).1, gRow_len6 hA c, (h1 c hc).2⟩⟩
  by_cases hi : (gL s).idxOf j < gn s
  · have e := gk_idx hi
    have hd := gd_at hA hi
    have hnc := hA.2.2.1
    have h9 := h2 _ hi (by omega)
    rw [e] at h9
    have e0 : (gres s).1 j 0 = (gd s).getD ((gL s).idxOf j) 0 := if_pos hi
    have e1 : (gres s).1 j 1 = (gE s ((gd s).getD ((gL s).idxOf j) 0) ((gL s).idxOf j)).1 := if_pos hi
    have e2 : (gres s).1 j 2 = (gE s ((gd s).getD ((gL s).idxOf j) 0) ((gL s).idxOf j)).2 := if_pos hi
    have e3 : (gres s).1 j 3 = gw s ((gL s).idxOf j) := if_pos hi
    rw [e0, e1, e2, e3]
    exact ⟨h9.1.trans (if_neg (by omega)).symm, by omega, fun _ => h9.2⟩
  · have e0 : (gres s).1 j 0 = 4 := if_neg hi
    rw [e0]
    refine ⟨h3 j hj (fun i h4 h5 e => hi ?_), Nat.le_refl _, fun z => absurd rfl z⟩
    rw [e, idx_gk h4]
    exact h4
theorem IG_none {s : AS} (hA : AI s) {c : Nat} (hc : ¬ c < s.1 2) {A : Nat → Nat → Int32} (h : IG s c A) : IG s (c + 1) (upA A 23 (upd (A 23) c 0)) := by
  obtain ⟨h1, h2, h3⟩ := h
  have he : gRow s c = [] := if_neg hc
  refine ⟨fun c9 h9 => ?_, fun i hi hd => h2 i hi (by have := (gd_at hA hi).1; omega), fun j hj hd => h3 j hj (fun i hi h9 => hd i hi (by omega))⟩
  by_cases e : c9 = c
  · subst e
    rw [he]
    exact ⟨pk_us, fun i hi => absurd hi (Nat.not_lt_zero _)⟩
  · exact ⟨(pk_un e).trans (h1 c9 (by omega)).1, (h1 c9 (by omega)).2⟩
theorem IG_car {s : AS} (hA : AI s) {c : Nat} (hc : c < s.1 2) {A A2 A3 : Nat → Nat → Int32} (h : IG s c A) (h2 : ∀ kf, kf ≠ 23 → kf ≠ 29 → A2 kf = A kf) (h23 : ∀ q, q ≠ c → A2 23 q = A 23 q) (hW : Wr A2 A3 s c (gRow s c) (gRow s c).length) : IG s (c + 1) (upA A3 23 (upd (A3 23) c (nI (gRow s c).length))) := by
  obtain ⟨i1, i2, i3⟩ := h
  obtain ⟨w1, w2, w3, w4⟩ := hW
  have hnotin : ∀ j, (∀ i, i < gn s → (gd s).getD i 0 = c → j ≠ gk s i) → ∀ q, q < (gRow s c).length → j ≠ gk s ((gRow s c).getD q 0) := by
    intro j hj q hq
    have hm := (gRow_mem hA hc).mp (mem_getD hq)
    exact hj _ hm.1 hm.2
  have hl6 := gRow_len6 hA c
  refine ⟨fun c9 h9 => ?_, fun i hi hd => ?_, fun j hj hd => ?_⟩
  · by_cases e : c9 = c
    · subst e
      exact ⟨pk_us, fun i hi => (w2 i hi).2.2.2.2⟩
    · have i9 := i1 c9 (by omega)
      have hl9 := gRow_len6 hA c9
      refine ⟨(pk_un e).trans ((congrFun (w1 23 (by decide)) c9).trans ((h23 c9 e).trans i9.1)), fun i hi => ?_⟩
      exact (w4 _ (by omega)).trans ((congrFun (h2 22 (by decide) (by decide)) _).trans (i9.2 i hi))
  · by_cases e : (gd s).getD i 0 = c
    · have hm : i ∈ gRow s c := (gRow_mem hA hc).mpr ⟨hi, e⟩
      obtain ⟨q, hq, hqi⟩ := List.getElem_of_mem hm
      have hqi2 : (gRow s c).getD q 0 = i := by rw [List.getD_eq_getElem?_getD, List.getElem?_eq_getElem hq, hqi]; rfl
      have w := w2 q hq
      rw [hqi2] at w
      rw [e]
      exact ⟨w.1, w.2.1, w.2.2.1, w.2.2.2.1⟩
    · have i9 := i2 i hi (by omega)
      have w := w3 (gk s i) (hnotin _ (fun i9 hi9 hd9 z => e (by rw [gk_inj hi hi9 z]; exact hd9)))
      refine ⟨w.1.trans ((congrFun (h2 18 (by decide) (by decide)) _).trans i9.1), w.2.1.trans ((congrFun (h2 19 (by decide) (by decide)) _).trans i9.2.1), w.2.2.1.trans ((congrFun (h2 20 (by decide) (by decide)) _).trans i9.2.2.1), w.2.2.2.trans ((congrFun (h2 21 (by decide) (by decide)) _).trans i9.2.2.2)⟩
  · have w := w3 j (hnotin _ (fun i9 hi9 hd9 => hd i9 hi9 (by omega)))
    exact w.1.trans ((congrFun (h2 18 (by decide) (by decide)) _).trans (i3 j hj (fun i hi h9 => hd i hi (by omega))))
def KG (h0 : Hp) (nx m : Nat) (s : AS) : Option Value → Hp → Nat → Prop := fun v h' nx' => v = some (.long (lN (gsum s))) ∧ nx = nx' ∧ ∃ F' A' B', MS h0 h' m F' A' B' ∧ MI F' A' s ∧ F' 0 = 0 ∧ MG A' (gres s)
theorem Rp_congr {A A2 : Nat → Nat → Int32} {B : Nat → Int64} {t : Nat} {a : Option (Nat × List Nat)} (h : A2 28 = A 28) : Rp A2 B t a ↔ Rp A B t a := by
  unfold Rp
  rw [h]
set_option maxHeartbeats 4000000 in
set_option maxRecDepth 100000 in
theorem give_G {k : Cx} {h0 : Hp} {nx m : Nat} {s : AS} (hA : AI s) (g : Gd k miX5_give.1.cls miX5_give.2.1) (hr : RetK k (some .long) 0 0 (KG h0 nx m s)) (hR : RmK k 5 0 0) (hbm : cBase k ≤ m) (hnx : cBase k ≤ nx) {F : Nat → Int32} (hF0 : F 0 = 0) {B : Nat → Int64} : ∀ (e c : Nat) (A : Nat → Nat → Int32) (h : Hp), MS h0 h m F A B → c + e = 4 → P1 F A s → (∀ c, c < s.1 2 → Rp A B (64 * c + setO (gd s) c (gn s)) (gbest s c (setO (gd s) c (gn s)))) → (∀ i, i < gn s → A 30 i = nI ((gd s).getD i 0)) → IG s c A → Sf k 0 0 h nx 303 [some (.ref m), none, none, some (.long (lN (gsum s))), none, some (.int (nI c)), none, none, none, none] [] := by
  obtain ⟨⟨hn1, hn2⟩, ht, hnc, hN, -⟩ := id hA
  have hg6 := gn_le hA
  intro e
  induction e with
  | zero =>
    intro c A h hM hc hP hB hD hG
    have hc4 : c = 4 := by omega
    subst hc4
    refine r_iload g dX5_give_303 rfl ?_
    refine r_iconst (v := 4) g dX5_give_305 (by decide) ?_
    refine r_icmp_ge 444 g dX5_give_306 (by decide) (fun c306 => ?_) (fun c306 => absurd (show (4 : Int32) ≤ nI 4 by decide) c306)
    refine r_lload_n g dX5_give_444 rfl ?_
    exact r_lret g hr (Nat.le_refl _) (Nat.le_refl _) dX5_give_445 ⟨rfl, rfl, F, A, B, hM, hP.1, hF0, IG_end hA hG⟩
  | succ e ih =>
    intro c A h hM hc hP hB hD hG
    have hd4 : ∀ i, i < gn s → (gd s).getD i 0 < 4 := fun i hi => Nat.lt_of_lt_of_le (gd_at hA hi).1 hnc
    have car : c < s.1 2 → ∀ h, MS h0 h m F (upA A 23 (upd (A 23) c 0)) B → Sf k 0 0 h nx 326 [some (.ref m), none, none, some (.long (lN (gsum s))), none, some (.int (nI c)), none, none, none, none] [] := by
      intro hcn h hM
      have hgr := gRow_len hA hcn
      have hl6 := gRow_len6 hA c
      have hso := setO_gn s (gd s) c
      have hso64 : setO (gd s) c (gn s) < 64 := Nat.lt_of_lt_of_le hso (Nat.pow_le_pow_right (n := 2) (by decide) hg6)
      obtain ⟨gb1, -, -, -⟩ := gbest_at hA hcn hso
      have hrow : gRow s c = grow s c (setO (gd s) c (gn s)) := if_pos hcn
      have hb9 := hB c hcn
      rw [gb1, ← hrow] at hb9
      have loopI : ∀ e i (f : Nat → Int32) (h : Hp), MS h0 h m F (upA (upA A 23 (upd (A 23) c 0)) 29 f) B → i + e = (gRow s c).length → (∀ q, q < i → f q = nI ((gRow s c).getD q 0)) → Sf k 0 0 h nx 386 [some (.ref m), none, none, some (.long (lN (gsum s))), none, some (.int (nI c)), some (.int (nI (64 * c + setO (gd s) c (gn s)))), some (.int (nI ((gRow s c).length))), some (.int (nI i)), none] [] := by
        intro e2
        induction e2 with
        | zero =>
          intro i f h hM hi hf
          refine r_iload g dX5_give_386 rfl ?_
          refine r_iload g dX5_give_388 rfl ?_
          refine r_icmp_ge 419 g dX5_give_390 (by decide) (fun c390 => ?_) (fun c390 => absurd (nI_le (by omega) (by omega)) c390)
          refine r_aload_n g dX5_give_419 rfl ?_
          refine r_iload g dX5_give_420 rfl ?_
          refine r_iload g dX5_give_422 rfl ?_
          refine r_iconst (v := 1) g dX5_give_424 (by decide) ?_
          refine r_callV g kX5_135 (ok_m_sumOf1 _ _ _ _ s hA (hP.congr (fun kf hk => by rw [upA_ne (by omega), upA_ne (by omega)])) hcn (p := gRow s c) hl6 (fun q hq => ⟨hf q (by omega), ((gRow_mem hA hcn).mp (mem_getD hq)).1⟩) (gRow_nd hA hcn) hM.1 hbm) hM.1.1 rfl rfl rfl hnx hR (by decide) (Nat.zero_le _) (Nat.zero_le _) rfl rfl dX5_give_425 ?_
          rintro v9 h_1 nx9 ⟨⟨z9, rfl⟩, rfl, A3, hM9, hW9⟩ -
          have hM := hM.then hM9
          refine r_pop2 g dX5_give_428 rfl ?_
          refine r_aload_n g dX5_give_429 rfl ?_
          refine rm_get g hM fX5_62 rfl dX5_give_430 ?_
          refine r_iload g dX5_give_433 rfl ?_
          refine r_iload g dX5_give_435 rfl ?_
          refine rm_iast 23 (j := c) g hM hbm rfl (by decide) rfl rfl (show c < 4 by omega) dX5_give_437 ?_
          intro h_2 hM
          refine r_iinc (v := (nI (c + 1))) g dX5_give_438 rfl (nI_add c 1) rfl rfl ?_
          refine r_goto 303 g dX5_give_441 (by decide) ?_
          refine r_le (ls2 := [some (.ref m), none, none, some (.long (lN (gsum s))), none, some (.int (nI (c + 1))), none, none, none, none]) ⟨rfl, rfl, rfl, trivial⟩ ?_
          have w1 := hW9.1
          exact ih (c + 1) _ _ hM (by omega) (hP.congr (fun kf hk => by rw [upA_ne (by omega), w1 kf (by omega), upA_ne (by omega), upA_ne (by omega)])) (fun c9 hc9 => (Rp_congr (by rw [upA_ne (by decide), w1 28 (by decide), upA_ne (by decide), upA_ne (by decide)])).mpr (hB c9 hc9)) (fun i2 hi2 => by rw [upA_ne (by decide), w1 30 (by decide), upA_ne (by decide), upA_ne (by decide)]; exact hD i2 hi2) (IG_car hA hcn hG (fun kf h1 h2 => by rw [upA_ne h2, upA_ne h1]) (fun q hq => by rw [upA_ne (by decide), upA_eq, pk_un hq]) hW9)
        | succ e2 ih2 =>
          intro i f h hM hi hf
          refine r_iload g dX5_give_386 rfl ?_
          refine r_iload g dX5_give_388 rfl ?_
          refine r_icmp_ge 419 g dX5_give_390 (by decide) (fun c390 => absurd c390 (nI_ge (by omega) (by omega))) (fun c390 => ?_)
          refine r_aload_n g dX5_give_393 rfl ?_
          refine rm_get g hM fX5_78 rfl dX5_give_394 ?_
          refine r_iload g dX5_give_397 rfl ?_
          refine r_aload_n g dX5_give_399 rfl ?_
          refine rm_get g hM fX5_75 rfl dX5_give_400 ?_
          refine r_bipush (v := 6) g dX5_give_403 (by decide) ?_
          refine r_iload g dX5_give_405 rfl ?_
          refine r_imul g dX5_give_407 ?_
          refine r_topi (y := (nI (6 * (64 * c + setO (gd s) c (gn s))))) (pk_mul 6 (64 * c + setO (gd s) c (gn s))) ?_
          refine r_iload g dX5_give_408 rfl ?_
          refine r_iadd g dX5_give_410 ?_
          refine r_topi (y := (nI ((6 * (64 * c + setO (gd s) c (gn s))) + i))) (nI_add (6 * (64 * c + setO (gd s) c (gn s))) i) ?_
          refine rm_iald 28 (j := (6 * (64 * c + setO (gd s) c (gn s))) + i) g hM rfl (by decide) rfl rfl (show 6 * (64 * c + setO (gd s) c (gn s)) + i < 1536 by omega) dX5_give_411 ?_
          refine r_topi (y := (nI ((gRow s c).getD i 0))) (hb9.2.2 i (by show i < (gRow s c).length; omega)) ?_
          refine rm_iast 29 (j := i) g hM hbm rfl (by decide) rfl rfl (show i < 6 by omega) dX5_give_412 ?_
          intro h_3 hM
          refine r_iinc (v := (nI (i + 1))) g dX5_give_413 rfl (nI_add i 1) rfl rfl ?_
          refine r_goto 386 g dX5_give_416 (by decide) ?_
          simp only [upA_upA, upA_eq] at hM
          refine ih2 (i + 1) _ _ hM (by omega) (fun q hq => ?_)
          by_cases e9 : q = i
          · subst e9; exact pk_us
          · exact (pk_un e9).trans (hf q (by omega))
      have loopH : ∀ e i, i + e = gn s → Sf k 0 0 h nx 346 [some (.ref m), none, none, some (.long (lN (gsum s))), none, some (.int (nI c)), some (.int (nI (64 * c + setO (gd s) c (gn s)))), some (.int (nI (cnt (fun i => decide ((gd s).getD i 0 = c)) i))), some (.int (nI i)), none] [] := by
        intro e2
        induction e2 with
        | zero =>
          intro i hi
          have hi2 : i = gn s := by omega
          rw [hi2, ← hgr]
          refine r_iload g dX5_give_346 rfl ?_
          refine r_aload_n g dX5_give_348 rfl ?_
          refine rm_get g hM fX5_130 rfl dX5_give_349 ?_
          refine r_topi (y := (nI (gn s))) hP.2.1 ?_
          refine r_icmp_ge 383 g dX5_give_352 (by decide) (fun c352 => ?_) (fun c352 => absurd (nI_le (Nat.le_refl _) (by omega)) c352)
          refine r_iconst (v := 0) g dX5_give_383 (by decide) ?_
          refine r_istore g dX5_give_384 rfl rfl rfl ?_
          exact loopI (gRow s c).length 0 _ h (by rw [upA_self]; exact hM) (Nat.zero_add _) (fun q hq => absurd hq (Nat.not_lt_zero _))
        | succ e2 ih2 =>
          intro i hi
          have hd9 := hd4 i (by omega)
          refine r_iload g dX5_give_346 rfl ?_
          refine r_aload_n g dX5_give_348 rfl ?_
          refine rm_get g hM fX5_130 rfl dX5_give_349 ?_
          refine r_topi (y := (nI (gn s))) hP.2.1 ?_
          refine r_icmp_ge 383 g dX5_give_352 (by decide) (fun c352 => absurd c352 (nI_ge (by omega) (by omega))) (fun c352 => ?_)
          refine r_iload g dX5_give_355 rfl ?_
          refine r_aload_n g dX5_give_357 rfl ?_
          refine rm_get g hM fX5_81 rfl dX5_give_358 ?_
          refine r_iload g dX5_give_361 rfl ?_
          refine rm_iald 30 (j := i) g hM rfl (by decide) rfl rfl (show i < 6 by omega) dX5_give_363 ?_
          refine r_topi (y := (nI ((gd s).getD i 0))) (hD i (by omega)) ?_
          refine r_iload g dX5_give_364 rfl ?_
          refine r_icmp_ne 373 g dX5_give_366 (by decide) (fun c366 => ?_) (fun c366 => ?_)
          · skip
            have q := decide_eq_false (p := (gd s).getD i 0 = c) (fun z => c366 (by rw [z]))
            refine r_iconst (v := 0) g dX5_give_373 (by decide) ?_
            refine r_iadd g dX5_give_374 ?_
            refine r_topi (y := (nI (cnt (fun i => decide ((gd s).getD i 0 = c)) (i + 1)))) (by first | exact left_1 (p := fun i => decide ((gd s).getD i 0 = c)) q | exact left_0 (p := fun i => decide ((gd s).getD i 0 = c)) q) ?_
            refine r_istore g dX5_give_375 rfl rfl rfl ?_
            refine r_iinc (v := (nI (i + 1))) g dX5_give_377 rfl (nI_add i 1) rfl rfl ?_
            refine r_goto 346 g dX5_give_380 (by decide) ?_
            exact ih2 (i + 1) (by omega)
          · skip
            have q := decide_eq_true (p := (gd s).getD i 0 = c) ((nI_c (by omega) (by omega)).mp c366)
            refine r_iconst (v := 1) g dX5_give_369 (by decide) ?_
            refine r_goto 374 g dX5_give_370 (by decide) ?_
            refine r_iadd g dX5_give_374 ?_
            refine r_topi (y := (nI (cnt (fun i => decide ((gd s).getD i 0 = c)) (i + 1)))) (by first | exact left_1 (p := fun i => decide ((gd s).getD i 0 = c)) q | exact left_0 (p := fun i => decide ((gd s).getD i 0 = c)) q) ?_
            refine r_istore g dX5_give_375 rfl rfl rfl ?_
            refine r_iinc (v := (nI (i + 1))) g dX5_give_377 rfl (nI_add i 1) rfl rfl ?_
            refine r_goto 346 g dX5_give_380 (by decide) ?_
            exact ih2 (i + 1) (by omega)
      refine r_bipush (v := 64) g dX5_give_326 (by decide) ?_
      refine r_iload g dX5_give_328 rfl ?_
      refine r_imul g dX5_give_330 ?_
      refine r_topi (y := (nI (64 * c))) (pk_mul 64 c) ?_
      refine r_aload_n g dX5_give_331 rfl ?_
      refine r_iload g dX5_give_332 rfl ?_
      refine r_pV g kX5_153 (ok_m_setOf _ _ _ _ hM.1 (n := gn s) (c := c) (d := gd s) hP.2.1 hg6 (by omega) (fun i hi => ⟨hD i hi, hd4 i hi⟩)) hM.1.1 rfl rfl rfl hnx hR (by decide) (Nat.zero_le _) (Nat.zero_le _) rfl rfl dX5_give_334 ?_
      refine r_iadd g dX5_give_337 ?_
      refine r_topi (y := (nI ((64 * c) + (setO (gd s) c (gn s))))) (nI_add (64 * c) (setO (gd s) c (gn s))) ?_
      refine r_istore g dX5_give_338 rfl rfl rfl ?_
      refine r_iconst (v := 0) g dX5_give_340 (by decide) ?_
      refine r_istore g dX5_give_341 rfl rfl rfl ?_
      refine r_iconst (v := 0) g dX5_give_343 (by decide) ?_
      refine r_istore g dX5_give_344 rfl rfl rfl ?_
      exact loopH (gn s) 0 (Nat.zero_add _)
    refine r_iload g dX5_give_303 rfl ?_
    refine r_iconst (v := 4) g dX5_give_305 (by decide) ?_
    refine r_icmp_ge 444 g dX5_give_306 (by decide) (fun c306 => absurd c306 (nI_ge (b := 4) (by omega) (by decide))) (fun c306 => ?_)
    refine r_aload_n g dX5_give_309 rfl ?_
    refine rm_get g hM fX5_62 rfl dX5_give_310 ?_
    refine r_iload g dX5_give_313 rfl ?_
    refine r_iconst (v := 0) g dX5_give_315 (by decide) ?_
    refine rm_iast 23 (j := c) g hM hbm rfl (by decide) rfl rfl (show c < 4 by omega) dX5_give_316 ?_
    intro h_4 hM
    refine r_iload g dX5_give_317 rfl ?_
    refine r_aload_n g dX5_give_319 rfl ?_
    refine rm_get g hM fX5_95 rfl dX5_give_320 ?_
    refine r_topi (y := (nI (s.1 2))) hP.1.2.2.1 ?_
    refine r_icmp_ge 438 g dX5_give_323 (by decide) (fun c323 => ?_) (fun c323 => ?_)
    · skip
      have q : ¬ c < s.1 2 := fun z => absurd c323 (nI_ge z (by omega))
      refine r_iinc (v := (nI (c + 1))) g dX5_give_438 rfl (nI_add c 1) rfl rfl ?_
      refine r_goto 303 g dX5_give_441 (by decide) ?_
      exact ih (c + 1) _ _ hM (by omega) (hP.congr (fun kf hk => by rw [upA_ne (by omega)])) (fun c9 hc9 => (Rp_congr (by rw [upA_ne (by decide)])).mpr (hB c9 hc9)) (fun i2 hi2 => by rw [upA_ne (by decide)]; exact hD i2 hi2) (IG_none hA q hG)
    · skip
      have q : c < s.1 2 := Nat.lt_of_not_le (fun z => c323 (nI_le z (by omega)))
      exact car q _ hM
end
section
def accW (s : AS) (w : Nat) : Option (Nat × List Nat) := brs (gtot s) (ggood s) ((List.range w).map (dig (gn s))) none
theorem accW_succ (s : AS) (w : Nat) : accW s (w + 1) = if ggood s (dig (gn s) w) = true then bst (gtot s) (dig (gn s) w) (accW s w) else accW s w := by
  unfold accW
  rw [List.range_succ, List.map_append, brs_append]
  rfl
theorem accW_end (s : AS) : accW s (4 ^ gn s) = gway s := rfl
/-- the best way so far stands in bestWay and least -/
def RB (s : AS) (w : Nat) (bw : Int32) (lz : Nat) : Prop := (accW s w = none ∧ bw = -1) ∨ ∃ j, j < w ∧ accW s w = some (lz, dig (gn s) j) ∧ bw = nI j ∧ lz < 2 ^ 62
theorem gg_t {s : AS} {d : List Nat} {i : Nat} (h : ggoodF s d i = true) (h2 : carsN s (gk s i) / 2 ^ (d.getD i 0) % 2 = 1) : (1 : Int32) = b2 (ggoodF s d (i + 1)) := by
  unfold ggoodF; rw [h, tb_1 h2]; rfl
theorem gg_f {s : AS} {d : List Nat} {i : Nat} (h : ggoodF s d i = false ∨ ¬ carsN s (gk s i) / 2 ^ (d.getD i 0) % 2 = 1) : (0 : Int32) = b2 (ggoodF s d (i + 1)) := by
  unfold ggoodF
  rcases h with h | h
  · rw [h]; rfl
  · rw [tb_0 h, Bool.and_false]; rfl
set_option maxHeartbeats 4000000 in
set_option maxRecDepth 100000 in
theorem give_D {k : Cx} {h0 : Hp} {nx m : Nat} {s : AS} (hA : AI s) (g : Gd k miX5_give.1.cls miX5_give.2.1) (hr : RetK k (some .long) 0 0 (KG h0 nx m s)) (hR : RmK k 5 0 0) (hbm : cBase k ≤ m) (hnx : cBase k ≤ nx) {F : Nat → Int32} (hF0 : F 0 = 0) {B : Nat → Int64} : ∀ (A : Nat → Nat → Int32) (h : Hp), MS h0 h m F A B → P1 F A s → (∀ c, c < s.1 2 → ∀ S, S < 2 ^ gn s → Rp A B (64 * c + S) (gbest s c S)) → (∀ j, j < 400 → A 18 j = -1) → Sf k 0 0 h nx 146 [some (.ref m), some (.int (nI (4 ^ gn s))), none, none, none, none, none, none, none, none] [] := by
  obtain ⟨⟨hn1, hn2⟩, ht, hnc, hN, -⟩ := id hA
  have hg6 := gn_le hA
  intro A h hM hP hB h18
  have hw4 : 4 ^ gn s ≤ 4096 := Nat.pow_le_pow_right (n := 4) (by decide) hg6
  have loopD : ∀ e w (bw : Int32) (lz : Nat) (f : Nat → Int32) (h : Hp), MS h0 h m F (upA A 30 f) B → w + e = 4 ^ gn s → RB s w bw lz → Sf k 0 0 h nx 153 [some (.ref m), some (.int (nI (4 ^ gn s))), some (.int bw), some (.long (lN lz)), none, some (.int (nI w)), none, none, none, none] [] := by
    intro e
    induction e with
    | zero =>
      intro w bw lz f h hM hw hRB
      have hw2 : w = 4 ^ gn s := by omega
      rw [hw2] at hRB ⊢
      obtain ⟨gw1, -, -, -⟩ := gway_at hA
      rcases hRB with ⟨z, -⟩ | ⟨j, hj, hacc, rfl, -⟩
      · rw [accW_end, gw1] at z; cases z
      rw [accW_end, gw1] at hacc
      have hpr := Option.some.inj hacc
      have hlz : lz = gsum s := (congrArg Prod.fst hpr).symm
      have hgd : dig (gn s) j = gd s := (congrArg Prod.snd hpr).symm
      subst hlz
      refine r_iload g dX5_give_153 rfl ?_
      refine r_iload_n g dX5_give_155 rfl ?_
      refine r_icmp_ge 295 g dX5_give_156 (by decide) (fun c156 => ?_) (fun c156 => absurd (nI_le (Nat.le_refl _) (by omega)) c156)
      refine r_aload_n g dX5_give_295 rfl ?_
      refine r_iload_n g dX5_give_296 rfl ?_
      refine r_callV g kX5_149 (ok_m_deal _ _ _ _ hM.1 hbm (n := gn s) (w := j) hP.2.1 hg6 (by omega)) hM.1.1 rfl rfl rfl hnx hR (by decide) (Nat.zero_le _) (Nat.zero_le _) rfl rfl dX5_give_297 ?_
      rintro v9 h_1 nx9 ⟨rfl, rfl, f9, hM9, hf9⟩ -
      have hM := hM.then hM9
      simp only [upA_upA, upA_eq] at hM
      refine r_iconst (v := 0) g dX5_give_300 (by decide) ?_
      refine r_istore g dX5_give_301 rfl rfl rfl ?_
      refine r_le (ls2 := [some (.ref m), none, none, some (.long (lN (gsum s))), none, some (.int (nI 0)), none, none, none, none]) ⟨rfl, rfl, rfl, trivial⟩ ?_
      exact give_G hA g hr hR hbm hnx hF0 4 0 _ _ hM (by omega) (hP.congr (fun kf hk => upA_ne (by omega))) (fun c hc => (Rp_congr (upA_ne (by decide))).mpr (hB c hc _ (setO_gn s (gd s) c))) (fun i hi => by rw [upA_eq, hf9 i hi, hgd]) ⟨fun c9 h9 => absurd h9 (Nat.not_lt_zero _), fun i _ h9 => absurd h9 (Nat.not_lt_zero _), fun j9 hj9 _ => (congrFun (upA_ne (by decide)) j9).trans (h18 j9 hj9)⟩
    | succ e ih =>
      intro w bw lz f h hM hw hRB
      have hsucc := accW_succ s w
      have turn : ∀ (bw2 : Int32) (lz2 : Nat) (f : Nat → Int32) (h : Hp), MS h0 h m F (upA A 30 f) B → RB s (w + 1) bw2 lz2 → Sf k 0 0 h nx 289 [some (.ref m), some (.int (nI (4 ^ gn s))), some (.int bw2), some (.long (lN lz2)), none, some (.int (nI w)), none, none, none, none] [] := by
        intro bw2 lz2 f h hM hRB
        refine r_iinc (v := (nI (w + 1))) g dX5_give_289 rfl (nI_add w 1) rfl rfl ?_
        refine r_goto 153 g dX5_give_292 (by decide) ?_
        exact ih (w + 1) bw2 lz2 f h hM (by omega) hRB
      have fin : ∀ (f : Nat → Int32) (h : Hp), MS h0 h m F (upA A 30 f) B → ggood s (dig (gn s) w) = true → Sf k 0 0 h nx 267 [some (.ref m), some (.int (nI (4 ^ gn s))), some (.int bw), some (.long (lN lz)), none, some (.int (nI w)), some (.int 1), some (.long (lN (gtot s (dig (gn s) w)))), none, none] [] := by
        intro f h hM hgg
        rw [if_pos hgg] at hsucc
        have hgt : gtot s (dig (gn s) w) < 2 ^ 62 := by have := gtot_lt hA (dig (gn s) w) _ (Nat.le_refl _); have h9 : gtot s (dig (gn s) w) = gtotF s (dig (gn s) w) (s.1 2) := rfl; omega
        rcases hRB with ⟨hacc, rfl⟩ | ⟨j, hj, hacc, rfl, hlz⟩
        · skip
          rw [hacc, bst_n] at hsucc
          refine r_iload g dX5_give_267 rfl ?_
          refine r_if_eq 289 g dX5_give_269 (by decide) (fun c269 => absurd c269 (by decide)) (fun c269 => ?_)
          refine r_iload_n g dX5_give_272 rfl ?_
          refine r_if_lt 283 g dX5_give_273 (by decide) (fun c273 => ?_) (fun c273 => absurd c273 (by decide))
          refine r_iload g dX5_give_283 rfl ?_
          refine r_istore_n g dX5_give_285 rfl rfl rfl ?_
          refine r_lload g dX5_give_286 rfl ?_
          refine r_lstore_n g dX5_give_288 rfl rfl rfl ?_
          refine r_le (ls2 := [some (.ref m), some (.int (nI (4 ^ gn s))), some (.int (nI w)), some (.long (lN (gtot s (dig (gn s) w)))), none, some (.int (nI w)), none, none, none, none]) ⟨rfl, rfl, rfl, rfl, rfl, trivial⟩ ?_
          exact turn _ _ f h hM (Or.inr ⟨w, Nat.lt_succ_self w, hsucc, rfl, hgt⟩)
        · skip
          rw [hacc, bst_s] at hsucc
          refine r_iload g dX5_give_267 rfl ?_
          refine r_if_eq 289 g dX5_give_269 (by decide) (fun c269 => absurd c269 (by decide)) (fun c269 => ?_)
          refine r_iload_n g dX5_give_272 rfl ?_
          refine r_if_lt 283 g dX5_give_273 (by decide) (fun c273 => absurd c273 (nI_pos (by omega))) (fun c273 => ?_)
          refine r_lload g dX5_give_276 rfl ?_
          refine r_lload_n g dX5_give_278 rfl ?_
          refine r_lcmp g dX5_give_279 ?_
          refine r_if_ge 289 g dX5_give_280 (by decide) (fun c280 => ?_) (fun c280 => ?_)
          · skip
            have q : ¬ gtot s (dig (gn s) w) < lz := fun z => absurd ((lg_cmp_ge _ _).mp c280) (by rw [pk_lLE (by omega) (by omega)]; omega)
            rw [if_neg q] at hsucc
            refine r_le (ls2 := [some (.ref m), some (.int (nI (4 ^ gn s))), some (.int (nI j)), some (.long (lN lz)), none, some (.int (nI w)), none, none, none, none]) ⟨rfl, rfl, rfl, rfl, rfl, trivial⟩ ?_
            exact turn _ _ f h hM (Or.inr ⟨j, by omega, hsucc, rfl, hlz⟩)
          · skip
            have q : gtot s (dig (gn s) w) < lz := Nat.lt_of_not_le (fun z => c280 ((lg_cmp_ge _ _).mpr ((pk_lLE (by omega) (by omega)).mpr z)))
            rw [if_pos q] at hsucc
            refine r_iload g dX5_give_283 rfl ?_
            refine r_istore_n g dX5_give_285 rfl rfl rfl ?_
            refine r_lload g dX5_give_286 rfl ?_
            refine r_lstore_n g dX5_give_288 rfl rfl rfl ?_
            refine r_le (ls2 := [some (.ref m), some (.int (nI (4 ^ gn s))), some (.int (nI w)), some (.long (lN (gtot s (dig (gn s) w)))), none, some (.int (nI w)), none, none, none, none]) ⟨rfl, rfl, rfl, rfl, rfl, trivial⟩ ?_
            exact turn _ _ f h hM (Or.inr ⟨w, Nat.lt_succ_self w, hsucc, rfl, hgt⟩)
      have finb : ∀ (f : Nat → Int32) (h : Hp), MS h0 h m F (upA A 30 f) B → ggood s (dig (gn s) w) = false → Sf k 0 0 h nx 267 [some (.ref m), some (.int (nI (4 ^ gn s))), some (.int bw), some (.long (lN lz)), none, some (.int (nI w)), some (.int 0), none, none, none] [] := by
        intro f h hM hgg
        rw [if_neg (by rw [hgg]; decide)] at hsucc
        refine r_iload g dX5_give_267 rfl ?_
        refine r_if_eq 289 g dX5_give_269 (by decide) (fun c269 => ?_) (fun c269 => absurd c269 (by decide))
        refine r_le (ls2 := [some (.ref m), some (.int (nI (4 ^ gn s))), some (.int bw), some (.long (lN lz)), none, some (.int (nI w)), none, none, none, none]) ⟨rfl, rfl, rfl, rfl, rfl, trivial⟩ ?_
        exact turn bw lz f h hM (hRB.elim (fun z => Or.inl ⟨hsucc.trans z.1, z.2⟩) (fun ⟨j, h1, h2, h3⟩ => Or.inr ⟨j, by omega, hsucc.trans h2, h3⟩))
      have loopF : ∀ (f : Nat → Int32) (h : Hp), MS h0 h m F (upA A 30 f) B → (∀ q, q < gn s → f q = nI ((dig (gn s) w).getD q 0)) → ggood s (dig (gn s) w) = true → ∀ e c, c + e = s.1 2 → Sf k 0 0 h nx 225 [some (.ref m), some (.int (nI (4 ^ gn s))), some (.int bw), some (.long (lN lz)), none, some (.int (nI w)), some (.int 1), some (.long (lN (gtotF s (dig (gn s) w) c))), none, some (.int (nI c))] [] := by
        intro f h hM hf hgg e
        induction e with
        | zero =>
          intro c hc
          have hc2 : c = s.1 2 := by omega
          subst hc2
          refine r_iload g dX5_give_225 rfl ?_
          refine r_aload_n g dX5_give_227 rfl ?_
          refine rm_get g hM fX5_95 rfl dX5_give_228 ?_
          refine r_topi (y := (nI (s.1 2))) hP.1.2.2.1 ?_
          refine r_icmp_ge 267 g dX5_give_231 (by decide) (fun c231 => ?_) (fun c231 => absurd (nI_le (Nat.le_refl _) (by omega)) c231)
          refine r_le (ls2 := [some (.ref m), some (.int (nI (4 ^ gn s))), some (.int bw), some (.long (lN lz)), none, some (.int (nI w)), some (.int 1), some (.long (lN (gtot s (dig (gn s) w)))), none, none]) ⟨rfl, rfl, rfl, rfl, rfl, rfl, rfl, trivial⟩ ?_
          exact fin f h hM hgg
        | succ e ihF =>
          intro c hc
          have hso := setO_gn s (dig (gn s) w) c
          have hso64 : setO (dig (gn s) w) c (gn s) < 64 := Nat.lt_of_lt_of_le hso (Nat.pow_le_pow_right (n := 2) (by decide) hg6)
          have hb9 := hB c (by omega) _ hso
          rw [(gbest_at hA (by omega) hso).1] at hb9
          refine r_iload g dX5_give_225 rfl ?_
          refine r_aload_n g dX5_give_227 rfl ?_
          refine rm_get g hM fX5_95 rfl dX5_give_228 ?_
          refine r_topi (y := (nI (s.1 2))) hP.1.2.2.1 ?_
          refine r_icmp_ge 267 g dX5_give_231 (by decide) (fun c231 => absurd c231 (nI_ge (by omega) (by omega))) (fun c231 => ?_)
          refine r_iload g dX5_give_234 rfl ?_
          refine r_if_eq 267 g dX5_give_236 (by decide) (fun c236 => absurd c236 (by decide)) (fun c236 => ?_)
          refine r_lload g dX5_give_239 rfl ?_
          refine r_aload_n g dX5_give_241 rfl ?_
          refine rm_get g hM fX5_71 rfl dX5_give_242 ?_
          refine r_bipush (v := 64) g dX5_give_245 (by decide) ?_
          refine r_iload g dX5_give_247 rfl ?_
          refine r_imul g dX5_give_249 ?_
          refine r_topi (y := (nI (64 * c))) (pk_mul 64 c) ?_
          refine r_aload_n g dX5_give_250 rfl ?_
          refine r_iload g dX5_give_251 rfl ?_
          refine r_pV g kX5_153 (ok_m_setOf _ _ _ _ hM.1 (n := gn s) (c := c) (d := dig (gn s) w) hP.2.1 hg6 (by omega) (fun i hi => ⟨hf i hi, dig_lt hi⟩)) hM.1.1 rfl rfl rfl hnx hR (by decide) (Nat.zero_le _) (Nat.zero_le _) rfl rfl dX5_give_253 ?_
          refine r_iadd g dX5_give_256 ?_
          refine r_topi (y := (nI ((64 * c) + (setO (dig (gn s) w) c (gn s))))) (nI_add (64 * c) (setO (dig (gn s) w) c (gn s))) ?_
          refine rm_lald (j := (64 * c) + (setO (dig (gn s) w) c (gn s))) g hM rfl (show 64 * c + setO (dig (gn s) w) c (gn s) < 256 by omega) dX5_give_257 ?_
          refine r_topl (y := (lN (gcst s c (setO (dig (gn s) w) c (gn s))))) hb9.1 ?_
          refine r_ladd g dX5_give_258 ?_
          refine r_topl (y := (lN (gtotF s (dig (gn s) w) (c + 1)))) (lN_add _ _) ?_
          refine r_lstore g dX5_give_259 rfl rfl rfl ?_
          refine r_iinc (v := (nI (c + 1))) g dX5_give_261 rfl (nI_add c 1) rfl rfl ?_
          refine r_goto 225 g dX5_give_264 (by decide) ?_
          exact ihF (c + 1) (by omega)
      have loopE : ∀ (f : Nat → Int32) (h : Hp), MS h0 h m F (upA A 30 f) B → (∀ q, q < gn s → f q = nI ((dig (gn s) w).getD q 0)) → ∀ e i, i + e = gn s → Sf k 0 0 h nx 171 [some (.ref m), some (.int (nI (4 ^ gn s))), some (.int bw), some (.long (lN lz)), none, some (.int (nI w)), some (.int (b2 (ggoodF s (dig (gn s) w) i))), some (.int (nI i)), none, none] [] := by
        intro f h hM hf e
        induction e with
        | zero =>
          intro i hi
          have hi2 : i = gn s := by omega
          subst hi2
          cases hgg : ggood s (dig (gn s) w) with
          | false =>
            have hb2 : b2 (ggoodF s (dig (gn s) w) (gn s)) = 0 := by have h9 : ggoodF s (dig (gn s) w) (gn s) = false := hgg; rw [h9]; rfl
            rw [hb2]
            refine r_iload g dX5_give_171 rfl ?_
            refine r_aload_n g dX5_give_173 rfl ?_
            refine rm_get g hM fX5_130 rfl dX5_give_174 ?_
            refine r_topi (y := (nI (gn s))) hP.2.1 ?_
            refine r_icmp_ge 219 g dX5_give_177 (by decide) (fun c177 => ?_) (fun c177 => absurd (nI_le (Nat.le_refl _) (by omega)) c177)
            refine r_lconst (v := 0) g dX5_give_219 (by decide) ?_
            refine r_topl (y := lN 0) rfl ?_
            refine r_lstore g dX5_give_220 rfl rfl rfl ?_
            refine r_iconst (v := 0) g dX5_give_222 (by decide) ?_
            refine r_istore g dX5_give_223 rfl rfl rfl ?_
            refine r_iload g dX5_give_225 rfl ?_
            refine r_aload_n g dX5_give_227 rfl ?_
            refine rm_get g hM fX5_95 rfl dX5_give_228 ?_
            refine r_topi (y := (nI (s.1 2))) hP.1.2.2.1 ?_
            refine r_icmp_ge 267 g dX5_give_231 (by decide) (fun c231 => ?_) (fun c231 => ?_)
            · skip
              refine r_le (ls2 := [some (.ref m), some (.int (nI (4 ^ gn s))), some (.int bw), some (.long (lN lz)), none, some (.int (nI w)), some (.int 0), none, none, none]) ⟨rfl, rfl, rfl, rfl, rfl, rfl, trivial⟩ ?_
              exact finb f h hM hgg
            · skip
              refine r_iload g dX5_give_234 rfl ?_
              refine r_if_eq 267 g dX5_give_236 (by decide) (fun c236 => ?_) (fun c236 => absurd c236 (by decide))
              refine r_le (ls2 := [some (.ref m), some (.int (nI (4 ^ gn s))), some (.int bw), some (.long (lN lz)), none, some (.int (nI w)), some (.int 0), none, none, none]) ⟨rfl, rfl, rfl, rfl, rfl, rfl, trivial⟩ ?_
              exact finb f h hM hgg
          | true =>
            have hb2 : b2 (ggoodF s (dig (gn s) w) (gn s)) = 1 := by have h9 : ggoodF s (dig (gn s) w) (gn s) = true := hgg; rw [h9]; rfl
            rw [hb2]
            refine r_iload g dX5_give_171 rfl ?_
            refine r_aload_n g dX5_give_173 rfl ?_
            refine rm_get g hM fX5_130 rfl dX5_give_174 ?_
            refine r_topi (y := (nI (gn s))) hP.2.1 ?_
            refine r_icmp_ge 219 g dX5_give_177 (by decide) (fun c177 => ?_) (fun c177 => absurd (nI_le (Nat.le_refl _) (by omega)) c177)
            refine r_lconst (v := 0) g dX5_give_219 (by decide) ?_
            refine r_topl (y := lN 0) rfl ?_
            refine r_lstore g dX5_give_220 rfl rfl rfl ?_
            refine r_iconst (v := 0) g dX5_give_222 (by decide) ?_
            refine r_istore g dX5_give_223 rfl rfl rfl ?_
            exact loopF f h hM hf hgg (s.1 2) 0 (Nat.zero_add _)
        | succ e ihE =>
          intro i hi
          have hgk := gk_at (s := s) (i := i) (by omega)
          have hcl := carsN_lt hA (gk s i)
          have hdl := dig_lt (n := gn s) (w := w) (i := i) (by omega)
          have hsd : carsN s (gk s i) / 2 ^ ((dig (gn s) w).getD i 0) < 2 ^ 31 := Nat.lt_of_le_of_lt (Nat.div_le_self _ _) (by omega)
          refine r_iload g dX5_give_171 rfl ?_
          refine r_aload_n g dX5_give_173 rfl ?_
          refine rm_get g hM fX5_130 rfl dX5_give_174 ?_
          refine r_topi (y := (nI (gn s))) hP.2.1 ?_
          refine r_icmp_ge 219 g dX5_give_177 (by decide) (fun c177 => absurd c177 (nI_ge (by omega) (by omega))) (fun c177 => ?_)
          refine r_iload g dX5_give_180 rfl ?_
          refine r_if_eq 210 g dX5_give_182 (by decide) (fun c182 => ?_) (fun c182 => ?_)
          · skip
            have q := b2_f c182
            refine r_iconst (v := 0) g dX5_give_210 (by decide) ?_
            refine r_topi (y := (b2 (ggoodF s (dig (gn s) w) (i + 1)))) (by first | exact gg_f (Or.inl q) | exact gg_f (Or.inr q2)) ?_
            refine r_istore g dX5_give_211 rfl rfl rfl ?_
            refine r_iinc (v := (nI (i + 1))) g dX5_give_213 rfl (nI_add i 1) rfl rfl ?_
            refine r_goto 171 g dX5_give_216 (by decide) ?_
            exact ihE (i + 1) (by omega)
          · skip
            have q := b2_t c182
            refine r_aload_n g dX5_give_185 rfl ?_
            refine rm_get g hM fX5_68 rfl dX5_give_186 ?_
            refine r_iload g dX5_give_189 rfl ?_
            refine rm_iald 26 (j := i) g hM rfl (by decide) rfl rfl (show i < 6 by omega) dX5_give_191 ?_
            refine r_topi (y := (nI (carsN s (gk s i)))) ((hP.2.2 i (by omega)).2) ?_
            refine r_aload_n g dX5_give_192 rfl ?_
            refine rm_get g hM fX5_81 rfl dX5_give_193 ?_
            refine r_iload g dX5_give_196 rfl ?_
            refine rm_iald 30 (j := i) g hM rfl (by decide) rfl rfl (show i < 6 by omega) dX5_give_198 ?_
            refine r_topi (y := (nI ((dig (gn s) w).getD i 0))) (hf i (by omega)) ?_
            refine r_ishr g dX5_give_199 ?_
            refine r_topi (y := (nI (carsN s (gk s i) / 2 ^ ((dig (gn s) w).getD i 0)))) (sh_n (by omega) (by omega)) ?_
            refine r_iconst (v := 1) g dX5_give_200 (by decide) ?_
            refine r_iand g dX5_give_201 ?_
            refine r_topi (y := (nI (carsN s (gk s i) / 2 ^ ((dig (gn s) w).getD i 0) % 2))) (and_1 hsd) ?_
            refine r_iconst (v := 1) g dX5_give_202 (by decide) ?_
            refine r_icmp_ne 210 g dX5_give_203 (by decide) (fun c203 => ?_) (fun c203 => ?_)
            · skip
              have q2 : ¬ carsN s (gk s i) / 2 ^ ((dig (gn s) w).getD i 0) % 2 = 1 := fun z => c203 (by rw [z]; rfl)
              refine r_iconst (v := 0) g dX5_give_210 (by decide) ?_
              refine r_topi (y := (b2 (ggoodF s (dig (gn s) w) (i + 1)))) (by first | exact gg_f (Or.inl q) | exact gg_f (Or.inr q2)) ?_
              refine r_istore g dX5_give_211 rfl rfl rfl ?_
              refine r_iinc (v := (nI (i + 1))) g dX5_give_213 rfl (nI_add i 1) rfl rfl ?_
              refine r_goto 171 g dX5_give_216 (by decide) ?_
              exact ihE (i + 1) (by omega)
            · skip
              have q2 := (nI_c (c := 1) (by omega) (by decide)).mp c203
              refine r_iconst (v := 1) g dX5_give_206 (by decide) ?_
              refine r_topi (y := (b2 (ggoodF s (dig (gn s) w) (i + 1)))) (gg_t q q2) ?_
              refine r_goto 211 g dX5_give_207 (by decide) ?_
              refine r_istore g dX5_give_211 rfl rfl rfl ?_
              refine r_iinc (v := (nI (i + 1))) g dX5_give_213 rfl (nI_add i 1) rfl rfl ?_
              refine r_goto 171 g dX5_give_216 (by decide) ?_
              exact ihE (i + 1) (by omega)
      refine r_iload g dX5_give_153 rfl ?_
      refine r_iload_n g dX5_give_155 rfl ?_
      refine r_icmp_ge 295 g dX5_give_156 (by decide) (fun c156 => absurd c156 (nI_ge (by omega) (by omega))) (fun c156 => ?_)
      refine r_aload_n g dX5_give_159 rfl ?_
      refine r_iload g dX5_give_160 rfl ?_
      refine r_callV g kX5_149 (ok_m_deal _ _ _ _ hM.1 hbm (n := gn s) (w := w) hP.2.1 hg6 (by omega)) hM.1.1 rfl rfl rfl hnx hR (by decide) (Nat.zero_le _) (Nat.zero_le _) rfl rfl dX5_give_162 ?_
      rintro v9 h_2 nx9 ⟨rfl, rfl, f9, hM9, hf9⟩ -
      have hM := hM.then hM9
      simp only [upA_upA, upA_eq] at hM
      refine r_iconst (v := 1) g dX5_give_165 (by decide) ?_
      refine r_istore g dX5_give_166 rfl rfl rfl ?_
      refine r_iconst (v := 0) g dX5_give_168 (by decide) ?_
      refine r_istore g dX5_give_169 rfl rfl rfl ?_
      exact loopE f9 _ hM hf9 (gn s) 0 (Nat.zero_add _)
  refine r_iconst (v := (-1)) g dX5_give_146 (by decide) ?_
  refine r_istore_n g dX5_give_147 rfl rfl rfl ?_
  refine r_lconst (v := 0) g dX5_give_148 (by decide) ?_
  refine r_topl (y := lN 0) rfl ?_
  refine r_lstore_n g dX5_give_149 rfl rfl rfl ?_
  refine r_iconst (v := 0) g dX5_give_150 (by decide) ?_
  refine r_istore g dX5_give_151 rfl rfl rfl ?_
  exact loopD (4 ^ gn s) 0 (-1) 0 (A 30) h (by rw [upA_self]; exact hM) (Nat.zero_add _) (Or.inl ⟨rfl, rfl⟩)
end
section
theorem upd_upd (F : Nat → Int32) (i : Nat) (a b : Int32) : upd (upd F i a) i b = upd F i b := by
  funext q; unfold upd; by_cases h : q = i <;> simp [h]
def gLt (s : AS) (i : Nat) : List Nat := (List.range i).filter (gB s)
theorem gLt_len (s : AS) (i : Nat) : (gLt s i).length = cnt (gB s) i := filt_len _ _
theorem gLt_1 {s : AS} {i : Nat} (h : gB s i = true) : gLt s (i + 1) = gLt s i ++ [i] := by
  unfold gLt; rw [List.range_succ, List.filter_append]; simp [h]
theorem gLt_0 {s : AS} {i : Nat} (h : gB s i = false) : gLt s (i + 1) = gLt s i := by
  unfold gLt; rw [List.range_succ, List.filter_append]; simp [h]
theorem gB_t {s : AS} {k : Nat} (h : s.2.2 k 3 = 1) (h2 : ¬ carsN s k = 0) : gB s k = true := by unfold gB isOp; rw [decide_eq_true h, decide_eq_false h2]; rfl
theorem gB_f {s : AS} {k : Nat} (h : ¬ s.2.2 k 3 = 1 ∨ carsN s k = 0) : gB s k = false := by
  unfold gB isOp
  rcases h with h | h
  · rw [decide_eq_false h]; rfl
  · rw [decide_eq_true h]; simp
theorem cnt_m (p : Nat → Bool) {i n : Nat} (h : i ≤ n) : cnt p i ≤ cnt p n := by
  obtain ⟨d, rfl⟩ := Nat.le.dest h
  clear h
  induction d with
  | zero => exact Nat.le_refl _
  | succ d ih =>
    refine Nat.le_trans ih ?_
    show _ ≤ cnt p (i + d) + _
    omega
theorem cntB_lt {s : AS} (hA : AI s) {i : Nat} (hi : i < s.1 3) (h : gB s i = true) : cnt (gB s) i < 6 := by
  have h1 := cnt_m (gB s) (show i + 1 ≤ s.1 3 from hi)
  have h2 : cnt (gB s) (i + 1) = cnt (gB s) i + 1 := by show _ + _ = _; rw [if_pos h]
  have h3 := gn_le hA
  have h4 : gn s = cnt (gB s) (s.1 3) := filt_len _ _
  omega
theorem Rp_frame {A A1 : Nat → Nat → Int32} {B B1 : Nat → Int64} {t t2 : Nat} {a : Option (Nat × List Nat)} (h : Rp A B t2 a) (hF : FrR A B A1 B1 t) (hne : t2 ≠ t) (hl : ∀ b, a = some b → b.2.length ≤ 6) : Rp A1 B1 t2 a := by
  cases a with
  | none => exact (hF.2.2 t2 hne).trans h
  | some b =>
    have hl9 := hl b rfl
    exact ⟨(hF.2.2 t2 hne).trans h.1, h.2.1, fun i hi => (hF.2.1 _ (by omega)).trans (h.2.2 i hi)⟩
set_option maxHeartbeats 4000000 in
set_option maxRecDepth 100000 in
theorem give_C {k : Cx} {h0 : Hp} {nx m : Nat} {s : AS} (hA : AI s) (g : Gd k miX5_give.1.cls miX5_give.2.1) (hr : RetK k (some .long) 0 0 (KG h0 nx m s)) (hR : RmK k 5 0 0) (hbm : cBase k ≤ m) (hnx : cBase k ≤ nx) {F : Nat → Int32} (hF0 : F 0 = 0) {B : Nat → Int64} : ∀ (A : Nat → Nat → Int32) (h : Hp), MS h0 h m F A B → P1 F A s → (∀ c, c < s.1 2 → ∀ S, S < 2 ^ gn s → Rp A B (64 * c + S) (gbest s c S)) → (∀ j, j < 400 → A 18 j = -1) → Sf k 0 0 h nx 124 [some (.ref m), none, none, none, none, none, none, none, none, none] [] := by
  obtain ⟨⟨hn1, hn2⟩, ht, hnc, hN, -⟩ := id hA
  have hg6 := gn_le hA
  intro A h hM hP hB h18
  have loopC : ∀ e i, i + e = gn s → Sf k 0 0 h nx 128 [some (.ref m), some (.int (nI (4 ^ i))), some (.int (nI i)), none, none, none, none, none, none, none] [] := by
    intro e
    induction e with
    | zero =>
      intro i hi
      have hi2 : i = gn s := by omega
      subst hi2
      refine r_iload_n g dX5_give_128 rfl ?_
      refine r_aload_n g dX5_give_129 rfl ?_
      refine rm_get g hM fX5_130 rfl dX5_give_130 ?_
      refine r_topi (y := (nI (gn s))) hP.2.1 ?_
      refine r_icmp_ge 146 g dX5_give_133 (by decide) (fun c133 => ?_) (fun c133 => absurd (nI_le (Nat.le_refl _) (by omega)) c133)
      refine r_le (ls2 := [some (.ref m), some (.int (nI (4 ^ gn s))), none, none, none, none, none, none, none, none]) ⟨rfl, rfl, trivial⟩ ?_
      exact give_D hA g hr hR hbm hnx hF0 A h hM hP hB h18
    | succ e ih =>
      intro i hi
      refine r_iload_n g dX5_give_128 rfl ?_
      refine r_aload_n g dX5_give_129 rfl ?_
      refine rm_get g hM fX5_130 rfl dX5_give_130 ?_
      refine r_topi (y := (nI (gn s))) hP.2.1 ?_
      refine r_icmp_ge 146 g dX5_give_133 (by decide) (fun c133 => absurd c133 (nI_ge (by omega) (by omega))) (fun c133 => ?_)
      refine r_iload_n g dX5_give_136 rfl ?_
      refine r_iconst (v := 4) g dX5_give_137 (by decide) ?_
      refine r_imul g dX5_give_138 ?_
      refine r_topi (y := (nI ((4 ^ i) * 4))) (pk_mul (4 ^ i) 4) ?_
      refine r_istore_n g dX5_give_139 rfl rfl rfl ?_
      refine r_iinc (v := (nI (i + 1))) g dX5_give_140 rfl (nI_add i 1) rfl rfl ?_
      refine r_goto 128 g dX5_give_143 (by decide) ?_
      exact ih (i + 1) (by omega)
  refine r_iconst (v := 1) g dX5_give_124 (by decide) ?_
  refine r_istore_n g dX5_give_125 rfl rfl rfl ?_
  refine r_iconst (v := 0) g dX5_give_126 (by decide) ?_
  refine r_istore_n g dX5_give_127 rfl rfl rfl ?_
  exact loopC (gn s) 0 (Nat.zero_add _)
set_option maxHeartbeats 4000000 in
set_option maxRecDepth 100000 in
theorem give_B {k : Cx} {h0 : Hp} {nx m : Nat} {s : AS} (hA : AI s) (g : Gd k miX5_give.1.cls miX5_give.2.1) (hr : RetK k (some .long) 0 0 (KG h0 nx m s)) (hR : RmK k 5 0 0) (hbm : cBase k ≤ m) (hnx : cBase k ≤ nx) {F : Nat → Int32} (hF0 : F 0 = 0) : ∀ (A0 : Nat → Nat → Int32) (B0 : Nat → Int64) (h : Hp), MS h0 h m F A0 B0 → P1 F A0 s → (∀ j, j < 400 → A0 18 j = -1) → Sf k 0 0 h nx 84 [some (.ref m), none, none, none, none, none, none, none, none, none] [] := by
  obtain ⟨⟨hn1, hn2⟩, ht, hnc, hN, -⟩ := id hA
  have hg6 := gn_le hA
  intro A0 B0 h hM hP h18
  have h2g : 2 ^ gn s ≤ 64 := Nat.pow_le_pow_right (n := 2) (by decide) hg6
  have loopB : ∀ e c (A : Nat → Nat → Int32) (B : Nat → Int64) (h : Hp), MS h0 h m F A B → c + e = s.1 2 → (∀ kf, kf ≠ 28 → kf ≠ 29 → A kf = A0 kf) → P1 F A s → (∀ c9, c9 < c → ∀ S9, S9 < 2 ^ gn s → Rp A B (64 * c9 + S9) (gbest s c9 S9)) → Sf k 0 0 h nx 86 [some (.ref m), some (.int (nI c)), none, none, none, none, none, none, none, none] [] := by
    intro e
    induction e with
    | zero =>
      intro c A B h hM hc hfr hP hB
      have hc2 : c = s.1 2 := by omega
      subst hc2
      refine r_iload_n g dX5_give_86 rfl ?_
      refine r_aload_n g dX5_give_87 rfl ?_
      refine rm_get g hM fX5_95 rfl dX5_give_88 ?_
      refine r_topi (y := (nI (s.1 2))) hP.1.2.2.1 ?_
      refine r_icmp_ge 124 g dX5_give_91 (by decide) (fun c91 => ?_) (fun c91 => absurd (nI_le (Nat.le_refl _) (by omega)) c91)
      refine r_le (ls2 := [some (.ref m), none, none, none, none, none, none, none, none, none]) ⟨rfl, trivial⟩ ?_
      exact give_C hA g hr hR hbm hnx hF0 A h hM hP hB (fun j hj => by rw [hfr 18 (by decide) (by decide)]; exact h18 j hj)
    | succ e ih =>
      intro c A B h hM hc hfr hP hB
      have loopS : ∀ e2 S (A : Nat → Nat → Int32) (B : Nat → Int64) (h : Hp), MS h0 h m F A B → S + e2 = 2 ^ gn s → (∀ kf, kf ≠ 28 → kf ≠ 29 → A kf = A0 kf) → P1 F A s → (∀ c9, c9 < s.1 2 → ∀ S9, S9 < 2 ^ gn s → (c9 < c ∨ c9 = c ∧ S9 < S) → Rp A B (64 * c9 + S9) (gbest s c9 S9)) → Sf k 0 0 h nx 96 [some (.ref m), some (.int (nI c)), some (.int (nI S)), none, none, none, none, none, none, none] [] := by
        intro e2
        induction e2 with
        | zero =>
          intro S A B h hM hS hfr hP hB
          have hS2 : S = 2 ^ gn s := by omega
          subst hS2
          refine r_iload_n g dX5_give_96 rfl ?_
          refine r_iconst (v := 1) g dX5_give_97 (by decide) ?_
          refine r_aload_n g dX5_give_98 rfl ?_
          refine rm_get g hM fX5_130 rfl dX5_give_99 ?_
          refine r_topi (y := (nI (gn s))) hP.2.1 ?_
          refine r_ishl g dX5_give_102 ?_
          refine r_topi (y := (nI (2 ^ gn s))) (shl1 (by omega)) ?_
          refine r_icmp_ge 118 g dX5_give_103 (by decide) (fun c103 => ?_) (fun c103 => absurd (nI_le (Nat.le_refl _) (by omega)) c103)
          refine r_iinc (v := (nI (c + 1))) g dX5_give_118 rfl (nI_add c 1) rfl rfl ?_
          refine r_goto 86 g dX5_give_121 (by decide) ?_
          refine r_le (ls2 := [some (.ref m), some (.int (nI (c + 1))), none, none, none, none, none, none, none, none]) ⟨rfl, rfl, trivial⟩ ?_
          exact ih (c + 1) A B h hM (by omega) hfr hP (fun c9 h9 S9 hS9 => hB c9 (by omega) S9 hS9 (by omega))
        | succ e2 ih2 =>
          intro S A B h hM hS hfr hP hB
          have hSg : S < 2 ^ gn s := by omega
          refine r_iload_n g dX5_give_96 rfl ?_
          refine r_iconst (v := 1) g dX5_give_97 (by decide) ?_
          refine r_aload_n g dX5_give_98 rfl ?_
          refine rm_get g hM fX5_130 rfl dX5_give_99 ?_
          refine r_topi (y := (nI (gn s))) hP.2.1 ?_
          refine r_ishl g dX5_give_102 ?_
          refine r_topi (y := (nI (2 ^ gn s))) (shl1 (by omega)) ?_
          refine r_icmp_ge 118 g dX5_give_103 (by decide) (fun c103 => absurd c103 (nI_ge (by omega) (by omega))) (fun c103 => ?_)
          refine r_aload_n g dX5_give_106 rfl ?_
          refine r_iload_n g dX5_give_107 rfl ?_
          refine r_iload_n g dX5_give_108 rfl ?_
          refine r_callV g kX5_145 (ok_m_findRows _ _ _ _ s hA hP (c := c) (S := S) (by omega) hSg hM.1 hbm) hM.1.1 rfl rfl rfl hnx hR (by decide) (Nat.zero_le _) (Nat.zero_le _) rfl rfl dX5_give_109 ?_
          rintro v9 h_1 nx9 ⟨rfl, rfl, A9, B9, hM9, hF9, hR9⟩ -
          have hM := hM.then hM9
          refine r_iinc (v := (nI (S + 1))) g dX5_give_112 rfl (nI_add S 1) rfl rfl ?_
          refine r_goto 96 g dX5_give_115 (by decide) ?_
          refine ih2 (S + 1) A9 B9 _ hM (by omega) (fun kf h1 h2 => (hF9.1 kf h1 h2).trans (hfr kf h1 h2)) (hP.congr (fun kf hk => hF9.1 kf (by omega) (by omega))) (fun c9 hc9 S9 hS9 hx => ?_)
          by_cases e9 : c9 = c ∧ S9 = S
          · obtain ⟨rfl, rfl⟩ := e9; exact hR9
          · refine Rp_frame (hB c9 hc9 S9 hS9 (by omega)) hF9 (by omega) (fun b hb => ?_)
            have hg := gbest_at hA hc9 hS9
            rw [hg.1] at hb
            cases hb
            rw [(grow_at hA hc9 hS9).2.1]
            exact Nat.le_trans (elems_len _ _) hg6
      refine r_iload_n g dX5_give_86 rfl ?_
      refine r_aload_n g dX5_give_87 rfl ?_
      refine rm_get g hM fX5_95 rfl dX5_give_88 ?_
      refine r_topi (y := (nI (s.1 2))) hP.1.2.2.1 ?_
      refine r_icmp_ge 124 g dX5_give_91 (by decide) (fun c91 => absurd c91 (nI_ge (by omega) (by omega))) (fun c91 => ?_)
      refine r_iconst (v := 0) g dX5_give_94 (by decide) ?_
      refine r_istore_n g dX5_give_95 rfl rfl rfl ?_
      exact loopS (2 ^ gn s) 0 A B h hM (Nat.zero_add _) hfr hP (fun c9 hc9 S9 hS9 hx => hB c9 (by omega) S9 hS9)
  refine r_iconst (v := 0) g dX5_give_84 (by decide) ?_
  refine r_istore_n g dX5_give_85 rfl rfl rfl ?_
  exact loopB (s.1 2) 0 A0 B0 h hM (Nat.zero_add _) (fun _ _ _ => rfl) hP (fun c9 h9 => absurd h9 (Nat.not_lt_zero _))
set_option maxHeartbeats 4000000 in
set_option maxRecDepth 100000 in
theorem ok_m_give (l : Launch) (G : Nat → ClassId) (D : va_G) (base : Nat) {h0 : Hp} {nx m : Nat} {F : Nat → Int32} {A : Nat → Nat → Int32} {B : Nat → Int64} (s : AS) (hA : AI s) (hI : MI F A s) (h18 : ∀ j, s.1 3 ≤ j → j < 400 → A 18 j = -1) (hM : MO h0 m F A B) (hbm : base ≤ m) : MetP l G D base miX5_give 5 0 0 [.ref m] h0 nx (KG h0 nx m s) := by
  refine MetP_of (by decide +kernel) rfl ?_
  intro k g hr hR hcl hcg hcd hcb hcn hnx
  subst hcl; subst hcg; subst hcd; subst hcb
  have hM := MS.rf hM
  obtain ⟨h, hh⟩ : ∃ z, z = h0 := ⟨_, rfl⟩
  rw [← hh]
  have hM : MS h0 h m F A B := by rw [hh]; exact hM
  obtain ⟨⟨hn1, hn2⟩, ht, hnc, hN, -⟩ := id hA
  have hg6 := gn_le hA
  show Sf k 0 0 h nx 0 [some (.ref m), none, none, none, none, none, none, none, none, none] []
  have loopA : ∀ e i (A1 : Nat → Nat → Int32) (h : Hp), MS h0 h m (upd (upd F 0 0) 24 (nI (cnt (gB s) i))) A1 B → i + e = s.1 3 → (∀ kf, kf ≠ 18 → kf ≠ 25 → kf ≠ 26 → A1 kf = A kf) → (∀ j, j < i → A1 18 j = -1) → (∀ j, i ≤ j → A1 18 j = A 18 j) → (∀ q, q < (gLt s i).length → A1 25 q = nI ((gLt s i).getD q 0) ∧ A1 26 q = nI (carsN s ((gLt s i).getD q 0))) → Sf k 0 0 h nx 12 [some (.ref m), some (.int (nI i)), none, none, none, none, none, none, none, none] [] := by
    intro e
    induction e with
    | zero =>
      intro i A1 h hM hi hfr h1 h2 h3
      have hi2 : i = s.1 3 := by omega
      subst hi2
      refine r_iload_n g dX5_give_12 rfl ?_
      refine r_aload_n g dX5_give_13 rfl ?_
      refine rm_get g hM fX5_98 rfl dX5_give_14 ?_
      refine r_topi (y := (nI (s.1 3))) hI.2.2.2.1 ?_
      refine r_icmp_ge 84 g dX5_give_17 (by decide) (fun c17 => ?_) (fun c17 => absurd (nI_le (Nat.le_refl _) (by omega)) c17)
      refine r_le (ls2 := [some (.ref m), none, none, none, none, none, none, none, none, none]) ⟨rfl, trivial⟩ ?_
      refine give_B hA g hr hR hbm hnx (F := upd (upd F 0 0) 24 (nI (cnt (gB s) (s.1 3)))) rfl A1 B h hM ⟨hI.congr (fun kf hk => hfr kf (by omega) (by omega) (by omega)), congrArg nI (filt_len _ _).symm, fun i hi => h3 i hi⟩ (fun j hj => ?_)
      by_cases e : j < s.1 3
      · exact h1 j e
      · exact (h2 j (by omega)).trans (h18 j (by omega) hj)
    | succ e ih =>
      intro i A1 h hM hi hfr h1 h2 h3
      have hkk := hA.2.2.2.2.2.1 i (by omega)
      have hcl := carsN_lt hA i
      have hll := gLt_len s i
      have hI1 : MI (upd (upd F 0 0) 24 (nI (cnt (gB s) i))) A1 s := hI.congr (fun kf hk => hfr kf (by omega) (by omega) (by omega))
      refine r_iload_n g dX5_give_12 rfl ?_
      refine r_aload_n g dX5_give_13 rfl ?_
      refine rm_get g hM fX5_98 rfl dX5_give_14 ?_
      refine r_topi (y := (nI (s.1 3))) hI.2.2.2.1 ?_
      refine r_icmp_ge 84 g dX5_give_17 (by decide) (fun c17 => absurd c17 (nI_ge (by omega) (by omega))) (fun c17 => ?_)
      refine r_aload_n g dX5_give_20 rfl ?_
      refine rm_get g hM fX5_47 rfl dX5_give_21 ?_
      refine r_iload_n g dX5_give_24 rfl ?_
      refine r_iconst (v := (-1)) g dX5_give_25 (by decide) ?_
      refine rm_iast 18 (j := i) g hM hbm rfl (by decide) rfl rfl (show i < 400 by omega) dX5_give_26 ?_
      intro h_1 hM
      refine r_aload_n g dX5_give_27 rfl ?_
      refine rm_get g hM fX5_38 rfl dX5_give_28 ?_
      refine r_iload_n g dX5_give_31 rfl ?_
      refine rm_zald 14 (j := i) g hM rfl rfl rfl (show i < 400 by omega) dX5_give_32 ?_
      refine r_topi (y := (nI (s.2.2 i 3))) (hI1.2.2.2.2.2.2.1 i (by omega)).2.2.2.1 ?_
      refine r_if_eq 78 g dX5_give_33 (by decide) (fun c33 => ?_) (fun c33 => ?_)
      · skip
        have q : gB s i = false := gB_f (Or.inl (by have := eq0 (by omega) c33; omega))
        refine r_iinc (v := (nI (i + 1))) g dX5_give_78 rfl (nI_add i 1) rfl rfl ?_
        refine r_goto 12 g dX5_give_81 (by decide) ?_
        have e1 : cnt (gB s) (i + 1) = cnt (gB s) i := by show _ + _ = _; rw [if_neg (by rw [q]; decide)]; rfl
        rw [← e1] at hM
        refine ih (i + 1) _ _ hM (by omega) (fun kf k1 k2 k3 => (upA_ne k1).trans (hfr kf k1 k2 k3)) (fun j hj => ?_) (fun j hj => (pk_un (by omega)).trans (h2 j (by omega))) (by rw [gLt_0 q]; exact h3)
        by_cases e9 : j = i
        · subst e9; exact pk_us
        · exact (pk_un e9).trans (h1 j (by omega))
      · skip
        have q1 := nz1 (by omega) c33
        refine r_aload_n g dX5_give_36 rfl ?_
        refine r_iload_n g dX5_give_37 rfl ?_
        refine r_pV g kX5_142 (ok_m_carsOf _ _ _ _ s hA (hI1.congr (fun kf hk => by rw [upA_ne (by omega)])) hM.1 (j := i) (by omega)) hM.1.1 rfl rfl rfl hnx hR (by decide) (Nat.zero_le _) (Nat.zero_le _) rfl rfl dX5_give_38 ?_
        refine r_if_eq 78 g dX5_give_41 (by decide) (fun c41 => ?_) (fun c41 => ?_)
        · skip
          have q : gB s i = false := gB_f (Or.inr (eq0 (by omega) c41))
          refine r_iinc (v := (nI (i + 1))) g dX5_give_78 rfl (nI_add i 1) rfl rfl ?_
          refine r_goto 12 g dX5_give_81 (by decide) ?_
          have e1 : cnt (gB s) (i + 1) = cnt (gB s) i := by show _ + _ = _; rw [if_neg (by rw [q]; decide)]; rfl
          rw [← e1] at hM
          refine ih (i + 1) _ _ hM (by omega) (fun kf k1 k2 k3 => (upA_ne k1).trans (hfr kf k1 k2 k3)) (fun j hj => ?_) (fun j hj => (pk_un (by omega)).trans (h2 j (by omega))) (by rw [gLt_0 q]; exact h3)
          by_cases e9 : j = i
          · subst e9; exact pk_us
          · exact (pk_un e9).trans (h1 j (by omega))
        · skip
          have q : gB s i = true := gB_t q1 (fun z => c41 (by rw [z]; rfl))
          have hc6 := cntB_lt hA (by omega) q
          refine r_aload_n g dX5_give_44 rfl ?_
          refine rm_get g hM fX5_65 rfl dX5_give_45 ?_
          refine r_aload_n g dX5_give_48 rfl ?_
          refine rm_get g hM fX5_130 rfl dX5_give_49 ?_
          refine r_topi (y := (nI (cnt (gB s) i))) rfl ?_
          refine r_iload_n g dX5_give_52 rfl ?_
          refine rm_iast 25 (j := cnt (gB s) i) g hM hbm rfl (by decide) rfl rfl (show cnt (gB s) i < 6 by omega) dX5_give_53 ?_
          intro h_2 hM
          refine r_aload_n g dX5_give_54 rfl ?_
          refine rm_get g hM fX5_68 rfl dX5_give_55 ?_
          refine r_aload_n g dX5_give_58 rfl ?_
          refine rm_get g hM fX5_130 rfl dX5_give_59 ?_
          refine r_topi (y := (nI (cnt (gB s) i))) rfl ?_
          refine r_aload_n g dX5_give_62 rfl ?_
          refine r_iload_n g dX5_give_63 rfl ?_
          refine r_pV g kX5_142 (ok_m_carsOf _ _ _ _ s hA (hI1.congr (fun kf hk => by rw [upA_ne (by omega), upA_ne (by omega)])) hM.1 (j := i) (by omega)) hM.1.1 rfl rfl rfl hnx hR (by decide) (Nat.zero_le _) (Nat.zero_le _) rfl rfl dX5_give_64 ?_
          refine rm_iast 26 (j := cnt (gB s) i) g hM hbm rfl (by decide) rfl rfl (show cnt (gB s) i < 6 by omega) dX5_give_67 ?_
          intro h_3 hM
          refine r_aload_n g dX5_give_68 rfl ?_
          refine r_dup g dX5_give_69 rfl ?_
          refine rm_get g hM fX5_130 rfl dX5_give_70 ?_
          refine r_topi (y := (nI (cnt (gB s) i))) rfl ?_
          refine r_iconst (v := 1) g dX5_give_73 (by decide) ?_
          refine r_iadd g dX5_give_74 ?_
          refine r_topi (y := (nI ((cnt (gB s) i) + 1))) (nI_add (cnt (gB s) i) 1) ?_
          refine rm_put (F' := upd (upd (upd F 0 0) 24 (nI (cnt (gB s) i))) 24 (nI ((cnt (gB s) i) + 1))) g hM hbm fX5_130 (by decide) rfl dX5_give_75 ?_
          intro h_5 hM
          refine r_iinc (v := (nI (i + 1))) g dX5_give_78 rfl (nI_add i 1) rfl rfl ?_
          refine r_goto 12 g dX5_give_81 (by decide) ?_
          rw [upd_upd] at hM
          have e1 : cnt (gB s) (i + 1) = cnt (gB s) i + 1 := by show _ + _ = _; rw [if_pos q]
          rw [← e1] at hM
          refine ih (i + 1) _ _ hM (by omega) (fun kf k1 k2 k3 => by rw [upA_ne k3, upA_ne k2, upA_ne k1]; exact hfr kf k1 k2 k3) (fun j hj => ?_) (fun j hj => (pk_un (by omega)).trans (h2 j (by omega))) (fun q9 hq9 => ?_)
          · by_cases e9 : j = i
            · subst e9; exact pk_us
            · exact (pk_un e9).trans (h1 j (by omega))
          · rw [gLt_1 q, List.length_append] at hq9
            have hq8 : q9 < (gLt s i).length + 1 := hq9
            rw [gLt_1 q, getD_app]
            by_cases e9 : q9 = (gLt s i).length
            · rw [if_neg (by omega), if_pos e9, e9, hll]; exact ⟨pk_us, pk_us⟩
            · rw [if_pos (by omega)]; exact ⟨(pk_un (by omega)).trans (h3 q9 (by omega)).1, (pk_un (by omega)).trans (h3 q9 (by omega)).2⟩
  refine r_aload_n g dX5_give_0 rfl ?_
  refine r_iconst (v := 0) g dX5_give_1 (by decide) ?_
  refine rm_put (F' := upd F 0 0) g hM hbm fX5_88 (by decide) rfl dX5_give_2 ?_
  intro h_7 hM
  refine r_aload_n g dX5_give_5 rfl ?_
  refine r_iconst (v := 0) g dX5_give_6 (by decide) ?_
  refine rm_put (F' := upd (upd F 0 0) 24 0) g hM hbm fX5_130 (by decide) rfl dX5_give_7 ?_
  intro h_9 hM
  refine r_iconst (v := 0) g dX5_give_10 (by decide) ?_
  refine r_istore_n g dX5_give_11 rfl rfl rfl ?_
  exact loopA (s.1 3) 0 A _ hM (Nat.zero_add _) (fun _ _ _ _ => rfl) (fun j hj => absurd hj (Nat.not_lt_zero _)) (fun _ _ => rfl) (fun q hq => absurd hq (Nat.not_lt_zero _))
end
section
/-! 18: the class's state: Giving at gv, its arrays behind it; Rows at r, its arrays behind it; Lift, its Rows behind it; Ride -/
def goff (kf : Nat) : Nat := if kf < 7 then kf + 1 else kf
def glen (kf : Nat) : Nat := match kf with
  | 6 => 64
  | 11 => 24
  | 13 => 4
  | _ => 6
def garr (kf : Nat) : Bool := decide (kf < 7 ∨ (8 ≤ kf ∧ kf < 14))
def gobj (gv : Nat) (C : Int32) (Lz : Int64) : List Value := [.ref (gv + goff 0), .ref (gv + goff 1), .ref (gv + goff 2), .ref (gv + goff 3), .ref (gv + goff 4), .ref (gv + goff 5), .ref (gv + goff 6), .int C, .ref (gv + goff 8), .ref (gv + goff 9), .ref (gv + goff 10), .ref (gv + goff 11), .ref (gv + goff 12), .ref (gv + goff 13), .long Lz]
def GO (h : Hp) (gv : Nat) (C : Int32) (Lz : Int64) (GA : Nat → Nat → Int32) : Prop := h gv = some (eO 0 (gobj gv C Lz)) ∧ ∀ kf, garr kf = true → h (gv + goff kf) = some (eI (glen kf) (GA kf))
/-- outside n cells from a on all stays -/
def Fr (a n : Nat) (h h' : Hp) : Prop := ∀ q, (q < a ∨ a + n ≤ q) → h' q = h q
theorem Fr.rf {a n : Nat} {h : Hp} : Fr a n h h := fun _ _ => rfl
theorem Fr.tr {a n : Nat} {h h1 h2 : Hp} (x : Fr a n h h1) (y : Fr a n h1 h2) : Fr a n h h2 := fun q hq => (y q hq).trans (x q hq)
def GS (h0 h : Hp) (gv : Nat) (C : Int32) (Lz : Int64) (GA : Nat → Nat → Int32) : Prop := GO h gv C Lz GA ∧ Fr gv 14 h0 h
def robj (r : Nat) (W : Nat → Int32) : List Value := [.int (W 0), .int (W 1), .int (W 2), .int (W 3), .ref (r + 1), .ref (r + 2)]
def RO (h : Hp) (r : Nat) (W : Nat → Int32) (CO : Nat → Int64) (FI : Nat → Int32) : Prop := h r = some (eO 3 (robj r W)) ∧ h (r + 1) = some (eJ 448 CO) ∧ h (r + 2) = some (eI 448 FI)
def RwS (h0 h : Hp) (r : Nat) (W : Nat → Int32) (CO : Nat → Int64) (FI : Nat → Int32) : Prop := RO h r W CO FI ∧ Fr r 3 h0 h
def lobj (a : Nat) (LF : Nat → Int32) : List Value := [.int (LF 0), .int (LF 1), .int (LF 2), .int (LF 3), .int (LF 4), .int (LF 5), .ref (a + 1)]
def dobj (RF : Nat → Int32) : List Value := [.int (RF 0), .int (RF 1), .int (RF 2), .int (RF 3), .int (RF 4), .int (RF 5)]
theorem goff_rng {kf : Nat} (h : garr kf = true) : 1 ≤ goff kf ∧ goff kf < 14 := by
  have h9 := of_decide_eq_true h
  unfold goff
  split <;> omega
theorem goff_inj {a b : Nat} (ha : garr a = true) (hb : garr b = true) (e : goff a = goff b) : a = b := by
  have h1 := of_decide_eq_true ha
  have h2 := of_decide_eq_true hb
  unfold goff at e
  split at e <;> split at e <;> omega
theorem glen_lt (kf : Nat) : glen kf < 2 ^ 31 := by
  unfold glen
  split <;> decide
theorem GS.rf {h : Hp} {gv : Nat} {C : Int32} {Lz : Int64} {GA : Nat → Nat → Int32} (x : GO h gv C Lz GA) : GS h h gv C Lz GA := ⟨x, Fr.rf⟩
theorem RwS.rf {h : Hp} {r : Nat} {W : Nat → Int32} {CO : Nat → Int64} {FI : Nat → Int32} (x : RO h r W CO FI) : RwS h h r W CO FI := ⟨x, Fr.rf⟩
theorem GS.then {h0 h h' : Hp} {gv : Nat} {C C' : Int32} {Lz Lz' : Int64} {GA GA' : Nat → Nat → Int32} (x : GS h0 h gv C Lz GA) (y : GS h h' gv C' Lz' GA') : GS h0 h' gv C' Lz' GA' := ⟨y.1, x.2.tr y.2⟩
theorem RwS.then {h0 h h' : Hp} {r : Nat} {W W' : Nat → Int32} {CO CO' : Nat → Int64} {FI FI' : Nat → Int32} (x : RwS h0 h r W CO FI) (y : RwS h h' r W' CO' FI') : RwS h0 h' r W' CO' FI' := ⟨y.1, x.2.tr y.2⟩
theorem RO.fr {h0 h : Hp} {a n r : Nat} {W : Nat → Int32} {CO : Nat → Int64} {FI : Nat → Int32} (x : RO h0 r W CO FI) (f : Fr a n h0 h) (d : r + 3 ≤ a ∨ a + n ≤ r) : RO h r W CO FI :=
  ⟨(f r (by omega)).trans x.1, (f (r + 1) (by omega)).trans x.2.1, (f (r + 2) (by omega)).trans x.2.2⟩
theorem GO.fr {h0 h : Hp} {a n gv : Nat} {C : Int32} {Lz : Int64} {GA : Nat → Nat → Int32} (x : GO h0 gv C Lz GA) (f : Fr a n h0 h) (d : gv + 14 ≤ a ∨ a + n ≤ gv) : GO h gv C Lz GA :=
  ⟨(f gv (by omega)).trans x.1, fun kf hk => (f _ (by have := goff_rng hk; omega)).trans (x.2 kf hk)⟩
theorem GS.putO {h0 h : Hp} {gv : Nat} {C C' : Int32} {Lz Lz' : Int64} {GA : Nat → Nat → Int32} (x : GS h0 h gv C Lz GA) : GS h0 (hpU h gv (eO 0 (gobj gv C' Lz'))) gv C' Lz' GA := by
  refine ⟨⟨hpU_eq _ _ _, fun kf hk => ?_⟩, fun q hq => ?_⟩
  · rw [hpU_ne (by have := goff_rng hk; omega)]; exact x.1.2 kf hk
  · rw [hpU_ne (by omega)]; exact x.2 q hq
theorem GS.putA {h0 h : Hp} {gv kf : Nat} {C : Int32} {Lz : Int64} {GA : Nat → Nat → Int32} {f : Nat → Int32} (x : GS h0 h gv C Lz GA) (hk : garr kf = true) : GS h0 (hpU h (gv + goff kf) (eI (glen kf) f)) gv C Lz (upA GA kf f) := by
  have hr := goff_rng hk
  refine ⟨⟨?_, fun q hq => ?_⟩, fun q hq => ?_⟩
  · rw [hpU_ne (by omega)]; exact x.1.1
  · by_cases e : q = kf
    · subst e; rw [hpU_eq, upA_eq]
    · rw [hpU_ne (fun z => e (goff_inj hq hk (by omega))), upA_ne e]; exact x.1.2 q hq
  · rw [hpU_ne (by omega)]; exact x.2 q hq
theorem RwS.putO {h0 h : Hp} {r : Nat} {W W' : Nat → Int32} {CO : Nat → Int64} {FI : Nat → Int32} (x : RwS h0 h r W CO FI) : RwS h0 (hpU h r (eO 3 (robj r W'))) r W' CO FI :=
  ⟨⟨hpU_eq _ _ _, (hpU_ne (by omega)).trans x.1.2.1, (hpU_ne (by omega)).trans x.1.2.2⟩, fun q hq => (hpU_ne (by omega)).trans (x.2 q hq)⟩
theorem RwS.putC {h0 h : Hp} {r : Nat} {W : Nat → Int32} {CO CO' : Nat → Int64} {FI : Nat → Int32} (x : RwS h0 h r W CO FI) : RwS h0 (hpU h (r + 1) (eJ 448 CO')) r W CO' FI :=
  ⟨⟨(hpU_ne (by omega)).trans x.1.1, hpU_eq _ _ _, (hpU_ne (by omega)).trans x.1.2.2⟩, fun q hq => (hpU_ne (by omega)).trans (x.2 q hq)⟩
theorem RwS.putI {h0 h : Hp} {r : Nat} {W : Nat → Int32} {CO : Nat → Int64} {FI FI' : Nat → Int32} (x : RwS h0 h r W CO FI) : RwS h0 (hpU h (r + 2) (eI 448 FI')) r W CO FI' :=
  ⟨⟨(hpU_ne (by omega)).trans x.1.1, (hpU_ne (by omega)).trans x.1.2.1, hpU_eq _ _ _⟩, fun q hq => (hpU_ne (by omega)).trans (x.2 q hq)⟩
section CRULES
variable {k : Cx} {own : String} {cc : ByteArray} {cells slots : Nat} {h0 h : Hp} {nx pc : Nat} {ls : List (Option Value)} {st stk : List Value} {idx : Nat}
theorem rg_iald (kf : Nat) {gv : Nat} {C : Int32} {Lz : Int64} {GA : Nat → Nat → Int32} {i : Int32} {j : Nat} (g : Gd k own cc) (hG : GO h gv C Lz GA) (hk : garr kf = true) (hi : i = nI j) (hj : j < glen kf) (d : decode cc pc = .ok (.iaload, 1)) (kk : Sf k cells slots h nx (pc + 1) ls (.int (GA kf j) :: st)) : Sf k cells slots h nx pc ls (.int i :: .ref (gv + goff kf) :: st) :=
  r_iald g (hG.2 kf hk) hi hj (glen_lt kf) d kk
theorem rg_iast (kf : Nat) {gv : Nat} {C : Int32} {Lz : Int64} {GA : Nat → Nat → Int32} {i x : Int32} {j : Nat} (g : Gd k own cc) (hG : GS h0 h gv C Lz GA) (hb : cBase k ≤ gv) (hk : garr kf = true) (hi : i = nI j) (hj : j < glen kf) (d : decode cc pc = .ok (.iastore, 1)) (kk : ∀ h', GS h0 h' gv C Lz (upA GA kf (upd (GA kf) j x)) → Sf k cells slots h' nx (pc + 1) ls st) : Sf k cells slots h nx pc ls (.int x :: .int i :: .ref (gv + goff kf) :: st) :=
  r_iast g (hG.1.2 kf hk) (Nat.le_trans hb (Nat.le_add_right _ _)) hi hj (glen_lt kf) d (kk _ (hG.putA hk))
theorem rg_cnt {gv : Nat} {C v : Int32} {Lz : Int64} {GA : Nat → Nat → Int32} (g : Gd k own cc) (hG : GS h0 h gv C Lz GA) (hb : cBase k ≤ gv) (f : FL own idx 0 7 .int false) (d : decode cc pc = .ok (.putfield idx, 3)) (kk : ∀ h', GS h0 h' gv v Lz GA → Sf k cells slots h' nx (pc + 3) ls st) : Sf k cells slots h nx pc ls (.int v :: .ref gv :: st) :=
  r_putf g f hG.1.1 hb (show 7 < 15 by decide) rfl rfl d (kk _ hG.putO)
theorem rg_lst {gv : Nat} {C : Int32} {Lz v : Int64} {GA : Nat → Nat → Int32} (g : Gd k own cc) (hG : GS h0 h gv C Lz GA) (hb : cBase k ≤ gv) (f : FL own idx 0 14 .long false) (d : decode cc pc = .ok (.putfield idx, 3)) (kk : ∀ h', GS h0 h' gv C v GA → Sf k cells slots h' nx (pc + 3) ls st) : Sf k cells slots h nx pc ls (.long v :: .ref gv :: st) :=
  r_putf g f hG.1.1 hb (show 14 < 15 by decide) rfl rfl d (kk _ hG.putO)
theorem rr_put {r kf : Nat} {W W' : Nat → Int32} {CO : Nat → Int64} {FI : Nat → Int32} {v : Int32} (g : Gd k own cc) (hR : RwS h0 h r W CO FI) (hb : cBase k ≤ r) (f : FL own idx 3 kf .int false) (hl : kf < 6) (hW : (robj r W).set kf (.int v) = robj r W') (d : decode cc pc = .ok (.putfield idx, 3)) (kk : ∀ h', RwS h0 h' r W' CO FI → Sf k cells slots h' nx (pc + 3) ls st) : Sf k cells slots h nx pc ls (.int v :: .ref r :: st) :=
  r_putf g f hR.1.1 hb hl rfl rfl d (kk _ (by rw [hW]; exact hR.putO))
theorem rr_last {r : Nat} {W : Nat → Int32} {CO : Nat → Int64} {FI : Nat → Int32} {i : Int32} {j : Nat} {x : Int64} (g : Gd k own cc) (hR : RwS h0 h r W CO FI) (hb : cBase k ≤ r) (hi : i = nI j) (hj : j < 448) (d : decode cc pc = .ok (.lastore, 1)) (kk : ∀ h', RwS h0 h' r W (vp_updL CO j x) FI → Sf k cells slots h' nx (pc + 1) ls st) : Sf k cells slots h nx pc ls (.long x :: .int i :: .ref (r + 1) :: st) :=
  r_last g hR.1.2.1 (Nat.le_trans hb (Nat.le_add_right _ _)) hi hj (by decide) d (kk _ hR.putC)
theorem rr_iast {r : Nat} {W : Nat → Int32} {CO : Nat → Int64} {FI : Nat → Int32} {i x : Int32} {j : Nat} (g : Gd k own cc) (hR : RwS h0 h r W CO FI) (hb : cBase k ≤ r) (hi : i = nI j) (hj : j < 448) (d : decode cc pc = .ok (.iastore, 1)) (kk : ∀ h', RwS h0 h' r W CO (upd FI j x) → Sf k cells slots h' nx (pc + 1) ls st) : Sf k cells slots h nx pc ls (.int x :: .int i :: .ref (r + 2) :: st) :=
  r_iast g hR.1.2.2 (Nat.le_trans hb (Nat.le_add_right _ _)) hi hj (by decide) d (kk _ hR.putI)
end CRULES
/-! the rows by sets and places -/
theorem perms_step : ∀ S, S < 64 → S ≠ 0 → perms S = (List.range 6).flatMap (fun i => if S.testBit i = true then (perms (S - 2 ^ i)).map (fun p => i :: p) else []) := by decide +kernel
def plc (s : AS) (c P : Nat) : Nat := if P < 6 then gto s P else s.2.1 c 1
def tpl (s : AS) (c P : Nat) : Nat := if P < 6 then 0 else gdl s c
def pcst (s : AS) (c P : Nat) (p : List Nat) : Nat := rowC (s.2.1 c 0) (gfr s) (gto s) (gw s) (plc s c P) (tpl s c P) p
def okP (s : AS) (c S P : Nat) (p : List Nat) : Bool := if P < 6 then true else okF (firstF s c S (gn s)) p
def bp (s : AS) (c S P : Nat) : Option (Nat × List Nat) := brs (pcst s c P) (okP s c S P) (perms S) none
def bpc (s : AS) (c S P : Nat) : Nat := ((bp s c S P).getD (0, [])).1
def bpr (s : AS) (c S P : Nat) : List Nat := ((bp s c S P).getD (0, [])).2
theorem bp_start (s : AS) (c S : Nat) : bp s c S 6 = gbest s c S := rfl
def bur (s : AS) : List Nat → Nat
  | [] => 0
  | x :: r => (gw s x + 1) + bur s r
def burS (s : AS) (S : Nat) : Nat → Nat
  | 0 => 0
  | n + 1 => burS s S n + (if S.testBit n = true then gw s n + 1 else 0)
/-- what slot i costs as the first of a set -/
def valI (s : AS) (c S P i : Nat) : Nat := gw s i * (tpl s c P + dist (plc s c P) (gfr s i) * s.2.1 c 0) + (tpl s c P + dist (plc s c P) (gfr s i) * s.2.1 c 0 + (3 + dist (gfr s i) (gto s i) * s.2.1 c 0)) + (tpl s c P + dist (plc s c P) (gfr s i) * s.2.1 c 0 + (3 + dist (gfr s i) (gto s i) * s.2.1 c 0) + 3) * burS s (S - 2 ^ i) 6 + bpc s c (S - 2 ^ i) i
/-- the slots that a row of a set may begin with -/
def frs (s : AS) (c S P : Nat) : Nat := if P < 6 then S else if firstF s c S (gn s) = 6 then S else 2 ^ firstF s c S (gn s)
def chs (s : AS) (c S P : Nat) : Option (Nat × Nat) := brs (valI s c S P) (fun i => (frs s c S P).testBit i) (List.range 6) none
theorem rowC_lin (sp : Nat) (s : AS) (d : Nat) : ∀ (p : List Nat) (pl t : Nat), rowC sp (gfr s) (gto s) (gw s) pl (t + d) p = rowC sp (gfr s) (gto s) (gw s) pl t p + d * bur s p
  | [], _, _ => by simp [rowC, bur]
  | x :: r, pl, t => by
    unfold rowC bur
    have ih := rowC_lin sp s d r (gto s x) (t + dist pl (gfr s x) * sp + (3 + dist (gfr s x) (gto s x) * sp) + 3)
    rw [show t + d + dist pl (gfr s x) * sp + (3 + dist (gfr s x) (gto s x) * sp) + 3 = t + dist pl (gfr s x) * sp + (3 + dist (gfr s x) (gto s x) * sp) + 3 + d by omega, ih, show t + d + dist pl (gfr s x) * sp = t + dist pl (gfr s x) * sp + d by omega, Nat.mul_add, Nat.mul_add d, Nat.mul_add d, Nat.mul_one, Nat.mul_comm d (gw s x)]
    omega
theorem sub_bit : ∀ S, S < 64 → ∀ i, i < 6 → S.testBit i = true → ∀ j, j < 6 → (S - 2 ^ i).testBit j = (S.testBit j && decide (j ≠ i)) := by decide +kernel
theorem sub_lt {S i : Nat} (h : S.testBit i = true) : 2 ^ i ≤ S := Nat.ge_two_pow_of_testBit h
theorem burS_cong {s : AS} {S T : Nat} : ∀ n, (∀ j, j < n → S.testBit j = T.testBit j) → burS s S n = burS s T n
  | 0, _ => rfl
  | n + 1, h => by unfold burS; rw [burS_cong n (fun j hj => h j (by omega)), h n (by omega)]
theorem burS_sub {s : AS} {S T i : Nat} (hb : S.testBit i = true) (hT : ∀ j, j < 6 → T.testBit j = (S.testBit j && decide (j ≠ i))) : ∀ n, n ≤ 6 → burS s T n + (if i < n then gw s i + 1 else 0) = burS s S n
  | 0, _ => by simp [burS]
  | n + 1, hn => by
    have ih := burS_sub (s := s) hb hT n (by omega)
    unfold burS
    rw [hT n (by omega)]
    by_cases e : n = i
    · subst e
      rw [if_neg (Nat.lt_irrefl _)] at ih
      rw [hb, if_pos (Nat.lt_succ_self n)]
      simp
      omega
    · rw [decide_eq_true e, Bool.and_true]
      by_cases e2 : i < n
      · rw [if_pos e2] at ih; rw [if_pos (show i < n + 1 by omega)]; split <;> omega
      · rw [if_neg e2] at ih; rw [if_neg (show ¬ i < n + 1 by omega)]; split <;> omega
theorem perms_0 : perms 0 = [[]] := by decide +kernel
theorem bur_perm {s : AS} : ∀ (p : List Nat) (S : Nat), S < 64 → p ∈ perms S → bur s p = burS s S 6
  | [], S, hS, hp => by
    have hS0 : S = 0 := by
      by_cases e : S = 0
      · exact e
      · rw [perms_step S hS e, List.mem_flatMap] at hp
        obtain ⟨i, -, hi⟩ := hp
        split at hi
        · obtain ⟨q, -, hq⟩ := List.mem_map.mp hi
          cases hq
        · cases hi
    subst hS0
    rfl
  | x :: p, S, hS, hp => by
    by_cases e : S = 0
    · subst e
      rw [perms_0] at hp
      cases List.mem_singleton.mp hp
    · rw [perms_step S hS e, List.mem_flatMap] at hp
      obtain ⟨i, h6, hi⟩ := hp
      split at hi
      · next hb =>
        obtain ⟨q, hq, hqq⟩ := List.mem_map.mp hi
        cases hqq
        have ih := bur_perm (s := s) p (S - 2 ^ x) (Nat.lt_of_le_of_lt (Nat.sub_le _ _) hS) hq
        unfold bur
        rw [ih, ← burS_sub (s := s) (S := S) (T := S - 2 ^ x) hb (sub_bit S hS x (List.mem_range.mp h6) hb) 6 (Nat.le_refl _), if_pos (List.mem_range.mp h6)]
        omega
      · cases hi
end
