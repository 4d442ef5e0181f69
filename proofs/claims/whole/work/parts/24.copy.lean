/-! 24: a run of an array of ints, copied; loads of references by cases -/
section COPY
variable {k : Cx} {own : String} {cc : ByteArray} {cells slots : Nat} {h : Hp} {nx pc : Nat} {ls : List (Option Value)} {st : List Value}
theorem r_copyI {a0 a1 n0 n1 N idx lv0 mc0 ms0 : Nat} {f f1 : Nat → Int32} {n : Int32} (g : Gd k own cc) (w1 : Cond.methodLink own idx arraycopyName ∈ UW) (w2 : Cond.native arraycopyName ∈ UW) (w3 : Cond.static arraycopyName ∈ UW) (w4 : Cond.initialized "java/lang/System" ∈ UW) (ha0 : h a0 = some (eI n0 f)) (ha1 : h a1 = some (eI n1 f1)) (hb : cBase k ≤ a1) (hn : n = nI N) (hN : N < 2 ^ 31) (hN0 : N ≤ n0) (hN1 : N ≤ n1)
    (hR : RmK k lv0 mc0 ms0) (h1 : 1 ≤ lv0) (hW : Nat.ble ((st.map fun v => v.category).sum) 8 = true) (d : decode cc pc = .ok (.invokestatic idx, 3)) (kk : Sf k cells slots (hpU h a1 (eI n1 (va_cpy f f1 0 0 N))) nx (pc + 3) ls st) : Sf k cells slots h nx pc ls (.int n :: .int 0 :: .ref a1 :: .int 0 :: .ref a0 :: st) := by
  obtain ⟨p, l, e, R, s, m, args, below, meth, c, Q, base, G, D, nL⟩ := k
  intro H locs la hH hS hL T hT X
  subst hn
  have hcl : (nI N).toNatClampNeg = N := nI_clamp hN
  have q0 : H[a0]? = some (vp_cell (G 0) (n0, .inl f)) := hH.2 a0 _ ha0
  have q1 : H[a1]? = some (vp_cell (G 0) (n1, .inl f1)) := hH.2 a1 _ ha1
  have hT0 := (g.2.2.2.2.2.1.1.2 0 _ rfl).1
  obtain ⟨-, k0, hk0, cm0, hkk0⟩ := hT0 n0 (fun j => .int (f j))
  obtain ⟨-, k1, hk1, cm1, hkk1⟩ := hT0 n1 (fun j => .int (f1 j))
  have hts := g.2.2.2.2.1
  have h5 : 40 * lv0 ≤ R.locals := hR.2.1
  have hw8 := Nat.le_of_ble_eq_true hW
  have hnw : nativeFrameWords "java/lang/System" "arraycopy" 5 ≤ 20 := by decide +kernel
  have e1 : copied (vp_cell (G 0) (n0, .inl f)) (vp_cell (G 0) (n1, .inl f1)) 0 0 (nI N) = vp_cell (G 0) (n1, .inl (va_cpy f f1 0 0 N)) := by
    have z := va_copied (fun x => .int x) (G 0) (G 0) (n0 := n0) (n1 := n1) (sp := 0) (dp := 0) (n := (nI N).toNatClampNeg) f f1 (by rw [hcl]; omega)
    rw [show va_cpy f f1 0 0 N = va_cpy f f1 0 0 (nI N).toNatClampNeg by rw [hcl]]
    exact z
  obtain ⟨vm', X', step⟩ := X.arraycopy g.1 g.2.2.2.1 (hts _ w1) (hts _ w2) (hts _ w3) (hts _ w4) (src := a0) (dst := a1) (cs := vp_cell (G 0) (n0, .inl f)) (cd := vp_cell (G 0) (n1, .inl f1)) (srcPos := 0) (destPos := 0) (n := nI N) (by rw [hT]; exact q0) (by rw [hT]; exact q1)
    (fun _ z => by cases z) (fun _ z => by cases z) (fun z => by cases z) (fun z => by cases z) hk0 hk1 hkk0 hkk1 rfl (by decide) (by decide) (nI_pos hN)
    (by rw [nI_toInt hN]; show ¬ (0 : Int) + _ > ((arrV (G 0) n0 (fun j => .int (f j))).slots.size : Int); rw [arrV_size]; omega)
    (by rw [nI_toInt hN]; show ¬ (0 : Int) + _ > ((arrV (G 0) n1 (fun j => .int (f1 j))).slots.size : Int); rw [arrV_size]; omega)
    (fun vm₁ _ i hi => by
      rw [hcl] at hi
      have e : (vp_cell (G 0) (n0, .inl f)).slots.getD ((0 : Int32).toNatClampNeg + i) .null = .int (f i) := by
        show (arrV (G 0) n0 (fun j => .int (f j))).slots.getD (0 + i) .null = _
        rw [Nat.zero_add, Array.getD_eq_getD_getElem?, arrV_read _ _ (by omega)]
        rfl
      rw [e]
      exact ⟨rfl, trivial⟩)
    (g := F0 m pc la (.int (nI N) :: .int 0 :: .ref a1 :: .int 0 :: .ref a0 :: st)) rfl (hL.1.trans g.2.2.1.symm) (rest := st) rfl (by rw [g.2.1]; exact d) (Nat.le_trans h1 hR.1) (by show 2 * 0 + _ + _ ≤ R.locals; omega)
  rw [e1] at X' step
  have hl : a1 < H.size := (Array.getElem?_eq_some_iff.mp q1).1
  have oq : ∀ q : Nat, q ≠ a1 → (H.setIfInBounds a1 (vp_cell (G 0) (n1, .inl (va_cpy f f1 0 0 N))))[q]? = H[q]? := fun q hq => by simp [Array.getElem?_setIfInBounds, Ne.symm hq]
  have ez : (H.setIfInBounds a1 (vp_cell (G 0) (n1, .inl (va_cpy f f1 0 0 N)))).size = H.size := by simp
  have eh : ((T.setVm vm').setCell a1 (vp_cell (G 0) (n1, .inl (va_cpy f f1 0 0 N)))).heap = H.setIfInBounds a1 (vp_cell (G 0) (n1, .inl (va_cpy f f1 0 0 N))) := by rw [← hT]; rfl
  obtain ⟨t, z1, z2⟩ := kk _ _ la (hp_put hH ez oq (by show (H.setIfInBounds a1 _)[a1]? = some _; simp [Array.getElem?_setIfInBounds, hl])) ⟨by rw [ez]; exact hS.1, fun q g1 g2 => (oq q (fun z => g2 (by rw [z]; exact hb))).trans (hS.2.1 q g1 g2), fun q hq => by
    rcases List.mem_append.mp hq with z | z
    · exact hS.2.2 q z
    · obtain ⟨y, -, hy⟩ := List.mem_map.mp z
      rw [← hy]
      exact hb⟩ hL _ eh X'
  exact ⟨t, step t z1, z2⟩
theorem r_aaldR {a n j t v : Nat} {f : Nat → Option Nat} {i : Int32} (g : Gd k own cc) (ha : h a = some (eQ t n f)) (ht : t < 2) (e : f j = some v) (hi : i = nI j) (hj : j < n) (hn : n < 2 ^ 31) (d : decode cc pc = .ok (.aaload, 1)) (kk : Sf k cells slots h nx (pc + 1) ls (.ref v :: st)) : Sf k cells slots h nx pc ls (.int i :: .ref a :: st) :=
  r_aald g ha ht hi hj hn d (by rw [e]; exact kk)
theorem r_aaldN {a n j t : Nat} {f : Nat → Option Nat} {i : Int32} (g : Gd k own cc) (ha : h a = some (eQ t n f)) (ht : t < 2) (e : f j = none) (hi : i = nI j) (hj : j < n) (hn : n < 2 ^ 31) (d : decode cc pc = .ok (.aaload, 1)) (kk : Sf k cells slots h nx (pc + 1) ls (.null :: st)) : Sf k cells slots h nx pc ls (.int i :: .ref a :: st) :=
  r_aald g ha ht hi hj hn d (by rw [e]; exact kk)
end COPY
/-! the lifts, their rows weighed -/
def lfA (s : AS) (la : Nat → Nat) : Nat → Option Nat := fun c => if c < s.1 2 then some (la c) else none
def LR (h : Hp) (s : AS) (xl gv : Nat) (la : Nat → Nat) : Prop := h xl = some (eQ 0 4 (lfA s la)) ∧ (xl < gv ∨ gv + 14 ≤ xl) ∧ ∀ c, c < s.1 2 → (gv + 14 ≤ la c ∨ la c + 4 ≤ gv) ∧ ∃ LF W CO FI, h (la c) = some (eO 1 (lobj (la c) LF)) ∧ RO h (la c + 1) W CO FI ∧ WF s c W ∧ RK s c 64 CO FI
theorem LR.fr {h h' : Hp} {s : AS} {xl gv : Nat} {la : Nat → Nat} (x : LR h s xl gv la) (f : Fr gv 14 h h') : LR h' s xl gv la := by
  refine ⟨(f xl x.2.1).trans x.1, x.2.1, fun c hc => ?_⟩
  obtain ⟨h1, LF, W, CO, FI, h2, h3, h4, h5⟩ := x.2.2 c hc
  exact ⟨h1, LF, W, CO, FI, (f _ (by omega)).trans h2, h3.fr f (by omega), h4, h5⟩
theorem cost_at {s : AS} {c S : Nat} {CO : Nat → Int64} {FI : Nat → Int32} (h : RK s c 64 CO FI) (hS : S < 64) (hs : S &&& abl s c = S) : CO (S * 7 + 6) = lN (gcst s c S) := by
  by_cases e : S = 0
  · subst e
    show CO 6 = _
    rw [h.1 6 (by decide), show gcst s c 0 = bpc s c 0 6 from rfl, (bp_0 s c 6).1]
    rfl
  · exact (h.2 S 6 hS e hs (Or.inl rfl)).1
theorem sub_abl {s : AS} {c S : Nat} (h : ∀ i, S.testBit i = true → i < gn s ∧ (carsN s (gk s i)).testBit c = true) : S &&& abl s c = S := by
  apply Nat.eq_of_testBit_eq
  intro i
  rw [Nat.testBit_and]
  cases hb : S.testBit i with
  | false => rfl
  | true => unfold abl; rw [abS_bit, decide_eq_true (h i hb).1, (h i hb).2]; rfl
/-- the slots so far are dealt to cars that they have -/
def okD (s : AS) (d : List Nat) : Prop := ∀ i, i < d.length → (carsN s (gk s i)).testBit (d.getD i 0) = true
theorem okD.sub {s : AS} {d : List Nat} (h : okD s d) (hl : d.length ≤ gn s) (c : Nat) : setO d c d.length &&& abl s c = setO d c d.length := by
  refine sub_abl (fun i hi => ?_)
  rw [setO_bit, Bool.and_eq_true] at hi
  have h1 := of_decide_eq_true hi.1
  have h2 := of_decide_eq_true hi.2
  exact ⟨by omega, by rw [← h2]; exact h i h1⟩
theorem okD.snoc {s : AS} {d : List Nat} {c : Nat} (h : okD s d) (hc : (carsN s (gk s d.length)).testBit c = true) : okD s (d ++ [c]) := by
  intro i hi
  rw [List.length_append] at hi
  have hi2 : i < d.length + 1 := hi
  by_cases e : i = d.length
  · subst e
    have := app_at d [] c
    rw [List.append_nil] at this
    rw [this]
    exact hc
  · rw [List.getD_eq_getElem?_getD, List.getElem?_append_left (by omega), ← List.getD_eq_getElem?_getD]
    exact h i (by omega)
theorem okD.good {s : AS} {d : List Nat} (h : okD s d) (hl : d.length = gn s) : ggood s d = true := (ggood_iff _).mpr (fun i hi => h i (by omega))
def AccG (s : AS) (a : Option (Nat × List Nat)) (Lz : Int64) (GA : Nat → Nat → Int32) : Prop := Lz = lN (curA a) ∧ curA a ≤ 1152921504606846976 ∧ ∀ b, a = some b → ∀ i, i < gn s → GA 3 i = nI (b.2.getD i 0)
/-- what stays while cars are tried for the slots from m on -/
def StG (GA GA' : Nat → Nat → Int32) (m : Nat) : Prop := (∀ kf, kf ≠ 3 → kf ≠ 12 → kf ≠ 13 → GA' kf = GA kf) ∧ (∀ j, j < 4 → GA' 13 j = GA 13 j) ∧ ∀ j, j < m → GA' 12 j = GA 12 j
theorem StG.rf {GA : Nat → Nat → Int32} {m : Nat} : StG GA GA m := ⟨fun _ _ _ _ => rfl, fun _ _ => rfl, fun _ _ => rfl⟩
theorem psumF_lt {s : AS} (hA : AI s) {d : List Nat} {r : Nat} (h : d.length + r = gn s) : psumF s d d.length (s.1 2) < 1152921504606846976 := by
  have h1 := psum_pr hA (d := d) (x := []) h
  have h2 := gtot_lt hA (d ++ []) (s.1 2) (Nat.le_refl _)
  have h3 := hA.2.2.1
  have h4 : s.1 2 * 2 ^ 40 ≤ 4 * 2 ^ 40 := Nat.mul_le_mul_right _ h3
  unfold gtot at h1
  omega
