/-! 29: the class's state; its methods that change nothing -/
def oL (s : AS) : List Nat := (List.range (s.1 3)).filter (isOp s)
def oc (s : AS) (i : Nat) : Nat := (oL s).getD i 0
def oi (s : AS) (x : Int32) : Nat := (oL s).idxOf (iN x)
theorem oL_len (s : AS) : (oL s).length = nOp s := filt_len _ _
theorem oL_nd (s : AS) : (oL s).Nodup := List.Pairwise.filter _ List.nodup_range
theorem oL_lt (s : AS) : (oL s).Pairwise (· < ·) := List.Pairwise.filter _ List.pairwise_lt_range
theorem oc_get {s : AS} {i : Nat} (h : i < nOp s) : oc s i = (oL s)[i]'(by rw [oL_len]; exact h) := by
  unfold oc
  rw [List.getD_eq_getElem?_getD, List.getElem?_eq_getElem (by rw [oL_len]; exact h)]
  rfl
theorem oc_at {s : AS} {i : Nat} (h : i < nOp s) : oc s i < s.1 3 ∧ isOp s (oc s i) = true := by
  have h1 : oc s i ∈ oL s := by rw [oc_get h]; exact List.getElem_mem _
  unfold oL at h1
  rw [List.mem_filter, List.mem_range] at h1
  exact h1
theorem oc_lt {s : AS} {i j : Nat} (hij : i < j) (hj : j < nOp s) : oc s i < oc s j := by
  rw [oc_get (Nat.lt_trans hij hj), oc_get hj]
  exact List.pairwise_iff_getElem.mp (oL_lt s) i j _ _ hij
theorem oc_inj {s : AS} {i j : Nat} (hi : i < nOp s) (hj : j < nOp s) (e : oc s i = oc s j) : i = j := by
  rcases Nat.lt_trichotomy i j with q | q | q
  · have := oc_lt q hj; omega
  · exact q
  · have := oc_lt q hi; omega
theorem oi_at {s : AS} {x : Int32} (hA : AI s) (h : opB s x = true) : oi s x < nOp s ∧ oc s (oi s x) = iN x := by
  have h1 := opB_at hA h
  have hm : iN x ∈ oL s := by
    unfold oL
    rw [List.mem_filter, List.mem_range]
    exact ⟨h1.1, by unfold isOp; rw [decide_eq_true h1.2.2]⟩
  have hl := List.idxOf_lt_length_iff.mpr hm
  have hl2 : oi s x < nOp s := by rw [← oL_len]; exact hl
  refine ⟨hl2, ?_⟩
  rw [oc_get hl2]
  exact List.getElem_idxOf hl
theorem opB_of {s : AS} (hA : AI s) {x : Int32} {i : Nat} (hi : i < nOp s) (e : nI (oc s i) = x) : opB s x = true ∧ oi s x = i := by
  have h1 := oc_at hi
  have h4 := hA.2.2.2.1
  have h2 : iN x = oc s i := by rw [← e, iN_nI (by omega)]
  have h3 : opB s x = true := by
    unfold opB
    rw [h2, h1.2, ← e, inB_nI h1.1 (by omega)]
    rfl
  have h5 := oi_at hA h3
  exact ⟨h3, oc_inj h5.1 hi (h5.2.trans h2)⟩
theorem opB_none {s : AS} (hA : AI s) {x : Int32} (h : ∀ i, i < nOp s → nI (oc s i) ≠ x) : opB s x = false := by
  cases hb : opB s x with
  | false => rfl
  | true =>
    have h1 := oi_at hA hb
    refine absurd ?_ (h _ h1.1)
    rw [h1.2]
    exact (opB_at hA hb).2.1.symm
def rfA (n : Nat) (ra : Nat → Nat) : Nat → Option Nat := fun i => if i < n then some (ra i) else none
def lfS (s : AS) (cs : Nat → Nat) (c : Nat) : Nat → Int32 := fun q => match q with
  | 0 => nI (s.2.1 c 0)
  | 1 => nI (s.2.1 c 1)
  | 2 => nI (cs c)
  | 3 => nI (s.2.1 c 3)
  | 4 => nI (s.2.1 c 4)
  | _ => nI (s.2.1 c 5)
def rfS (s : AS) (k : Nat) : Nat → Int32 := fun q => match q with
  | 0 => nI k
  | 1 => nI (s.2.2 k 0)
  | 2 => nI (s.2.2 k 1)
  | 3 => nI (s.2.2 k 2)
  | 4 => nI (s.2.2 k 4)
  | _ => beI (s.2.2 k 5)
def cobj (x : Nat) (s : AS) : List Value := [.int (nI (s.1 0)), .ref (x + 1), .int (nI (s.1 2)), .ref (x + 2), .int (nI (nOp s)), .int (nI (s.1 3)), .int (nI (s.1 1)), .ref (x + 3)]
/-- the class at x is s: its lifts at la, its open calls at ra, the lifts' seconds cs -/
def CB (h : Hp) (x : Nat) (s : AS) (la ra cs : Nat → Nat) : Prop := h x = some (eO 4 (cobj x s)) ∧ h (x + 1) = some (eQ 0 4 (lfA s la)) ∧ h (x + 2) = some (eQ 1 6 (rfA (nOp s) ra)) ∧
  (∀ c, c < s.1 2 → h (la c) = some (eO 1 (lobj (la c) (lfS s cs c))) ∧ ∃ W CO FI, RO h (la c + 1) W CO FI ∧ ∀ j, j < 7 → CO j = 0) ∧ ∀ i, i < nOp s → h (ra i) = some (eO 2 (dobj (rfS s (oc s i))))
def CLo (s : AS) (x lo nx : Nat) (la ra : Nat → Nat) : Prop := x + 17 ≤ lo ∧ lo ≤ nx ∧ (∀ c, c < s.1 2 → lo ≤ la c ∧ la c + 4 ≤ nx) ∧ (∀ c c', c < c' → c' < s.1 2 → la c + 4 ≤ la c') ∧ (∀ i, i < nOp s → lo ≤ ra i ∧ ra i < nx) ∧ (∀ i j, i < j → j < nOp s → ra i < ra j) ∧ ∀ c i, c < s.1 2 → i < nOp s → ra i < la c ∨ la c + 4 ≤ ra i
def CCs (s : AS) (cs : Nat → Nat) : Prop := ∀ c, c < s.1 2 → cs c ≤ 100000 ∧ cs c - s.1 1 = gdl s c
/-- the giving that was made answers as r -/
def GLr (r : GR) (C : Int32) (GA : Nat → Nat → Int32) : Prop := ∃ n, n ≤ 6 ∧ C = nI n ∧ (∀ i j, i < n → j < n → GA 8 i = GA 8 j → i = j) ∧
  (∀ k, k < 400 → (r.1 k 0 = 4 ∧ ∀ i, i < n → GA 8 i ≠ nI k) ∨ ∃ i, i < n ∧ GA 8 i = nI k ∧ r.1 k 0 < 4 ∧ GA 3 i = nI (r.1 k 0) ∧ GA 4 i = nI (r.1 k 1) ∧ GA 5 i = nI (r.1 k 2) ∧ GA 2 i = nI (r.1 k 3)) ∧
  (∀ c j, c < 4 → j < 6 → GA 11 (c * 6 + j) = if j < r.2.2 c then nI (r.2.1 c j) else -1) ∧ ∀ c, c < 4 → r.2.2 c ≤ 6
def CI (h : Hp) (x lo nx : Nat) (s : AS) (r : GR) : Prop := ∃ (la ra cs : Nat → Nat) (C : Int32) (Lz : Int64) (GA : Nat → Nat → Int32), CB h x s la ra cs ∧ CLo s x lo nx la ra ∧ CCs s cs ∧ GO h (x + 3) C Lz GA ∧ GLr r C GA ∧ GA 6 0 = 0
def lfB (s : AS) (la : Nat → Nat) (c : Int32) : Option Nat := if inB c (s.1 2) = true then some (la (iN c)) else none
def rdB (s : AS) (ra : Nat → Nat) (x : Int32) : Option Nat := if opB s x = true then some (ra (oi s x)) else none

set_option maxHeartbeats 4000000 in
set_option maxRecDepth 100000 in
theorem ok_c_isFloor (l : Launch) (G : Nat → ClassId) (D : va_G) (base : Nat) {h : Hp} {nx x : Nat} {s : AS} {la ra cs : Nat → Nat} (hA : AI s) (hB : CB h x s la ra cs) (f : Int32) : MetP l G D base miX4_isFloor 0 0 0 [.ref x, .int f] h nx (Kv (.int (b2 (inB f (s.1 0)))) h nx) := by
  refine MetP_of (by decide +kernel) rfl ?_
  intro k g hr hR hcl hcg hcd hcb hcn hnx
  subst hcl; subst hcg; subst hcd; subst hcb
  show Sf k 0 0 h nx 0 [some (.ref x), some (.int f)] []
  refine r_iload_n g dX4_isFloor_0 rfl ?_
  refine r_if_lt 16 g dX4_isFloor_1 (by decide) (fun c1 => ?_) (fun c1 => ?_)
  · skip
    refine r_iconst (v := 0) g dX4_isFloor_16 (by decide) ?_
    exact r_zret g hr (Nat.le_refl _) (Nat.le_refl _) dX4_isFloor_17 rfl ⟨congrArg (fun z => some (Value.int z)) (by show (0 : Int32) = b2 (inB f (s.1 0)); unfold inB; rw [decide_eq_false (fun z => by first | exact absurd c1 (Int32.not_lt.mpr z.1) | exact absurd c9 (Int32.not_le.mpr z.2))]; rfl), rfl, rfl⟩
  · skip
    refine r_iload_n g dX4_isFloor_4 rfl ?_
    refine r_aload_n g dX4_isFloor_5 rfl ?_
    refine r_getf g fX4_37 hB.1 rfl dX4_isFloor_6 ?_
    refine r_icmp_ge 16 g dX4_isFloor_9 (by decide) (fun c9 => ?_) (fun c9 => ?_)
    · skip
      refine r_iconst (v := 0) g dX4_isFloor_16 (by decide) ?_
      exact r_zret g hr (Nat.le_refl _) (Nat.le_refl _) dX4_isFloor_17 rfl ⟨congrArg (fun z => some (Value.int z)) (by show (0 : Int32) = b2 (inB f (s.1 0)); unfold inB; rw [decide_eq_false (fun z => by first | exact absurd c1 (Int32.not_lt.mpr z.1) | exact absurd c9 (Int32.not_le.mpr z.2))]; rfl), rfl, rfl⟩
    · skip
      refine r_iconst (v := 1) g dX4_isFloor_12 (by decide) ?_
      refine r_goto 17 g dX4_isFloor_13 (by decide) ?_
      exact r_zret g hr (Nat.le_refl _) (Nat.le_refl _) dX4_isFloor_17 rfl ⟨congrArg (fun z => some (Value.int z)) (by show (1 : Int32) = b2 (inB f (s.1 0)); unfold inB; rw [decide_eq_true (show 0 ≤ f ∧ f < _ from ⟨Int32.not_lt.mp c1, Int32.not_le.mp c9⟩)]; rfl), rfl, rfl⟩
set_option maxHeartbeats 4000000 in
set_option maxRecDepth 100000 in
theorem ok_c_wasCalled (l : Launch) (G : Nat → ClassId) (D : va_G) (base : Nat) {h : Hp} {nx x : Nat} {s : AS} {la ra cs : Nat → Nat} (hA : AI s) (hB : CB h x s la ra cs) (y : Int32) : MetP l G D base miX4_wasCalled 0 0 0 [.ref x, .int y] h nx (Kv (.int (b2 (inB y (s.1 3)))) h nx) := by
  refine MetP_of (by decide +kernel) rfl ?_
  intro k g hr hR hcl hcg hcd hcb hcn hnx
  subst hcl; subst hcg; subst hcd; subst hcb
  show Sf k 0 0 h nx 0 [some (.ref x), some (.int y)] []
  refine r_iload_n g dX4_wasCalled_0 rfl ?_
  refine r_if_lt 16 g dX4_wasCalled_1 (by decide) (fun c1 => ?_) (fun c1 => ?_)
  · skip
    refine r_iconst (v := 0) g dX4_wasCalled_16 (by decide) ?_
    exact r_zret g hr (Nat.le_refl _) (Nat.le_refl _) dX4_wasCalled_17 rfl ⟨congrArg (fun z => some (Value.int z)) (by show (0 : Int32) = b2 (inB y (s.1 3)); unfold inB; rw [decide_eq_false (fun z => by first | exact absurd c1 (Int32.not_lt.mpr z.1) | exact absurd c9 (Int32.not_le.mpr z.2))]; rfl), rfl, rfl⟩
  · skip
    refine r_iload_n g dX4_wasCalled_4 rfl ?_
    refine r_aload_n g dX4_wasCalled_5 rfl ?_
    refine r_getf g fX4_95 hB.1 rfl dX4_wasCalled_6 ?_
    refine r_icmp_ge 16 g dX4_wasCalled_9 (by decide) (fun c9 => ?_) (fun c9 => ?_)
    · skip
      refine r_iconst (v := 0) g dX4_wasCalled_16 (by decide) ?_
      exact r_zret g hr (Nat.le_refl _) (Nat.le_refl _) dX4_wasCalled_17 rfl ⟨congrArg (fun z => some (Value.int z)) (by show (0 : Int32) = b2 (inB y (s.1 3)); unfold inB; rw [decide_eq_false (fun z => by first | exact absurd c1 (Int32.not_lt.mpr z.1) | exact absurd c9 (Int32.not_le.mpr z.2))]; rfl), rfl, rfl⟩
    · skip
      refine r_iconst (v := 1) g dX4_wasCalled_12 (by decide) ?_
      refine r_goto 17 g dX4_wasCalled_13 (by decide) ?_
      exact r_zret g hr (Nat.le_refl _) (Nat.le_refl _) dX4_wasCalled_17 rfl ⟨congrArg (fun z => some (Value.int z)) (by show (1 : Int32) = b2 (inB y (s.1 3)); unfold inB; rw [decide_eq_true (show 0 ≤ y ∧ y < _ from ⟨Int32.not_lt.mp c1, Int32.not_le.mp c9⟩)]; rfl), rfl, rfl⟩
theorem lfB_in {s : AS} (hA : AI s) {la : Nat → Nat} {j : Nat} (hj : j < 4) : lfB s la (nI j) = lfA s la j := by
  have h4 := hA.2.2.1
  unfold lfB lfA
  rw [iN_nI (by omega)]
  by_cases h : j < s.1 2
  · rw [if_pos h, if_pos (inB_nI h (by omega))]
  · rw [if_neg h, if_neg (fun z => h (by have := (inB_at (by omega) z).1; rw [iN_nI (by omega)] at this; exact this))]
theorem lfB_no {s : AS} (hA : AI s) {la : Nat → Nat} {c : Int32} (h : c < 0 ∨ nI 4 ≤ c) : lfB s la c = none := by
  have h4 := hA.2.2.1
  refine if_neg (fun z => ?_)
  have h1 := inB_at (by omega) z
  rcases h with h | h
  · rw [h1.2] at h; exact nI_pos (by omega) h
  · rw [h1.2] at h; exact nI_ge (b := 4) (by omega) (by decide) h
set_option maxHeartbeats 4000000 in
set_option maxRecDepth 100000 in
theorem ok_c_liftOf (l : Launch) (G : Nat → ClassId) (D : va_G) (base : Nat) {h : Hp} {nx x : Nat} {s : AS} {la ra cs : Nat → Nat} (hA : AI s) (hB : CB h x s la ra cs) (c : Int32) : MetP l G D base miX4_liftOf 0 0 0 [.ref x, .int c] h nx (Kv (va_rf (lfB s la c)) h nx) := by
  refine MetP_of (by decide +kernel) rfl ?_
  intro k g hr hR hcl hcg hcd hcb hcn hnx
  subst hcl; subst hcg; subst hcd; subst hcb
  show Sf k 0 0 h nx 0 [some (.ref x), some (.int c)] []
  refine r_iload_n g dX4_liftOf_0 rfl ?_
  refine r_if_lt 22 g dX4_liftOf_1 (by decide) (fun c1 => ?_) (fun c1 => ?_)
  · skip
    refine r_null g dX4_liftOf_22 ?_
    exact r_aret g hr (Nat.le_refl _) (Nat.le_refl _) dX4_liftOf_23 (Or.inl rfl) ⟨congrArg some (by rw [lfB_no hA (by first | exact Or.inl c1 | exact Or.inr c10)]; rfl), rfl, rfl⟩
  · skip
    refine r_iload_n g dX4_liftOf_4 rfl ?_
    refine r_aload_n g dX4_liftOf_5 rfl ?_
    refine r_getf g fX4_11 hB.1 rfl dX4_liftOf_6 ?_
    refine r_alen g hB.2.1 (by decide) dX4_liftOf_9 ?_
    refine r_icmp_ge 22 g dX4_liftOf_10 (by decide) (fun c10 => ?_) (fun c10 => ?_)
    · skip
      refine r_null g dX4_liftOf_22 ?_
      exact r_aret g hr (Nat.le_refl _) (Nat.le_refl _) dX4_liftOf_23 (Or.inl rfl) ⟨congrArg some (by rw [lfB_no hA (by first | exact Or.inl c1 | exact Or.inr c10)]; rfl), rfl, rfl⟩
    · skip
      refine r_aload_n g dX4_liftOf_13 rfl ?_
      refine r_getf g fX4_11 hB.1 rfl dX4_liftOf_14 ?_
      refine r_iload_n g dX4_liftOf_17 rfl ?_
      obtain ⟨j, hj, rfl⟩ : ∃ j, j < 4 ∧ c = nI j := by
        obtain ⟨j, hj, rfl⟩ := nI_of c1
        exact ⟨j, Nat.lt_of_not_le (fun z => c10 (nI_le (a := 4) z hj)), rfl⟩
      refine r_aald (t := 0) (j := j) g hB.2.1 (by decide) rfl (by omega) (by decide) dX4_liftOf_18 ?_
      refine r_goto 23 g dX4_liftOf_19 (by decide) ?_
      exact r_aret g hr (Nat.le_refl _) (Nat.le_refl _) dX4_liftOf_23 (by cases lfA s la j with | none => exact Or.inl rfl | some v => exact Or.inr ⟨v, rfl⟩) ⟨congrArg some (by rw [lfB_in hA hj]), rfl, rfl⟩
set_option maxHeartbeats 4000000 in
set_option maxRecDepth 100000 in
theorem ok_c_openRide (l : Launch) (G : Nat → ClassId) (D : va_G) (base : Nat) {h : Hp} {nx x : Nat} {s : AS} {la ra cs : Nat → Nat} (hA : AI s) (hB : CB h x s la ra cs) (n : Int32) : MetP l G D base miX4_openRide 0 0 0 [.ref x, .int n] h nx (Kv (va_rf (rdB s ra n)) h nx) := by
  refine MetP_of (by decide +kernel) rfl ?_
  intro k g hr hR hcl hcg hcd hcb hcn hnx
  subst hcl; subst hcg; subst hcd; subst hcb
  obtain ⟨⟨hn1, hn2⟩, ht, hnc, hN, -⟩ := id hA
  have hop := hA.2.2.2.2.2.2.1
  show Sf k 0 0 h nx 0 [some (.ref x), some (.int n), none, none, none, none] []
  have loop : ∀ e i, i + e = 6 → (∀ j, j < i → j < nOp s → nI (oc s j) ≠ n) → Sf k 0 0 h nx 11 [some (.ref x), some (.int n), some (.ref (x + 2)), some (.int (nI 6)), some (.int (nI i)), none] [] := by
    intro e
    induction e with
    | zero =>
      intro i hi hno
      have hi2 : i = 6 := by omega
      subst hi2
      refine r_iload g dX4_openRide_11 rfl ?_
      refine r_iload_n g dX4_openRide_13 rfl ?_
      refine r_icmp_ge 46 g dX4_openRide_14 (by decide) (fun c14 => ?_) (fun c14 => absurd (show nI 6 ≤ nI 6 by decide) c14)
      refine r_null g dX4_openRide_46 ?_
      have q := opB_none hA (fun i hi => hno i (by omega) hi)
      exact r_aret g hr (Nat.le_refl _) (Nat.le_refl _) dX4_openRide_47 (Or.inl rfl) ⟨congrArg some (by unfold rdB; rw [if_neg (by rw [q]; decide)]; rfl), rfl, rfl⟩
    | succ e ih =>
      intro i hi hno
      by_cases hii : i < nOp s
      · skip
        refine r_iload g dX4_openRide_11 rfl ?_
        refine r_iload_n g dX4_openRide_13 rfl ?_
        refine r_icmp_ge 46 g dX4_openRide_14 (by decide) (fun c14 => absurd c14 (nI_ge (b := 6) (by omega) (by decide))) (fun c14 => ?_)
        refine r_aload_n g dX4_openRide_17 rfl ?_
        refine r_iload g dX4_openRide_18 rfl ?_
        refine r_aaldR (t := 1) (j := i) (v := (ra i)) g hB.2.2.1 (by decide) (if_pos hii) rfl (by omega) (by decide) dX4_openRide_20 ?_
        refine r_astore g dX4_openRide_21 rfl rfl rfl ?_
        refine r_aload g dX4_openRide_23 rfl ?_
        refine r_ifnull g dX4_openRide_25 ?_
        refine r_aload g dX4_openRide_28 rfl ?_
        refine r_getf g fX4_181 (hB.2.2.2.2 i hii) rfl dX4_openRide_30 ?_
        refine r_iload_n g dX4_openRide_33 rfl ?_
        refine r_icmp_ne 40 g dX4_openRide_34 (by decide) (fun c34 => ?_) (fun c34 => ?_)
        · skip
          refine r_iinc (v := (nI (i + 1))) g dX4_openRide_40 rfl (nI_add i 1) rfl rfl ?_
          refine r_goto 11 g dX4_openRide_43 (by decide) ?_
          refine r_le (ls2 := [some (.ref x), some (.int n), some (.ref (x + 2)), some (.int (nI 6)), some (.int (nI (i + 1))), none]) ⟨rfl, rfl, rfl, rfl, rfl, trivial⟩ ?_
          refine ih (i + 1) (by omega) (fun j hj hjn => ?_)
          by_cases e9 : j = i
          · subst e9; exact c34
          · exact hno j (by omega) hjn
        · skip
          refine r_aload g dX4_openRide_37 rfl ?_
          have q := opB_of hA hii c34
          exact r_aret g hr (Nat.le_refl _) (Nat.le_refl _) dX4_openRide_39 (Or.inr ⟨_, rfl⟩) ⟨congrArg some (by unfold rdB; rw [if_pos q.1, q.2]; rfl), rfl, rfl⟩
      · skip
        refine r_iload g dX4_openRide_11 rfl ?_
        refine r_iload_n g dX4_openRide_13 rfl ?_
        refine r_icmp_ge 46 g dX4_openRide_14 (by decide) (fun c14 => absurd c14 (nI_ge (b := 6) (by omega) (by decide))) (fun c14 => ?_)
        refine r_aload_n g dX4_openRide_17 rfl ?_
        refine r_iload g dX4_openRide_18 rfl ?_
        refine r_aaldN (t := 1) (j := i) g hB.2.2.1 (by decide) (if_neg hii) rfl (by omega) (by decide) dX4_openRide_20 ?_
        refine r_astoreN g dX4_openRide_21 rfl rfl rfl ?_
        refine r_aloadN g dX4_openRide_23 rfl ?_
        refine r_ifnullN 40 g dX4_openRide_25 (by decide) ?_
        refine r_iinc (v := (nI (i + 1))) g dX4_openRide_40 rfl (nI_add i 1) rfl rfl ?_
        refine r_goto 11 g dX4_openRide_43 (by decide) ?_
        refine r_le (ls2 := [some (.ref x), some (.int n), some (.ref (x + 2)), some (.int (nI 6)), some (.int (nI (i + 1))), none]) ⟨rfl, rfl, rfl, rfl, rfl, trivial⟩ ?_
        exact ih (i + 1) (by omega) (fun j hj hjn => hno j (by omega) hjn)
  refine r_aload_n g dX4_openRide_0 rfl ?_
  refine r_getf g fX4_17 hB.1 rfl dX4_openRide_1 ?_
  refine r_astore_n g dX4_openRide_4 rfl rfl rfl ?_
  refine r_aload_n g dX4_openRide_5 rfl ?_
  refine r_alen g hB.2.2.1 (by decide) dX4_openRide_6 ?_
  refine r_istore_n g dX4_openRide_7 rfl rfl rfl ?_
  refine r_iconst (v := 0) g dX4_openRide_8 (by decide) ?_
  refine r_istore g dX4_openRide_9 rfl rfl rfl ?_
  refine r_le (ls2 := [some (.ref x), some (.int n), some (.ref (x + 2)), some (.int (nI 6)), some (.int (nI 0)), none]) ⟨rfl, rfl, rfl, rfl, rfl, trivial⟩ ?_
  exact loop 6 0 rfl (fun j hj => absurd hj (Nat.not_lt_zero _))
set_option maxHeartbeats 4000000 in
set_option maxRecDepth 100000 in
theorem ok_c_within (l : Launch) (G : Nat → ClassId) (D : va_G) (base : Nat) {h : Hp} {nx a : Nat} {s : AS} {la cs : Nat → Nat} {c v : Nat} (hL : h a = some (eO 1 (lobj a (lfS s cs c)))) (h3 : s.2.1 c 3 < 2 ^ 31) (h4 : s.2.1 c 4 < 2 ^ 31) (hv : v < 2 ^ 31) : MetP l G D base miX1_within 0 0 0 [.ref a, .int (nI v)] h nx (Kv (.int (b2 (decide (s.2.1 c 3 ≤ v ∧ v ≤ s.2.1 c 4)))) h nx) := by
  refine MetP_of (by decide +kernel) rfl ?_
  intro k g hr hR hcl hcg hcd hcb hcn hnx
  subst hcl; subst hcg; subst hcd; subst hcb
  show Sf k 0 0 h nx 0 [some (.ref a), some (.int (nI v))] []
  refine r_iload_n g dX1_within_0 rfl ?_
  refine r_aload_n g dX1_within_1 rfl ?_
  refine r_getf g fX1_38 hL rfl dX1_within_2 ?_
  refine r_icmp_lt 20 g dX1_within_5 (by decide) (fun c5 => ?_) (fun c5 => ?_)
  · skip
    refine r_iconst (v := 0) g dX1_within_20 (by decide) ?_
    exact r_zret g hr (Nat.le_refl _) (Nat.le_refl _) dX1_within_21 rfl ⟨congrArg (fun z => some (Value.int z)) (by rw [← dI3 (by omega) (by omega) (by omega), decide_eq_false (fun z => by first | exact absurd c5 (Int32.not_lt.mpr z.1) | exact absurd c13 (Int32.not_lt.mpr z.2))]; rfl), rfl, rfl⟩
  · skip
    refine r_iload_n g dX1_within_8 rfl ?_
    refine r_aload_n g dX1_within_9 rfl ?_
    refine r_getf g fX1_23 hL rfl dX1_within_10 ?_
    refine r_icmp_gt 20 g dX1_within_13 (by decide) (fun c13 => ?_) (fun c13 => ?_)
    · skip
      refine r_iconst (v := 0) g dX1_within_20 (by decide) ?_
      exact r_zret g hr (Nat.le_refl _) (Nat.le_refl _) dX1_within_21 rfl ⟨congrArg (fun z => some (Value.int z)) (by rw [← dI3 (by omega) (by omega) (by omega), decide_eq_false (fun z => by first | exact absurd c5 (Int32.not_lt.mpr z.1) | exact absurd c13 (Int32.not_lt.mpr z.2))]; rfl), rfl, rfl⟩
    · skip
      refine r_iconst (v := 1) g dX1_within_16 (by decide) ?_
      refine r_goto 21 g dX1_within_17 (by decide) ?_
      exact r_zret g hr (Nat.le_refl _) (Nat.le_refl _) dX1_within_21 rfl ⟨congrArg (fun z => some (Value.int z)) (by rw [← dI3 (by omega) (by omega) (by omega), decide_eq_true ⟨Int32.not_lt.mp c5, Int32.not_lt.mp c13⟩]; rfl), rfl, rfl⟩
set_option maxHeartbeats 4000000 in
set_option maxRecDepth 100000 in
theorem ok_c_reaches (l : Launch) (G : Nat → ClassId) (D : va_G) (base : Nat) {h : Hp} {nx a b : Nat} {s : AS} {cs : Nat → Nat} {c q : Nat} (hA : AI s) (hc : c < s.1 2) (hq : q < s.1 3) (hL : h a = some (eO 1 (lobj a (lfS s cs c)))) (hRd : h b = some (eO 2 (dobj (rfS s q)))) : MetP l G D base miX1_reaches 1 0 0 [.ref a, .ref b] h nx (Kv (.int (b2 (witB s c q))) h nx) := by
  refine MetP_of (by decide +kernel) rfl ?_
  intro k g hr hR hcl hcg hcd hcb hcn hnx
  subst hcl; subst hcg; subst hcd; subst hcb
  have hk9 := hA.2.2.2.2.2.1 q hq
  have hc9 := hA.2.2.2.2.1 c hc
  have h60 := hA.1.2
  show Sf k 0 0 h nx 0 [some (.ref a), some (.ref b)] []
  refine r_aload_n g dX1_reaches_0 rfl ?_
  refine r_aload_n g dX1_reaches_1 rfl ?_
  refine r_getf g fX1_26 hRd rfl dX1_reaches_2 ?_
  refine r_pV g kX1_31 (ok_c_within _ _ _ _ (la := fun z => z) hL (by omega) (by omega) (v := s.2.2 q 0) (by omega)) hL rfl rfl rfl hnx hR (by decide) (Nat.zero_le _) (Nat.zero_le _) rfl rfl dX1_reaches_5 ?_
  refine r_if_eq 26 g dX1_reaches_8 (by decide) (fun c8 => ?_) (fun c8 => ?_)
  · skip
    have q1 := of_decide_eq_false (b2_f c8)
    refine r_iconst (v := 0) g dX1_reaches_26 (by decide) ?_
    exact r_zret g hr (Nat.le_refl _) (Nat.le_refl _) dX1_reaches_27 rfl ⟨congrArg (fun z => some (Value.int z)) (by unfold witB; rw [decide_eq_false (fun z => by first | exact q1 z.1 | exact q2 z.2)]; rfl), rfl, rfl⟩
  · skip
    have q1 := of_decide_eq_true (b2_t c8)
    refine r_aload_n g dX1_reaches_11 rfl ?_
    refine r_aload_n g dX1_reaches_12 rfl ?_
    refine r_getf g fX1_35 hRd rfl dX1_reaches_13 ?_
    refine r_pV g kX1_31 (ok_c_within _ _ _ _ (la := fun z => z) hL (by omega) (by omega) (v := s.2.2 q 1) (by omega)) hL rfl rfl rfl hnx hR (by decide) (Nat.zero_le _) (Nat.zero_le _) rfl rfl dX1_reaches_16 ?_
    refine r_if_eq 26 g dX1_reaches_19 (by decide) (fun c19 => ?_) (fun c19 => ?_)
    · skip
      have q2 := of_decide_eq_false (b2_f c19)
      refine r_iconst (v := 0) g dX1_reaches_26 (by decide) ?_
      exact r_zret g hr (Nat.le_refl _) (Nat.le_refl _) dX1_reaches_27 rfl ⟨congrArg (fun z => some (Value.int z)) (by unfold witB; rw [decide_eq_false (fun z => by first | exact q1 z.1 | exact q2 z.2)]; rfl), rfl, rfl⟩
    · skip
      have q2 := of_decide_eq_true (b2_t c19)
      refine r_iconst (v := 1) g dX1_reaches_22 (by decide) ?_
      refine r_goto 27 g dX1_reaches_23 (by decide) ?_
      exact r_zret g hr (Nat.le_refl _) (Nat.le_refl _) dX1_reaches_27 rfl ⟨congrArg (fun z => some (Value.int z)) (by unfold witB; rw [decide_eq_true ⟨q1, q2⟩]; rfl), rfl, rfl⟩
set_option maxHeartbeats 4000000 in
set_option maxRecDepth 100000 in
theorem ok_c_weightNow (l : Launch) (G : Nat → ClassId) (D : va_G) (base : Nat) {h : Hp} {nx x : Nat} {s : AS} {la ra cs : Nat → Nat} (hA : AI s) (hB : CB h x s la ra cs) {b i : Nat} (hi : i < nOp s) (hRd : h b = some (eO 2 (dobj (rfS s (oc s i))))) : MetP l G D base miX4_weightNow 0 0 0 [.ref x, .ref b] h nx (Kv (.int (nI (wgt s (oc s i)))) h nx) := by
  refine MetP_of (by decide +kernel) rfl ?_
  intro k g hr hR hcl hcg hcd hcb hcn hnx
  subst hcl; subst hcg; subst hcd; subst hcb
  obtain ⟨⟨hn1, hn2⟩, ht, hnc, hN, -⟩ := id hA
  have hop := hA.2.2.2.2.2.2.1
  have hk9 := hA.2.2.2.2.2.1 (oc s i) (oc_at hi).1
  show Sf k 0 0 h nx 0 [some (.ref x), some (.ref b), none] []
  refine r_iconst (v := 1) g dX4_weightNow_0 (by decide) ?_
  refine r_aload_n g dX4_weightNow_1 rfl ?_
  refine r_getf g fX4_100 hB.1 rfl dX4_weightNow_2 ?_
  refine r_aload_n g dX4_weightNow_5 rfl ?_
  refine r_getf g fX4_184 hRd rfl dX4_weightNow_6 ?_
  refine r_isub g dX4_weightNow_9 ?_
  refine r_topi (y := (nI (s.1 1 - s.2.2 (oc s i) 2))) (nI_sb (by omega)) ?_
  refine r_bipush (v := 30) g dX4_weightNow_10 (by decide) ?_
  refine r_idiv g dX4_weightNow_12 (by decide) ?_
  refine r_topi (y := (nI ((s.1 1 - s.2.2 (oc s i) 2) / 30))) (pk_div (d := 30) (by omega) (by decide) (by decide)) ?_
  refine r_iadd g dX4_weightNow_13 ?_
  refine r_topi (y := (nI (1 + ((s.1 1 - s.2.2 (oc s i) 2) / 30)))) (nI_add 1 ((s.1 1 - s.2.2 (oc s i) 2) / 30)) ?_
  refine r_istore_n g dX4_weightNow_14 rfl rfl rfl ?_
  refine r_aload_n g dX4_weightNow_15 rfl ?_
  refine r_getf g fX4_112 hRd rfl dX4_weightNow_16 ?_
  refine r_if_eq 28 g dX4_weightNow_19 (by decide) (fun c19 => ?_) (fun c19 => ?_)
  · skip
    have q := eq0 (by omega) c19
    refine r_iload_n g dX4_weightNow_28 rfl ?_
    exact r_iret g hr (Nat.le_refl _) (Nat.le_refl _) dX4_weightNow_29 ⟨congrArg (fun z => some (Value.int (nI z))) (by unfold wgt; rw [if_neg (by omega), Nat.mul_one]), rfl, rfl⟩
  · skip
    have q := nz1 (by omega) c19
    refine r_iconst (v := 4) g dX4_weightNow_22 (by decide) ?_
    refine r_iload_n g dX4_weightNow_23 rfl ?_
    refine r_imul g dX4_weightNow_24 ?_
    refine r_topi (y := (nI (4 * (1 + ((s.1 1 - s.2.2 (oc s i) 2) / 30))))) (pk_mul 4 (1 + ((s.1 1 - s.2.2 (oc s i) 2) / 30))) ?_
    refine r_goto 29 g dX4_weightNow_25 (by decide) ?_
    exact r_iret g hr (Nat.le_refl _) (Nat.le_refl _) dX4_weightNow_29 ⟨congrArg (fun z => some (Value.int (nI z))) (by unfold wgt; rw [if_pos q, Nat.mul_comm]), rfl, rfl⟩
