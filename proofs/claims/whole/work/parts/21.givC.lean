/-! 21: the small methods of Giving -/
theorem GO.cong {h : Hp} {gv : Nat} {C : Int32} {Lz : Int64} {GA GA' : Nat → Nat → Int32} (x : GO h gv C Lz GA) (e : ∀ kf, garr kf = true → GA' kf = GA kf) : GO h gv C Lz GA' := ⟨x.1, fun kf hk => by rw [e kf hk]; exact x.2 kf hk⟩
def KGs (h : Hp) (nx gv : Nat) (Q : Int32 → Int64 → (Nat → Nat → Int32) → Prop) (r : Option Value) : Option Value → Hp → Nat → Prop := fun v h' nx' => v = r ∧ nx = nx' ∧ ∃ C' Lz' GA', GS h h' gv C' Lz' GA' ∧ Q C' Lz' GA'
def QCl (C : Int32) (Lz : Int64) (GA : Nat → Nat → Int32) : Int32 → Int64 → (Nat → Nat → Int32) → Prop := fun C' Lz' GA' => C' = C ∧ Lz' = Lz ∧ (∀ kf, kf ≠ 11 → GA' kf = GA kf) ∧ ∀ j, j < 24 → GA' 11 j = -1
theorem beg_u {s : AS} (hA : AI s) {c i j : Nat} (hc : c ≠ 4) (hi : i < gn s) (hj : j < gn s) (h1 : s.2.2 (gk s i) 5 = c) (h2 : s.2.2 (gk s j) 5 = c) : i = j :=
  gk_inj hi hj (hA.2.2.2.2.2.2.2 _ _ (gk_at hi).1 (gk_at hj).1 (gk_at hi).2.1 (gk_at hj).2.1 (h1.trans h2.symm) (by rw [h1]; exact hc))
theorem firstF_none {s : AS} {c S : Nat} : ∀ n, n ≤ 6 → firstF s c S n = 6 → ∀ j, j < n → ¬ (S.testBit j = true ∧ s.2.2 (gk s j) 5 = c)
  | 0, _, _, j, hj => absurd hj (Nat.not_lt_zero _)
  | n + 1, hn, h, j, hj => by
    unfold firstF at h
    by_cases q : S.testBit n = true ∧ s.2.2 (gk s n) 5 = c
    · rw [if_pos q] at h; omega
    · rw [if_neg q] at h
      by_cases e : j = n
      · subst e; exact q
      · exact firstF_none n (by omega) h j (by omega)
theorem firstF_of {s : AS} (hA : AI s) {c S i : Nat} (hc : c ≠ 4) (hi : i < gn s) (hb : S.testBit i = true) (h : s.2.2 (gk s i) 5 = c) : firstF s c S (gn s) = i := by
  have hg := gn_le hA
  rcases firstF_at s c S (gn s) hg with z | z
  · exact absurd ⟨hb, h⟩ (firstF_none _ hg z i hi)
  · exact beg_u hA hc z.1 hi z.2.2 h
theorem bit63 : ∀ i, i < 6 → (63 : Nat).testBit i = true := by decide +kernel
theorem bsl_of {s : AS} (hA : AI s) {c i : Nat} (hc : c ≠ 4) (hi : i < gn s) (h : s.2.2 (gk s i) 5 = c) : bsl s c = i :=
  firstF_of hA hc hi (bit63 i (by have := gn_le hA; omega)) h
theorem bsl_no {s : AS} (hA : AI s) {c : Nat} (h : ∀ i, i < gn s → s.2.2 (gk s i) 5 ≠ c) : bsl s c = 6 := by
  rcases firstF_at s c 63 (gn s) (gn_le hA) with z | z
  · exact z
  · exact absurd z.2.2 (h _ z.1)
theorem bsl_at {s : AS} (hA : AI s) (c : Nat) : bsl s c = 6 ∨ (bsl s c < gn s ∧ s.2.2 (gk s (bsl s c)) 5 = c) := by
  rcases firstF_at s c 63 (gn s) (gn_le hA) with z | z
  · exact Or.inl z
  · exact Or.inr ⟨z.1, z.2.2⟩
theorem frs_6 {s : AS} (hA : AI s) {c S : Nat} (hc : c ≠ 4) (h : bsl s c = 6 ∨ S.testBit (bsl s c) = false) : frs s c S 6 = S := by
  have hg := gn_le hA
  have : firstF s c S (gn s) = 6 := by
    rcases firstF_at s c S (gn s) hg with z | z
    · exact z
    · have e := bsl_of hA hc z.1 z.2.2
      rcases h with h | h
      · omega
      · rw [e, z.2.1] at h; cases h
  unfold frs
  rw [if_neg (by decide), if_pos this]
theorem frs_b {s : AS} (hA : AI s) {c S : Nat} (hc : c ≠ 4) (h : bsl s c ≠ 6) (hb : S.testBit (bsl s c) = true) : frs s c S 6 = 2 ^ bsl s c := by
  rcases bsl_at hA c with z | z
  · exact absurd z h
  · have e := firstF_of hA hc z.1 hb z.2
    unfold frs
    rw [if_neg (by decide), e, if_neg h]
theorem frs_i (s : AS) (c S : Nat) {P : Nat} (h : P < 6) : frs s c S P = S := if_pos h
theorem beB_6 {b : Nat} (h : b ≤ 6) : beB b = -1 ↔ b = 6 := by
  unfold beB
  by_cases e : b = 6
  · rw [if_pos e]; exact ⟨fun _ => e, fun _ => rfl⟩
  · rw [if_neg e]
    exact ⟨fun z => absurd (congrArg Int32.toInt z) (by rw [nI_toInt (by omega)]; show ((b : Nat) : Int) ≠ -1; omega), fun z => absurd z e⟩
theorem beB_n {b : Nat} (h : b ≠ 6) : beB b = nI b := if_neg h
theorem burS_up {s : AS} {S n : Nat} (h : S < 2 ^ n) : ∀ k, burS s S (n + k) = burS s S n
  | 0 => rfl
  | k + 1 => by
    have hb : S.testBit (n + k) = false := Nat.testBit_lt_two_pow (Nat.lt_of_lt_of_le h (Nat.pow_le_pow_right (by decide) (by omega)))
    show burS s S (n + k) + (if S.testBit (n + k) = true then gw s (n + k) + 1 else 0) = _
    rw [hb, if_neg (by decide)]
    exact burS_up h k
theorem burS_1 {s : AS} {S n : Nat} (h : S.testBit n = true) : burS s S (n + 1) = burS s S n + (gw s n + 1) := by
  show burS s S n + (if S.testBit n = true then gw s n + 1 else 0) = _
  rw [if_pos h]
theorem burS_0 {s : AS} {S n : Nat} (h : S.testBit n = false) : burS s S (n + 1) = burS s S n := by
  show burS s S n + (if S.testBit n = true then gw s n + 1 else 0) = _
  rw [h]; rfl
theorem burS_00 (s : AS) : ∀ n, burS s 0 n = 0
  | 0 => rfl
  | n + 1 => by rw [burS_0 (Nat.zero_testBit _)]; exact burS_00 s n
theorem abS_1 {s : AS} {c n : Nat} (h : (carsN s (gk s n)).testBit c = true) : abS s c (n + 1) = abS s c n + 2 ^ n := by
  show abS s c n + (if (carsN s (gk s n)).testBit c = true then 2 ^ n else 0) = _
  rw [if_pos h]
theorem abS_0 {s : AS} {c n : Nat} (h : (carsN s (gk s n)).testBit c = false) : abS s c (n + 1) = abS s c n := by
  show abS s c n + (if (carsN s (gk s n)).testBit c = true then 2 ^ n else 0) = _
  rw [h]; rfl
/-- what slotOf says: the first of n cells that is x -/
def KSl (f : Nat → Int32) (x : Int32) (n : Nat) (h : Hp) (nx : Nat) : Option Value → Hp → Nat → Prop := fun v h' nx' => h = h' ∧ nx = nx' ∧ ∃ y : Int32, v = some (.int y) ∧ ((y = -1 ∧ ∀ i, i < n → f i ≠ x) ∨ ∃ i, i < n ∧ f i = x ∧ y = nI i)

set_option maxHeartbeats 4000000 in
set_option maxRecDepth 100000 in
theorem ok_g_clearRows (l : Launch) (G : Nat → ClassId) (D : va_G) (base : Nat) {h0 : Hp} {nx : Nat} {gv : Nat} {C : Int32} {Lz : Int64} {GA : Nat → Nat → Int32} (hG : GO h0 gv C Lz GA) (hbg : base ≤ gv) : MetP l G D base miX0_clearRows 0 0 0 [.ref gv] h0 nx (KGs h0 nx gv (QCl C Lz GA) none) := by
  refine MetP_of (by decide +kernel) rfl ?_
  intro k g hr hR hcl hcg hcd hcb hcn hnx
  subst hcl; subst hcg; subst hcd; subst hcb
  have hG := GS.rf hG
  show Sf k 0 0 h0 nx 0 [some (.ref gv), none] []
  have loop : ∀ e i (GA1 : Nat → Nat → Int32) (h : Hp), GS h0 h gv C Lz GA1 → i + e = 24 → (∀ kf, kf ≠ 11 → GA1 kf = GA kf) → (∀ j, j < i → GA1 11 j = -1) → Sf k 0 0 h nx 2 [some (.ref gv), some (.int (nI i))] [] := by
    intro e
    induction e with
    | zero =>
      intro i GA1 h hG hi hfr hj1
      have hi2 : i = 24 := by omega
      subst hi2
      refine r_iload_n g dX0_clearRows_2 rfl ?_
      refine r_aload_n g dX0_clearRows_3 rfl ?_
      refine r_getf g fX0_44 hG.1.1 rfl dX0_clearRows_4 ?_
      refine r_alen g (hG.1.2 11 rfl) (by decide) dX0_clearRows_7 ?_
      refine r_icmp_ge 24 g dX0_clearRows_8 (by decide) (fun c8 => ?_) (fun c8 => absurd (show nI 24 ≤ nI 24 by decide) c8)
      exact r_vret g hr (Nat.le_refl _) (Nat.le_refl _) dX0_clearRows_24 ⟨rfl, rfl, C, Lz, GA1, hG, rfl, rfl, hfr, hj1⟩
    | succ e ih =>
      intro i GA1 h hG hi hfr hj1
      refine r_iload_n g dX0_clearRows_2 rfl ?_
      refine r_aload_n g dX0_clearRows_3 rfl ?_
      refine r_getf g fX0_44 hG.1.1 rfl dX0_clearRows_4 ?_
      refine r_alen g (hG.1.2 11 rfl) (by decide) dX0_clearRows_7 ?_
      refine r_icmp_ge 24 g dX0_clearRows_8 (by decide) (fun c8 => absurd c8 (nI_ge (b := 24) (by omega) (by decide))) (fun c8 => ?_)
      refine r_aload_n g dX0_clearRows_11 rfl ?_
      refine r_getf g fX0_44 hG.1.1 rfl dX0_clearRows_12 ?_
      refine r_iload_n g dX0_clearRows_15 rfl ?_
      refine r_iconst (v := (-1)) g dX0_clearRows_16 (by decide) ?_
      refine rg_iast 11 (j := i) g hG hbg rfl rfl (show i < 24 by omega) dX0_clearRows_17 ?_
      intro h_1 hG
      refine r_iinc (v := (nI (i + 1))) g dX0_clearRows_18 rfl (nI_add i 1) rfl rfl ?_
      refine r_goto 2 g dX0_clearRows_21 (by decide) ?_
      refine ih (i + 1) _ _ hG (by omega) (fun kf hk => (upA_ne hk).trans (hfr kf hk)) (fun j hj => ?_)
      rw [upA_eq]
      by_cases e9 : j = i
      · subst e9; exact pk_us
      · exact (pk_un e9).trans (hj1 j (by omega))
  refine r_iconst (v := 0) g dX0_clearRows_0 (by decide) ?_
  refine r_istore_n g dX0_clearRows_1 rfl rfl rfl ?_
  exact loop 24 0 GA _ hG (Nat.zero_add _) (fun _ _ => rfl) (fun j hj => absurd hj (Nat.not_lt_zero _))
set_option maxHeartbeats 4000000 in
set_option maxRecDepth 100000 in
theorem ok_g_clear (l : Launch) (G : Nat → ClassId) (D : va_G) (base : Nat) {h0 : Hp} {nx : Nat} {gv : Nat} {C : Int32} {Lz : Int64} {GA : Nat → Nat → Int32} (hG : GO h0 gv C Lz GA) (hbg : base ≤ gv) : MetP l G D base miX0_clear 1 0 0 [.ref gv] h0 nx (KGs h0 nx gv (QCl 0 Lz GA) none) := by
  refine MetP_of (by decide +kernel) rfl ?_
  intro k g hr hR hcl hcg hcd hcb hcn hnx
  subst hcl; subst hcg; subst hcd; subst hcb
  have hG := GS.rf hG
  show Sf k 0 0 h0 nx 0 [some (.ref gv)] []
  refine r_aload_n g dX0_clear_0 rfl ?_
  refine r_iconst (v := 0) g dX0_clear_1 (by decide) ?_
  refine rg_cnt (v := 0) g hG hbg fX0_56 dX0_clear_2 ?_
  intro h_1 hG
  refine r_aload_n g dX0_clear_5 rfl ?_
  refine r_callV g kX0_53 (ok_g_clearRows _ _ _ _ hG.1 hbg) hG.1.1 rfl rfl rfl hnx hR (by decide) (Nat.zero_le _) (Nat.zero_le _) rfl rfl dX0_clear_6 ?_
  rintro v9 h_2 nx9 ⟨rfl, rfl, C9, Lz9, GA9, hG9, rfl, rfl, hf9, hm9⟩ -
  have hG := hG.then hG9
  exact r_vret g hr (Nat.le_refl _) (Nat.le_refl _) dX0_clear_9 ⟨rfl, rfl, 0, _, _, hG, rfl, rfl, hf9, hm9⟩
def addA (GA : Nat → Nat → Int32) (n : Nat) (RF : Nat → Int32) (w a : Int32) : Nat → Nat → Int32 := upA (upA (upA (upA (upA (upA GA 8 (upd (GA 8) n (RF 0))) 0 (upd (GA 0) n (RF 1))) 1 (upd (GA 1) n (RF 2))) 2 (upd (GA 2) n w)) 9 (upd (GA 9) n a)) 10 (upd (GA 10) n (RF 5))
set_option maxHeartbeats 4000000 in
set_option maxRecDepth 100000 in
theorem ok_g_add (l : Launch) (G : Nat → ClassId) (D : va_G) (base : Nat) {h0 : Hp} {nx : Nat} {gv : Nat} {C : Int32} {Lz : Int64} {GA : Nat → Nat → Int32} {n ra : Nat} {RF : Nat → Int32} (hC : C = nI n) (hn : n < 6) (hG : GO h0 gv C Lz GA) (hrd : h0 ra = some (eO 2 (dobj RF))) (hda : ra < gv ∨ gv + 14 ≤ ra) (hbg : base ≤ gv) (w a : Int32) : MetP l G D base miX0_add 0 0 0 [.ref gv, .ref ra, .int w, .int a] h0 nx (KGs h0 nx gv (fun C2 Lz2 GA2 => C2 = nI (n + 1) ∧ Lz2 = Lz ∧ GA2 = addA GA n RF w a) none) := by
  refine MetP_of (by decide +kernel) rfl ?_
  intro k g hr hR hcl hcg hcd hcb hcn hnx
  subst hcl; subst hcg; subst hcd; subst hcb
  have hG := GS.rf hG
  show Sf k 0 0 h0 nx 0 [some (.ref gv), some (.ref ra), some (.int w), some (.int a)] []
  refine r_aload_n g dX0_add_0 rfl ?_
  refine r_getf g fX0_56 hG.1.1 rfl dX0_add_1 ?_
  refine r_topi (y := (nI n)) hC ?_
  refine r_bipush (v := 6) g dX0_add_4 (by decide) ?_
  refine r_icmp_ge 91 g dX0_add_6 (by decide) (fun c6 => absurd c6 (nI_ge (b := 6) hn (by decide))) (fun c6 => ?_)
  refine r_aload_n g dX0_add_9 rfl ?_
  refine r_getf g fX0_35 hG.1.1 rfl dX0_add_10 ?_
  refine r_aload_n g dX0_add_13 rfl ?_
  refine r_getf g fX0_56 hG.1.1 rfl dX0_add_14 ?_
  refine r_topi (y := (nI n)) hC ?_
  refine r_aload_n g dX0_add_17 rfl ?_
  refine r_getf g fX0_60 ((hG.2 ra hda).trans hrd) rfl dX0_add_18 ?_
  refine rg_iast 8 (j := n) g hG hbg rfl rfl (show n < 6 from hn) dX0_add_21 ?_
  intro h_1 hG
  refine r_aload_n g dX0_add_22 rfl ?_
  refine r_getf g fX0_9 hG.1.1 rfl dX0_add_23 ?_
  refine r_aload_n g dX0_add_26 rfl ?_
  refine r_getf g fX0_56 hG.1.1 rfl dX0_add_27 ?_
  refine r_topi (y := (nI n)) hC ?_
  refine r_aload_n g dX0_add_30 rfl ?_
  refine r_getf g fX0_64 ((hG.2 ra hda).trans hrd) rfl dX0_add_31 ?_
  refine rg_iast 0 (j := n) g hG hbg rfl rfl (show n < 6 from hn) dX0_add_34 ?_
  intro h_2 hG
  refine r_aload_n g dX0_add_35 rfl ?_
  refine r_getf g fX0_15 hG.1.1 rfl dX0_add_36 ?_
  refine r_aload_n g dX0_add_39 rfl ?_
  refine r_getf g fX0_56 hG.1.1 rfl dX0_add_40 ?_
  refine r_topi (y := (nI n)) hC ?_
  refine r_aload_n g dX0_add_43 rfl ?_
  refine r_getf g fX0_66 ((hG.2 ra hda).trans hrd) rfl dX0_add_44 ?_
  refine rg_iast 1 (j := n) g hG hbg rfl rfl (show n < 6 from hn) dX0_add_47 ?_
  intro h_3 hG
  refine r_aload_n g dX0_add_48 rfl ?_
  refine r_getf g fX0_18 hG.1.1 rfl dX0_add_49 ?_
  refine r_aload_n g dX0_add_52 rfl ?_
  refine r_getf g fX0_56 hG.1.1 rfl dX0_add_53 ?_
  refine r_topi (y := (nI n)) hC ?_
  refine r_iload_n g dX0_add_56 rfl ?_
  refine rg_iast 2 (j := n) g hG hbg rfl rfl (show n < 6 from hn) dX0_add_57 ?_
  intro h_4 hG
  refine r_aload_n g dX0_add_58 rfl ?_
  refine r_getf g fX0_38 hG.1.1 rfl dX0_add_59 ?_
  refine r_aload_n g dX0_add_62 rfl ?_
  refine r_getf g fX0_56 hG.1.1 rfl dX0_add_63 ?_
  refine r_topi (y := (nI n)) hC ?_
  refine r_iload_n g dX0_add_66 rfl ?_
  refine rg_iast 9 (j := n) g hG hbg rfl rfl (show n < 6 from hn) dX0_add_67 ?_
  intro h_5 hG
  refine r_aload_n g dX0_add_68 rfl ?_
  refine r_getf g fX0_41 hG.1.1 rfl dX0_add_69 ?_
  refine r_aload_n g dX0_add_72 rfl ?_
  refine r_getf g fX0_56 hG.1.1 rfl dX0_add_73 ?_
  refine r_topi (y := (nI n)) hC ?_
  refine r_aload_n g dX0_add_76 rfl ?_
  refine r_getf g fX0_68 ((hG.2 ra hda).trans hrd) rfl dX0_add_77 ?_
  refine rg_iast 10 (j := n) g hG hbg rfl rfl (show n < 6 from hn) dX0_add_80 ?_
  intro h_6 hG
  refine r_aload_n g dX0_add_81 rfl ?_
  refine r_dup g dX0_add_82 rfl ?_
  refine r_getf g fX0_56 hG.1.1 rfl dX0_add_83 ?_
  refine r_topi (y := (nI n)) hC ?_
  refine r_iconst (v := 1) g dX0_add_86 (by decide) ?_
  refine r_iadd g dX0_add_87 ?_
  refine r_topi (y := (nI (n + 1))) (nI_add n 1) ?_
  refine rg_cnt (v := (nI (n + 1))) g hG hbg fX0_56 dX0_add_88 ?_
  intro h_7 hG
  exact r_vret g hr (Nat.le_refl _) (Nat.le_refl _) dX0_add_91 ⟨rfl, rfl, _, _, _, hG, rfl, rfl, rfl⟩
set_option maxHeartbeats 4000000 in
set_option maxRecDepth 100000 in
theorem ok_g_slotOf (l : Launch) (G : Nat → ClassId) (D : va_G) (base : Nat) {h : Hp} {nx : Nat} {gv : Nat} {C : Int32} {Lz : Int64} {GA : Nat → Nat → Int32} {n : Nat} (hC : C = nI n) (hn : n ≤ 6) (hG : GO h gv C Lz GA) (x : Int32) : MetP l G D base miX0_slotOf 0 0 0 [.ref gv, .int x] h nx (KSl (GA 8) x n h nx) := by
  refine MetP_of (by decide +kernel) rfl ?_
  intro k g hr hR hcl hcg hcd hcb hcn hnx
  subst hcl; subst hcg; subst hcd; subst hcb
  show Sf k 0 0 h nx 0 [some (.ref gv), some (.int x), none] []
  have loop : ∀ e i, i + e = n → (∀ j, j < i → GA 8 j ≠ x) → Sf k 0 0 h nx 2 [some (.ref gv), some (.int x), some (.int (nI i))] [] := by
    intro e
    induction e with
    | zero =>
      intro i hi hno
      have hi2 : i = n := by omega
      subst hi2
      refine r_iload_n g dX0_slotOf_2 rfl ?_
      refine r_aload_n g dX0_slotOf_3 rfl ?_
      refine r_getf g fX0_56 hG.1 rfl dX0_slotOf_4 ?_
      refine r_topi (y := (nI i)) hC ?_
      refine r_icmp_ge 28 g dX0_slotOf_7 (by decide) (fun c7 => ?_) (fun c7 => absurd (nI_le (Nat.le_refl _) (by omega)) c7)
      refine r_iconst (v := (-1)) g dX0_slotOf_28 (by decide) ?_
      exact r_iret g hr (Nat.le_refl _) (Nat.le_refl _) dX0_slotOf_29 ⟨rfl, rfl, _, rfl, Or.inl ⟨rfl, hno⟩⟩
    | succ e ih =>
      intro i hi hno
      refine r_iload_n g dX0_slotOf_2 rfl ?_
      refine r_aload_n g dX0_slotOf_3 rfl ?_
      refine r_getf g fX0_56 hG.1 rfl dX0_slotOf_4 ?_
      refine r_topi (y := (nI n)) hC ?_
      refine r_icmp_ge 28 g dX0_slotOf_7 (by decide) (fun c7 => absurd c7 (nI_ge (by omega) (by omega))) (fun c7 => ?_)
      refine r_aload_n g dX0_slotOf_10 rfl ?_
      refine r_getf g fX0_35 hG.1 rfl dX0_slotOf_11 ?_
      refine r_iload_n g dX0_slotOf_14 rfl ?_
      refine rg_iald 8 (j := i) g hG rfl rfl (show i < 6 by omega) dX0_slotOf_15 ?_
      refine r_iload_n g dX0_slotOf_16 rfl ?_
      refine r_icmp_ne 22 g dX0_slotOf_17 (by decide) (fun c17 => ?_) (fun c17 => ?_)
      · skip
        refine r_iinc (v := (nI (i + 1))) g dX0_slotOf_22 rfl (nI_add i 1) rfl rfl ?_
        refine r_goto 2 g dX0_slotOf_25 (by decide) ?_
        refine ih (i + 1) (by omega) (fun j hj => ?_)
        by_cases e9 : j = i
        · subst e9; exact c17
        · exact hno j (by omega)
      · skip
        refine r_iload_n g dX0_slotOf_20 rfl ?_
        exact r_iret g hr (Nat.le_refl _) (Nat.le_refl _) dX0_slotOf_21 ⟨rfl, rfl, _, rfl, Or.inr ⟨i, by omega, c17, rfl⟩⟩
  refine r_iconst (v := 0) g dX0_slotOf_0 (by decide) ?_
  refine r_istore_n g dX0_slotOf_1 rfl rfl rfl ?_
  exact loop n 0 (Nat.zero_add _) (fun j hj => absurd hj (Nat.not_lt_zero _))
set_option maxHeartbeats 4000000 in
set_option maxRecDepth 100000 in
theorem ok_g_begunSlot (l : Launch) (G : Nat → ClassId) (D : va_G) (base : Nat) {h : Hp} {nx : Nat} {gv : Nat} {C : Int32} {Lz : Int64} {GA : Nat → Nat → Int32} {n : Nat} (hC : C = nI n) (hn : n ≤ 6) (hG : GO h gv C Lz GA) (x : Int32) : MetP l G D base miX0_begunSlot 0 0 0 [.ref gv, .int x] h nx (KSl (GA 10) x n h nx) := by
  refine MetP_of (by decide +kernel) rfl ?_
  intro k g hr hR hcl hcg hcd hcb hcn hnx
  subst hcl; subst hcg; subst hcd; subst hcb
  show Sf k 0 0 h nx 0 [some (.ref gv), some (.int x), none] []
  have loop : ∀ e i, i + e = n → (∀ j, j < i → GA 10 j ≠ x) → Sf k 0 0 h nx 2 [some (.ref gv), some (.int x), some (.int (nI i))] [] := by
    intro e
    induction e with
    | zero =>
      intro i hi hno
      have hi2 : i = n := by omega
      subst hi2
      refine r_iload_n g dX0_begunSlot_2 rfl ?_
      refine r_aload_n g dX0_begunSlot_3 rfl ?_
      refine r_getf g fX0_56 hG.1 rfl dX0_begunSlot_4 ?_
      refine r_topi (y := (nI i)) hC ?_
      refine r_icmp_ge 28 g dX0_begunSlot_7 (by decide) (fun c7 => ?_) (fun c7 => absurd (nI_le (Nat.le_refl _) (by omega)) c7)
      refine r_iconst (v := (-1)) g dX0_begunSlot_28 (by decide) ?_
      exact r_iret g hr (Nat.le_refl _) (Nat.le_refl _) dX0_begunSlot_29 ⟨rfl, rfl, _, rfl, Or.inl ⟨rfl, hno⟩⟩
    | succ e ih =>
      intro i hi hno
      refine r_iload_n g dX0_begunSlot_2 rfl ?_
      refine r_aload_n g dX0_begunSlot_3 rfl ?_
      refine r_getf g fX0_56 hG.1 rfl dX0_begunSlot_4 ?_
      refine r_topi (y := (nI n)) hC ?_
      refine r_icmp_ge 28 g dX0_begunSlot_7 (by decide) (fun c7 => absurd c7 (nI_ge (by omega) (by omega))) (fun c7 => ?_)
      refine r_aload_n g dX0_begunSlot_10 rfl ?_
      refine r_getf g fX0_41 hG.1 rfl dX0_begunSlot_11 ?_
      refine r_iload_n g dX0_begunSlot_14 rfl ?_
      refine rg_iald 10 (j := i) g hG rfl rfl (show i < 6 by omega) dX0_begunSlot_15 ?_
      refine r_iload_n g dX0_begunSlot_16 rfl ?_
      refine r_icmp_ne 22 g dX0_begunSlot_17 (by decide) (fun c17 => ?_) (fun c17 => ?_)
      · skip
        refine r_iinc (v := (nI (i + 1))) g dX0_begunSlot_22 rfl (nI_add i 1) rfl rfl ?_
        refine r_goto 2 g dX0_begunSlot_25 (by decide) ?_
        refine ih (i + 1) (by omega) (fun j hj => ?_)
        by_cases e9 : j = i
        · subst e9; exact c17
        · exact hno j (by omega)
      · skip
        refine r_iload_n g dX0_begunSlot_20 rfl ?_
        exact r_iret g hr (Nat.le_refl _) (Nat.le_refl _) dX0_begunSlot_21 ⟨rfl, rfl, _, rfl, Or.inr ⟨i, by omega, c17, rfl⟩⟩
  refine r_iconst (v := 0) g dX0_begunSlot_0 (by decide) ?_
  refine r_istore_n g dX0_begunSlot_1 rfl rfl rfl ?_
  exact loop n 0 (Nat.zero_add _) (fun j hj => absurd hj (Nat.not_lt_zero _))
theorem bsl_val {s : AS} (hA : AI s) {GA : Nat → Nat → Int32} (hF : GF s GA) {c : Nat} (hc : c < s.1 2) {y : Int32} (h : (y = -1 ∧ ∀ i, i < gn s → GA 10 i ≠ nI c) ∨ ∃ i, i < gn s ∧ GA 10 i = nI c ∧ y = nI i) : y = beB (bsl s c) := by
  have hc4 : c < 4 := by have := hA.2.2.1; omega
  have hb : ∀ i, i < gn s → (GA 10 i = nI c ↔ s.2.2 (gk s i) 5 = c) := fun i hi => by
    rw [(hF i hi).2.2.2.2.2]
    exact beI_c (hA.2.2.2.2.2.1 _ (gk_at hi).1).2.2.2.2.2.1 hc4
  rcases h with ⟨rfl, h⟩ | ⟨i, hi, h, rfl⟩
  · rw [bsl_no hA (fun i hi z => h i hi ((hb i hi).mpr z))]; rfl
  · rw [bsl_of hA (by omega) hi ((hb i hi).mp h), beB_n (by have := gn_le hA; omega)]
set_option maxHeartbeats 4000000 in
set_option maxRecDepth 100000 in
theorem ok_g_inRow (l : Launch) (G : Nat → ClassId) (D : va_G) (base : Nat) {h : Hp} {nx : Nat} {gv : Nat} {C : Int32} {Lz : Int64} {GA : Nat → Nat → Int32} (hG : GO h gv C Lz GA) {c x : Nat} (hc : c < 4) (hx : x < 2 ^ 31) : MetP l G D base miX0_inRow 0 0 0 [.ref gv, .int (nI c), .int (nI x)] h nx (Kv (.int (if x < 6 then GA 11 (c * 6 + x) else -1)) h nx) := by
  refine MetP_of (by decide +kernel) rfl ?_
  intro k g hr hR hcl hcg hcd hcb hcn hnx
  subst hcl; subst hcg; subst hcd; subst hcb
  show Sf k 0 0 h nx 0 [some (.ref gv), some (.int (nI c)), some (.int (nI x))] []
  refine r_iload_n g dX0_inRow_0 rfl ?_
  refine r_if_lt 33 g dX0_inRow_1 (by decide) (fun c1 => absurd c1 (nI_pos (by omega))) (fun c1 => ?_)
  refine r_iload_n g dX0_inRow_4 rfl ?_
  refine r_iconst (v := 4) g dX0_inRow_5 (by decide) ?_
  refine r_icmp_ge 33 g dX0_inRow_6 (by decide) (fun c6 => absurd c6 (nI_ge (b := 4) (by omega) (by decide))) (fun c6 => ?_)
  refine r_iload_n g dX0_inRow_9 rfl ?_
  refine r_if_lt 33 g dX0_inRow_10 (by decide) (fun c10 => absurd c10 (nI_pos hx)) (fun c10 => ?_)
  refine r_iload_n g dX0_inRow_13 rfl ?_
  refine r_bipush (v := 6) g dX0_inRow_14 (by decide) ?_
  refine r_icmp_ge 33 g dX0_inRow_16 (by decide) (fun c16 => ?_) (fun c16 => ?_)
  · skip
    have q : ¬ x < 6 := fun z => absurd c16 (nI_ge (b := 6) z (by decide))
    refine r_iconst (v := (-1)) g dX0_inRow_33 (by decide) ?_
    exact r_iret g hr (Nat.le_refl _) (Nat.le_refl _) dX0_inRow_34 ⟨congrArg (fun z => some (Value.int z)) (if_neg q).symm, rfl, rfl⟩
  · skip
    have q : x < 6 := Nat.lt_of_not_le (fun z => c16 (nI_le (a := 6) z hx))
    refine r_aload_n g dX0_inRow_19 rfl ?_
    refine r_getf g fX0_44 hG.1 rfl dX0_inRow_20 ?_
    refine r_iload_n g dX0_inRow_23 rfl ?_
    refine r_bipush (v := 6) g dX0_inRow_24 (by decide) ?_
    refine r_imul g dX0_inRow_26 ?_
    refine r_topi (y := (nI (c * 6))) (pk_mul c 6) ?_
    refine r_iload_n g dX0_inRow_27 rfl ?_
    refine r_iadd g dX0_inRow_28 ?_
    refine r_topi (y := (nI ((c * 6) + x))) (nI_add (c * 6) x) ?_
    refine rg_iald 11 (j := (c * 6) + x) g hG rfl rfl (show c * 6 + x < 24 by omega) dX0_inRow_29 ?_
    refine r_goto 34 g dX0_inRow_30 (by decide) ?_
    exact r_iret g hr (Nat.le_refl _) (Nat.le_refl _) dX0_inRow_34 ⟨congrArg (fun z => some (Value.int z)) (if_pos q).symm, rfl, rfl⟩
set_option maxHeartbeats 4000000 in
set_option maxRecDepth 100000 in
theorem ok_g_slotsFor (l : Launch) (G : Nat → ClassId) (D : va_G) (base : Nat) {h : Hp} {nx : Nat} {gv : Nat} {C : Int32} {Lz : Int64} {GA : Nat → Nat → Int32} (s : AS) (hA : AI s) (hC : C = nI (gn s)) (hF : GF s GA) (hG : GO h gv C Lz GA) {c : Nat} (hc : c < 4) : MetP l G D base miX0_slotsFor 0 0 0 [.ref gv, .int (nI c)] h nx (Kv (.int (nI (abl s c))) h nx) := by
  refine MetP_of (by decide +kernel) rfl ?_
  intro k g hr hR hcl hcg hcd hcb hcn hnx
  subst hcl; subst hcg; subst hcd; subst hcb
  show Sf k 0 0 h nx 0 [some (.ref gv), some (.int (nI c)), none, none] []
  have hg6 := gn_le hA
  have h64 := g6_64 hg6
  have loop : ∀ e i, i + e = gn s → Sf k 0 0 h nx 4 [some (.ref gv), some (.int (nI c)), some (.int (nI (abS s c i))), some (.int (nI i))] [] := by
    intro e
    induction e with
    | zero =>
      intro i hi
      have hi2 : i = gn s := by omega
      subst hi2
      refine r_iload_n g dX0_slotsFor_4 rfl ?_
      refine r_aload_n g dX0_slotsFor_5 rfl ?_
      refine r_getf g fX0_56 hG.1 rfl dX0_slotsFor_6 ?_
      refine r_topi (y := (nI (gn s))) hC ?_
      refine r_icmp_ge 37 g dX0_slotsFor_9 (by decide) (fun c9 => ?_) (fun c9 => absurd (nI_le (Nat.le_refl _) (by omega)) c9)
      refine r_iload_n g dX0_slotsFor_37 rfl ?_
      exact r_iret g hr (Nat.le_refl _) (Nat.le_refl _) dX0_slotsFor_38 ⟨rfl, rfl, rfl⟩
    | succ e ih =>
      intro i hi
      have hcl := carsN_lt hA (gk s i)
      have hds : carsN s (gk s i) / 2 ^ c < 2 ^ 31 := Nat.lt_of_le_of_lt (Nat.div_le_self _ _) (by omega)
      refine r_iload_n g dX0_slotsFor_4 rfl ?_
      refine r_aload_n g dX0_slotsFor_5 rfl ?_
      refine r_getf g fX0_56 hG.1 rfl dX0_slotsFor_6 ?_
      refine r_topi (y := (nI (gn s))) hC ?_
      refine r_icmp_ge 37 g dX0_slotsFor_9 (by decide) (fun c9 => absurd c9 (nI_ge (by omega) (by omega))) (fun c9 => ?_)
      refine r_aload_n g dX0_slotsFor_12 rfl ?_
      refine r_getf g fX0_38 hG.1 rfl dX0_slotsFor_13 ?_
      refine r_iload_n g dX0_slotsFor_16 rfl ?_
      refine rg_iald 9 (j := i) g hG rfl rfl (show i < 6 by omega) dX0_slotsFor_17 ?_
      refine r_topi (y := (nI (carsN s (gk s i)))) (hF i (by omega)).2.2.2.2.1 ?_
      refine r_iload_n g dX0_slotsFor_18 rfl ?_
      refine r_ishr g dX0_slotsFor_19 ?_
      refine r_topi (y := (nI (carsN s (gk s i) / 2 ^ c))) (sh_n (by omega) (by omega)) ?_
      refine r_iconst (v := 1) g dX0_slotsFor_20 (by decide) ?_
      refine r_iand g dX0_slotsFor_21 ?_
      refine r_topi (y := (nI (carsN s (gk s i) / 2 ^ c % 2))) (and_1 hds) ?_
      refine r_if_eq 31 g dX0_slotsFor_22 (by decide) (fun c22 => ?_) (fun c22 => ?_)
      · skip
        have q := bt0 c22
        refine r_iinc (v := (nI (i + 1))) g dX0_slotsFor_31 rfl (nI_add i 1) rfl rfl ?_
        refine r_goto 4 g dX0_slotsFor_34 (by decide) ?_
        refine r_le (ls2 := [some (.ref gv), some (.int (nI c)), some (.int (nI (abS s c (i + 1)))), some (.int (nI (i + 1)))]) ⟨rfl, rfl, congrArg (fun z => Value.int (nI z)) (abS_0 q).symm, rfl, trivial⟩ ?_
        exact ih (i + 1) (by omega)
      · skip
        have q := bt1 c22
        refine r_iload_n g dX0_slotsFor_25 rfl ?_
        refine r_iconst (v := 1) g dX0_slotsFor_26 (by decide) ?_
        refine r_iload_n g dX0_slotsFor_27 rfl ?_
        refine r_ishl g dX0_slotsFor_28 ?_
        refine r_topi (y := (nI (2 ^ i))) (shl1 (by omega)) ?_
        refine r_ior g dX0_slotsFor_29 ?_
        refine r_topi (y := (nI (abS s c i + 2 ^ i))) (by rw [nI_or, or_pow (abS_lt s c i)]) ?_
        refine r_istore_n g dX0_slotsFor_30 rfl rfl rfl ?_
        refine r_iinc (v := (nI (i + 1))) g dX0_slotsFor_31 rfl (nI_add i 1) rfl rfl ?_
        refine r_goto 4 g dX0_slotsFor_34 (by decide) ?_
        refine r_le (ls2 := [some (.ref gv), some (.int (nI c)), some (.int (nI (abS s c (i + 1)))), some (.int (nI (i + 1)))]) ⟨rfl, rfl, congrArg (fun z => Value.int (nI z)) (abS_1 q).symm, rfl, trivial⟩ ?_
        exact ih (i + 1) (by omega)
  refine r_iconst (v := 0) g dX0_slotsFor_0 (by decide) ?_
  refine r_istore_n g dX0_slotsFor_1 rfl rfl rfl ?_
  refine r_iconst (v := 0) g dX0_slotsFor_2 (by decide) ?_
  refine r_istore_n g dX0_slotsFor_3 rfl rfl rfl ?_
  exact loop (gn s) 0 (Nat.zero_add _)
set_option maxHeartbeats 4000000 in
set_option maxRecDepth 100000 in
theorem ok_g_weighSets (l : Launch) (G : Nat → ClassId) (D : va_G) (base : Nat) {h0 : Hp} {nx : Nat} {gv : Nat} {C : Int32} {Lz : Int64} {GA : Nat → Nat → Int32} (s : AS) (hA : AI s) (hC : C = nI (gn s)) (hF : GF s GA) (h60 : GA 6 0 = 0) (hG : GO h0 gv C Lz GA) (hbg : base ≤ gv) : MetP l G D base miX0_weighSets 0 0 0 [.ref gv] h0 nx (KGs h0 nx gv (fun C2 Lz2 GA2 => C2 = C ∧ Lz2 = Lz ∧ (∀ kf, kf ≠ 6 → GA2 kf = GA kf) ∧ BU s GA2) none) := by
  refine MetP_of (by decide +kernel) rfl ?_
  intro k g hr hR hcl hcg hcd hcb hcn hnx
  subst hcl; subst hcg; subst hcd; subst hcb
  have hG := GS.rf hG
  show Sf k 0 0 h0 nx 0 [some (.ref gv), none, none] []
  have hg6 := gn_le hA
  have h64 := g6_64 hg6
  have hgl : glen 6 = 64 := rfl
  have loop : ∀ e S (GA1 : Nat → Nat → Int32) (h : Hp), GS h0 h gv C Lz GA1 → S + e = 64 → 0 < S → (∀ kf, kf ≠ 6 → GA1 kf = GA kf) → (∀ T, T < S → T < 2 ^ gn s → GA1 6 T = nI (burS s T 6)) → Sf k 0 0 h nx 2 [some (.ref gv), some (.int (nI S)), none] [] := by
    intro e
    induction e with
    | zero =>
      intro S GA1 h hG hS h0S hfr hB
      have hS2 : S = 64 := by omega
      subst hS2
      refine r_iload_n g dX0_weighSets_2 rfl ?_
      refine r_aload_n g dX0_weighSets_3 rfl ?_
      refine r_getf g fX0_32 hG.1.1 rfl dX0_weighSets_4 ?_
      refine r_alen g (hG.1.2 6 rfl) (by decide) dX0_weighSets_7 ?_
      refine r_icmp_ge 65 g dX0_weighSets_8 (by decide) (fun c8 => ?_) (fun c8 => absurd (nI_le (Nat.le_refl _) (by omega)) c8)
      exact r_vret g hr (Nat.le_refl _) (Nat.le_refl _) dX0_weighSets_65 ⟨rfl, rfl, C, Lz, GA1, hG, rfl, rfl, hfr, fun T hT => hB T (by omega) hT⟩
    | succ e ih =>
      intro S GA1 h hG hS h0S hfr hB
      have loop2 : ∀ e2 i (GA1 : Nat → Nat → Int32) (h : Hp), GS h0 h gv C Lz GA1 → i + e2 = gn s → (∀ kf, kf ≠ 6 → GA1 kf = GA kf) → (∀ T, T < S → T < 2 ^ gn s → GA1 6 T = nI (burS s T 6)) → GA1 6 S = nI (burS s S i) → Sf k 0 0 h nx 20 [some (.ref gv), some (.int (nI S)), some (.int (nI i))] [] := by
        intro e2
        induction e2 with
        | zero =>
          intro i GA1 h hG hi hfr hB hSi
          have hi2 : i = gn s := by omega
          subst hi2
          refine r_iload_n g dX0_weighSets_20 rfl ?_
          refine r_aload_n g dX0_weighSets_21 rfl ?_
          refine r_getf g fX0_56 hG.1.1 rfl dX0_weighSets_22 ?_
          refine r_topi (y := (nI (gn s))) hC ?_
          refine r_icmp_ge 59 g dX0_weighSets_25 (by decide) (fun c25 => ?_) (fun c25 => absurd (nI_le (Nat.le_refl _) (by omega)) c25)
          refine r_iinc (v := (nI (S + 1))) g dX0_weighSets_59 rfl (nI_add S 1) rfl rfl ?_
          refine r_goto 2 g dX0_weighSets_62 (by decide) ?_
          refine r_le (ls2 := [some (.ref gv), some (.int (nI (S + 1))), none]) ⟨rfl, rfl, trivial⟩ ?_
          refine ih (S + 1) GA1 _ hG (by omega) (by omega) hfr (fun T hT hT2 => ?_)
          by_cases e9 : T = S
          · subst e9
            obtain ⟨k9, hk9⟩ := Nat.le.dest hg6
            have h9 := burS_up (s := s) (S := T) (n := gn s) (by omega) k9
            rw [hk9] at h9
            rw [h9]; exact hSi
          · exact hB T (by omega) hT2
        | succ e2 ih2 =>
          intro i GA1 h hG hi hfr hB hSi
          have hSd : S / 2 ^ i < 2 ^ 31 := Nat.lt_of_le_of_lt (Nat.div_le_self _ _) (by omega)
          refine r_iload_n g dX0_weighSets_20 rfl ?_
          refine r_aload_n g dX0_weighSets_21 rfl ?_
          refine r_getf g fX0_56 hG.1.1 rfl dX0_weighSets_22 ?_
          refine r_topi (y := (nI (gn s))) hC ?_
          refine r_icmp_ge 59 g dX0_weighSets_25 (by decide) (fun c25 => absurd c25 (nI_ge (by omega) (by omega))) (fun c25 => ?_)
          refine r_iload_n g dX0_weighSets_28 rfl ?_
          refine r_iload_n g dX0_weighSets_29 rfl ?_
          refine r_ishr g dX0_weighSets_30 ?_
          refine r_topi (y := (nI (S / 2 ^ i))) (sh_n (by omega) (by omega)) ?_
          refine r_iconst (v := 1) g dX0_weighSets_31 (by decide) ?_
          refine r_iand g dX0_weighSets_32 ?_
          refine r_topi (y := (nI (S / 2 ^ i % 2))) (and_1 hSd) ?_
          refine r_if_eq 53 g dX0_weighSets_33 (by decide) (fun c33 => ?_) (fun c33 => ?_)
          · skip
            have q := bt0 c33
            refine r_iinc (v := (nI (i + 1))) g dX0_weighSets_53 rfl (nI_add i 1) rfl rfl ?_
            refine r_goto 20 g dX0_weighSets_56 (by decide) ?_
            refine ih2 (i + 1) GA1 _ hG (by omega) hfr hB ?_
            rw [burS_0 q]; exact hSi
          · skip
            have q := bt1 c33
            refine r_aload_n g dX0_weighSets_36 rfl ?_
            refine r_getf g fX0_32 hG.1.1 rfl dX0_weighSets_37 ?_
            refine r_iload_n g dX0_weighSets_40 rfl ?_
            refine r_dup2 g dX0_weighSets_41 rfl rfl ?_
            refine rg_iald 6 (j := S) g hG.1 rfl rfl (show S < 64 by omega) dX0_weighSets_42 ?_
            refine r_topi (y := (nI (burS s S i))) hSi ?_
            refine r_aload_n g dX0_weighSets_43 rfl ?_
            refine r_getf g fX0_18 hG.1.1 rfl dX0_weighSets_44 ?_
            refine r_iload_n g dX0_weighSets_47 rfl ?_
            refine rg_iald 2 (j := i) g hG.1 rfl rfl (show i < 6 by omega) dX0_weighSets_48 ?_
            refine r_topi (y := (nI (gw s i))) ((congrFun (hfr 2 (by decide)) _).trans (hF i (by omega)).2.2.1) ?_
            refine r_iconst (v := 1) g dX0_weighSets_49 (by decide) ?_
            refine r_iadd g dX0_weighSets_50 ?_
            refine r_topi (y := (nI ((gw s i) + 1))) (nI_add (gw s i) 1) ?_
            refine r_iadd g dX0_weighSets_51 ?_
            refine r_topi (y := (nI (burS s S (i + 1)))) (by rw [burS_1 q]; exact nI_add _ _) ?_
            refine rg_iast 6 (j := S) g hG hbg rfl rfl (show S < 64 by omega) dX0_weighSets_52 ?_
            intro h_1 hG
            refine r_iinc (v := (nI (i + 1))) g dX0_weighSets_53 rfl (nI_add i 1) rfl rfl ?_
            refine r_goto 20 g dX0_weighSets_56 (by decide) ?_
            refine ih2 (i + 1) _ _ hG (by omega) (fun kf hk => (upA_ne hk).trans (hfr kf hk)) (fun T hT hT2 => ?_) ?_
            · rw [upA_eq]; exact (pk_un (by omega)).trans (hB T hT hT2)
            · rw [upA_eq]; exact pk_us
      refine r_iload_n g dX0_weighSets_2 rfl ?_
      refine r_aload_n g dX0_weighSets_3 rfl ?_
      refine r_getf g fX0_32 hG.1.1 rfl dX0_weighSets_4 ?_
      refine r_alen g (hG.1.2 6 rfl) (by decide) dX0_weighSets_7 ?_
      refine r_icmp_ge 65 g dX0_weighSets_8 (by decide) (fun c8 => absurd c8 (nI_ge (by omega) (by omega))) (fun c8 => ?_)
      refine r_aload_n g dX0_weighSets_11 rfl ?_
      refine r_getf g fX0_32 hG.1.1 rfl dX0_weighSets_12 ?_
      refine r_iload_n g dX0_weighSets_15 rfl ?_
      refine r_iconst (v := 0) g dX0_weighSets_16 (by decide) ?_
      refine rg_iast 6 (j := S) g hG hbg rfl rfl (show S < 64 by omega) dX0_weighSets_17 ?_
      intro h_2 hG
      refine r_iconst (v := 0) g dX0_weighSets_18 (by decide) ?_
      refine r_istore_n g dX0_weighSets_19 rfl rfl rfl ?_
      refine loop2 (gn s) 0 _ _ hG (Nat.zero_add _) (fun kf hk => (upA_ne hk).trans (hfr kf hk)) (fun T hT hT2 => ?_) ?_
      · rw [upA_eq]; exact (pk_un (by omega)).trans (hB T hT hT2)
      · rw [upA_eq]; exact pk_us
  refine r_iconst (v := 1) g dX0_weighSets_0 (by decide) ?_
  refine r_istore_n g dX0_weighSets_1 rfl rfl rfl ?_
  refine r_le (ls2 := [some (.ref gv), some (.int (nI 1)), none]) ⟨rfl, rfl, trivial⟩ ?_
  refine loop 63 1 GA _ hG (by omega) (by decide) (fun _ _ => rfl) (fun T hT _ => ?_)
  have hT0 : T = 0 := by omega
  subst hT0
  rw [burS_00]; exact h60
