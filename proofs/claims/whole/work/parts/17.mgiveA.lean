theorem upd_upd (F : Nat → Int32) (i : Nat) (a b : Int32) : upd (upd F i a) i b = upd F i b := by
  funext q; unfold upd; by_cases h : q = i <;> simp [h]
def gLt (s : AS) (i : Nat) : List Nat := (List.range i).filter (gB s)
theorem gLt_len (s : AS) (i : Nat) : (gLt s i).length = cnt (gB s) i := filt_len _ _
theorem gLt_1 {s : AS} {i : Nat} (h : gB s i = true) : gLt s (i + 1) = gLt s i ++ [i] := by
  unfold gLt; rw [List.range_succ, List.filter_append]; simp [h]
theorem gLt_0 {s : AS} {i : Nat} (h : gB s i = false) : gLt s (i + 1) = gLt s i := by
  unfold gLt; rw [List.range_succ, List.filter_append]; simp [h]
theorem gB_t {s : AS} {k : Nat} (h : s.2.2 k 3 = 1) (h2 : ¬ carsN s k = 0) : gB s k = true := by unfold gB isOp; rw [decide_eq_true h, decide_eq_false h2]; rfl
theorem gB_f {s : AS} {k : Nat} (h : ¬ s.2.2 k 3 = 1 ∨ carsN s k = 0) : gB s k = false := by
  unfold gB isOp
  rcases h with h | h
  · rw [decide_eq_false h]; rfl
  · rw [decide_eq_true h]; simp
theorem cnt_m (p : Nat → Bool) {i n : Nat} (h : i ≤ n) : cnt p i ≤ cnt p n := by
  obtain ⟨d, rfl⟩ := Nat.le.dest h
  clear h
  induction d with
  | zero => exact Nat.le_refl _
  | succ d ih =>
    refine Nat.le_trans ih ?_
    show _ ≤ cnt p (i + d) + _
    omega
theorem cntB_lt {s : AS} (hA : AI s) {i : Nat} (hi : i < s.1 3) (h : gB s i = true) : cnt (gB s) i < 6 := by
  have h1 := cnt_m (gB s) (show i + 1 ≤ s.1 3 from hi)
  have h2 : cnt (gB s) (i + 1) = cnt (gB s) i + 1 := by show _ + _ = _; rw [if_pos h]
  have h3 := gn_le hA
  have h4 : gn s = cnt (gB s) (s.1 3) := filt_len _ _
  omega
theorem Rp_frame {A A1 : Nat → Nat → Int32} {B B1 : Nat → Int64} {t t2 : Nat} {a : Option (Nat × List Nat)} (h : Rp A B t2 a) (hF : FrR A B A1 B1 t) (hne : t2 ≠ t) (hl : ∀ b, a = some b → b.2.length ≤ 6) : Rp A1 B1 t2 a := by
  cases a with
  | none => exact (hF.2.2 t2 hne).trans h
  | some b =>
    have hl9 := hl b rfl
    exact ⟨(hF.2.2 t2 hne).trans h.1, h.2.1, fun i hi => (hF.2.1 _ (by omega)).trans (h.2.2 i hi)⟩
set_option maxHeartbeats 4000000 in
set_option maxRecDepth 100000 in
theorem give_C {k : Cx} {h0 : Hp} {nx m : Nat} {s : AS} (hA : AI s) (g : Gd k miX5_give.1.cls miX5_give.2.1) (hr : RetK k (some .long) 0 0 (KG h0 nx m s)) (hR : RmK k 5 0 0) (hbm : cBase k ≤ m) (hnx : cBase k ≤ nx) {F : Nat → Int32} (hF0 : F 0 = 0) {B : Nat → Int64} : ∀ (A : Nat → Nat → Int32) (h : Hp), MS h0 h m F A B → P1 F A s → (∀ c, c < s.1 2 → ∀ S, S < 2 ^ gn s → Rp A B (64 * c + S) (gbest s c S)) → (∀ j, j < 400 → A 18 j = -1) → Sf k 0 0 h nx 124 [some (.ref m), none, none, none, none, none, none, none, none, none] [] := by
  obtain ⟨⟨hn1, hn2⟩, ht, hnc, hN, -⟩ := id hA
  have hg6 := gn_le hA
  intro A h hM hP hB h18
  have loopC : ∀ e i, i + e = gn s → Sf k 0 0 h nx 128 [some (.ref m), some (.int (nI (4 ^ i))), some (.int (nI i)), none, none, none, none, none, none, none] [] := by
    intro e
    induction e with
    | zero =>
      intro i hi
      have hi2 : i = gn s := by omega
      subst hi2
      refine r_iload_n g dX5_give_128 rfl ?_
      refine r_aload_n g dX5_give_129 rfl ?_
      refine rm_get g hM fX5_130 rfl dX5_give_130 ?_
      refine r_topi (y := (nI (gn s))) hP.2.1 ?_
      refine r_icmp_ge 146 g dX5_give_133 (by decide) (fun c133 => ?_) (fun c133 => absurd (nI_le (Nat.le_refl _) (by omega)) c133)
      refine r_le (ls2 := [some (.ref m), some (.int (nI (4 ^ gn s))), none, none, none, none, none, none, none, none]) ⟨rfl, rfl, trivial⟩ ?_
      exact give_D hA g hr hR hbm hnx hF0 A h hM hP hB h18
    | succ e ih =>
      intro i hi
      refine r_iload_n g dX5_give_128 rfl ?_
      refine r_aload_n g dX5_give_129 rfl ?_
      refine rm_get g hM fX5_130 rfl dX5_give_130 ?_
      refine r_topi (y := (nI (gn s))) hP.2.1 ?_
      refine r_icmp_ge 146 g dX5_give_133 (by decide) (fun c133 => absurd c133 (nI_ge (by omega) (by omega))) (fun c133 => ?_)
      refine r_iload_n g dX5_give_136 rfl ?_
      refine r_iconst (v := 4) g dX5_give_137 (by decide) ?_
      refine r_imul g dX5_give_138 ?_
      refine r_topi (y := (nI ((4 ^ i) * 4))) (pk_mul (4 ^ i) 4) ?_
      refine r_istore_n g dX5_give_139 rfl rfl rfl ?_
      refine r_iinc (v := (nI (i + 1))) g dX5_give_140 rfl (nI_add i 1) rfl rfl ?_
      refine r_goto 128 g dX5_give_143 (by decide) ?_
      exact ih (i + 1) (by omega)
  refine r_iconst (v := 1) g dX5_give_124 (by decide) ?_
  refine r_istore_n g dX5_give_125 rfl rfl rfl ?_
  refine r_iconst (v := 0) g dX5_give_126 (by decide) ?_
  refine r_istore_n g dX5_give_127 rfl rfl rfl ?_
  exact loopC (gn s) 0 (Nat.zero_add _)
set_option maxHeartbeats 4000000 in
set_option maxRecDepth 100000 in
theorem give_B {k : Cx} {h0 : Hp} {nx m : Nat} {s : AS} (hA : AI s) (g : Gd k miX5_give.1.cls miX5_give.2.1) (hr : RetK k (some .long) 0 0 (KG h0 nx m s)) (hR : RmK k 5 0 0) (hbm : cBase k ≤ m) (hnx : cBase k ≤ nx) {F : Nat → Int32} (hF0 : F 0 = 0) : ∀ (A0 : Nat → Nat → Int32) (B0 : Nat → Int64) (h : Hp), MS h0 h m F A0 B0 → P1 F A0 s → (∀ j, j < 400 → A0 18 j = -1) → Sf k 0 0 h nx 84 [some (.ref m), none, none, none, none, none, none, none, none, none] [] := by
  obtain ⟨⟨hn1, hn2⟩, ht, hnc, hN, -⟩ := id hA
  have hg6 := gn_le hA
  intro A0 B0 h hM hP h18
  have h2g : 2 ^ gn s ≤ 64 := Nat.pow_le_pow_right (n := 2) (by decide) hg6
  have loopB : ∀ e c (A : Nat → Nat → Int32) (B : Nat → Int64) (h : Hp), MS h0 h m F A B → c + e = s.1 2 → (∀ kf, kf ≠ 28 → kf ≠ 29 → A kf = A0 kf) → P1 F A s → (∀ c9, c9 < c → ∀ S9, S9 < 2 ^ gn s → Rp A B (64 * c9 + S9) (gbest s c9 S9)) → Sf k 0 0 h nx 86 [some (.ref m), some (.int (nI c)), none, none, none, none, none, none, none, none] [] := by
    intro e
    induction e with
    | zero =>
      intro c A B h hM hc hfr hP hB
      have hc2 : c = s.1 2 := by omega
      subst hc2
      refine r_iload_n g dX5_give_86 rfl ?_
      refine r_aload_n g dX5_give_87 rfl ?_
      refine rm_get g hM fX5_95 rfl dX5_give_88 ?_
      refine r_topi (y := (nI (s.1 2))) hP.1.2.2.1 ?_
      refine r_icmp_ge 124 g dX5_give_91 (by decide) (fun c91 => ?_) (fun c91 => absurd (nI_le (Nat.le_refl _) (by omega)) c91)
      refine r_le (ls2 := [some (.ref m), none, none, none, none, none, none, none, none, none]) ⟨rfl, trivial⟩ ?_
      exact give_C hA g hr hR hbm hnx hF0 A h hM hP hB (fun j hj => by rw [hfr 18 (by decide) (by decide)]; exact h18 j hj)
    | succ e ih =>
      intro c A B h hM hc hfr hP hB
      have loopS : ∀ e2 S (A : Nat → Nat → Int32) (B : Nat → Int64) (h : Hp), MS h0 h m F A B → S + e2 = 2 ^ gn s → (∀ kf, kf ≠ 28 → kf ≠ 29 → A kf = A0 kf) → P1 F A s → (∀ c9, c9 < s.1 2 → ∀ S9, S9 < 2 ^ gn s → (c9 < c ∨ c9 = c ∧ S9 < S) → Rp A B (64 * c9 + S9) (gbest s c9 S9)) → Sf k 0 0 h nx 96 [some (.ref m), some (.int (nI c)), some (.int (nI S)), none, none, none, none, none, none, none] [] := by
        intro e2
        induction e2 with
        | zero =>
          intro S A B h hM hS hfr hP hB
          have hS2 : S = 2 ^ gn s := by omega
          subst hS2
          refine r_iload_n g dX5_give_96 rfl ?_
          refine r_iconst (v := 1) g dX5_give_97 (by decide) ?_
          refine r_aload_n g dX5_give_98 rfl ?_
          refine rm_get g hM fX5_130 rfl dX5_give_99 ?_
          refine r_topi (y := (nI (gn s))) hP.2.1 ?_
          refine r_ishl g dX5_give_102 ?_
          refine r_topi (y := (nI (2 ^ gn s))) (shl1 (by omega)) ?_
          refine r_icmp_ge 118 g dX5_give_103 (by decide) (fun c103 => ?_) (fun c103 => absurd (nI_le (Nat.le_refl _) (by omega)) c103)
          refine r_iinc (v := (nI (c + 1))) g dX5_give_118 rfl (nI_add c 1) rfl rfl ?_
          refine r_goto 86 g dX5_give_121 (by decide) ?_
          refine r_le (ls2 := [some (.ref m), some (.int (nI (c + 1))), none, none, none, none, none, none, none, none]) ⟨rfl, rfl, trivial⟩ ?_
          exact ih (c + 1) A B h hM (by omega) hfr hP (fun c9 h9 S9 hS9 => hB c9 (by omega) S9 hS9 (by omega))
        | succ e2 ih2 =>
          intro S A B h hM hS hfr hP hB
          have hSg : S < 2 ^ gn s := by omega
          refine r_iload_n g dX5_give_96 rfl ?_
          refine r_iconst (v := 1) g dX5_give_97 (by decide) ?_
          refine r_aload_n g dX5_give_98 rfl ?_
          refine rm_get g hM fX5_130 rfl dX5_give_99 ?_
          refine r_topi (y := (nI (gn s))) hP.2.1 ?_
          refine r_ishl g dX5_give_102 ?_
          refine r_topi (y := (nI (2 ^ gn s))) (shl1 (by omega)) ?_
          refine r_icmp_ge 118 g dX5_give_103 (by decide) (fun c103 => absurd c103 (nI_ge (by omega) (by omega))) (fun c103 => ?_)
          refine r_aload_n g dX5_give_106 rfl ?_
          refine r_iload_n g dX5_give_107 rfl ?_
          refine r_iload_n g dX5_give_108 rfl ?_
          refine r_callV g kX5_145 (ok_m_findRows _ _ _ _ s hA hP (c := c) (S := S) (by omega) hSg hM.1 hbm) hM.1.1 rfl rfl rfl hnx hR (by decide) (Nat.zero_le _) (Nat.zero_le _) rfl rfl dX5_give_109 ?_
          rintro v9 h_1 nx9 ⟨rfl, rfl, A9, B9, hM9, hF9, hR9⟩ -
          have hM := hM.then hM9
          refine r_iinc (v := (nI (S + 1))) g dX5_give_112 rfl (nI_add S 1) rfl rfl ?_
          refine r_goto 96 g dX5_give_115 (by decide) ?_
          refine ih2 (S + 1) A9 B9 _ hM (by omega) (fun kf h1 h2 => (hF9.1 kf h1 h2).trans (hfr kf h1 h2)) (hP.congr (fun kf hk => hF9.1 kf (by omega) (by omega))) (fun c9 hc9 S9 hS9 hx => ?_)
          by_cases e9 : c9 = c ∧ S9 = S
          · obtain ⟨rfl, rfl⟩ := e9; exact hR9
          · refine Rp_frame (hB c9 hc9 S9 hS9 (by omega)) hF9 (by omega) (fun b hb => ?_)
            have hg := gbest_at hA hc9 hS9
            rw [hg.1] at hb
            cases hb
            rw [(grow_at hA hc9 hS9).2.1]
            exact Nat.le_trans (elems_len _ _) hg6
      refine r_iload_n g dX5_give_86 rfl ?_
      refine r_aload_n g dX5_give_87 rfl ?_
      refine rm_get g hM fX5_95 rfl dX5_give_88 ?_
      refine r_topi (y := (nI (s.1 2))) hP.1.2.2.1 ?_
      refine r_icmp_ge 124 g dX5_give_91 (by decide) (fun c91 => absurd c91 (nI_ge (by omega) (by omega))) (fun c91 => ?_)
      refine r_iconst (v := 0) g dX5_give_94 (by decide) ?_
      refine r_istore_n g dX5_give_95 rfl rfl rfl ?_
      exact loopS (2 ^ gn s) 0 A B h hM (Nat.zero_add _) hfr hP (fun c9 hc9 S9 hS9 hx => hB c9 (by omega) S9 hS9)
  refine r_iconst (v := 0) g dX5_give_84 (by decide) ?_
  refine r_istore_n g dX5_give_85 rfl rfl rfl ?_
  exact loopB (s.1 2) 0 A0 B0 h hM (Nat.zero_add _) (fun _ _ _ => rfl) hP (fun c9 h9 => absurd h9 (Nat.not_lt_zero _))
set_option maxHeartbeats 4000000 in
set_option maxRecDepth 100000 in
theorem ok_m_give (l : Launch) (G : Nat → ClassId) (D : va_G) (base : Nat) {h0 : Hp} {nx m : Nat} {F : Nat → Int32} {A : Nat → Nat → Int32} {B : Nat → Int64} (s : AS) (hA : AI s) (hI : MI F A s) (h18 : ∀ j, s.1 3 ≤ j → j < 400 → A 18 j = -1) (hM : MO h0 m F A B) (hbm : base ≤ m) : MetP l G D base miX5_give 5 0 0 [.ref m] h0 nx (KG h0 nx m s) := by
  refine MetP_of (by decide +kernel) rfl ?_
  intro k g hr hR hcl hcg hcd hcb hcn hnx
  subst hcl; subst hcg; subst hcd; subst hcb
  have hM := MS.rf hM
  obtain ⟨h, hh⟩ : ∃ z, z = h0 := ⟨_, rfl⟩
  rw [← hh]
  have hM : MS h0 h m F A B := by rw [hh]; exact hM
  obtain ⟨⟨hn1, hn2⟩, ht, hnc, hN, -⟩ := id hA
  have hg6 := gn_le hA
  show Sf k 0 0 h nx 0 [some (.ref m), none, none, none, none, none, none, none, none, none] []
  have loopA : ∀ e i (A1 : Nat → Nat → Int32) (h : Hp), MS h0 h m (upd (upd F 0 0) 24 (nI (cnt (gB s) i))) A1 B → i + e = s.1 3 → (∀ kf, kf ≠ 18 → kf ≠ 25 → kf ≠ 26 → A1 kf = A kf) → (∀ j, j < i → A1 18 j = -1) → (∀ j, i ≤ j → A1 18 j = A 18 j) → (∀ q, q < (gLt s i).length → A1 25 q = nI ((gLt s i).getD q 0) ∧ A1 26 q = nI (carsN s ((gLt s i).getD q 0))) → Sf k 0 0 h nx 12 [some (.ref m), some (.int (nI i)), none, none, none, none, none, none, none, none] [] := by
    intro e
    induction e with
    | zero =>
      intro i A1 h hM hi hfr h1 h2 h3
      have hi2 : i = s.1 3 := by omega
      subst hi2
      refine r_iload_n g dX5_give_12 rfl ?_
      refine r_aload_n g dX5_give_13 rfl ?_
      refine rm_get g hM fX5_98 rfl dX5_give_14 ?_
      refine r_topi (y := (nI (s.1 3))) hI.2.2.2.1 ?_
      refine r_icmp_ge 84 g dX5_give_17 (by decide) (fun c17 => ?_) (fun c17 => absurd (nI_le (Nat.le_refl _) (by omega)) c17)
      refine r_le (ls2 := [some (.ref m), none, none, none, none, none, none, none, none, none]) ⟨rfl, trivial⟩ ?_
      refine give_B hA g hr hR hbm hnx (F := upd (upd F 0 0) 24 (nI (cnt (gB s) (s.1 3)))) rfl A1 B h hM ⟨hI.congr (fun kf hk => hfr kf (by omega) (by omega) (by omega)), congrArg nI (filt_len _ _).symm, fun i hi => h3 i hi⟩ (fun j hj => ?_)
      by_cases e : j < s.1 3
      · exact h1 j e
      · exact (h2 j (by omega)).trans (h18 j (by omega) hj)
    | succ e ih =>
      intro i A1 h hM hi hfr h1 h2 h3
      have hkk := hA.2.2.2.2.2.1 i (by omega)
      have hcl := carsN_lt hA i
      have hll := gLt_len s i
      have hI1 : MI (upd (upd F 0 0) 24 (nI (cnt (gB s) i))) A1 s := hI.congr (fun kf hk => hfr kf (by omega) (by omega) (by omega))
      refine r_iload_n g dX5_give_12 rfl ?_
      refine r_aload_n g dX5_give_13 rfl ?_
      refine rm_get g hM fX5_98 rfl dX5_give_14 ?_
      refine r_topi (y := (nI (s.1 3))) hI.2.2.2.1 ?_
      refine r_icmp_ge 84 g dX5_give_17 (by decide) (fun c17 => absurd c17 (nI_ge (by omega) (by omega))) (fun c17 => ?_)
      refine r_aload_n g dX5_give_20 rfl ?_
      refine rm_get g hM fX5_47 rfl dX5_give_21 ?_
      refine r_iload_n g dX5_give_24 rfl ?_
      refine r_iconst (v := (-1)) g dX5_give_25 (by decide) ?_
      refine rm_iast 18 (j := i) g hM hbm rfl (by decide) rfl rfl (show i < 400 by omega) dX5_give_26 ?_
      intro h_1 hM
      refine r_aload_n g dX5_give_27 rfl ?_
      refine rm_get g hM fX5_38 rfl dX5_give_28 ?_
      refine r_iload_n g dX5_give_31 rfl ?_
      refine rm_zald 14 (j := i) g hM rfl rfl rfl (show i < 400 by omega) dX5_give_32 ?_
      refine r_topi (y := (nI (s.2.2 i 3))) (hI1.2.2.2.2.2.2.1 i (by omega)).2.2.2.1 ?_
      refine r_if_eq 78 g dX5_give_33 (by decide) (fun c33 => ?_) (fun c33 => ?_)
      · skip
        have q : gB s i = false := gB_f (Or.inl (by have := eq0 (by omega) c33; omega))
        refine r_iinc (v := (nI (i + 1))) g dX5_give_78 rfl (nI_add i 1) rfl rfl ?_
        refine r_goto 12 g dX5_give_81 (by decide) ?_
        have e1 : cnt (gB s) (i + 1) = cnt (gB s) i := by show _ + _ = _; rw [if_neg (by rw [q]; decide)]; rfl
        rw [← e1] at hM
        refine ih (i + 1) _ _ hM (by omega) (fun kf k1 k2 k3 => (upA_ne k1).trans (hfr kf k1 k2 k3)) (fun j hj => ?_) (fun j hj => (pk_un (by omega)).trans (h2 j (by omega))) (by rw [gLt_0 q]; exact h3)
        by_cases e9 : j = i
        · subst e9; exact pk_us
        · exact (pk_un e9).trans (h1 j (by omega))
      · skip
        have q1 := nz1 (by omega) c33
        refine r_aload_n g dX5_give_36 rfl ?_
        refine r_iload_n g dX5_give_37 rfl ?_
        refine r_pV g kX5_142 (ok_m_carsOf _ _ _ _ s hA (hI1.congr (fun kf hk => by rw [upA_ne (by omega)])) hM.1 (j := i) (by omega)) hM.1.1 rfl rfl rfl hnx hR (by decide) (Nat.zero_le _) (Nat.zero_le _) rfl rfl dX5_give_38 ?_
        refine r_if_eq 78 g dX5_give_41 (by decide) (fun c41 => ?_) (fun c41 => ?_)
        · skip
          have q : gB s i = false := gB_f (Or.inr (eq0 (by omega) c41))
          refine r_iinc (v := (nI (i + 1))) g dX5_give_78 rfl (nI_add i 1) rfl rfl ?_
          refine r_goto 12 g dX5_give_81 (by decide) ?_
          have e1 : cnt (gB s) (i + 1) = cnt (gB s) i := by show _ + _ = _; rw [if_neg (by rw [q]; decide)]; rfl
          rw [← e1] at hM
          refine ih (i + 1) _ _ hM (by omega) (fun kf k1 k2 k3 => (upA_ne k1).trans (hfr kf k1 k2 k3)) (fun j hj => ?_) (fun j hj => (pk_un (by omega)).trans (h2 j (by omega))) (by rw [gLt_0 q]; exact h3)
          by_cases e9 : j = i
          · subst e9; exact pk_us
          · exact (pk_un e9).trans (h1 j (by omega))
        · skip
          have q : gB s i = true := gB_t q1 (fun z => c41 (by rw [z]; rfl))
          have hc6 := cntB_lt hA (by omega) q
          refine r_aload_n g dX5_give_44 rfl ?_
          refine rm_get g hM fX5_65 rfl dX5_give_45 ?_
          refine r_aload_n g dX5_give_48 rfl ?_
          refine rm_get g hM fX5_130 rfl dX5_give_49 ?_
          refine r_topi (y := (nI (cnt (gB s) i))) rfl ?_
          refine r_iload_n g dX5_give_52 rfl ?_
          refine rm_iast 25 (j := cnt (gB s) i) g hM hbm rfl (by decide) rfl rfl (show cnt (gB s) i < 6 by omega) dX5_give_53 ?_
          intro h_2 hM
          refine r_aload_n g dX5_give_54 rfl ?_
          refine rm_get g hM fX5_68 rfl dX5_give_55 ?_
          refine r_aload_n g dX5_give_58 rfl ?_
          refine rm_get g hM fX5_130 rfl dX5_give_59 ?_
          refine r_topi (y := (nI (cnt (gB s) i))) rfl ?_
          refine r_aload_n g dX5_give_62 rfl ?_
          refine r_iload_n g dX5_give_63 rfl ?_
          refine r_pV g kX5_142 (ok_m_carsOf _ _ _ _ s hA (hI1.congr (fun kf hk => by rw [upA_ne (by omega), upA_ne (by omega)])) hM.1 (j := i) (by omega)) hM.1.1 rfl rfl rfl hnx hR (by decide) (Nat.zero_le _) (Nat.zero_le _) rfl rfl dX5_give_64 ?_
          refine rm_iast 26 (j := cnt (gB s) i) g hM hbm rfl (by decide) rfl rfl (show cnt (gB s) i < 6 by omega) dX5_give_67 ?_
          intro h_3 hM
          refine r_aload_n g dX5_give_68 rfl ?_
          refine r_dup g dX5_give_69 rfl ?_
          refine rm_get g hM fX5_130 rfl dX5_give_70 ?_
          refine r_topi (y := (nI (cnt (gB s) i))) rfl ?_
          refine r_iconst (v := 1) g dX5_give_73 (by decide) ?_
          refine r_iadd g dX5_give_74 ?_
          refine r_topi (y := (nI ((cnt (gB s) i) + 1))) (nI_add (cnt (gB s) i) 1) ?_
          refine rm_put (F' := upd (upd (upd F 0 0) 24 (nI (cnt (gB s) i))) 24 (nI ((cnt (gB s) i) + 1))) g hM hbm fX5_130 (by decide) rfl dX5_give_75 ?_
          intro h_5 hM
          refine r_iinc (v := (nI (i + 1))) g dX5_give_78 rfl (nI_add i 1) rfl rfl ?_
          refine r_goto 12 g dX5_give_81 (by decide) ?_
          rw [upd_upd] at hM
          have e1 : cnt (gB s) (i + 1) = cnt (gB s) i + 1 := by show _ + _ = _; rw [if_pos q]
          rw [← e1] at hM
          refine ih (i + 1) _ _ hM (by omega) (fun kf k1 k2 k3 => by rw [upA_ne k3, upA_ne k2, upA_ne k1]; exact hfr kf k1 k2 k3) (fun j hj => ?_) (fun j hj => (pk_un (by omega)).trans (h2 j (by omega))) (fun q9 hq9 => ?_)
          · by_cases e9 : j = i
            · subst e9; exact pk_us
            · exact (pk_un e9).trans (h1 j (by omega))
          · rw [gLt_1 q, List.length_append] at hq9
            have hq8 : q9 < (gLt s i).length + 1 := hq9
            rw [gLt_1 q, getD_app]
            by_cases e9 : q9 = (gLt s i).length
            · rw [if_neg (by omega), if_pos e9, e9, hll]; exact ⟨pk_us, pk_us⟩
            · rw [if_pos (by omega)]; exact ⟨(pk_un (by omega)).trans (h3 q9 (by omega)).1, (pk_un (by omega)).trans (h3 q9 (by omega)).2⟩
  refine r_aload_n g dX5_give_0 rfl ?_
  refine r_iconst (v := 0) g dX5_give_1 (by decide) ?_
  refine rm_put (F' := upd F 0 0) g hM hbm fX5_88 (by decide) rfl dX5_give_2 ?_
  intro h_7 hM
  refine r_aload_n g dX5_give_5 rfl ?_
  refine r_iconst (v := 0) g dX5_give_6 (by decide) ?_
  refine rm_put (F' := upd (upd F 0 0) 24 0) g hM hbm fX5_130 (by decide) rfl dX5_give_7 ?_
  intro h_9 hM
  refine r_iconst (v := 0) g dX5_give_10 (by decide) ?_
  refine r_istore_n g dX5_give_11 rfl rfl rfl ?_
  exact loopA (s.1 3) 0 A _ hM (Nat.zero_add _) (fun _ _ _ _ => rfl) (fun j hj => absurd hj (Nat.not_lt_zero _)) (fun _ _ => rfl) (fun q hq => absurd hq (Nat.not_lt_zero _))
